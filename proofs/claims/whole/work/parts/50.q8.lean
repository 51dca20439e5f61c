/-! ===== queries: other terms, other homes, a round ===== -/
section Q8
variable {σ τ : ST} {R : RT} {ν : NU}
theorem sI_sml {g : Nat → Int32} {B : Nat} : ∀ {n : Nat}, (∀ k, k < n → ∃ a, a ≤ B ∧ g k = nI a) → ∃ a, a ≤ n * B ∧ sI g n = nI a
  | 0, _ => ⟨0, Nat.zero_le _, rfl⟩
  | n + 1, h => by
    obtain ⟨a, ha, ea⟩ := sI_sml (n := n) (fun k hk => h k (by omega))
    obtain ⟨b, hb, eb⟩ := h n (by omega)
    refine ⟨a + b, ?_, by rw [sI_succ, ea, eb, nI_add]⟩
    rw [Nat.succ_mul]
    omega
theorem nn_of {x : Int32} {B : Nat} (h : ∃ a, a ≤ B ∧ x = nI a) (hB : B < 2147483648) : 0 ≤ x.toInt := by
  obtain ⟨a, ha, rfl⟩ := h
  rw [nI_toInt (by omega)]
  omega
theorem sh_le (ho : RO R) (s m k : Nat) : shP R s m k ≤ m + 1 := by
  have h1 := fm_le (s := s) (m := m) ho
  have h2 := Nat.div_le_self (fmP R s m) (fsP R s)
  have h3 := Nat.div_le_self (m - fmP R s m) (hdP R s - fsP R s)
  unfold shP
  split <;> split <;> omega
theorem part_sml (ho : RO R) {s m : Nat} (hs : s < R 0 2) (c : Nat → Prop) [DecidablePred c] : ∃ a, a ≤ 13 * (m + 1) ∧ sI (fun k => if c k then nI (shP R s m k) else nI 0) (hdP R s) = nI a := by
  have h13 := hd_le ho hs
  obtain ⟨a, ha, ea⟩ := sI_sml (g := fun k => if c k then nI (shP R s m k) else nI 0) (B := m + 1) (n := hdP R s) (fun k hk => by
    by_cases e : c k
    · exact ⟨_, sh_le ho s m k, if_pos e⟩
    · exact ⟨0, Nat.zero_le _, if_neg e⟩)
  exact ⟨a, Nat.le_trans ha (Nat.mul_le_mul_right _ h13.1), ea⟩
theorem two_sml (ho : RO R) {g : Nat → Nat → Int32} (h : ∀ l s, l < R 0 0 → s < R 0 2 → ∃ a, a ≤ 13 * (999000 + 1) ∧ g l s = nI a) : 0 ≤ (sI (fun l => sI (fun s => g l s) (R 0 2)) (R 0 0)).toInt := by
  have o1 := ho.L
  have o3 := ho.S
  refine nn_of (B := 6 * (8 * (13 * (999000 + 1)))) ?_ (by decide)
  obtain ⟨a, ha, ea⟩ := sI_sml (g := fun l => sI (fun s => g l s) (R 0 2)) (B := 8 * (13 * (999000 + 1))) (n := R 0 0) (fun l hl => by
    obtain ⟨b, hb, eb⟩ := sI_sml (g := fun s => g l s) (B := 13 * (999000 + 1)) (n := R 0 2) (fun s hs => h l s hl hs)
    exact ⟨b, Nat.le_trans hb (Nat.mul_le_mul_right _ o3), eb⟩)
  exact ⟨a, Nat.le_trans ha (Nat.mul_le_mul_right _ o1), ea⟩
theorem sml_up {x : Int32} {m : Nat} (hm : m ≤ 999000) (h : ∃ a, a ≤ 13 * (m + 1) ∧ x = nI a) : ∃ a, a ≤ 13 * (999000 + 1) ∧ x = nI a := by
  obtain ⟨a, ha, e⟩ := h
  exact ⟨a, by omega, e⟩
theorem rt_le (ho : RO R) {l : Nat} (hl : l < R 0 0) : 1000 * R 1 l ≤ 999000 := by
  have := ho.rt hl
  omega
theorem toP_nn (ho : RO R) (h : Nat) : 0 ≤ (toP R ν h).toInt := two_sml ho (fun l s hl hs => sml_up (rt_le ho hl) (part_sml ho hs _))
theorem rndP_nn (ho : RO R) (p : Nat) : 0 ≤ (rndP R ν p).toInt := two_sml ho (fun l s hl hs => sml_up (rt_le ho hl) (part_sml ho hs _))
theorem oneP_nn (ho : RO R) {l s m p : Nat} (hs : s < R 0 2) (hm : m ≤ 99899001) : 0 ≤ (oneP R ν l s m p).toInt := nn_of (part_sml ho hs _) (by omega)
theorem le_m1 {v : Int32} (h : 0 ≤ v.toInt) : (v ≤ -nI 1) = False := by
  apply eq_false
  rw [fa_le, show (-nI 1).toInt = -1 by decide]
  omega
theorem m1_lt {v : Int32} (h : 0 ≤ v.toInt) : (-nI 1 < v) = True := by
  apply eq_true
  rw [fa_lt, show (-nI 1).toInt = -1 by decide]
  omega
/-- the class's other world, with other terms of a land -/
theorem were13 {l : Nat} (x y : Int32) (h : IV σ R) (hl : l < 6) : ∃ t1 t2, Wo_copyFrom σ 13 0 = some t1 ∧ Wo_setTerms t1 13 (nI l) x y = some t2 ∧ FrK (wok 13) σ t2 ∧ WR t2 13 R (upd (upd (σ.1 34 0) (2660 + l) x) (2666 + l) y) := by
  obtain ⟨t1, e1, c1, w1, f1⟩ := were_terms h hl
  exact ⟨t1, _, e1, Wo_setTerms_eq hl, f1.tr (terms13 x y), w1.terms h.ro hl⟩
theorem FrK.cw (f : FrK (wok 13) σ τ) : Core σ τ := f.b13.c13
theorem q_gain (h : IV σ R) (x y z w u v : Int32) : QP (Rp_gain σ x y z w u v) (fun τ => Mo_gain τ x y z w u v) σ := by
  obtain ⟨h1, hc, en⟩ := thr h (nI 0)
  have o1 := h.ro.L
  have o2 := h.ro.P
  have o3 := h.ro.S
  unfold Rp_gain Mo_gain
  rcases at_or (x := x) (n := R 0 1) (by omega) with ⟨p, hp, rfl⟩ | hx
  rotate_left
  · refine QPf (v := -nI 1000000000) ?_ ?_ <;> simp (disch := omega) only [bd_some, lt_eq, fa_lit, neq_t, neq_f, if_true, if_false, ite_true, ite_false, Rp_isLand_t h, Mo_isLand_t h1.mr h1.ro, Rp_isPlayer_t h, Mo_isPlayer_t h1.mr h1.ro, Rp_isSession_t h, Mo_isSession_t h1.mr h1.ro, Rp_isSeat_t h, Mo_isSeat_t h1.mr h1.ro, Rp_isChoice_t, Mo_isRole_t, h.q0, h.cr.L, h.cr.P, h.cr.S, h.cr.kp, h.cr.ld, h1.mr.L, h1.mr.P, h1.mr.S, h1.mr.kp, h1.mr.ld, en, Rp_isPlay, Rp_isPlayer_f h hx, Mo_isPlayer_f h1.mr hx]
  rcases at_or (x := y) (n := R 0 0) (by omega) with ⟨l, hl, rfl⟩ | hx
  rotate_left
  · refine QPf (v := -nI 1000000000) ?_ ?_ <;> simp (disch := omega) only [bd_some, lt_eq, fa_lit, neq_t, neq_f, if_true, if_false, ite_true, ite_false, Rp_isLand_t h, Mo_isLand_t h1.mr h1.ro, Rp_isPlayer_t h, Mo_isPlayer_t h1.mr h1.ro, Rp_isSession_t h, Mo_isSession_t h1.mr h1.ro, Rp_isSeat_t h, Mo_isSeat_t h1.mr h1.ro, Rp_isChoice_t, Mo_isRole_t, h.q0, h.cr.L, h.cr.P, h.cr.S, h.cr.kp, h.cr.ld, h1.mr.L, h1.mr.P, h1.mr.S, h1.mr.kp, h1.mr.ld, en, Rp_isPlay, Rp_isLand_f h hx, Mo_isLand_f h1.mr hx]
  rcases at_or (x := z) (n := R 0 2) (by omega) with ⟨s, hs, rfl⟩ | hx
  rotate_left
  · refine QPf (v := -nI 1000000000) ?_ ?_ <;> simp (disch := omega) only [bd_some, lt_eq, fa_lit, neq_t, neq_f, if_true, if_false, ite_true, ite_false, Rp_isLand_t h, Mo_isLand_t h1.mr h1.ro, Rp_isPlayer_t h, Mo_isPlayer_t h1.mr h1.ro, Rp_isSession_t h, Mo_isSession_t h1.mr h1.ro, Rp_isSeat_t h, Mo_isSeat_t h1.mr h1.ro, Rp_isChoice_t, Mo_isRole_t, h.q0, h.cr.L, h.cr.P, h.cr.S, h.cr.kp, h.cr.ld, h1.mr.L, h1.mr.P, h1.mr.S, h1.mr.kp, h1.mr.ld, en, Rp_isPlay, Rp_isSession_f h hx, Mo_isSession_f h1.mr hx]
  rcases cp_or w with ⟨n, hn, hn2, rfl⟩ | hx
  rotate_left
  · refine QPf (v := -nI 1000000000) ?_ ?_ <;> simp (disch := omega) only [bd_some, lt_eq, fa_lit, neq_t, neq_f, if_true, if_false, ite_true, ite_false, Rp_isLand_t h, Mo_isLand_t h1.mr h1.ro, Rp_isPlayer_t h, Mo_isPlayer_t h1.mr h1.ro, Rp_isSession_t h, Mo_isSession_t h1.mr h1.ro, Rp_isSeat_t h, Mo_isSeat_t h1.mr h1.ro, Rp_isChoice_t, Mo_isRole_t, h.q0, h.cr.L, h.cr.P, h.cr.S, h.cr.kp, h.cr.ld, h1.mr.L, h1.mr.P, h1.mr.S, h1.mr.kp, h1.mr.ld, en, Rp_isPlay, hx]
  rcases tm_or u v with ⟨a, b, ha, hb, hb2, rfl, rfl⟩ | hx
  rotate_left
  · refine QPf (v := -nI 1000000000) ?_ ?_ <;> simp (disch := omega) only [bd_some, lt_eq, fa_lit, neq_t, neq_f, if_true, if_false, ite_true, ite_false, Rp_isLand_t h, Mo_isLand_t h1.mr h1.ro, Rp_isPlayer_t h, Mo_isPlayer_t h1.mr h1.ro, Rp_isSession_t h, Mo_isSession_t h1.mr h1.ro, Rp_isSeat_t h, Mo_isSeat_t h1.mr h1.ro, Rp_isChoice_t, Mo_isRole_t, h.q0, h.cr.L, h.cr.P, h.cr.S, h.cr.kp, h.cr.ld, h1.mr.L, h1.mr.P, h1.mr.S, h1.mr.kp, h1.mr.ld, en, Rp_isPlay, Rp_isCopies_t, Mo_areCopies_t, hx]
  have hml := m_lt h.ro hl hn2
  obtain ⟨t1, e1, f1, q1⟩ := Oc_think_eq (o := 0) h.cr h.br.W h.ro h.ho hl hs hn2
  have i1 := h.core (cscr f1)
  have n1 : t1.1 34 0 = σ.1 34 0 := core_n (cscr f1)
  obtain ⟨t2, t3, e2, e3, f3, w3⟩ := were13 (nI a) (nI b) i1 (show l < 6 by omega)
  have i3 := i1.core f3.cw
  rw [n1] at w3
  obtain ⟨t4, e4, f4, q4⟩ := Oc_think_eq (o := 0) i3.cr w3 h.ro (h.ho.terms h.ro (show l < 6 by omega) (nI a) (nI b)) hl hs hn2
  have c4 : Core σ t4 := ((cscr f1).tr f3.cw).tr (cscr f4)
  have et : t4.1 34 0 = σ.1 34 0 := core_n c4
  obtain ⟨h2, hc2, en2⟩ := thr (h.core c4) (nI 0)
  have p1 := Mo_paidTo_eq (p := p) h2.mr h2.ro h2.ho hl hs (show n * R 1 l < 1073741824 by omega)
  have m1 := h2.mr.f47 (shS_fr (R := R) s (n * R 1 l))
  have k1 : (shS (setF t4 840 0 (nI 0)) R s (n * R 1 l)).1 34 0 = σ.1 34 0 := (shS_34 _ _).trans (en2.trans et)
  obtain ⟨u1, l1, k2, l3, l4⟩ := lend_eq (σ := shS (setF t4 840 0 (nI 0)) R s (n * R 1 l)) (x := nI a) (y := nI b) (show l < 6 by omega)
  rw [k1] at k2
  have p2 := Mo_paidTo_eq (σ := u1) (p := p) (l3 R m1) h.ro (by rw [k2]; exact h.ho.terms h.ro (show l < 6 by omega) (nI a) (nI b)) hl hs (show n * R 1 l < 1073741824 by omega)
  obtain ⟨u2, l5, l6⟩ := l4 _ (shS_fr (R := R) s (n * R 1 l))
  refine ⟨oneP R (upd (upd (σ.1 34 0) (2660 + l) (nI a)) (2666 + l) (nI b)) l s (n * R 1 l) p - oneP R (σ.1 34 0) l s (n * R 1 l) p, t4, u2, ?_, c4, ?_, (hc2.tr (c47 (shS_fr _ _))).tr (l6.core rlb_cor)⟩
  · simp (disch := omega) only [bd_some, bd_none, lt_eq, lk_eq, fa_lit, nI_add, nI_mul, nI_sub, nle_t, nle_f, nlt_t, nlt_f, neq_t, neq_f, neg_ne, neg_ne', if_true, if_false, ite_true, ite_false, Nat.zero_add, Nat.add_zero, ld0, ld1, ld2, ld3, ld4, ld5, ld6, ld7, ld8, ld9, ld10, ld11, ld12, ld13, ld14, ld15, ld16, ld17, ld18, ld19, ld20, ld21, ld22, ld23, ld24, ld25, ld26, ld27, ld28, ld29, ld30, ld31, ld32, ld33, ld34, ld35, ld36, ld37, ld38, ld39, ld40, ld41, ld42, ld43, ld44, ld45, ld46, ld47, ld48, ld100, ld101, ld102, ld103, ld104, ld105, gF, Rp_isLand_t h, Mo_isLand_t h1.mr h1.ro, Rp_isPlayer_t h, Mo_isPlayer_t h1.mr h1.ro, Rp_isSession_t h, Mo_isSession_t h1.mr h1.ro, Rp_isSeat_t h, Mo_isSeat_t h1.mr h1.ro, Rp_isChoice_t, Mo_isRole_t, h.q0, h.cr.L, h.cr.P, h.cr.S, h.cr.kp, h.cr.ld, h1.mr.L, h1.mr.P, h1.mr.S, h1.mr.kp, h1.mr.ld, en, Rp_isPlay, Rp_isCopies_t, Rp_areTerms_t, e1, Oc_paidToOne_eq h.ro hs (show p < 16 by omega) q1, e2, e3, i3.q0, e4, Oc_paidToOne_eq h.ro hs (show p < 16 by omega) q4]
  · simp (disch := omega) only [bd_some, bd_none, lt_eq, lk_eq, fa_lit, nI_add, nI_mul, nI_sub, nle_t, nle_f, nlt_t, nlt_f, neq_t, neq_f, neg_ne, neg_ne', if_true, if_false, ite_true, ite_false, Nat.zero_add, Nat.add_zero, ld0, ld1, ld2, ld3, ld4, ld5, ld6, ld7, ld8, ld9, ld10, ld11, ld12, ld13, ld14, ld15, ld16, ld17, ld18, ld19, ld20, ld21, ld22, ld23, ld24, ld25, ld26, ld27, ld28, ld29, ld30, ld31, ld32, ld33, ld34, ld35, ld36, ld37, ld38, ld39, ld40, ld41, ld42, ld43, ld44, ld45, ld46, ld47, ld48, ld100, ld101, ld102, ld103, ld104, ld105, gF, Mo_isLand_t h2.mr h2.ro, Mo_isPlayer_t h2.mr h2.ro, Mo_isSession_t h2.mr h2.ro, Mo_isSeat_t h2.mr h2.ro, h2.mr.L, h2.mr.P, h2.mr.S, h2.mr.kp, h2.mr.ld, Mo_isRole_t, en2, Mo_areCopies_t, Mo_areTerms_t, h2.mr.rt hl, p1, l1, p2, l5, k2, et]
theorem sI_but {f : Nat → Int32} {o : Nat} : ∀ {n : Nat}, o < n → sI (fun l => if l = o then nI 0 else f l) n = sI f n - f o
  | 0, h => absurd h (Nat.not_lt_zero o)
  | n + 1, h => by
    rw [sI_succ, sI_succ]
    by_cases e : o = n
    · subst e
      rw [if_pos rfl, sI_cong (g := f) (fun k hk => if_neg (by omega)), Int32.add_sub_cancel]
      exact add_n0 _
    · rw [sI_but (by omega), if_neg (fun q => e q.symm), Int32.sub_eq_add_neg, Int32.sub_eq_add_neg, Int32.add_assoc, Int32.add_assoc, Int32.add_comm (-f o)]
theorem q_pairs (h : IV σ R) (x y u v : Int32) : QP (Rp_pairs σ x y u v) (fun τ => Mo_pairs τ x y u v) σ := by
  obtain ⟨h1, hc, en⟩ := thr h (nI 0)
  have o1 := h.ro.L
  have o2 := h.ro.P
  have o3 := h.ro.S
  unfold Rp_pairs Mo_pairs
  rcases at_or (x := x) (n := 2) (by omega) with ⟨g, hg, rfl⟩ | hx
  rotate_left
  · refine QPf (v := -nI 1) ?_ ?_ <;> simp (disch := omega) only [bd_some, lt_eq, fa_lit, neq_t, neq_f, if_true, if_false, ite_true, ite_false, Rp_isChoice_f hx, Mo_isRole_f hx]
  rcases at_or (x := y) (n := R 0 0) (by omega) with ⟨l, hl, rfl⟩ | hx
  rotate_left
  · refine QPf (v := -nI 1) ?_ ?_ <;> simp (disch := omega) only [bd_some, lt_eq, fa_lit, neq_t, neq_f, if_true, if_false, ite_true, ite_false, Rp_isLand_t h, Mo_isLand_t h1.mr h1.ro, Rp_isPlayer_t h, Mo_isPlayer_t h1.mr h1.ro, Rp_isSession_t h, Mo_isSession_t h1.mr h1.ro, Rp_isSeat_t h, Mo_isSeat_t h1.mr h1.ro, Rp_isChoice_t, Mo_isRole_t, h.q0, h.cr.L, h.cr.P, h.cr.S, h.cr.kp, h.cr.ld, h1.mr.L, h1.mr.P, h1.mr.S, h1.mr.kp, h1.mr.ld, en, Rp_isPlay, Rp_isLand_f h hx, Mo_isLand_f h1.mr hx]
  rcases tm_or u v with ⟨a, b, ha, hb, hb2, rfl, rfl⟩ | hx
  rotate_left
  · refine QPf (v := -nI 1) ?_ ?_ <;> simp (disch := omega) only [bd_some, lt_eq, fa_lit, neq_t, neq_f, if_true, if_false, ite_true, ite_false, Rp_isLand_t h, Mo_isLand_t h1.mr h1.ro, Rp_isPlayer_t h, Mo_isPlayer_t h1.mr h1.ro, Rp_isSession_t h, Mo_isSession_t h1.mr h1.ro, Rp_isSeat_t h, Mo_isSeat_t h1.mr h1.ro, Rp_isChoice_t, Mo_isRole_t, h.q0, h.cr.L, h.cr.P, h.cr.S, h.cr.kp, h.cr.ld, h1.mr.L, h1.mr.P, h1.mr.S, h1.mr.kp, h1.mr.ld, en, Rp_isPlay, Rp_isCopies_t, Mo_areCopies_t, hx]
  obtain ⟨t2, t3, e2, e3, f3, w3⟩ := were13 (nI a) (nI b) h (show l < 6 by omega)
  have i3 := h.core f3.cw
  have et : t3.1 34 0 = σ.1 34 0 := core_n f3.cw
  obtain ⟨h2, hc2, en2⟩ := thr i3 (nI 0)
  obtain ⟨u1, l1, k2, l3, l4⟩ := lend_eq (σ := setF t3 840 0 (nI 0)) (x := nI a) (y := nI b) (show l < 6 by omega)
  rw [en2, et] at k2
  obtain ⟨u2, l5, l6⟩ := l4 u1 (FrK.rf u1)
  have m1 := l3 R h2.mr
  generalize upd (upd (σ.1 34 0) (2660 + l) (nI a)) (2666 + l) (nI b) = ν' at *
  have eqs : sI (fun o => sI (fun l => b01 (pay ν' l o g)) (R 0 0) - b01 (pay ν' o o g)) (R 0 0) = sI (fun p => sI (fun q => if q = p then nI 0 else b01 (pay ν' p q g)) (R 0 0)) (R 0 0) := by
    have e1 : sI (fun o => sI (fun l => b01 (pay ν' l o g)) (R 0 0) - b01 (pay ν' o o g)) (R 0 0) = sI (fun o => sI (fun l => if l = o then nI 0 else b01 (pay ν' l o g)) (R 0 0)) (R 0 0) := sI_cong (fun o ho => (sI_but (f := fun l => b01 (pay ν' l o g)) ho).symm)
    rw [e1, sI_swap]
    refine sI_cong (fun p hp => sI_cong (fun q hq => ?_))
    by_cases e : p = q
    · rw [if_pos e, if_pos e.symm]
    · rw [if_neg e, if_neg (fun z => e z.symm)]
  refine ⟨sI (fun o => sI (fun l => b01 (pay ν' l o g)) (R 0 0) - b01 (pay ν' o o g)) (R 0 0), t3, u2, ?_, f3.cw, ?_, hc2.tr (l6.core rlb_cor)⟩
  · simp (disch := omega) only [bd_some, lt_eq, fa_lit, neq_t, neq_f, if_true, if_false, ite_true, ite_false, Rp_isLand_t h, Mo_isLand_t h1.mr h1.ro, Rp_isPlayer_t h, Mo_isPlayer_t h1.mr h1.ro, Rp_isSession_t h, Mo_isSession_t h1.mr h1.ro, Rp_isSeat_t h, Mo_isSeat_t h1.mr h1.ro, Rp_isChoice_t, Mo_isRole_t, h.q0, h.cr.L, h.cr.P, h.cr.S, h.cr.kp, h.cr.ld, h1.mr.L, h1.mr.P, h1.mr.S, h1.mr.kp, h1.mr.ld, en, Rp_areTerms_t, e2, e3]
    refine lp_run (R 0 0) (by omega) (fun k => (sI (fun o => sI (fun l => b01 (pay ν' l o g)) (R 0 0) - b01 (pay ν' o o g)) k, nI k)) (fun rec k hk => ?_) (fun rec => ?_)
    · simp (disch := omega) only [bd_some, bd_none, lt_eq, lk_eq, fa_lit, nI_add, nI_mul, nI_sub, nle_t, nle_f, nlt_t, nlt_f, neq_t, neq_f, neg_ne, neg_ne', if_true, if_false, ite_true, ite_false, Nat.zero_add, Nat.add_zero, ld0, ld1, ld2, ld3, ld4, ld5, ld6, ld7, ld8, ld9, ld10, ld11, ld12, ld13, ld14, ld15, ld16, ld17, ld18, ld19, ld20, ld21, ld22, ld23, ld24, ld25, ld26, ld27, ld28, ld29, ld30, ld31, ld32, ld33, ld34, ld35, ld36, ld37, ld38, ld39, ld40, ld41, ld42, ld43, ld44, ld45, ld46, ld47, ld48, ld100, ld101, ld102, ld103, ld104, ld105, gF, i3.q0, i3.cr.L, Wo_payers_eq i3.cr w3 h.ro hk, Wo_payable_eq w3 h.ro hk hk, b01_0, sI_succ]
      cases pay ν' k k g <;> simp [b01]
    · simp (disch := omega) only [bd_some, bd_none, lt_eq, lk_eq, fa_lit, nI_add, nI_mul, nI_sub, nle_t, nle_f, nlt_t, nlt_f, neq_t, neq_f, neg_ne, neg_ne', if_true, if_false, ite_true, ite_false, Nat.zero_add, Nat.add_zero, ld0, ld1, ld2, ld3, ld4, ld5, ld6, ld7, ld8, ld9, ld10, ld11, ld12, ld13, ld14, ld15, ld16, ld17, ld18, ld19, ld20, ld21, ld22, ld23, ld24, ld25, ld26, ld27, ld28, ld29, ld30, ld31, ld32, ld33, ld34, ld35, ld36, ld37, ld38, ld39, ld40, ld41, ld42, ld43, ld44, ld45, ld46, ld47, ld48, ld100, ld101, ld102, ld103, ld104, ld105, gF, i3.q0, i3.cr.L]
  · rw [eqs]
    simp (disch := omega) only [bd_some, lt_eq, fa_lit, neq_t, neq_f, if_true, if_false, ite_true, ite_false, Mo_isLand_t h2.mr h2.ro, Mo_isPlayer_t h2.mr h2.ro, Mo_isSession_t h2.mr h2.ro, Mo_isSeat_t h2.mr h2.ro, h2.mr.L, h2.mr.P, h2.mr.S, h2.mr.kp, h2.mr.ld, Mo_isRole_t, en2, Mo_areTerms_t, l1]
    refine lp_run (R 0 0) (by omega) (fun k => (sI (fun p => sI (fun q => if q = p then nI 0 else b01 (pay ν' p q g)) (R 0 0)) k, nI k)) (fun rec p hp => ?_) (fun rec => ?_)
    · simp (disch := omega) only [bd_some, bd_none, lt_eq, lk_eq, fa_lit, nI_add, nI_mul, nI_sub, nle_t, nle_f, nlt_t, nlt_f, neq_t, neq_f, neg_ne, neg_ne', if_true, if_false, ite_true, ite_false, Nat.zero_add, Nat.add_zero, ld0, ld1, ld2, ld3, ld4, ld5, ld6, ld7, ld8, ld9, ld10, ld11, ld12, ld13, ld14, ld15, ld16, ld17, ld18, ld19, ld20, ld21, ld22, ld23, ld24, ld25, ld26, ld27, ld28, ld29, ld30, ld31, ld32, ld33, ld34, ld35, ld36, ld37, ld38, ld39, ld40, ld41, ld42, ld43, ld44, ld45, ld46, ld47, ld48, ld100, ld101, ld102, ld103, ld104, ld105, gF, m1.L]
      refine lp_runE (R 0 0) (by omega) (fun k => (sA (sI (fun p => sI (fun q => if q = p then nI 0 else b01 (pay ν' p q g)) (R 0 0)) p) (fun q => if q = p then nI 0 else b01 (pay ν' p q g)) k, nI k)) rfl (fun rec2 q hq => ?_) (fun rec2 => ?_)
      · simp (disch := omega) only [bd_some, bd_none, lt_eq, lk_eq, fa_lit, nI_add, nI_mul, nI_sub, nle_t, nle_f, nlt_t, nlt_f, neq_t, neq_f, neg_ne, neg_ne', if_true, if_false, ite_true, ite_false, Nat.zero_add, Nat.add_zero, ld0, ld1, ld2, ld3, ld4, ld5, ld6, ld7, ld8, ld9, ld10, ld11, ld12, ld13, ld14, ld15, ld16, ld17, ld18, ld19, ld20, ld21, ld22, ld23, ld24, ld25, ld26, ld27, ld28, ld29, ld30, ld31, ld32, ld33, ld34, ld35, ld36, ld37, ld38, ld39, ld40, ld41, ld42, ld43, ld44, ld45, ld46, ld47, ld48, ld100, ld101, ld102, ld103, ld104, ld105, gF, m1.L, Mo_doesPay_eq, k2, b01_0, neq_i, sA_succ]
        by_cases e : p = q
        · simp [e]
        · cases pay ν' p q g <;> simp [e, show ¬ q = p from fun z => e z.symm, b01]
      · simp (disch := omega) only [bd_some, bd_none, lt_eq, lk_eq, fa_lit, nI_add, nI_mul, nI_sub, nle_t, nle_f, nlt_t, nlt_f, neq_t, neq_f, neg_ne, neg_ne', if_true, if_false, ite_true, ite_false, Nat.zero_add, Nat.add_zero, ld0, ld1, ld2, ld3, ld4, ld5, ld6, ld7, ld8, ld9, ld10, ld11, ld12, ld13, ld14, ld15, ld16, ld17, ld18, ld19, ld20, ld21, ld22, ld23, ld24, ld25, ld26, ld27, ld28, ld29, ld30, ld31, ld32, ld33, ld34, ld35, ld36, ld37, ld38, ld39, ld40, ld41, ld42, ld43, ld44, ld45, ld46, ld47, ld48, ld100, ld101, ld102, ld103, ld104, ld105, gF, m1.L, sA_eq, sI_succ]
    · simp (disch := omega) only [bd_some, bd_none, lt_eq, lk_eq, fa_lit, nI_add, nI_mul, nI_sub, nle_t, nle_f, nlt_t, nlt_f, neq_t, neq_f, neg_ne, neg_ne', if_true, if_false, ite_true, ite_false, Nat.zero_add, Nat.add_zero, ld0, ld1, ld2, ld3, ld4, ld5, ld6, ld7, ld8, ld9, ld10, ld11, ld12, ld13, ld14, ld15, ld16, ld17, ld18, ld19, ld20, ld21, ld22, ld23, ld24, ld25, ld26, ld27, ld28, ld29, ld30, ld31, ld32, ld33, ld34, ld35, ld36, ld37, ld38, ld39, ld40, ld41, ld42, ld43, ld44, ld45, ld46, ld47, ld48, ld100, ld101, ld102, ld103, ld104, ld105, gF, m1.L, l5]
theorem q_bestLand (h : IV σ R) (x y z w : Int32) : QP (Rp_bestLand σ x y z w) (fun τ => Mo_bestLand τ x y z w) σ := by
  obtain ⟨h1, hc, en⟩ := thr h (nI 0)
  have o1 := h.ro.L
  have o2 := h.ro.P
  have o3 := h.ro.S
  unfold Rp_bestLand Mo_bestLand
  rcases at_or (x := x) (n := R 0 1) (by omega) with ⟨p, hp, rfl⟩ | hx
  rotate_left
  · refine QPf (v := -nI 1) ?_ ?_ <;> simp (disch := omega) only [bd_some, lt_eq, fa_lit, neq_t, neq_f, if_true, if_false, ite_true, ite_false, Rp_isLand_t h, Mo_isLand_t h1.mr h1.ro, Rp_isPlayer_t h, Mo_isPlayer_t h1.mr h1.ro, Rp_isSession_t h, Mo_isSession_t h1.mr h1.ro, Rp_isSeat_t h, Mo_isSeat_t h1.mr h1.ro, Rp_isChoice_t, Mo_isRole_t, h.q0, h.cr.L, h.cr.P, h.cr.S, h.cr.kp, h.cr.ld, h1.mr.L, h1.mr.P, h1.mr.S, h1.mr.kp, h1.mr.ld, en, Rp_isPlay, Rp_isPlayer_f h hx, Mo_isPlayer_f h1.mr hx]
  rcases at_or (x := y) (n := R 0 2) (by omega) with ⟨s, hs, rfl⟩ | hx
  rotate_left
  · refine QPf (v := -nI 1) ?_ ?_ <;> simp (disch := omega) only [bd_some, lt_eq, fa_lit, neq_t, neq_f, if_true, if_false, ite_true, ite_false, Rp_isLand_t h, Mo_isLand_t h1.mr h1.ro, Rp_isPlayer_t h, Mo_isPlayer_t h1.mr h1.ro, Rp_isSession_t h, Mo_isSession_t h1.mr h1.ro, Rp_isSeat_t h, Mo_isSeat_t h1.mr h1.ro, Rp_isChoice_t, Mo_isRole_t, h.q0, h.cr.L, h.cr.P, h.cr.S, h.cr.kp, h.cr.ld, h1.mr.L, h1.mr.P, h1.mr.S, h1.mr.kp, h1.mr.ld, en, Rp_isPlay, Rp_isSession_f h hx, Mo_isSession_f h1.mr hx]
  rcases cp_or z with ⟨n, hn, hn2, rfl⟩ | hx
  rotate_left
  · refine QPf (v := -nI 1) ?_ ?_ <;> simp (disch := omega) only [bd_some, lt_eq, fa_lit, neq_t, neq_f, if_true, if_false, ite_true, ite_false, Rp_isLand_t h, Mo_isLand_t h1.mr h1.ro, Rp_isPlayer_t h, Mo_isPlayer_t h1.mr h1.ro, Rp_isSession_t h, Mo_isSession_t h1.mr h1.ro, Rp_isSeat_t h, Mo_isSeat_t h1.mr h1.ro, Rp_isChoice_t, Mo_isRole_t, h.q0, h.cr.L, h.cr.P, h.cr.S, h.cr.kp, h.cr.ld, h1.mr.L, h1.mr.P, h1.mr.S, h1.mr.kp, h1.mr.ld, en, Rp_isPlay, hx]
  rcases at_or (x := w) (n := 2) (by omega) with ⟨f, hf, rfl⟩ | hx
  rotate_left
  · rcases nix_or hx (by decide) with hq | ⟨hq, hq2⟩
    · refine QPf (v := -nI 1) ?_ ?_ <;> simp (disch := omega) only [bd_some, lt_eq, fa_lit, neq_t, neq_f, if_true, if_false, ite_true, ite_false, Rp_isLand_t h, Mo_isLand_t h1.mr h1.ro, Rp_isPlayer_t h, Mo_isPlayer_t h1.mr h1.ro, Rp_isSession_t h, Mo_isSession_t h1.mr h1.ro, Rp_isSeat_t h, Mo_isSeat_t h1.mr h1.ro, Rp_isChoice_t, Mo_isRole_t, h.q0, h.cr.L, h.cr.P, h.cr.S, h.cr.kp, h.cr.ld, h1.mr.L, h1.mr.P, h1.mr.S, h1.mr.kp, h1.mr.ld, en, Rp_isPlay, Rp_isCopies_t, Mo_areCopies_t, Rp_isChoice_f hx, hq]
    · refine QPf (v := -nI 1) ?_ ?_ <;> simp (disch := omega) only [bd_some, lt_eq, fa_lit, neq_t, neq_f, if_true, if_false, ite_true, ite_false, Rp_isLand_t h, Mo_isLand_t h1.mr h1.ro, Rp_isPlayer_t h, Mo_isPlayer_t h1.mr h1.ro, Rp_isSession_t h, Mo_isSession_t h1.mr h1.ro, Rp_isSeat_t h, Mo_isSeat_t h1.mr h1.ro, Rp_isChoice_t, Mo_isRole_t, h.q0, h.cr.L, h.cr.P, h.cr.S, h.cr.kp, h.cr.ld, h1.mr.L, h1.mr.P, h1.mr.S, h1.mr.kp, h1.mr.ld, en, Rp_isPlay, Rp_isCopies_t, Mo_areCopies_t, Rp_isChoice_f hx, hq, hq2]
  generalize hv : (fun l => oneP R (σ.1 34 0) l s (n * R 1 l) p) = v
  have hv2 : ∀ l, oneP R (σ.1 34 0) l s (n * R 1 l) p = v l := fun l => by rw [← hv]
  have vnn : ∀ l, l < R 0 0 → 0 ≤ (v l).toInt := fun l hl => by rw [← hv2]; exact oneP_nn h.ro hs (m_lt h.ro hl hn2)
  generalize hle : (fun n b => decide (v n ≤ v b)) = le
  have hle2 : ∀ n b, (v n ≤ v b) = (le n b = true) := fun n b => by rw [← hle]; simp
  have cls : ∃ τ, Rp_bestLand σ (nI p) (nI s) (nI n) (nI f) = some (if f = 0 then enc (pm le (fun _ => true) (R 0 0)) else encv v (pm le (fun _ => true) (R 0 0)), τ) ∧ FrK scr σ τ := by
    unfold Rp_bestLand
    simp (disch := omega) only [bd_some, lt_eq, fa_lit, neq_t, neq_f, if_true, if_false, ite_true, ite_false, Rp_isLand_t h, Mo_isLand_t h1.mr h1.ro, Rp_isPlayer_t h, Mo_isPlayer_t h1.mr h1.ro, Rp_isSession_t h, Mo_isSession_t h1.mr h1.ro, Rp_isSeat_t h, Mo_isSeat_t h1.mr h1.ro, Rp_isChoice_t, Mo_isRole_t, h.q0, h.cr.L, h.cr.P, h.cr.S, h.cr.kp, h.cr.ld, h1.mr.L, h1.mr.P, h1.mr.S, h1.mr.kp, h1.mr.ld, en, Rp_isCopies_t]
    obtain ⟨z, ⟨hz1, hz2⟩, rec, ez⟩ := lp_invG (β := Int32 × ST) (z0 := (σ, -nI 2, -nI 2, nI 0)) (step := fun rec6 (z5 : ST × Int32 × Int32 × Int32) => bd_ (ldQ z5.1 0) (fun rr8 => (if (gF z5.1 529 rr8) ≤ z5.2.2.2 then (if nI f = nI 0 then some (z5.2.1, z5.1) else some (z5.2.2.1, z5.1)) else bd_ (ldQ z5.1 0) (fun rr9 => bd_ (Oc_think z5.1 0 rr9 0 z5.2.2.2 (nI s) (nI n)) (fun q10 => lk_ (fun kk12 => (if z5.2.1 < nI 0 then kk12 () else bd_ (Oc_paidToOne q10 0 (nI p)) (fun q15 => (if q15 ≤ z5.2.2.1 then rec6 (q10, z5.2.1, z5.2.2.1, (z5.2.2.2 + nI 1)) else kk12 ())))) (fun (j11 : Unit) => bd_ (Oc_paidToOne q10 0 (nI p)) (fun q14 => rec6 (q10, z5.2.2.2, q14, (z5.2.2.2 + nI 1))))))))) (R 0 0) (by omega) (fun k z => FrK scr σ z.1 ∧ z.2 = (enc (pm le (fun _ => true) k), encv v (pm le (fun _ => true) k), nI k)) ⟨FrK.rf σ, rfl⟩ (by
      rintro rec k ⟨t, a⟩ hk ⟨ft, ha⟩
      have ha : a = _ := ha
      subst ha
      have ft : FrK scr σ t := ft
      have it := h.core (cscr ft)
      obtain ⟨t1, e1, f1, q1⟩ := Oc_think_eq (o := 0) it.cr it.br.W h.ro it.ho hk hs hn2
      rw [core_n (cscr ft)] at q1
      have e2 := Oc_paidToOne_eq h.ro hs (show p < 16 by omega) q1
      rw [hv2] at e2
      refine ⟨(t1, enc (pm le (fun _ => true) (k + 1)), encv v (pm le (fun _ => true) (k + 1)), nI (k + 1)), ⟨ft.tr f1, rfl⟩, ?_⟩
      simp (disch := omega) only [bd_some, bd_none, lt_eq, lk_eq, fa_lit, nI_add, nI_mul, nI_sub, nle_t, nle_f, nlt_t, nlt_f, neq_t, neq_f, neg_ne, neg_ne', if_true, if_false, ite_true, ite_false, Nat.zero_add, Nat.add_zero, ld0, ld1, ld2, ld3, ld4, ld5, ld6, ld7, ld8, ld9, ld10, ld11, ld12, ld13, ld14, ld15, ld16, ld17, ld18, ld19, ld20, ld21, ld22, ld23, ld24, ld25, ld26, ld27, ld28, ld29, ld30, ld31, ld32, ld33, ld34, ld35, ld36, ld37, ld38, ld39, ld40, ld41, ld42, ld43, ld44, ld45, ld46, ld47, ld48, ld100, ld101, ld102, ld103, ld104, ld105, gF, it.q0, it.cr.L, e1, e2]
      rw [pm, if_pos rfl]
      cases e3 : pm le (fun _ => true) k with
      | none => simp [enc, encv, neg_lt0 (show 0 < 2 ∧ 2 < 2147483648 by decide)]
      | some b =>
        have := pm_lt le _ e3
        simp (disch := omega) only [bd_some, bd_none, lt_eq, lk_eq, fa_lit, nI_add, nI_mul, nI_sub, nle_t, nle_f, nlt_t, nlt_f, neq_t, neq_f, neg_ne, neg_ne', if_true, if_false, ite_true, ite_false, Nat.zero_add, Nat.add_zero, ld0, ld1, ld2, ld3, ld4, ld5, ld6, ld7, ld8, ld9, ld10, ld11, ld12, ld13, ld14, ld15, ld16, ld17, ld18, ld19, ld20, ld21, ld22, ld23, ld24, ld25, ld26, ld27, ld28, ld29, ld30, ld31, ld32, ld33, ld34, ld35, ld36, ld37, ld38, ld39, ld40, ld41, ld42, ld43, ld44, ld45, ld46, ld47, ld48, ld100, ld101, ld102, ld103, ld104, ld105, gF, enc, encv, hle2]
        cases le k b <;> simp)
    obtain ⟨t, a⟩ := z
    have hz2 : a = _ := hz2
    subst hz2
    have hz1 : FrK scr σ t := hz1
    have it := h.core (cscr hz1)
    refine ⟨t, ez.trans ?_, hz1⟩
    by_cases e : f = 0 <;> simp (disch := omega) only [bd_some, bd_none, lt_eq, lk_eq, fa_lit, nI_add, nI_mul, nI_sub, nle_t, nle_f, nlt_t, nlt_f, neq_t, neq_f, neg_ne, neg_ne', if_true, if_false, ite_true, ite_false, Nat.zero_add, Nat.add_zero, ld0, ld1, ld2, ld3, ld4, ld5, ld6, ld7, ld8, ld9, ld10, ld11, ld12, ld13, ld14, ld15, ld16, ld17, ld18, ld19, ld20, ld21, ld22, ld23, ld24, ld25, ld26, ld27, ld28, ld29, ld30, ld31, ld32, ld33, ld34, ld35, ld36, ld37, ld38, ld39, ld40, ld41, ld42, ld43, ld44, ld45, ld46, ld47, ld48, ld100, ld101, ld102, ld103, ld104, ld105, gF, it.q0, it.cr.L, e]
  obtain ⟨t, e, ft⟩ := cls
  have c4 := cscr ft
  have et : t.1 34 0 = σ.1 34 0 := core_n c4
  obtain ⟨h2, hc2, en2⟩ := thr (h.core c4) (nI 0)
  have rf : ∃ τ, Mo_bestLand t (nI p) (nI s) (nI n) (nI f) = some (if f = 0 then enc (pm le (fun _ => true) (R 0 0)) else encv v (pm le (fun _ => true) (R 0 0)), τ) ∧ FrK r47 (setF t 840 0 (nI 0)) τ := by
    unfold Mo_bestLand
    simp (disch := omega) only [bd_some, lt_eq, fa_lit, neq_t, neq_f, if_true, if_false, ite_true, ite_false, Mo_isLand_t h2.mr h2.ro, Mo_isPlayer_t h2.mr h2.ro, Mo_isSession_t h2.mr h2.ro, Mo_isSeat_t h2.mr h2.ro, h2.mr.L, h2.mr.P, h2.mr.S, h2.mr.kp, h2.mr.ld, Mo_isRole_t, en2, Mo_areCopies_t, nlt_f, nle_t]
    obtain ⟨z, ⟨hz1, hz2⟩, rec, ez⟩ := lp_invG (β := Int32 × ST) (z0 := (setF t 840 0 (nI 0), -nI 2, -nI 2, nI 0)) (step := fun rec6 (z5 : ST × Int32 × Int32 × Int32) => (if (gF z5.1 850 0) ≤ z5.2.2.2 then (if nI f = nI 0 then some (z5.2.1, z5.1) else some (z5.2.2.1, z5.1)) else bd_ (ldI z5.1 29 0 z5.2.2.2) (fun v8 => bd_ (Mo_paidTo z5.1 (nI p) z5.2.2.2 (nI s) ((nI n) * v8)) (fun q9 => (if z5.2.2.1 < q9.1 then rec6 (q9.2, z5.2.2.2, q9.1, (z5.2.2.2 + nI 1)) else rec6 (q9.2, z5.2.1, z5.2.2.1, (z5.2.2.2 + nI 1))))))) (R 0 0) (by omega) (fun k z => FrK r47 (setF t 840 0 (nI 0)) z.1 ∧ z.2 = (enc (pm le (fun _ => true) k), encv v (pm le (fun _ => true) k), nI k)) ⟨FrK.rf _, rfl⟩ (by
      rintro rec k ⟨t1, a⟩ hk ⟨ft, ha⟩
      have ha : a = _ := ha
      subst ha
      have ft : FrK r47 (setF t 840 0 (nI 0)) t1 := ft
      have it := h2.core (c47 ft)
      have hml := m_lt h.ro hk hn2
      have n1 : t1.1 34 0 = σ.1 34 0 := (core_n (c47 ft)).trans (en2.trans et)
      have e1 := Mo_paidTo_eq (p := p) it.mr h.ro it.ho hk hs (show n * R 1 k < 1073741824 by omega)
      rw [n1, hv2] at e1
      refine ⟨(shS t1 R s (n * R 1 k), enc (pm le (fun _ => true) (k + 1)), encv v (pm le (fun _ => true) (k + 1)), nI (k + 1)), ⟨ft.tr (shS_fr _ _), rfl⟩, ?_⟩
      simp (disch := omega) only [bd_some, bd_none, lt_eq, lk_eq, fa_lit, nI_add, nI_mul, nI_sub, nle_t, nle_f, nlt_t, nlt_f, neq_t, neq_f, neg_ne, neg_ne', if_true, if_false, ite_true, ite_false, Nat.zero_add, Nat.add_zero, ld0, ld1, ld2, ld3, ld4, ld5, ld6, ld7, ld8, ld9, ld10, ld11, ld12, ld13, ld14, ld15, ld16, ld17, ld18, ld19, ld20, ld21, ld22, ld23, ld24, ld25, ld26, ld27, ld28, ld29, ld30, ld31, ld32, ld33, ld34, ld35, ld36, ld37, ld38, ld39, ld40, ld41, ld42, ld43, ld44, ld45, ld46, ld47, ld48, ld100, ld101, ld102, ld103, ld104, ld105, gF, it.mr.L, it.mr.rt hk, e1]
      rw [pm, if_pos rfl]
      cases e3 : pm le (fun _ => true) k with
      | none => simp [enc, encv, m2_lt (vnn k hk)]
      | some b =>
        have : (v b < v k) = ¬ (le k b = true) := by
          rw [← hle2]
          exact propext ⟨fun q => by rw [fa_lt] at q; rw [fa_le]; omega, fun q => fa_of_nle q⟩
        simp only [enc, encv, this]
        cases le k b <;> simp)
    obtain ⟨t1, a⟩ := z
    have hz2 : a = _ := hz2
    subst hz2
    have hz1 : FrK r47 (setF t 840 0 (nI 0)) t1 := hz1
    have it := h2.core (c47 hz1)
    refine ⟨t1, ez.trans ?_, hz1⟩
    by_cases e : f = 0 <;> simp (disch := omega) only [bd_some, bd_none, lt_eq, lk_eq, fa_lit, nI_add, nI_mul, nI_sub, nle_t, nle_f, nlt_t, nlt_f, neq_t, neq_f, neg_ne, neg_ne', if_true, if_false, ite_true, ite_false, Nat.zero_add, Nat.add_zero, ld0, ld1, ld2, ld3, ld4, ld5, ld6, ld7, ld8, ld9, ld10, ld11, ld12, ld13, ld14, ld15, ld16, ld17, ld18, ld19, ld20, ld21, ld22, ld23, ld24, ld25, ld26, ld27, ld28, ld29, ld30, ld31, ld32, ld33, ld34, ld35, ld36, ld37, ld38, ld39, ld40, ld41, ld42, ld43, ld44, ld45, ld46, ld47, ld48, ld100, ld101, ld102, ld103, ld104, ld105, gF, it.mr.L, e]
  obtain ⟨t1, e1, f1⟩ := rf
  exact ⟨_, t, t1, e, c4, e1, hc2.tr (c47 f1)⟩
theorem q_unknown (h : IV σ R) (x : Int32) : QP (Rp_unknown σ x) (fun τ => Mo_unknown τ x) σ := by
  obtain ⟨h1, hc, en⟩ := thr h (nI 0)
  have o1 := h.ro.L
  have o2 := h.ro.P
  have o3 := h.ro.S
  unfold Rp_unknown Mo_unknown
  rcases at_or (x := x) (n := 2) (by omega) with ⟨f, hf, rfl⟩ | hx
  rotate_left
  · refine QPf (v := -nI 1) ?_ ?_ <;> simp (disch := omega) only [bd_some, lt_eq, fa_lit, neq_t, neq_f, if_true, if_false, ite_true, ite_false, Rp_isChoice_f hx, nix_if2 hx]
  obtain ⟨t, e, ft⟩ := Rn_ofOpenSeats_eq (f := f + 1) h.cr h.br.W h.ro h.ho (by omega)
  have c4 := cscr ft
  have et : t.1 34 0 = σ.1 34 0 := core_n c4
  obtain ⟨h2, hc2, en2⟩ := thr (h.core c4) (nI 0)
  obtain ⟨t1, f1, e1⟩ := Mo_unknown_eq h2.mr h2.ro h2.ho hf
  rw [en2, et] at e1
  refine ⟨unkP R (σ.1 34 0) (f + 1), t, t1, ?_, c4, ?_, hc2.tr (c47 f1)⟩
  · rcases (show f = 0 ∨ f = 1 by omega) with rfl | rfl <;> simp (disch := omega) only [bd_some, bd_none, lt_eq, lk_eq, fa_lit, nI_add, nI_mul, nI_sub, nle_t, nle_f, nlt_t, nlt_f, neq_t, neq_f, neg_ne, neg_ne', if_true, if_false, ite_true, ite_false, Nat.zero_add, Nat.add_zero, ld0, ld1, ld2, ld3, ld4, ld5, ld6, ld7, ld8, ld9, ld10, ld11, ld12, ld13, ld14, ld15, ld16, ld17, ld18, ld19, ld20, ld21, ld22, ld23, ld24, ld25, ld26, ld27, ld28, ld29, ld30, ld31, ld32, ld33, ld34, ld35, ld36, ld37, ld38, ld39, ld40, ld41, ld42, ld43, ld44, ld45, ld46, ld47, ld48, ld100, ld101, ld102, ld103, ld104, ld105, gF, Rp_isLand_t h, Mo_isLand_t h1.mr h1.ro, Rp_isPlayer_t h, Mo_isPlayer_t h1.mr h1.ro, Rp_isSession_t h, Mo_isSession_t h1.mr h1.ro, Rp_isSeat_t h, Mo_isSeat_t h1.mr h1.ro, Rp_isChoice_t, Mo_isRole_t, h.q0, h.cr.L, h.cr.P, h.cr.S, h.cr.kp, h.cr.ld, h1.mr.L, h1.mr.P, h1.mr.S, h1.mr.kp, h1.mr.ld, en, e]
  · show (if nI f < nI 0 then _ else if nI f ≤ nI 1 then _ else _) = _
    rw [if_neg (fun q => of_eq_false (nlt_f (Nat.zero_le f) (by omega)) q), if_pos (of_eq_true (nle_t (show f ≤ 1 by omega) (by omega)))]
    exact e1
end Q8

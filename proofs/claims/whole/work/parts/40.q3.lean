/-! ===== queries: what is kept, what lapses, who has most ===== -/
def am (le : Nat → Nat → Bool) : Nat → Nat
  | 0 => 0
  | n + 1 => if n = 0 then 0 else if le n (am le n) then am le n else n
theorem am_succ (le : Nat → Nat → Bool) (n : Nat) : am le (n + 1) = if n = 0 then 0 else if le n (am le n) then am le n else n := rfl
theorem am_lt (le : Nat → Nat → Bool) : ∀ {n : Nat}, 0 < n → am le n < n
  | 0, h => absurd h (Nat.lt_irrefl 0)
  | n + 1, _ => by
    rw [am_succ]
    by_cases e : n = 0
    · rw [if_pos e]; omega
    · rw [if_neg e]
      have := am_lt le (n := n) (by omega)
      split <;> omega
/-- the best of those that count: none, or which -/
def pm (le : Nat → Nat → Bool) (c : Nat → Bool) : Nat → Option Nat
  | 0 => none
  | n + 1 => if c n then (match pm le c n with
      | none => some n
      | some b => if le n b then some b else some n) else pm le c n
theorem pm_lt (le : Nat → Nat → Bool) (c : Nat → Bool) : ∀ {n b : Nat}, pm le c n = some b → b < n
  | 0, b, h => by cases h
  | n + 1, b, h => by
    unfold pm at h
    by_cases e : c n = true
    · rw [if_pos e] at h
      cases e2 : pm le c n with
      | none => rw [e2] at h; cases h; omega
      | some b2 =>
        rw [e2] at h
        have := pm_lt le c e2
        simp only at h
        split at h <;> cases h <;> omega
    · rw [if_neg e] at h
      have := pm_lt le c h
      omega
theorem pm_c (le : Nat → Nat → Bool) (c : Nat → Bool) : ∀ {n b : Nat}, pm le c n = some b → c b = true
  | 0, b, h => by cases h
  | n + 1, b, h => by
    unfold pm at h
    by_cases e : c n = true
    · rw [if_pos e] at h
      cases e2 : pm le c n with
      | none => rw [e2] at h; cases h; exact e
      | some b2 =>
        rw [e2] at h
        have := pm_c le c e2
        simp only at h
        split at h <;> cases h <;> assumption
    · rw [if_neg e] at h
      exact pm_c le c h
def enc (o : Option Nat) : Int32 := match o with
  | none => -nI 2
  | some b => nI b
def encv (f : Nat → Int32) (o : Option Nat) : Int32 := match o with
  | none => -nI 2
  | some b => f b
theorem fd_shift {q : Nat → Bool} {d : Nat} (h : ∀ k, k < d → q k = false) (n : Nat) : fd q (d + n) = d + fd (fun k => q (d + k)) n := by
  have a1 := fd_le q (d + n)
  have a2 := fd_le (fun k => q (d + k)) n
  rcases Nat.lt_trichotomy (fd q (d + n)) (d + fd (fun k => q (d + k)) n) with c | c | c
  · have h2 := fd_yes (p := q) (n := d + n) (by omega)
    rcases Nat.lt_or_ge (fd q (d + n)) d with c2 | c2
    · rw [h _ c2] at h2; cases h2
    · have h3 := fd_no (p := fun k => q (d + k)) (n := n) (k := fd q (d + n) - d) (by omega)
      simp only [show d + (fd q (d + n) - d) = fd q (d + n) by omega] at h3
      rw [h3] at h2; cases h2
  · exact c
  · have h2 := fd_yes (p := fun k => q (d + k)) (n := n) (by omega)
    have h3 := fd_no (p := q) (n := d + n) (k := d + fd (fun k => q (d + k)) n) c
    have h2 : q (d + fd (fun k => q (d + k)) n) = true := h2
    rw [h3] at h2; cases h2
theorem clip0 : ∀ K, K < 10 → (if nI K < 0 then 0 else nI K) = nI K ∧ (if 0 < nI K then nI K else 0) = nI K := by decide +kernel
theorem clip : ∀ K, K < 10 → ∀ n, n < 10 → (if nI K - nI n < 0 then 0 else nI K - nI n) = nI (K - n) ∧ (if 0 < nI K - nI n then nI K - nI n else 0) = nI (K - n) := by decide +kernel
section Q3
variable {σ : ST} {R : RT} {ν : NU}
theorem q_kept (h : IV σ R) (x y z w : Int32) : QI (Rp_kept σ x y z w) (Mo_kept σ x y z w) σ := by
  obtain ⟨h1, hc, en⟩ := thr h 0
  have o1 := h.ro.L
  have o2 := h.ro.P
  have o3 := h.ro.S
  unfold Rp_kept Mo_kept
  rw [lt_eq]
  generalize setF σ 840 0 0 = s1 at *
  rcases at_or (x := x) (n := R 0 0) (by omega) with ⟨l, hl, rfl⟩ | hx
  rotate_left
  · simp (disch := omega) only [bd_some, bd_none, lt_eq, lk_eq, fa_lit, nI_add, nI_mul, nI_sub, nle_t, nle_f, nlt_t, nlt_f, neq_t, neq_f, neg_ne, neg_ne', if_true, if_false, ite_true, ite_false, Nat.zero_add, Nat.add_zero, ld0, ld1, ld2, ld3, ld4, ld5, ld6, ld7, ld8, ld9, ld10, ld11, ld12, ld13, ld14, ld15, ld16, ld17, ld18, ld19, ld20, ld21, ld22, ld23, ld24, ld25, ld26, ld27, ld28, ld29, ld30, ld31, ld32, ld33, ld34, ld35, ld36, ld37, ld38, ld39, ld40, ld41, ld42, ld43, ld44, ld45, ld46, ld47, ld48, ld100, ld101, ld102, ld103, ld104, ld105, Rp_isLand_t h, Mo_isLand_t h1.mr h1.ro, Rp_isPlayer_t h, Mo_isPlayer_t h1.mr h1.ro, Rp_isSession_t h, Mo_isSession_t h1.mr h1.ro, Rp_isSeat_t h, Mo_isSeat_t h1.mr h1.ro, Rp_isChoice_t, Mo_isRole_t, h.q0, h.cr.L, h.cr.P, h.cr.S, h.cr.kp, h.cr.ld, h1.mr.L, h1.mr.P, h1.mr.S, h1.mr.kp, h1.mr.ld, en, Rp_isLand_f h hx, Mo_isLand_f h1.mr hx]
    exact ⟨_, _, rfl, rfl, hc⟩
  rcases at_or (x := y) (n := R 0 2) (by omega) with ⟨s, hs, rfl⟩ | hx
  rotate_left
  · simp (disch := omega) only [bd_some, bd_none, lt_eq, lk_eq, fa_lit, nI_add, nI_mul, nI_sub, nle_t, nle_f, nlt_t, nlt_f, neq_t, neq_f, neg_ne, neg_ne', if_true, if_false, ite_true, ite_false, Nat.zero_add, Nat.add_zero, ld0, ld1, ld2, ld3, ld4, ld5, ld6, ld7, ld8, ld9, ld10, ld11, ld12, ld13, ld14, ld15, ld16, ld17, ld18, ld19, ld20, ld21, ld22, ld23, ld24, ld25, ld26, ld27, ld28, ld29, ld30, ld31, ld32, ld33, ld34, ld35, ld36, ld37, ld38, ld39, ld40, ld41, ld42, ld43, ld44, ld45, ld46, ld47, ld48, ld100, ld101, ld102, ld103, ld104, ld105, Rp_isLand_t h, Mo_isLand_t h1.mr h1.ro, Rp_isPlayer_t h, Mo_isPlayer_t h1.mr h1.ro, Rp_isSession_t h, Mo_isSession_t h1.mr h1.ro, Rp_isSeat_t h, Mo_isSeat_t h1.mr h1.ro, Rp_isChoice_t, Mo_isRole_t, h.q0, h.cr.L, h.cr.P, h.cr.S, h.cr.kp, h.cr.ld, h1.mr.L, h1.mr.P, h1.mr.S, h1.mr.kp, h1.mr.ld, en, Rp_isSession_f h hx, Mo_isSession_f h1.mr hx, Rp_isSeat_g h hx, Mo_isSeat_g h1.mr hx]
    exact ⟨_, _, rfl, rfl, hc⟩
  have o8 := h.ro.s hs
  rcases at_or (x := z) (n := R 3 s) (by omega) with ⟨t, ht, rfl⟩ | hx
  rotate_left
  · simp (disch := omega) only [bd_some, bd_none, lt_eq, lk_eq, fa_lit, nI_add, nI_mul, nI_sub, nle_t, nle_f, nlt_t, nlt_f, neq_t, neq_f, neg_ne, neg_ne', if_true, if_false, ite_true, ite_false, Nat.zero_add, Nat.add_zero, ld0, ld1, ld2, ld3, ld4, ld5, ld6, ld7, ld8, ld9, ld10, ld11, ld12, ld13, ld14, ld15, ld16, ld17, ld18, ld19, ld20, ld21, ld22, ld23, ld24, ld25, ld26, ld27, ld28, ld29, ld30, ld31, ld32, ld33, ld34, ld35, ld36, ld37, ld38, ld39, ld40, ld41, ld42, ld43, ld44, ld45, ld46, ld47, ld48, ld100, ld101, ld102, ld103, ld104, ld105, Rp_isLand_t h, Mo_isLand_t h1.mr h1.ro, Rp_isPlayer_t h, Mo_isPlayer_t h1.mr h1.ro, Rp_isSession_t h, Mo_isSession_t h1.mr h1.ro, Rp_isSeat_t h, Mo_isSeat_t h1.mr h1.ro, Rp_isChoice_t, Mo_isRole_t, h.q0, h.cr.L, h.cr.P, h.cr.S, h.cr.kp, h.cr.ld, h1.mr.L, h1.mr.P, h1.mr.S, h1.mr.kp, h1.mr.ld, en, Rp_isSeat_f h hs hx, Mo_isSeat_f h1.mr h1.ro hs hx]
    exact ⟨_, _, rfl, rfl, hc⟩
  simp (disch := omega) only [bd_some, bd_none, lt_eq, lk_eq, fa_lit, nI_add, nI_mul, nI_sub, nle_t, nle_f, nlt_t, nlt_f, neq_t, neq_f, neg_ne, neg_ne', if_true, if_false, ite_true, ite_false, Nat.zero_add, Nat.add_zero, ld0, ld1, ld2, ld3, ld4, ld5, ld6, ld7, ld8, ld9, ld10, ld11, ld12, ld13, ld14, ld15, ld16, ld17, ld18, ld19, ld20, ld21, ld22, ld23, ld24, ld25, ld26, ld27, ld28, ld29, ld30, ld31, ld32, ld33, ld34, ld35, ld36, ld37, ld38, ld39, ld40, ld41, ld42, ld43, ld44, ld45, ld46, ld47, ld48, ld100, ld101, ld102, ld103, ld104, ld105, Rp_isLand_t h, Mo_isLand_t h1.mr h1.ro, Rp_isPlayer_t h, Mo_isPlayer_t h1.mr h1.ro, Rp_isSession_t h, Mo_isSession_t h1.mr h1.ro, Rp_isSeat_t h, Mo_isSeat_t h1.mr h1.ro, Rp_isChoice_t, Mo_isRole_t, h.q0, h.cr.L, h.cr.P, h.cr.S, h.cr.kp, h.cr.ld, h1.mr.L, h1.mr.P, h1.mr.S, h1.mr.kp, h1.mr.ld, en, Rp_slotOf_eq, Mo_keptOf_eq, Bk_keptAtSlot_eq h.br, Mo_keptAt_eq]
  by_cases e1 : -nI 1 ≤ w
  rotate_left
  · simp only [e1, if_false]
    exact ⟨_, _, rfl, rfl, hc⟩
  by_cases e2 : w = -nI 1
  · simp only [e1, e2, if_true]
    exact ⟨_, _, rfl, rfl, hc⟩
  rcases at_or (x := w) (n := 9) (by omega) with ⟨a, ha, rfl⟩ | hx
  · simp (disch := omega) only [bd_some, bd_none, lt_eq, lk_eq, fa_lit, nI_add, nI_mul, nI_sub, nle_t, nle_f, nlt_t, nlt_f, neq_t, neq_f, neg_ne, neg_ne', if_true, if_false, ite_true, ite_false, Nat.zero_add, Nat.add_zero, ld0, ld1, ld2, ld3, ld4, ld5, ld6, ld7, ld8, ld9, ld10, ld11, ld12, ld13, ld14, ld15, ld16, ld17, ld18, ld19, ld20, ld21, ld22, ld23, ld24, ld25, ld26, ld27, ld28, ld29, ld30, ld31, ld32, ld33, ld34, ld35, ld36, ld37, ld38, ld39, ld40, ld41, ld42, ld43, ld44, ld45, ld46, ld47, ld48, ld100, ld101, ld102, ld103, ld104, ld105, e1, e2, h.br.kg, en]
    exact ⟨_, _, rfl, rfl, hc⟩
  · have e3 : nI 9 ≤ w := by
      rcases hx with q | q
      · exfalso
        have hm : (-nI 1).toInt = -1 := by decide
        rw [fa_le, hm] at e1
        rw [fa_lt, nI_toInt (by decide)] at q
        exact e2 ((fa_eq _ _).mpr (by rw [hm]; omega))
      · exact q
    simp only [e1, e2, e3, if_true, if_false]
    exact ⟨_, _, rfl, rfl, hc⟩
theorem kept_conv (z : ZO R ν) (ho : RO R) {l y : Nat} (hl : l < 6) (hy : y ≤ 9) : sI (fun j => sI (fun a => ν (204 + ((40 * l + j) * 9 + (y + a)))) (9 - y)) 40 = keptF R ν l y := by
  have o3 := ho.S
  unfold keptF
  refine (sI_rows _ 5 8).trans ?_
  have e : ∀ s t a, 204 + ((40 * l + (s * 5 + t)) * 9 + (y + a)) = 204 + 9 * (5 * (8 * l + s) + t) + (y + a) := fun s t a => by omega
  simp only [e]
  rw [sI_tail o3 (fun s s1 s2 => sI_zero (fun t ht => sI_zero (fun a ha => z.2.2.1 l s t (y + a) hl s2 ht (by omega) (Or.inr (Or.inl s1)))))]
  refine sI_cong (fun s hs => ?_)
  have o8 := ho.s hs
  exact sI_tail o8.2.1 (fun t t1 t2 => sI_zero (fun a ha => z.2.2.1 l s t (y + a) hl (by omega) t2 (by omega) (Or.inr (Or.inr (Or.inl t1)))))
theorem Bk_keptSince_eq {i l y : Nat} {x : Int32} (b : BR σ i R ν) (z : ZO R ν) (ho : RO R) (hl : l < 6) (hy : y ≤ 9) (hx : (if x < 0 then 0 else x) = nI y) : Bk_keptSince σ i (nI l) x = some (keptF R ν l y) := by
  rw [Bk_keptSince_eq' b hl hy hx, kept_conv z ho hl hy]
theorem Bk_keptIn_eq {i l : Nat} (b : BR σ i R ν) (hl : l < 6) : Bk_keptIn σ i (nI l) = some (sI (fun j => ν (204 + 360 * l + j)) 360) := by
  unfold Bk_keptIn
  rw [Bk_keptSince_eq' b hl (Nat.zero_le 9) (x := 0) (by decide), bd_some]
  refine congrArg some (Eq.trans ?_ (sI_rows (fun j => ν (204 + 360 * l + j)) 9 40).symm)
  refine sI_cong (fun j hj => sI_cong (fun a ha => ?_))
  exact congrArg ν (by omega)
theorem keptF_0 (z : ZO R ν) (ho : RO R) {l y : Nat} (hl : l < 6) (hy : R 0 5 ≤ y) : keptF R ν l y = nI 0 := by
  have o3 := ho.S
  refine sI_zero (fun s hs => sI_zero (fun t ht => sI_zero (fun a ha => z.2.2.1 l s t (y + a) hl (by omega) ?_ (by omega) (Or.inr (Or.inr (Or.inr (by omega)))))))
  have o8 := ho.s hs
  omega
theorem q_lapses (h : IV σ R) (x n : Int32) : QI (Rp_lapses σ x n) (Mo_lapses σ x n) σ := by
  obtain ⟨h1, hc, en⟩ := thr h 0
  have o1 := h.ro.L
  have o2 := h.ro.P
  have o3 := h.ro.S
  unfold Rp_lapses Mo_lapses
  rw [lt_eq]
  generalize setF σ 840 0 0 = s1 at *
  rcases at_or (x := x) (n := R 0 0) (by omega) with ⟨l, hl, rfl⟩ | hx
  rotate_left
  · simp (disch := omega) only [bd_some, bd_none, lt_eq, lk_eq, fa_lit, nI_add, nI_mul, nI_sub, nle_t, nle_f, nlt_t, nlt_f, neq_t, neq_f, neg_ne, neg_ne', if_true, if_false, ite_true, ite_false, Nat.zero_add, Nat.add_zero, ld0, ld1, ld2, ld3, ld4, ld5, ld6, ld7, ld8, ld9, ld10, ld11, ld12, ld13, ld14, ld15, ld16, ld17, ld18, ld19, ld20, ld21, ld22, ld23, ld24, ld25, ld26, ld27, ld28, ld29, ld30, ld31, ld32, ld33, ld34, ld35, ld36, ld37, ld38, ld39, ld40, ld41, ld42, ld43, ld44, ld45, ld46, ld47, ld48, ld100, ld101, ld102, ld103, ld104, ld105, Rp_isLand_t h, Mo_isLand_t h1.mr h1.ro, Rp_isPlayer_t h, Mo_isPlayer_t h1.mr h1.ro, Rp_isSession_t h, Mo_isSession_t h1.mr h1.ro, Rp_isSeat_t h, Mo_isSeat_t h1.mr h1.ro, Rp_isChoice_t, Mo_isRole_t, h.q0, h.cr.L, h.cr.P, h.cr.S, h.cr.kp, h.cr.ld, h1.mr.L, h1.mr.P, h1.mr.S, h1.mr.kp, h1.mr.ld, en, Rp_isLand_f h hx, Mo_isLand_f h1.mr hx]
    exact ⟨_, _, rfl, rfl, hc⟩
  have o5 := h.ro.kp
  simp (disch := omega) only [bd_some, bd_none, lt_eq, lk_eq, fa_lit, nI_add, nI_mul, nI_sub, nle_t, nle_f, nlt_t, nlt_f, neq_t, neq_f, neg_ne, neg_ne', if_true, if_false, ite_true, ite_false, Nat.zero_add, Nat.add_zero, ld0, ld1, ld2, ld3, ld4, ld5, ld6, ld7, ld8, ld9, ld10, ld11, ld12, ld13, ld14, ld15, ld16, ld17, ld18, ld19, ld20, ld21, ld22, ld23, ld24, ld25, ld26, ld27, ld28, ld29, ld30, ld31, ld32, ld33, ld34, ld35, ld36, ld37, ld38, ld39, ld40, ld41, ld42, ld43, ld44, ld45, ld46, ld47, ld48, ld100, ld101, ld102, ld103, ld104, ld105, Rp_isLand_t h, Mo_isLand_t h1.mr h1.ro, Rp_isPlayer_t h, Mo_isPlayer_t h1.mr h1.ro, Rp_isSession_t h, Mo_isSession_t h1.mr h1.ro, Rp_isSeat_t h, Mo_isSeat_t h1.mr h1.ro, Rp_isChoice_t, Mo_isRole_t, h.q0, h.cr.L, h.cr.P, h.cr.S, h.cr.kp, h.cr.ld, h1.mr.L, h1.mr.P, h1.mr.S, h1.mr.kp, h1.mr.ld, en]
  rcases at_or (x := n) (n := 10) (by omega) with ⟨m, hm, rfl⟩ | hx
  · by_cases e : m < 1
    · simp (disch := omega) only [bd_some, bd_none, lt_eq, lk_eq, fa_lit, nI_add, nI_mul, nI_sub, nle_t, nle_f, nlt_t, nlt_f, neq_t, neq_f, neg_ne, neg_ne', if_true, if_false, ite_true, ite_false, Nat.zero_add, Nat.add_zero, ld0, ld1, ld2, ld3, ld4, ld5, ld6, ld7, ld8, ld9, ld10, ld11, ld12, ld13, ld14, ld15, ld16, ld17, ld18, ld19, ld20, ld21, ld22, ld23, ld24, ld25, ld26, ld27, ld28, ld29, ld30, ld31, ld32, ld33, ld34, ld35, ld36, ld37, ld38, ld39, ld40, ld41, ld42, ld43, ld44, ld45, ld46, ld47, ld48, ld100, ld101, ld102, ld103, ld104, ld105]
      exact ⟨_, _, rfl, rfl, hc⟩
    · obtain ⟨c1, c2⟩ := clip (R 0 5) (by omega) m hm
      simp (disch := omega) only [bd_some, bd_none, lt_eq, lk_eq, fa_lit, nI_add, nI_mul, nI_sub, nle_t, nle_f, nlt_t, nlt_f, neq_t, neq_f, neg_ne, neg_ne', if_true, if_false, ite_true, ite_false, Nat.zero_add, Nat.add_zero, ld0, ld1, ld2, ld3, ld4, ld5, ld6, ld7, ld8, ld9, ld10, ld11, ld12, ld13, ld14, ld15, ld16, ld17, ld18, ld19, ld20, ld21, ld22, ld23, ld24, ld25, ld26, ld27, ld28, ld29, ld30, ld31, ld32, ld33, ld34, ld35, ld36, ld37, ld38, ld39, ld40, ld41, ld42, ld43, ld44, ld45, ld46, ld47, ld48, ld100, ld101, ld102, ld103, ld104, ld105, Bk_keptSince_eq h.br h.zo h.ro (show l < 6 by omega) (show R 0 5 - m ≤ 9 by omega) c1, Mo_keptFor_eq h1.mr h1.ro (show l < 6 by omega) (show R 0 5 - m ≤ 9 by omega) c2, en]
      exact ⟨_, _, rfl, rfl, hc⟩
  · by_cases e : n < nI 1
    · simp only [e, if_true]
      exact ⟨_, _, rfl, rfl, hc⟩
    · have e2 : nI 10 ≤ n := by
        rcases hx with q | q
        · exfalso
          apply e
          rw [fa_lt, nI_toInt (by decide)] at q ⊢
          omega
        · exact q
      have e3 : ¬ n ≤ nI 9 := fun q => of_eq_false (nle_f (show 9 < 10 by decide) (by decide)) (Int32.le_trans e2 q)
      have e4 : nI 9 < n := fa_of_nle e3
      simp only [e, e3, e4, if_true, if_false]
      exact ⟨_, _, rfl, rfl, hc⟩
def dnX (k : Nat) : Int32 := if k ≤ 8 then nI (8 - k) else -nI 1
theorem dnX_s : ∀ k, k < 9 → dnX k = nI (8 - k) ∧ nI (8 - k) + -nI 1 = dnX (k + 1) := by decide +kernel
theorem Bk_eldestKept_eq {i l : Nat} (b : BR σ i R ν) (z : ZO R ν) (ho : RO R) (hl : l < 6) : Bk_eldestKept σ i (nI l) = some (dnX (fd (fun k => !decide (keptF R ν l (8 - k) ≤ nI 0)) 9)) := by
  unfold Bk_eldestKept
  have e : ∀ k, k ≤ 8 → Bk_keptSince σ i (nI l) (nI (8 - k)) = some (keptF R ν l (8 - k)) := fun k hk => Bk_keptSince_eq b z ho hl (by omega) (clip0 (8 - k) (by omega)).1
  refine lp_find 9 (by decide) (fun k => !decide (keptF R ν l (8 - k) ≤ nI 0)) dnX (fun rec k hk hq => ?_) (fun rec k hk hq e2 => ?_) (fun rec e2 => ?_)
  · simp only [Bool.not_eq_false', decide_eq_true_eq] at hq
    rw [(dnX_s k hk).1]
    simp (disch := omega) only [bd_some, bd_none, lt_eq, lk_eq, fa_lit, nI_add, nI_mul, nI_sub, nle_t, nle_f, nlt_t, nlt_f, neq_t, neq_f, neg_ne, neg_ne', if_true, if_false, ite_true, ite_false, Nat.zero_add, Nat.add_zero, ld0, ld1, ld2, ld3, ld4, ld5, ld6, ld7, ld8, ld9, ld10, ld11, ld12, ld13, ld14, ld15, ld16, ld17, ld18, ld19, ld20, ld21, ld22, ld23, ld24, ld25, ld26, ld27, ld28, ld29, ld30, ld31, ld32, ld33, ld34, ld35, ld36, ld37, ld38, ld39, ld40, ld41, ld42, ld43, ld44, ld45, ld46, ld47, ld48, ld100, ld101, ld102, ld103, ld104, ld105, e k (by omega), hq, (dnX_s k hk).2]
  · simp only [Bool.not_eq_true', decide_eq_false_iff_not] at hq
    rw [← e2, (dnX_s k hk).1]
    simp (disch := omega) only [bd_some, bd_none, lt_eq, lk_eq, fa_lit, nI_add, nI_mul, nI_sub, nle_t, nle_f, nlt_t, nlt_f, neq_t, neq_f, neg_ne, neg_ne', if_true, if_false, ite_true, ite_false, Nat.zero_add, Nat.add_zero, ld0, ld1, ld2, ld3, ld4, ld5, ld6, ld7, ld8, ld9, ld10, ld11, ld12, ld13, ld14, ld15, ld16, ld17, ld18, ld19, ld20, ld21, ld22, ld23, ld24, ld25, ld26, ld27, ld28, ld29, ld30, ld31, ld32, ld33, ld34, ld35, ld36, ld37, ld38, ld39, ld40, ld41, ld42, ld43, ld44, ld45, ld46, ld47, ld48, ld100, ld101, ld102, ld103, ld104, ld105, e k (by omega), hq]
  · rw [e2]
    show (if dnX 9 < 0 then _ else _) = _
    rw [if_pos (by decide)]
    rfl
theorem q_nextLapse (h : IV σ R) (x : Int32) : QI (Rp_nextLapse σ x) (Mo_nextLapse σ x) σ := by
  obtain ⟨h1, hc, en⟩ := thr h 0
  have o1 := h.ro.L
  have o2 := h.ro.P
  have o3 := h.ro.S
  unfold Rp_nextLapse Mo_nextLapse
  rw [lt_eq]
  generalize setF σ 840 0 0 = s1 at *
  rcases at_or (x := x) (n := R 0 0) (by omega) with ⟨l, hl, rfl⟩ | hx
  rotate_left
  · simp (disch := omega) only [bd_some, bd_none, lt_eq, lk_eq, fa_lit, nI_add, nI_mul, nI_sub, nle_t, nle_f, nlt_t, nlt_f, neq_t, neq_f, neg_ne, neg_ne', if_true, if_false, ite_true, ite_false, Nat.zero_add, Nat.add_zero, ld0, ld1, ld2, ld3, ld4, ld5, ld6, ld7, ld8, ld9, ld10, ld11, ld12, ld13, ld14, ld15, ld16, ld17, ld18, ld19, ld20, ld21, ld22, ld23, ld24, ld25, ld26, ld27, ld28, ld29, ld30, ld31, ld32, ld33, ld34, ld35, ld36, ld37, ld38, ld39, ld40, ld41, ld42, ld43, ld44, ld45, ld46, ld47, ld48, ld100, ld101, ld102, ld103, ld104, ld105, Rp_isLand_t h, Mo_isLand_t h1.mr h1.ro, Rp_isPlayer_t h, Mo_isPlayer_t h1.mr h1.ro, Rp_isSession_t h, Mo_isSession_t h1.mr h1.ro, Rp_isSeat_t h, Mo_isSeat_t h1.mr h1.ro, Rp_isChoice_t, Mo_isRole_t, h.q0, h.cr.L, h.cr.P, h.cr.S, h.cr.kp, h.cr.ld, h1.mr.L, h1.mr.P, h1.mr.S, h1.mr.kp, h1.mr.ld, en, Rp_isLand_f h hx, Mo_isLand_f h1.mr hx]
    exact ⟨_, _, rfl, rfl, hc⟩
  have o5 := h.ro.kp
  simp (disch := omega) only [bd_some, bd_none, lt_eq, lk_eq, fa_lit, nI_add, nI_mul, nI_sub, nle_t, nle_f, nlt_t, nlt_f, neq_t, neq_f, neg_ne, neg_ne', if_true, if_false, ite_true, ite_false, Nat.zero_add, Nat.add_zero, ld0, ld1, ld2, ld3, ld4, ld5, ld6, ld7, ld8, ld9, ld10, ld11, ld12, ld13, ld14, ld15, ld16, ld17, ld18, ld19, ld20, ld21, ld22, ld23, ld24, ld25, ld26, ld27, ld28, ld29, ld30, ld31, ld32, ld33, ld34, ld35, ld36, ld37, ld38, ld39, ld40, ld41, ld42, ld43, ld44, ld45, ld46, ld47, ld48, ld100, ld101, ld102, ld103, ld104, ld105, Rp_isLand_t h, Mo_isLand_t h1.mr h1.ro, Rp_isPlayer_t h, Mo_isPlayer_t h1.mr h1.ro, Rp_isSession_t h, Mo_isSession_t h1.mr h1.ro, Rp_isSeat_t h, Mo_isSeat_t h1.mr h1.ro, Rp_isChoice_t, Mo_isRole_t, h.q0, h.cr.L, h.cr.P, h.cr.S, h.cr.kp, h.cr.ld, h1.mr.L, h1.mr.P, h1.mr.S, h1.mr.kp, h1.mr.ld, en, Bk_eldestKept_eq h.br h.zo h.ro]
  have sh := fd_shift (q := fun k => !decide (keptF R (σ.1 34 0) l (8 - k) ≤ nI 0)) (d := 9 - R 0 5) (fun k hk => by
    simp only [keptF_0 h.zo h.ro (show l < 6 by omega) (show R 0 5 ≤ 8 - k by omega)]; decide) (R 0 5)
  rw [show 9 - R 0 5 + R 0 5 = 9 by omega] at sh
  rw [sh]
  have ec : (fun k => !decide (keptF R (σ.1 34 0) l (8 - (9 - R 0 5 + k)) ≤ nI 0)) = fun k => !decide (keptF R (σ.1 34 0) l (R 0 5 - (1 + k)) ≤ nI 0) := funext fun k => by rw [show 8 - (9 - R 0 5 + k) = R 0 5 - (1 + k) by omega]
  rw [ec]
  have lr := fd_le (fun k => !decide (keptF R (σ.1 34 0) l (R 0 5 - (1 + k)) ≤ nI 0)) (R 0 5)
  refine ⟨if fd (fun k => !decide (keptF R (σ.1 34 0) l (R 0 5 - (1 + k)) ≤ nI 0)) (R 0 5) < R 0 5 then nI (1 + fd (fun k => !decide (keptF R (σ.1 34 0) l (R 0 5 - (1 + k)) ≤ nI 0)) (R 0 5)) else -nI 2, s1, ?_, ?_, hc⟩
  · generalize fd (fun k => !decide (keptF R (σ.1 34 0) l (R 0 5 - (1 + k)) ≤ nI 0)) (R 0 5) = f at lr ⊢
    by_cases c : f < R 0 5
    · rw [(dnX_s (9 - R 0 5 + f) (by omega)).1]
      simp (disch := omega) only [bd_some, bd_none, lt_eq, lk_eq, fa_lit, nI_add, nI_mul, nI_sub, nle_t, nle_f, nlt_t, nlt_f, neq_t, neq_f, neg_ne, neg_ne', if_true, if_false, ite_true, ite_false, Nat.zero_add, Nat.add_zero, ld0, ld1, ld2, ld3, ld4, ld5, ld6, ld7, ld8, ld9, ld10, ld11, ld12, ld13, ld14, ld15, ld16, ld17, ld18, ld19, ld20, ld21, ld22, ld23, ld24, ld25, ld26, ld27, ld28, ld29, ld30, ld31, ld32, ld33, ld34, ld35, ld36, ld37, ld38, ld39, ld40, ld41, ld42, ld43, ld44, ld45, ld46, ld47, ld48, ld100, ld101, ld102, ld103, ld104, ld105, Rp_isLand_t h, Mo_isLand_t h1.mr h1.ro, Rp_isPlayer_t h, Mo_isPlayer_t h1.mr h1.ro, Rp_isSession_t h, Mo_isSession_t h1.mr h1.ro, Rp_isSeat_t h, Mo_isSeat_t h1.mr h1.ro, Rp_isChoice_t, Mo_isRole_t, h.q0, h.cr.L, h.cr.P, h.cr.S, h.cr.kp, h.cr.ld, h1.mr.L, h1.mr.P, h1.mr.S, h1.mr.kp, h1.mr.ld, en, c]
      exact congrArg (fun x => some (nI x)) (by omega)
    · rw [show 9 - R 0 5 + f = 9 by omega, show dnX 9 = -nI 1 from rfl]
      simp only [neg_ge0 (show 0 < 1 ∧ 1 < 2147483648 by decide), c, if_false]
  · have e : ∀ k, k < R 0 5 → Mo_keptFor s1 (nI l) (nI (R 0 5 - (1 + k))) = some (keptF R (σ.1 34 0) l (R 0 5 - (1 + k))) := fun k hk => by
      rw [← en]
      exact Mo_keptFor_eq h1.mr h1.ro (by omega) (by omega) (clip0 (R 0 5 - (1 + k)) (by omega)).2
    refine lp_find (R 0 5) (by omega) (fun k => !decide (keptF R (σ.1 34 0) l (R 0 5 - (1 + k)) ≤ nI 0)) (fun k => nI (1 + k)) (fun rec k hk hq => ?_) (fun rec k hk hq e2 => ?_) (fun rec e2 => ?_)
    · simp only [Bool.not_eq_false', decide_eq_true_eq] at hq
      simp (disch := omega) only [bd_some, bd_none, lt_eq, lk_eq, fa_lit, nI_add, nI_mul, nI_sub, nle_t, nle_f, nlt_t, nlt_f, neq_t, neq_f, neg_ne, neg_ne', if_true, if_false, ite_true, ite_false, Nat.zero_add, Nat.add_zero, ld0, ld1, ld2, ld3, ld4, ld5, ld6, ld7, ld8, ld9, ld10, ld11, ld12, ld13, ld14, ld15, ld16, ld17, ld18, ld19, ld20, ld21, ld22, ld23, ld24, ld25, ld26, ld27, ld28, ld29, ld30, ld31, ld32, ld33, ld34, ld35, ld36, ld37, ld38, ld39, ld40, ld41, ld42, ld43, ld44, ld45, ld46, ld47, ld48, ld100, ld101, ld102, ld103, ld104, ld105, Rp_isLand_t h, Mo_isLand_t h1.mr h1.ro, Rp_isPlayer_t h, Mo_isPlayer_t h1.mr h1.ro, Rp_isSession_t h, Mo_isSession_t h1.mr h1.ro, Rp_isSeat_t h, Mo_isSeat_t h1.mr h1.ro, Rp_isChoice_t, Mo_isRole_t, h.q0, h.cr.L, h.cr.P, h.cr.S, h.cr.kp, h.cr.ld, h1.mr.L, h1.mr.P, h1.mr.S, h1.mr.kp, h1.mr.ld, en, e k hk, hq]
      rw [Nat.add_assoc]
    · simp only [Bool.not_eq_true', decide_eq_false_iff_not] at hq
      rw [← e2]
      simp (disch := omega) only [bd_some, bd_none, lt_eq, lk_eq, fa_lit, nI_add, nI_mul, nI_sub, nle_t, nle_f, nlt_t, nlt_f, neq_t, neq_f, neg_ne, neg_ne', if_true, if_false, ite_true, ite_false, Nat.zero_add, Nat.add_zero, ld0, ld1, ld2, ld3, ld4, ld5, ld6, ld7, ld8, ld9, ld10, ld11, ld12, ld13, ld14, ld15, ld16, ld17, ld18, ld19, ld20, ld21, ld22, ld23, ld24, ld25, ld26, ld27, ld28, ld29, ld30, ld31, ld32, ld33, ld34, ld35, ld36, ld37, ld38, ld39, ld40, ld41, ld42, ld43, ld44, ld45, ld46, ld47, ld48, ld100, ld101, ld102, ld103, ld104, ld105, Rp_isLand_t h, Mo_isLand_t h1.mr h1.ro, Rp_isPlayer_t h, Mo_isPlayer_t h1.mr h1.ro, Rp_isSession_t h, Mo_isSession_t h1.mr h1.ro, Rp_isSeat_t h, Mo_isSeat_t h1.mr h1.ro, Rp_isChoice_t, Mo_isRole_t, h.q0, h.cr.L, h.cr.P, h.cr.S, h.cr.kp, h.cr.ld, h1.mr.L, h1.mr.P, h1.mr.S, h1.mr.kp, h1.mr.ld, en, e k hk, hq, hk]
    · rw [e2]
      simp (disch := omega) only [bd_some, bd_none, lt_eq, lk_eq, fa_lit, nI_add, nI_mul, nI_sub, nle_t, nle_f, nlt_t, nlt_f, neq_t, neq_f, neg_ne, neg_ne', if_true, if_false, ite_true, ite_false, Nat.zero_add, Nat.add_zero, ld0, ld1, ld2, ld3, ld4, ld5, ld6, ld7, ld8, ld9, ld10, ld11, ld12, ld13, ld14, ld15, ld16, ld17, ld18, ld19, ld20, ld21, ld22, ld23, ld24, ld25, ld26, ld27, ld28, ld29, ld30, ld31, ld32, ld33, ld34, ld35, ld36, ld37, ld38, ld39, ld40, ld41, ld42, ld43, ld44, ld45, ld46, ld47, ld48, ld100, ld101, ld102, ld103, ld104, ld105, Rp_isLand_t h, Mo_isLand_t h1.mr h1.ro, Rp_isPlayer_t h, Mo_isPlayer_t h1.mr h1.ro, Rp_isSession_t h, Mo_isSession_t h1.mr h1.ro, Rp_isSeat_t h, Mo_isSeat_t h1.mr h1.ro, Rp_isChoice_t, Mo_isRole_t, h.q0, h.cr.L, h.cr.P, h.cr.S, h.cr.kp, h.cr.ld, h1.mr.L, h1.mr.P, h1.mr.S, h1.mr.kp, h1.mr.ld, en, Nat.lt_irrefl]
theorem q_late (h : IV σ R) (x : Int32) : QI (Rp_late σ x) (Mo_late σ x) σ := by
  obtain ⟨h1, hc, en⟩ := thr h 0
  have o1 := h.ro.L
  have o2 := h.ro.P
  have o3 := h.ro.S
  unfold Rp_late Mo_late
  rw [lt_eq]
  generalize setF σ 840 0 0 = s1 at *
  rcases at_or (x := x) (n := R 0 2) (by omega) with ⟨s, hs, rfl⟩ | hx
  rotate_left
  · simp (disch := omega) only [bd_some, bd_none, lt_eq, lk_eq, fa_lit, nI_add, nI_mul, nI_sub, nle_t, nle_f, nlt_t, nlt_f, neq_t, neq_f, neg_ne, neg_ne', if_true, if_false, ite_true, ite_false, Nat.zero_add, Nat.add_zero, ld0, ld1, ld2, ld3, ld4, ld5, ld6, ld7, ld8, ld9, ld10, ld11, ld12, ld13, ld14, ld15, ld16, ld17, ld18, ld19, ld20, ld21, ld22, ld23, ld24, ld25, ld26, ld27, ld28, ld29, ld30, ld31, ld32, ld33, ld34, ld35, ld36, ld37, ld38, ld39, ld40, ld41, ld42, ld43, ld44, ld45, ld46, ld47, ld48, ld100, ld101, ld102, ld103, ld104, ld105, Rp_isLand_t h, Mo_isLand_t h1.mr h1.ro, Rp_isPlayer_t h, Mo_isPlayer_t h1.mr h1.ro, Rp_isSession_t h, Mo_isSession_t h1.mr h1.ro, Rp_isSeat_t h, Mo_isSeat_t h1.mr h1.ro, Rp_isChoice_t, Mo_isRole_t, h.q0, h.cr.L, h.cr.P, h.cr.S, h.cr.kp, h.cr.ld, h1.mr.L, h1.mr.P, h1.mr.S, h1.mr.kp, h1.mr.ld, en, Rp_isSession_f h hx, Mo_isSession_f h1.mr hx, Rp_isSeat_g h hx, Mo_isSeat_g h1.mr hx]
    exact ⟨_, _, rfl, rfl, hc⟩
  have o8 := h.ro.s hs
  simp (disch := omega) only [bd_some, bd_none, lt_eq, lk_eq, fa_lit, nI_add, nI_mul, nI_sub, nle_t, nle_f, nlt_t, nlt_f, neq_t, neq_f, neg_ne, neg_ne', if_true, if_false, ite_true, ite_false, Nat.zero_add, Nat.add_zero, ld0, ld1, ld2, ld3, ld4, ld5, ld6, ld7, ld8, ld9, ld10, ld11, ld12, ld13, ld14, ld15, ld16, ld17, ld18, ld19, ld20, ld21, ld22, ld23, ld24, ld25, ld26, ld27, ld28, ld29, ld30, ld31, ld32, ld33, ld34, ld35, ld36, ld37, ld38, ld39, ld40, ld41, ld42, ld43, ld44, ld45, ld46, ld47, ld48, ld100, ld101, ld102, ld103, ld104, ld105, Rp_isLand_t h, Mo_isLand_t h1.mr h1.ro, Rp_isPlayer_t h, Mo_isPlayer_t h1.mr h1.ro, Rp_isSession_t h, Mo_isSession_t h1.mr h1.ro, Rp_isSeat_t h, Mo_isSeat_t h1.mr h1.ro, Rp_isChoice_t, Mo_isRole_t, h.q0, h.cr.L, h.cr.P, h.cr.S, h.cr.kp, h.cr.ld, h1.mr.L, h1.mr.P, h1.mr.S, h1.mr.kp, h1.mr.ld, en, Wo_firstOpen_eq h.cr h.br.W h.ro h.ho hs, Mo_openSeat_eq h1.mr h1.ro hs]
  rcases seatP_or (R := R) (ν := σ.1 34 0) (s := s) with e | ⟨t, ht, e, -⟩
  · simp only [e, neg_ge0 (show 0 < 1 ∧ 1 < 2147483648 by decide), if_false, if_true]
    exact ⟨_, _, rfl, rfl, hc⟩
  · simp only [e]
    simp (disch := omega) only [bd_some, bd_none, lt_eq, lk_eq, fa_lit, nI_add, nI_mul, nI_sub, nle_t, nle_f, nlt_t, nlt_f, neq_t, neq_f, neg_ne, neg_ne', if_true, if_false, ite_true, ite_false, Nat.zero_add, Nat.add_zero, ld0, ld1, ld2, ld3, ld4, ld5, ld6, ld7, ld8, ld9, ld10, ld11, ld12, ld13, ld14, ld15, ld16, ld17, ld18, ld19, ld20, ld21, ld22, ld23, ld24, ld25, ld26, ld27, ld28, ld29, ld30, ld31, ld32, ld33, ld34, ld35, ld36, ld37, ld38, ld39, ld40, ld41, ld42, ld43, ld44, ld45, ld46, ld47, ld48, ld100, ld101, ld102, ld103, ld104, ld105]
    refine ⟨sI (fun l => σ.1 34 0 (2364 + 5 * (8 * l + s) + t)) (R 0 0), s1, ?_, ?_, hc⟩
    · refine lp_run (R 0 0) (by omega) (fun k => (sI (fun l => σ.1 34 0 (2364 + 5 * (8 * l + s) + t)) k, nI k)) (fun rec k hk => ?_) (fun rec => ?_)
      · simp (disch := omega) only [bd_some, bd_none, lt_eq, lk_eq, fa_lit, nI_add, nI_mul, nI_sub, nle_t, nle_f, nlt_t, nlt_f, neq_t, neq_f, neg_ne, neg_ne', if_true, if_false, ite_true, ite_false, Nat.zero_add, Nat.add_zero, ld0, ld1, ld2, ld3, ld4, ld5, ld6, ld7, ld8, ld9, ld10, ld11, ld12, ld13, ld14, ld15, ld16, ld17, ld18, ld19, ld20, ld21, ld22, ld23, ld24, ld25, ld26, ld27, ld28, ld29, ld30, ld31, ld32, ld33, ld34, ld35, ld36, ld37, ld38, ld39, ld40, ld41, ld42, ld43, ld44, ld45, ld46, ld47, ld48, ld100, ld101, ld102, ld103, ld104, ld105, Rp_isLand_t h, Mo_isLand_t h1.mr h1.ro, Rp_isPlayer_t h, Mo_isPlayer_t h1.mr h1.ro, Rp_isSession_t h, Mo_isSession_t h1.mr h1.ro, Rp_isSeat_t h, Mo_isSeat_t h1.mr h1.ro, Rp_isChoice_t, Mo_isRole_t, h.q0, h.cr.L, h.cr.P, h.cr.S, h.cr.kp, h.cr.ld, h1.mr.L, h1.mr.P, h1.mr.S, h1.mr.kp, h1.mr.ld, en, Rp_slotOf_eq, h.br.lp, sI_succ]
      · simp (disch := omega) only [bd_some, bd_none, lt_eq, lk_eq, fa_lit, nI_add, nI_mul, nI_sub, nle_t, nle_f, nlt_t, nlt_f, neq_t, neq_f, neg_ne, neg_ne', if_true, if_false, ite_true, ite_false, Nat.zero_add, Nat.add_zero, ld0, ld1, ld2, ld3, ld4, ld5, ld6, ld7, ld8, ld9, ld10, ld11, ld12, ld13, ld14, ld15, ld16, ld17, ld18, ld19, ld20, ld21, ld22, ld23, ld24, ld25, ld26, ld27, ld28, ld29, ld30, ld31, ld32, ld33, ld34, ld35, ld36, ld37, ld38, ld39, ld40, ld41, ld42, ld43, ld44, ld45, ld46, ld47, ld48, ld100, ld101, ld102, ld103, ld104, ld105, Rp_isLand_t h, Mo_isLand_t h1.mr h1.ro, Rp_isPlayer_t h, Mo_isPlayer_t h1.mr h1.ro, Rp_isSession_t h, Mo_isSession_t h1.mr h1.ro, Rp_isSeat_t h, Mo_isSeat_t h1.mr h1.ro, Rp_isChoice_t, Mo_isRole_t, h.q0, h.cr.L, h.cr.P, h.cr.S, h.cr.kp, h.cr.ld, h1.mr.L, h1.mr.P, h1.mr.S, h1.mr.kp, h1.mr.ld, en]
    · refine lp_run (R 0 0) (by omega) (fun k => (sI (fun l => σ.1 34 0 (2364 + 5 * (8 * l + s) + t)) k, nI k)) (fun rec k hk => ?_) (fun rec => ?_)
      · simp (disch := omega) only [bd_some, bd_none, lt_eq, lk_eq, fa_lit, nI_add, nI_mul, nI_sub, nle_t, nle_f, nlt_t, nlt_f, neq_t, neq_f, neg_ne, neg_ne', if_true, if_false, ite_true, ite_false, Nat.zero_add, Nat.add_zero, ld0, ld1, ld2, ld3, ld4, ld5, ld6, ld7, ld8, ld9, ld10, ld11, ld12, ld13, ld14, ld15, ld16, ld17, ld18, ld19, ld20, ld21, ld22, ld23, ld24, ld25, ld26, ld27, ld28, ld29, ld30, ld31, ld32, ld33, ld34, ld35, ld36, ld37, ld38, ld39, ld40, ld41, ld42, ld43, ld44, ld45, ld46, ld47, ld48, ld100, ld101, ld102, ld103, ld104, ld105, Rp_isLand_t h, Mo_isLand_t h1.mr h1.ro, Rp_isPlayer_t h, Mo_isPlayer_t h1.mr h1.ro, Rp_isSession_t h, Mo_isSession_t h1.mr h1.ro, Rp_isSeat_t h, Mo_isSeat_t h1.mr h1.ro, Rp_isChoice_t, Mo_isRole_t, h.q0, h.cr.L, h.cr.P, h.cr.S, h.cr.kp, h.cr.ld, h1.mr.L, h1.mr.P, h1.mr.S, h1.mr.kp, h1.mr.ld, en, Mo_lapsedAt_eq, sI_succ]
      · simp (disch := omega) only [bd_some, bd_none, lt_eq, lk_eq, fa_lit, nI_add, nI_mul, nI_sub, nle_t, nle_f, nlt_t, nlt_f, neq_t, neq_f, neg_ne, neg_ne', if_true, if_false, ite_true, ite_false, Nat.zero_add, Nat.add_zero, ld0, ld1, ld2, ld3, ld4, ld5, ld6, ld7, ld8, ld9, ld10, ld11, ld12, ld13, ld14, ld15, ld16, ld17, ld18, ld19, ld20, ld21, ld22, ld23, ld24, ld25, ld26, ld27, ld28, ld29, ld30, ld31, ld32, ld33, ld34, ld35, ld36, ld37, ld38, ld39, ld40, ld41, ld42, ld43, ld44, ld45, ld46, ld47, ld48, ld100, ld101, ld102, ld103, ld104, ld105, Rp_isLand_t h, Mo_isLand_t h1.mr h1.ro, Rp_isPlayer_t h, Mo_isPlayer_t h1.mr h1.ro, Rp_isSession_t h, Mo_isSession_t h1.mr h1.ro, Rp_isSeat_t h, Mo_isSeat_t h1.mr h1.ro, Rp_isChoice_t, Mo_isRole_t, h.q0, h.cr.L, h.cr.P, h.cr.S, h.cr.kp, h.cr.ld, h1.mr.L, h1.mr.P, h1.mr.S, h1.mr.kp, h1.mr.ld, en]
theorem q_across (h : IV σ R) (x y z : Int32) : QI (Rp_across σ x y z) (Mo_across σ x y z) σ := by
  obtain ⟨h1, hc, en⟩ := thr h 0
  have o1 := h.ro.L
  have o2 := h.ro.P
  have o3 := h.ro.S
  unfold Rp_across Mo_across
  rw [lt_eq]
  generalize setF σ 840 0 0 = s1 at *
  rcases at_or (x := x) (n := R 0 0) (by omega) with ⟨l, hl, rfl⟩ | hx
  rotate_left
  · simp (disch := omega) only [bd_some, bd_none, lt_eq, lk_eq, fa_lit, nI_add, nI_mul, nI_sub, nle_t, nle_f, nlt_t, nlt_f, neq_t, neq_f, neg_ne, neg_ne', if_true, if_false, ite_true, ite_false, Nat.zero_add, Nat.add_zero, ld0, ld1, ld2, ld3, ld4, ld5, ld6, ld7, ld8, ld9, ld10, ld11, ld12, ld13, ld14, ld15, ld16, ld17, ld18, ld19, ld20, ld21, ld22, ld23, ld24, ld25, ld26, ld27, ld28, ld29, ld30, ld31, ld32, ld33, ld34, ld35, ld36, ld37, ld38, ld39, ld40, ld41, ld42, ld43, ld44, ld45, ld46, ld47, ld48, ld100, ld101, ld102, ld103, ld104, ld105, Rp_isLand_t h, Mo_isLand_t h1.mr h1.ro, Rp_isPlayer_t h, Mo_isPlayer_t h1.mr h1.ro, Rp_isSession_t h, Mo_isSession_t h1.mr h1.ro, Rp_isSeat_t h, Mo_isSeat_t h1.mr h1.ro, Rp_isChoice_t, Mo_isRole_t, h.q0, h.cr.L, h.cr.P, h.cr.S, h.cr.kp, h.cr.ld, h1.mr.L, h1.mr.P, h1.mr.S, h1.mr.kp, h1.mr.ld, en, Rp_isLand_f h hx, Mo_isLand_f h1.mr hx]
    exact ⟨_, _, rfl, rfl, hc⟩
  rcases at_or (x := y) (n := R 0 0) (by omega) with ⟨o, ho, rfl⟩ | hx
  rotate_left
  · simp (disch := omega) only [bd_some, bd_none, lt_eq, lk_eq, fa_lit, nI_add, nI_mul, nI_sub, nle_t, nle_f, nlt_t, nlt_f, neq_t, neq_f, neg_ne, neg_ne', if_true, if_false, ite_true, ite_false, Nat.zero_add, Nat.add_zero, ld0, ld1, ld2, ld3, ld4, ld5, ld6, ld7, ld8, ld9, ld10, ld11, ld12, ld13, ld14, ld15, ld16, ld17, ld18, ld19, ld20, ld21, ld22, ld23, ld24, ld25, ld26, ld27, ld28, ld29, ld30, ld31, ld32, ld33, ld34, ld35, ld36, ld37, ld38, ld39, ld40, ld41, ld42, ld43, ld44, ld45, ld46, ld47, ld48, ld100, ld101, ld102, ld103, ld104, ld105, Rp_isLand_t h, Mo_isLand_t h1.mr h1.ro, Rp_isPlayer_t h, Mo_isPlayer_t h1.mr h1.ro, Rp_isSession_t h, Mo_isSession_t h1.mr h1.ro, Rp_isSeat_t h, Mo_isSeat_t h1.mr h1.ro, Rp_isChoice_t, Mo_isRole_t, h.q0, h.cr.L, h.cr.P, h.cr.S, h.cr.kp, h.cr.ld, h1.mr.L, h1.mr.P, h1.mr.S, h1.mr.kp, h1.mr.ld, en, Rp_isLand_f h hx, Mo_isLand_f h1.mr hx]
    exact ⟨_, _, rfl, rfl, hc⟩
  simp (disch := omega) only [bd_some, bd_none, lt_eq, lk_eq, fa_lit, nI_add, nI_mul, nI_sub, nle_t, nle_f, nlt_t, nlt_f, neq_t, neq_f, neg_ne, neg_ne', if_true, if_false, ite_true, ite_false, Nat.zero_add, Nat.add_zero, ld0, ld1, ld2, ld3, ld4, ld5, ld6, ld7, ld8, ld9, ld10, ld11, ld12, ld13, ld14, ld15, ld16, ld17, ld18, ld19, ld20, ld21, ld22, ld23, ld24, ld25, ld26, ld27, ld28, ld29, ld30, ld31, ld32, ld33, ld34, ld35, ld36, ld37, ld38, ld39, ld40, ld41, ld42, ld43, ld44, ld45, ld46, ld47, ld48, ld100, ld101, ld102, ld103, ld104, ld105, Rp_isLand_t h, Mo_isLand_t h1.mr h1.ro, Rp_isPlayer_t h, Mo_isPlayer_t h1.mr h1.ro, Rp_isSession_t h, Mo_isSession_t h1.mr h1.ro, Rp_isSeat_t h, Mo_isSeat_t h1.mr h1.ro, Rp_isChoice_t, Mo_isRole_t, h.q0, h.cr.L, h.cr.P, h.cr.S, h.cr.kp, h.cr.ld, h1.mr.L, h1.mr.P, h1.mr.S, h1.mr.kp, h1.mr.ld, en, Bk_paidAcross_eq h.cr h.br h.ro, Mo_paidOver_eq h1.mr h1.ro]
  by_cases e : z = nI 0 <;> simp only [e, if_true, if_false]
  · exact ⟨_, _, rfl, congrArg some (Prod.ext (Int32.sub_zero _) rfl), hc⟩
  · exact ⟨_, _, rfl, rfl, hc⟩
theorem q_net (h : IV σ R) (x : Int32) : QI (Rp_net σ x) (Mo_net σ x) σ := by
  obtain ⟨h1, hc, en⟩ := thr h 0
  have o1 := h.ro.L
  have o2 := h.ro.P
  have o3 := h.ro.S
  unfold Rp_net Mo_net
  rw [lt_eq]
  generalize setF σ 840 0 0 = s1 at *
  rcases at_or (x := x) (n := R 0 0) (by omega) with ⟨l, hl, rfl⟩ | hx
  rotate_left
  · simp (disch := omega) only [bd_some, bd_none, lt_eq, lk_eq, fa_lit, nI_add, nI_mul, nI_sub, nle_t, nle_f, nlt_t, nlt_f, neq_t, neq_f, neg_ne, neg_ne', if_true, if_false, ite_true, ite_false, Nat.zero_add, Nat.add_zero, ld0, ld1, ld2, ld3, ld4, ld5, ld6, ld7, ld8, ld9, ld10, ld11, ld12, ld13, ld14, ld15, ld16, ld17, ld18, ld19, ld20, ld21, ld22, ld23, ld24, ld25, ld26, ld27, ld28, ld29, ld30, ld31, ld32, ld33, ld34, ld35, ld36, ld37, ld38, ld39, ld40, ld41, ld42, ld43, ld44, ld45, ld46, ld47, ld48, ld100, ld101, ld102, ld103, ld104, ld105, Rp_isLand_t h, Mo_isLand_t h1.mr h1.ro, Rp_isPlayer_t h, Mo_isPlayer_t h1.mr h1.ro, Rp_isSession_t h, Mo_isSession_t h1.mr h1.ro, Rp_isSeat_t h, Mo_isSeat_t h1.mr h1.ro, Rp_isChoice_t, Mo_isRole_t, h.q0, h.cr.L, h.cr.P, h.cr.S, h.cr.kp, h.cr.ld, h1.mr.L, h1.mr.P, h1.mr.S, h1.mr.kp, h1.mr.ld, en, Rp_isLand_f h hx, Mo_isLand_f h1.mr hx]
    exact ⟨_, _, rfl, rfl, hc⟩
  simp (disch := omega) only [bd_some, bd_none, lt_eq, lk_eq, fa_lit, nI_add, nI_mul, nI_sub, nle_t, nle_f, nlt_t, nlt_f, neq_t, neq_f, neg_ne, neg_ne', if_true, if_false, ite_true, ite_false, Nat.zero_add, Nat.add_zero, ld0, ld1, ld2, ld3, ld4, ld5, ld6, ld7, ld8, ld9, ld10, ld11, ld12, ld13, ld14, ld15, ld16, ld17, ld18, ld19, ld20, ld21, ld22, ld23, ld24, ld25, ld26, ld27, ld28, ld29, ld30, ld31, ld32, ld33, ld34, ld35, ld36, ld37, ld38, ld39, ld40, ld41, ld42, ld43, ld44, ld45, ld46, ld47, ld48, ld100, ld101, ld102, ld103, ld104, ld105, Rp_isLand_t h, Mo_isLand_t h1.mr h1.ro, Rp_isPlayer_t h, Mo_isPlayer_t h1.mr h1.ro, Rp_isSession_t h, Mo_isSession_t h1.mr h1.ro, Rp_isSeat_t h, Mo_isSeat_t h1.mr h1.ro, Rp_isChoice_t, Mo_isRole_t, h.q0, h.cr.L, h.cr.P, h.cr.S, h.cr.kp, h.cr.ld, h1.mr.L, h1.mr.P, h1.mr.S, h1.mr.kp, h1.mr.ld, en, Bk_netOf_eq h.cr h.br h.ro, Mo_netOf_eq h1.mr h1.ro]
  exact ⟨_, _, rfl, rfl, hc⟩
end Q3

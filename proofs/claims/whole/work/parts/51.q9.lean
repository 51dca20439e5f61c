/-! ===== queries: a round, the best terms, the best home ===== -/
section Q9
variable {σ τ : ST} {R : RT} {ν : NU}
theorem Mo_inl_eq {l f : Nat} (h : MR σ R) (ho : RO R) (hv : HO R (σ.1 34 0)) (hl : l < R 0 0) (hf : f < 3) : ∃ τ, FrK r47 σ τ ∧ lp_ (fun rec4 (z3 : ST × Int32 × Int32) => (if (gF z3.1 852 0) ≤ z3.2.2 then some (z3.2.1, z3.1) else bd_ (ldI z3.1 29 0 (nI l)) (fun v6 => bd_ (Mo_sumOf z3.1 (nI l) z3.2.2 (nI 1000 * v6) (nI f)) (fun q10 => rec4 (q10.2, z3.2.1 + q10.1, (z3.2.2 + nI 1)))))) FU (σ, nI 0, nI 0) = some (inlP R (σ.1 34 0) l f, τ) := by
  have o1 := ho.L
  have o3 := ho.S
  obtain ⟨z, ⟨hz1, hz2⟩, rec, ez⟩ := lp_invG (β := Int32 × ST) (z0 := (σ, nI 0, nI 0)) (step := fun rec4 (z3 : ST × Int32 × Int32) => (if (gF z3.1 852 0) ≤ z3.2.2 then some (z3.2.1, z3.1) else bd_ (ldI z3.1 29 0 (nI l)) (fun v6 => bd_ (Mo_sumOf z3.1 (nI l) z3.2.2 (nI 1000 * v6) (nI f)) (fun q10 => rec4 (q10.2, z3.2.1 + q10.1, (z3.2.2 + nI 1)))))) (R 0 2) (by omega) (fun s z => FrK r47 σ z.1 ∧ z.2 = (sI (fun s => sumFP R (σ.1 34 0) l s (1000 * R 1 l) f) s, nI s)) ⟨FrK.rf _, rfl⟩ (by
    rintro rec s ⟨t, a⟩ hs ⟨ft, ha⟩
    have ha : a = _ := ha
    subst ha
    have ft : FrK r47 σ t := ft
    have mt := h.f47 ft
    have n1 : t.1 34 0 = σ.1 34 0 := ft.2 34 0 rfl
    have e1 := Mo_sumOf_eq (f := f) mt ho (by rw [n1]; exact hv) hl hs (rt1000 ho hl) hf
    rw [n1] at e1
    refine ⟨(shS t R s (1000 * R 1 l), sI (fun s => sumFP R (σ.1 34 0) l s (1000 * R 1 l) f) (s + 1), nI (s + 1)), ⟨ft.tr (shS_fr _ _), rfl⟩, ?_⟩
    simp (disch := omega) only [bd_some, bd_none, lt_eq, lk_eq, fa_lit, nI_add, nI_mul, nI_sub, nle_t, nle_f, nlt_t, nlt_f, neq_t, neq_f, neg_ne, neg_ne', if_true, if_false, ite_true, ite_false, Nat.zero_add, Nat.add_zero, ld0, ld1, ld2, ld3, ld4, ld5, ld6, ld7, ld8, ld9, ld10, ld11, ld12, ld13, ld14, ld15, ld16, ld17, ld18, ld19, ld20, ld21, ld22, ld23, ld24, ld25, ld26, ld27, ld28, ld29, ld30, ld31, ld32, ld33, ld34, ld35, ld36, ld37, ld38, ld39, ld40, ld41, ld42, ld43, ld44, ld45, ld46, ld47, ld48, ld100, ld101, ld102, ld103, ld104, ld105, gF, mt.S, mt.rt hl, e1, sI_succ])
  obtain ⟨t, a⟩ := z
  have hz2 : a = _ := hz2
  subst hz2
  have hz1 : FrK r47 σ t := hz1
  refine ⟨t, hz1, ez.trans ?_⟩
  simp (disch := omega) only [bd_some, bd_none, lt_eq, lk_eq, fa_lit, nI_add, nI_mul, nI_sub, nle_t, nle_f, nlt_t, nlt_f, neq_t, neq_f, neg_ne, neg_ne', if_true, if_false, ite_true, ite_false, Nat.zero_add, Nat.add_zero, ld0, ld1, ld2, ld3, ld4, ld5, ld6, ld7, ld8, ld9, ld10, ld11, ld12, ld13, ld14, ld15, ld16, ld17, ld18, ld19, ld20, ld21, ld22, ld23, ld24, ld25, ld26, ld27, ld28, ld29, ld30, ld31, ld32, ld33, ld34, ld35, ld36, ld37, ld38, ld39, ld40, ld41, ld42, ld43, ld44, ld45, ld46, ld47, ld48, ld100, ld101, ld102, ld103, ld104, ld105, gF, (h.f47 hz1).S]
  rfl
theorem q_round (h : IV σ R) (x y : Int32) : QP (Rp_round σ x y) (fun τ => Mo_round τ x y) σ := by
  obtain ⟨h1, hc, en⟩ := thr h (nI 0)
  have o1 := h.ro.L
  have o2 := h.ro.P
  have o3 := h.ro.S
  unfold Rp_round Mo_round
  rcases at_or (x := x) (n := R 0 0) (by omega) with ⟨l, hl, rfl⟩ | hx
  rotate_left
  · refine QPf (v := -nI 1) ?_ ?_ <;> simp (disch := omega) only [bd_some, lt_eq, fa_lit, neq_t, neq_f, if_true, if_false, ite_true, ite_false, Rp_isLand_t h, Mo_isLand_t h1.mr h1.ro, Rp_isPlayer_t h, Mo_isPlayer_t h1.mr h1.ro, Rp_isSession_t h, Mo_isSession_t h1.mr h1.ro, Rp_isSeat_t h, Mo_isSeat_t h1.mr h1.ro, Rp_isChoice_t, Mo_isRole_t, h.q0, h.cr.L, h.cr.P, h.cr.S, h.cr.kp, h.cr.ld, h1.mr.L, h1.mr.P, h1.mr.S, h1.mr.kp, h1.mr.ld, en, Rp_isPlay, Rp_isLand_f h hx, Mo_isLand_f h1.mr hx]
  rcases at_or (x := y) (n := 4) (by omega) with ⟨w, hw, rfl⟩ | hx
  rotate_left
  · rcases nix_or hx (by decide) with hq | ⟨hq, hq2⟩
    · refine QPf (v := -nI 1) ?_ ?_
      · rw [sw_none0 hx (by decide)] <;> first | exact Nat.le_of_ble_eq_true rfl | skip
        simp (disch := omega) only [bd_some, lt_eq, fa_lit, neq_t, neq_f, if_true, if_false, ite_true, ite_false, Rp_isLand_t h, Mo_isLand_t h1.mr h1.ro, Rp_isPlayer_t h, Mo_isPlayer_t h1.mr h1.ro, Rp_isSession_t h, Mo_isSession_t h1.mr h1.ro, Rp_isSeat_t h, Mo_isSeat_t h1.mr h1.ro, Rp_isChoice_t, Mo_isRole_t, h.q0, h.cr.L, h.cr.P, h.cr.S, h.cr.kp, h.cr.ld, h1.mr.L, h1.mr.P, h1.mr.S, h1.mr.kp, h1.mr.ld, en]
      · simp (disch := omega) only [bd_some, lt_eq, fa_lit, neq_t, neq_f, if_true, if_false, ite_true, ite_false, Rp_isLand_t h, Mo_isLand_t h1.mr h1.ro, Rp_isPlayer_t h, Mo_isPlayer_t h1.mr h1.ro, Rp_isSession_t h, Mo_isSession_t h1.mr h1.ro, Rp_isSeat_t h, Mo_isSeat_t h1.mr h1.ro, Rp_isChoice_t, Mo_isRole_t, h.q0, h.cr.L, h.cr.P, h.cr.S, h.cr.kp, h.cr.ld, h1.mr.L, h1.mr.P, h1.mr.S, h1.mr.kp, h1.mr.ld, en, hq]
    · refine QPf (v := -nI 1) ?_ ?_
      · rw [sw_none0 hx (by decide)] <;> first | exact Nat.le_of_ble_eq_true rfl | skip
        simp (disch := omega) only [bd_some, lt_eq, fa_lit, neq_t, neq_f, if_true, if_false, ite_true, ite_false, Rp_isLand_t h, Mo_isLand_t h1.mr h1.ro, Rp_isPlayer_t h, Mo_isPlayer_t h1.mr h1.ro, Rp_isSession_t h, Mo_isSession_t h1.mr h1.ro, Rp_isSeat_t h, Mo_isSeat_t h1.mr h1.ro, Rp_isChoice_t, Mo_isRole_t, h.q0, h.cr.L, h.cr.P, h.cr.S, h.cr.kp, h.cr.ld, h1.mr.L, h1.mr.P, h1.mr.S, h1.mr.kp, h1.mr.ld, en]
      · simp (disch := omega) only [bd_some, lt_eq, fa_lit, neq_t, neq_f, if_true, if_false, ite_true, ite_false, Rp_isLand_t h, Mo_isLand_t h1.mr h1.ro, Rp_isPlayer_t h, Mo_isPlayer_t h1.mr h1.ro, Rp_isSession_t h, Mo_isSession_t h1.mr h1.ro, Rp_isSeat_t h, Mo_isSeat_t h1.mr h1.ro, Rp_isChoice_t, Mo_isRole_t, h.q0, h.cr.L, h.cr.P, h.cr.S, h.cr.kp, h.cr.ld, h1.mr.L, h1.mr.P, h1.mr.S, h1.mr.kp, h1.mr.ld, en, hq, hq2]
  rcases (show w = 0 ∨ ∃ f, f < 3 ∧ (w = 1 ∧ f = 0 ∨ w = 2 ∧ f = 2 ∨ w = 3 ∧ f = 1) by
    rcases (show w = 0 ∨ w = 1 ∨ w = 2 ∨ w = 3 by omega) with e | e | e | e
    · exact Or.inl e
    · exact Or.inr ⟨0, by decide, Or.inl ⟨e, rfl⟩⟩
    · exact Or.inr ⟨2, by decide, Or.inr (Or.inl ⟨e, rfl⟩)⟩
    · exact Or.inr ⟨1, by decide, Or.inr (Or.inr ⟨e, rfl⟩)⟩) with rfl | ⟨f, hf, hwf⟩
  · obtain ⟨t, e, ft⟩ := Rn_toPlayersOf_eq (h := l) h.cr h.br.W h.ro h.ho (by omega)
    have c4 := cscr ft
    have et : t.1 34 0 = σ.1 34 0 := core_n c4
    obtain ⟨h2, hc2, en2⟩ := thr (h.core c4) (nI 0)
    obtain ⟨t1, f1, e1⟩ := Mo_toPlayersOf_eq (d := l) h2.mr h2.ro h2.ho (by omega)
    rw [en2, et] at e1
    refine ⟨toP R (σ.1 34 0) l, t, t1, ?_, c4, ?_, hc2.tr (c47 f1)⟩
    · simp (disch := decide) only [sw_get0, List.getElem?_cons_succ, List.getElem?_cons_zero, Option.getD_some]
      simp (disch := omega) only [bd_some, lt_eq, fa_lit, neq_t, neq_f, if_true, if_false, ite_true, ite_false, Rp_isLand_t h, Mo_isLand_t h1.mr h1.ro, Rp_isPlayer_t h, Mo_isPlayer_t h1.mr h1.ro, Rp_isSession_t h, Mo_isSession_t h1.mr h1.ro, Rp_isSeat_t h, Mo_isSeat_t h1.mr h1.ro, Rp_isChoice_t, Mo_isRole_t, h.q0, h.cr.L, h.cr.P, h.cr.S, h.cr.kp, h.cr.ld, h1.mr.L, h1.mr.P, h1.mr.S, h1.mr.kp, h1.mr.ld, en, e]
    · simp (disch := omega) only [bd_some, lt_eq, fa_lit, neq_t, neq_f, if_true, if_false, ite_true, ite_false, Mo_isLand_t h2.mr h2.ro, Mo_isPlayer_t h2.mr h2.ro, Mo_isSession_t h2.mr h2.ro, Mo_isSeat_t h2.mr h2.ro, h2.mr.L, h2.mr.P, h2.mr.S, h2.mr.kp, h2.mr.ld, Mo_isRole_t, en2, e1, nlt_f, nle_t]
  · obtain ⟨t, e, ft⟩ := Rn_inLand_eq h.cr h.br.W h.ro h.ho hl hf
    have c4 := cscr ft
    have et : t.1 34 0 = σ.1 34 0 := core_n c4
    obtain ⟨h2, hc2, en2⟩ := thr (h.core c4) (nI 0)
    obtain ⟨t1, f1, e1⟩ := Mo_inl_eq h2.mr h2.ro h2.ho hl hf
    rw [en2, et] at e1
    refine ⟨inlP R (σ.1 34 0) l f, t, t1, ?_, c4, ?_, hc2.tr (c47 f1)⟩
    · rcases hwf with ⟨rfl, rfl⟩ | ⟨rfl, rfl⟩ | ⟨rfl, rfl⟩ <;> simp (disch := decide) only [sw_get0, List.getElem?_cons_succ, List.getElem?_cons_zero, Option.getD_some] <;> simp (disch := omega) only [bd_some, lt_eq, fa_lit, neq_t, neq_f, if_true, if_false, ite_true, ite_false, Rp_isLand_t h, Mo_isLand_t h1.mr h1.ro, Rp_isPlayer_t h, Mo_isPlayer_t h1.mr h1.ro, Rp_isSession_t h, Mo_isSession_t h1.mr h1.ro, Rp_isSeat_t h, Mo_isSeat_t h1.mr h1.ro, Rp_isChoice_t, Mo_isRole_t, h.q0, h.cr.L, h.cr.P, h.cr.S, h.cr.kp, h.cr.ld, h1.mr.L, h1.mr.P, h1.mr.S, h1.mr.kp, h1.mr.ld, en, e]
    · rcases hwf with ⟨rfl, rfl⟩ | ⟨rfl, rfl⟩ | ⟨rfl, rfl⟩ <;> simp (disch := omega) only [bd_some, lt_eq, fa_lit, neq_t, neq_f, if_true, if_false, ite_true, ite_false, Mo_isLand_t h2.mr h2.ro, Mo_isPlayer_t h2.mr h2.ro, Mo_isSession_t h2.mr h2.ro, Mo_isSeat_t h2.mr h2.ro, h2.mr.L, h2.mr.P, h2.mr.S, h2.mr.kp, h2.mr.ld, Mo_isRole_t, en2, nlt_f, nle_t, lk_eq] <;> exact e1
theorem Rp_roundFrom_eq {p d : Nat} (h : IV σ R) (hp : p < R 0 1) (hd : d < R 0 0) : ∃ τ, Rp_roundFrom σ (nI p) (nI d) = some (rndP R (upd (σ.1 34 0) (2672 + p) (nI d)) p, τ) ∧ Core σ τ := by
  have o2 := h.ro.P
  obtain ⟨t1, e1, c1, w1, f1⟩ := were_terms (l := 0) h (by decide)
  have f2 : FrK (wok 13) t1 (setR t1 26 13 (upd (t1.1 26 13) p (nI d))) := FrK.setR t1 _ rfl
  have i2 := (h.core c1).core f2.cw
  have w2 := w1.home (p := p) (x := nI d) h.ro
  obtain ⟨t3, e3, f3⟩ := Rn_toPlayer_eq (p := p) i2.cr w2 h.ro (h.ho.home h.ro hd) (by omega)
  refine ⟨t3, ?_, (c1.tr f2.cw).tr (cscr f3)⟩
  unfold Rp_roundFrom
  simp (disch := omega) only [bd_some, bd_none, lt_eq, lk_eq, fa_lit, nI_add, nI_mul, nI_sub, nle_t, nle_f, nlt_t, nlt_f, neq_t, neq_f, neg_ne, neg_ne', if_true, if_false, ite_true, ite_false, Nat.zero_add, Nat.add_zero, ld0, ld1, ld2, ld3, ld4, ld5, ld6, ld7, ld8, ld9, ld10, ld11, ld12, ld13, ld14, ld15, ld16, ld17, ld18, ld19, ld20, ld21, ld22, ld23, ld24, ld25, ld26, ld27, ld28, ld29, ld30, ld31, ld32, ld33, ld34, ld35, ld36, ld37, ld38, ld39, ld40, ld41, ld42, ld43, ld44, ld45, ld46, ld47, ld48, ld100, ld101, ld102, ld103, ld104, ld105, st0, st1, st2, st3, st4, st5, st6, st7, st8, st9, st10, st11, st12, st13, st14, st15, st16, st17, st18, st19, st20, st21, st22, st23, st24, st25, st26, st27, st28, st29, st30, st31, st32, st33, st34, st35, st36, st37, st38, st39, st40, st41, st42, st43, st44, st45, st46, st47, st48, st100, st101, st102, st103, st104, st105, gF, e1, i2.q0, e3]
theorem q_moveGain (h : IV σ R) (x y : Int32) : QP (Rp_moveGain σ x y) (fun τ => Mo_moveGain τ x y) σ := by
  obtain ⟨h1, hc, en⟩ := thr h (nI 0)
  have o1 := h.ro.L
  have o2 := h.ro.P
  have o3 := h.ro.S
  unfold Rp_moveGain Mo_moveGain
  rcases at_or (x := x) (n := R 0 1) (by omega) with ⟨p, hp, rfl⟩ | hx
  rotate_left
  · refine QPf (v := -nI 1000000000) ?_ ?_ <;> simp (disch := omega) only [bd_some, lt_eq, fa_lit, neq_t, neq_f, if_true, if_false, ite_true, ite_false, Rp_isLand_t h, Mo_isLand_t h1.mr h1.ro, Rp_isPlayer_t h, Mo_isPlayer_t h1.mr h1.ro, Rp_isSession_t h, Mo_isSession_t h1.mr h1.ro, Rp_isSeat_t h, Mo_isSeat_t h1.mr h1.ro, Rp_isChoice_t, Mo_isRole_t, h.q0, h.cr.L, h.cr.P, h.cr.S, h.cr.kp, h.cr.ld, h1.mr.L, h1.mr.P, h1.mr.S, h1.mr.kp, h1.mr.ld, en, Rp_isPlay, Rp_isPlayer_f h hx, Mo_isPlayer_f h1.mr hx]
  rcases at_or (x := y) (n := R 0 0) (by omega) with ⟨l, hl, rfl⟩ | hx
  rotate_left
  · refine QPf (v := -nI 1000000000) ?_ ?_ <;> simp (disch := omega) only [bd_some, lt_eq, fa_lit, neq_t, neq_f, if_true, if_false, ite_true, ite_false, Rp_isLand_t h, Mo_isLand_t h1.mr h1.ro, Rp_isPlayer_t h, Mo_isPlayer_t h1.mr h1.ro, Rp_isSession_t h, Mo_isSession_t h1.mr h1.ro, Rp_isSeat_t h, Mo_isSeat_t h1.mr h1.ro, Rp_isChoice_t, Mo_isRole_t, h.q0, h.cr.L, h.cr.P, h.cr.S, h.cr.kp, h.cr.ld, h1.mr.L, h1.mr.P, h1.mr.S, h1.mr.kp, h1.mr.ld, en, Rp_isPlay, Rp_isLand_f h hx, Mo_isLand_f h1.mr hx]
  obtain ⟨d, hd, ed⟩ := h.ho.1 p hp
  obtain ⟨t1, e1, c1⟩ := Rp_roundFrom_eq h hp hl
  have i1 := h.core c1
  have n1 : t1.1 34 0 = σ.1 34 0 := core_n c1
  obtain ⟨t2, e2, c2⟩ := Rp_roundFrom_eq i1 hp hd
  rw [n1] at e2
  have c4 := c1.tr c2
  have et : t2.1 34 0 = σ.1 34 0 := core_n c4
  obtain ⟨h2, hc2, en2⟩ := thr (h.core c4) (nI 0)
  obtain ⟨u1, f1, m1⟩ := Mo_roundOf_eq h2.mr h2.ro h2.ho hp hl
  have j1 := h2.core (c47 f1)
  have n2 : u1.1 34 0 = σ.1 34 0 := (core_n (c47 f1)).trans (en2.trans et)
  obtain ⟨u2, f2, m2⟩ := Mo_roundOf_eq j1.mr h2.ro j1.ho hp hd
  rw [n2] at m2
  rw [en2, et] at m1
  refine ⟨rndP R (upd (σ.1 34 0) (2672 + p) (nI l)) p - rndP R (upd (σ.1 34 0) (2672 + p) (nI d)) p, t2, u2, ?_, c4, ?_, hc2.tr ((c47 f1).tr (c47 f2))⟩
  · simp (disch := omega) only [bd_some, bd_none, lt_eq, lk_eq, fa_lit, nI_add, nI_mul, nI_sub, nle_t, nle_f, nlt_t, nlt_f, neq_t, neq_f, neg_ne, neg_ne', if_true, if_false, ite_true, ite_false, Nat.zero_add, Nat.add_zero, ld0, ld1, ld2, ld3, ld4, ld5, ld6, ld7, ld8, ld9, ld10, ld11, ld12, ld13, ld14, ld15, ld16, ld17, ld18, ld19, ld20, ld21, ld22, ld23, ld24, ld25, ld26, ld27, ld28, ld29, ld30, ld31, ld32, ld33, ld34, ld35, ld36, ld37, ld38, ld39, ld40, ld41, ld42, ld43, ld44, ld45, ld46, ld47, ld48, ld100, ld101, ld102, ld103, ld104, ld105, gF, Rp_isLand_t h, Mo_isLand_t h1.mr h1.ro, Rp_isPlayer_t h, Mo_isPlayer_t h1.mr h1.ro, Rp_isSession_t h, Mo_isSession_t h1.mr h1.ro, Rp_isSeat_t h, Mo_isSeat_t h1.mr h1.ro, Rp_isChoice_t, Mo_isRole_t, h.q0, h.cr.L, h.cr.P, h.cr.S, h.cr.kp, h.cr.ld, h1.mr.L, h1.mr.P, h1.mr.S, h1.mr.kp, h1.mr.ld, en, e1, i1.br.W.hm hp, n1, ed, e2]
  · simp (disch := omega) only [bd_some, bd_none, lt_eq, lk_eq, fa_lit, nI_add, nI_mul, nI_sub, nle_t, nle_f, nlt_t, nlt_f, neq_t, neq_f, neg_ne, neg_ne', if_true, if_false, ite_true, ite_false, Nat.zero_add, Nat.add_zero, ld0, ld1, ld2, ld3, ld4, ld5, ld6, ld7, ld8, ld9, ld10, ld11, ld12, ld13, ld14, ld15, ld16, ld17, ld18, ld19, ld20, ld21, ld22, ld23, ld24, ld25, ld26, ld27, ld28, ld29, ld30, ld31, ld32, ld33, ld34, ld35, ld36, ld37, ld38, ld39, ld40, ld41, ld42, ld43, ld44, ld45, ld46, ld47, ld48, ld100, ld101, ld102, ld103, ld104, ld105, gF, Mo_isLand_t h2.mr h2.ro, Mo_isPlayer_t h2.mr h2.ro, Mo_isSession_t h2.mr h2.ro, Mo_isSeat_t h2.mr h2.ro, h2.mr.L, h2.mr.P, h2.mr.S, h2.mr.kp, h2.mr.ld, Mo_isRole_t, en2, m1, n2, ed, m2]
theorem q_bestHome (h : IV σ R) (x y : Int32) : QP (Rp_bestHome σ x y) (fun τ => Mo_bestHome τ x y) σ := by
  obtain ⟨h1, hc, en⟩ := thr h (nI 0)
  have o1 := h.ro.L
  have o2 := h.ro.P
  have o3 := h.ro.S
  unfold Rp_bestHome Mo_bestHome
  rcases at_or (x := x) (n := R 0 1) (by omega) with ⟨p, hp, rfl⟩ | hx
  rotate_left
  · refine QPf (v := -nI 1) ?_ ?_ <;> simp (disch := omega) only [bd_some, lt_eq, fa_lit, neq_t, neq_f, if_true, if_false, ite_true, ite_false, Rp_isLand_t h, Mo_isLand_t h1.mr h1.ro, Rp_isPlayer_t h, Mo_isPlayer_t h1.mr h1.ro, Rp_isSession_t h, Mo_isSession_t h1.mr h1.ro, Rp_isSeat_t h, Mo_isSeat_t h1.mr h1.ro, Rp_isChoice_t, Mo_isRole_t, h.q0, h.cr.L, h.cr.P, h.cr.S, h.cr.kp, h.cr.ld, h1.mr.L, h1.mr.P, h1.mr.S, h1.mr.kp, h1.mr.ld, en, Rp_isPlay, Rp_isPlayer_f h hx, Mo_isPlayer_f h1.mr hx]
  rcases at_or (x := y) (n := 2) (by omega) with ⟨w, hw, rfl⟩ | hx
  rotate_left
  · rcases nix_or hx (by decide) with hq | ⟨hq, hq2⟩
    · refine QPf (v := -nI 1) ?_ ?_ <;> simp (disch := omega) only [bd_some, lt_eq, fa_lit, neq_t, neq_f, if_true, if_false, ite_true, ite_false, Rp_isLand_t h, Mo_isLand_t h1.mr h1.ro, Rp_isPlayer_t h, Mo_isPlayer_t h1.mr h1.ro, Rp_isSession_t h, Mo_isSession_t h1.mr h1.ro, Rp_isSeat_t h, Mo_isSeat_t h1.mr h1.ro, Rp_isChoice_t, Mo_isRole_t, h.q0, h.cr.L, h.cr.P, h.cr.S, h.cr.kp, h.cr.ld, h1.mr.L, h1.mr.P, h1.mr.S, h1.mr.kp, h1.mr.ld, en, Rp_isPlay, Rp_isCopies_t, Mo_areCopies_t, Rp_isChoice_f hx, hq]
    · refine QPf (v := -nI 1) ?_ ?_ <;> simp (disch := omega) only [bd_some, lt_eq, fa_lit, neq_t, neq_f, if_true, if_false, ite_true, ite_false, Rp_isLand_t h, Mo_isLand_t h1.mr h1.ro, Rp_isPlayer_t h, Mo_isPlayer_t h1.mr h1.ro, Rp_isSession_t h, Mo_isSession_t h1.mr h1.ro, Rp_isSeat_t h, Mo_isSeat_t h1.mr h1.ro, Rp_isChoice_t, Mo_isRole_t, h.q0, h.cr.L, h.cr.P, h.cr.S, h.cr.kp, h.cr.ld, h1.mr.L, h1.mr.P, h1.mr.S, h1.mr.kp, h1.mr.ld, en, Rp_isPlay, Rp_isCopies_t, Mo_areCopies_t, Rp_isChoice_f hx, hq, hq2]
  have l0 : 0 < R 0 0 := h.ro.2.2.2.2.2.2.2.2.2.2 (by omega)
  generalize hv : (fun l => rndP R (upd (σ.1 34 0) (2672 + p) (nI l)) p) = v
  have hv2 : ∀ l, rndP R (upd (σ.1 34 0) (2672 + p) (nI l)) p = v l := fun l => by rw [← hv]
  have vnn : ∀ l, 0 ≤ (v l).toInt := fun l => by rw [← hv2]; exact rndP_nn h.ro p
  generalize hle : (fun n b => decide (v n ≤ v b)) = le
  have hle2 : ∀ n b, (v n ≤ v b) = (le n b = true) := fun n b => by rw [← hle]; simp
  have al := am_lt le l0
  have cls : ∃ τ, Rp_bestHome σ (nI p) (nI w) = some (if w = 0 then nI (am le (R 0 0)) else v (am le (R 0 0)), τ) ∧ Core σ τ := by
    unfold Rp_bestHome
    simp (disch := omega) only [bd_some, lt_eq, fa_lit, neq_t, neq_f, if_true, if_false, ite_true, ite_false, Rp_isLand_t h, Mo_isLand_t h1.mr h1.ro, Rp_isPlayer_t h, Mo_isPlayer_t h1.mr h1.ro, Rp_isSession_t h, Mo_isSession_t h1.mr h1.ro, Rp_isSeat_t h, Mo_isSeat_t h1.mr h1.ro, Rp_isChoice_t, Mo_isRole_t, h.q0, h.cr.L, h.cr.P, h.cr.S, h.cr.kp, h.cr.ld, h1.mr.L, h1.mr.P, h1.mr.S, h1.mr.kp, h1.mr.ld, en]
    obtain ⟨z, ⟨hz1, hz2⟩, rec, ez⟩ := lp_invG (β := Int32 × ST) (z0 := (σ, -nI 1, -nI 1, nI 0)) (step := fun rec4 (z3 : ST × Int32 × Int32 × Int32) => bd_ (ldQ z3.1 0) (fun rr6 => (if (gF z3.1 529 rr6) ≤ z3.2.2.2 then (if nI w = nI 0 then some (z3.2.1, z3.1) else some (z3.2.2.1, z3.1)) else bd_ (Rp_roundFrom z3.1 (nI p) z3.2.2.2) (fun q7 => (if q7.1 ≤ z3.2.2.1 then rec4 (q7.2, z3.2.1, z3.2.2.1, (z3.2.2.2 + nI 1)) else rec4 (q7.2, z3.2.2.2, q7.1, (z3.2.2.2 + nI 1))))))) (R 0 0) (by omega) (fun k z => Core σ z.1 ∧ z.2 = (if k = 0 then -nI 1 else nI (am le k), if k = 0 then -nI 1 else v (am le k), nI k)) ⟨Core.rf σ, rfl⟩ (by
      rintro rec k ⟨t, a⟩ hk ⟨ct, ha⟩
      have ha : a = _ := ha
      subst ha
      have ct : Core σ t := ct
      have it := h.core ct
      obtain ⟨t1, e1, c1⟩ := Rp_roundFrom_eq it hp hk
      rw [core_n ct, hv2] at e1
      refine ⟨(t1, nI (am le (k + 1)), v (am le (k + 1)), nI (k + 1)), ⟨ct.tr c1, ?_⟩, ?_⟩
      · simp only [show ¬ k + 1 = 0 from Nat.succ_ne_zero k, if_false]
      · by_cases ek : k = 0
        · subst ek
          simp (disch := omega) only [bd_some, bd_none, lt_eq, lk_eq, fa_lit, nI_add, nI_mul, nI_sub, nle_t, nle_f, nlt_t, nlt_f, neq_t, neq_f, neg_ne, neg_ne', if_true, if_false, ite_true, ite_false, Nat.zero_add, Nat.add_zero, ld0, ld1, ld2, ld3, ld4, ld5, ld6, ld7, ld8, ld9, ld10, ld11, ld12, ld13, ld14, ld15, ld16, ld17, ld18, ld19, ld20, ld21, ld22, ld23, ld24, ld25, ld26, ld27, ld28, ld29, ld30, ld31, ld32, ld33, ld34, ld35, ld36, ld37, ld38, ld39, ld40, ld41, ld42, ld43, ld44, ld45, ld46, ld47, ld48, ld100, ld101, ld102, ld103, ld104, ld105, gF, it.q0, it.cr.L, e1, le_m1 (vnn 0)]
          rfl
        · simp (disch := omega) only [bd_some, bd_none, lt_eq, lk_eq, fa_lit, nI_add, nI_mul, nI_sub, nle_t, nle_f, nlt_t, nlt_f, neq_t, neq_f, neg_ne, neg_ne', if_true, if_false, ite_true, ite_false, Nat.zero_add, Nat.add_zero, ld0, ld1, ld2, ld3, ld4, ld5, ld6, ld7, ld8, ld9, ld10, ld11, ld12, ld13, ld14, ld15, ld16, ld17, ld18, ld19, ld20, ld21, ld22, ld23, ld24, ld25, ld26, ld27, ld28, ld29, ld30, ld31, ld32, ld33, ld34, ld35, ld36, ld37, ld38, ld39, ld40, ld41, ld42, ld43, ld44, ld45, ld46, ld47, ld48, ld100, ld101, ld102, ld103, ld104, ld105, gF, it.q0, it.cr.L, e1, ek, hle2]
          rw [am_succ le k, if_neg ek]
          cases le k (am le k) <;> simp)
    obtain ⟨t, a⟩ := z
    have hz2 : a = _ := hz2
    subst hz2
    have hz1 : Core σ t := hz1
    have it := h.core hz1
    refine ⟨t, ez.trans ?_, hz1⟩
    by_cases e : w = 0 <;> simp (disch := omega) only [bd_some, bd_none, lt_eq, lk_eq, fa_lit, nI_add, nI_mul, nI_sub, nle_t, nle_f, nlt_t, nlt_f, neq_t, neq_f, neg_ne, neg_ne', if_true, if_false, ite_true, ite_false, Nat.zero_add, Nat.add_zero, ld0, ld1, ld2, ld3, ld4, ld5, ld6, ld7, ld8, ld9, ld10, ld11, ld12, ld13, ld14, ld15, ld16, ld17, ld18, ld19, ld20, ld21, ld22, ld23, ld24, ld25, ld26, ld27, ld28, ld29, ld30, ld31, ld32, ld33, ld34, ld35, ld36, ld37, ld38, ld39, ld40, ld41, ld42, ld43, ld44, ld45, ld46, ld47, ld48, ld100, ld101, ld102, ld103, ld104, ld105, gF, it.q0, it.cr.L, e, show ¬ R 0 0 = 0 by omega]
  obtain ⟨t, e, c4⟩ := cls
  have et : t.1 34 0 = σ.1 34 0 := core_n c4
  obtain ⟨h2, hc2, en2⟩ := thr (h.core c4) (nI 0)
  have ro : ∀ t1 d, FrK r47 (setF t 840 0 (nI 0)) t1 → d < R 0 0 → ∃ t2, FrK r47 (setF t 840 0 (nI 0)) t2 ∧ Mo_roundOf t1 (nI p) (nI d) = some (v d, t2) := by
    intro t1 d ft hd
    have it := h2.core (c47 ft)
    obtain ⟨u1, f1, m1⟩ := Mo_roundOf_eq it.mr h.ro it.ho hp hd
    rw [(core_n (c47 ft)).trans (en2.trans et), hv2] at m1
    exact ⟨u1, ft.tr f1, m1⟩
  have rf : ∃ τ, Mo_bestHome t (nI p) (nI w) = some (if w = 0 then nI (am le (R 0 0)) else v (am le (R 0 0)), τ) ∧ FrK r47 (setF t 840 0 (nI 0)) τ := by
    unfold Mo_bestHome
    simp (disch := omega) only [bd_some, lt_eq, fa_lit, neq_t, neq_f, if_true, if_false, ite_true, ite_false, Mo_isLand_t h2.mr h2.ro, Mo_isPlayer_t h2.mr h2.ro, Mo_isSession_t h2.mr h2.ro, Mo_isSeat_t h2.mr h2.ro, h2.mr.L, h2.mr.P, h2.mr.S, h2.mr.kp, h2.mr.ld, Mo_isRole_t, en2, nlt_f, nle_t]
    obtain ⟨z, ⟨hz1, hz2⟩, rec, ez⟩ := lp_invG (β := Int32 × ST) (z0 := (setF t 840 0 (nI 0), nI 0, nI 1)) (step := fun rec4 (z3 : ST × Int32 × Int32) => (if (gF z3.1 850 0) ≤ z3.2.2 then (if nI w = nI 0 then some (z3.2.1, z3.1) else bd_ (Mo_roundOf z3.1 (nI p) z3.2.1) (fun q6 => some (q6.1, q6.2))) else bd_ (Mo_roundOf z3.1 (nI p) z3.2.2) (fun q7 => bd_ (Mo_roundOf q7.2 (nI p) z3.2.1) (fun q8 => (if q7.1 ≤ q8.1 then rec4 (q8.2, z3.2.1, (z3.2.2 + nI 1)) else rec4 (q8.2, z3.2.2, (z3.2.2 + nI 1))))))) (R 0 0 - 1) (by omega) (fun k z => FrK r47 (setF t 840 0 (nI 0)) z.1 ∧ z.2 = (nI (am le (k + 1)), nI (k + 1))) ⟨FrK.rf _, rfl⟩ (by
      rintro rec k ⟨t1, a⟩ hk ⟨ft, ha⟩
      have ha : a = _ := ha
      subst ha
      have ft : FrK r47 (setF t 840 0 (nI 0)) t1 := ft
      have it := h2.core (c47 ft)
      have hlt := am_lt le (show 0 < k + 1 by omega)
      obtain ⟨u1, g1, m1⟩ := ro t1 (k + 1) ft (by omega)
      obtain ⟨u2, g2, m2⟩ := ro u1 (am le (k + 1)) g1 (by omega)
      refine ⟨(u2, nI (am le (k + 1 + 1)), nI (k + 1 + 1)), ⟨g2, rfl⟩, ?_⟩
      simp (disch := omega) only [bd_some, bd_none, lt_eq, lk_eq, fa_lit, nI_add, nI_mul, nI_sub, nle_t, nle_f, nlt_t, nlt_f, neq_t, neq_f, neg_ne, neg_ne', if_true, if_false, ite_true, ite_false, Nat.zero_add, Nat.add_zero, ld0, ld1, ld2, ld3, ld4, ld5, ld6, ld7, ld8, ld9, ld10, ld11, ld12, ld13, ld14, ld15, ld16, ld17, ld18, ld19, ld20, ld21, ld22, ld23, ld24, ld25, ld26, ld27, ld28, ld29, ld30, ld31, ld32, ld33, ld34, ld35, ld36, ld37, ld38, ld39, ld40, ld41, ld42, ld43, ld44, ld45, ld46, ld47, ld48, ld100, ld101, ld102, ld103, ld104, ld105, gF, it.mr.L, m1, m2, hle2]
      rw [am_succ le (k + 1), if_neg (show ¬ k + 1 = 0 by omega)]
      cases le (k + 1) (am le (k + 1)) <;> simp)
    obtain ⟨t1, a⟩ := z
    have hz2 : a = _ := hz2
    subst hz2
    have hz1 : FrK r47 (setF t 840 0 (nI 0)) t1 := hz1
    have it := h2.core (c47 hz1)
    rw [show R 0 0 - 1 + 1 = R 0 0 by omega] at ez
    by_cases e : w = 0
    · refine ⟨t1, ez.trans ?_, hz1⟩
      simp (disch := omega) only [bd_some, bd_none, lt_eq, lk_eq, fa_lit, nI_add, nI_mul, nI_sub, nle_t, nle_f, nlt_t, nlt_f, neq_t, neq_f, neg_ne, neg_ne', if_true, if_false, ite_true, ite_false, Nat.zero_add, Nat.add_zero, ld0, ld1, ld2, ld3, ld4, ld5, ld6, ld7, ld8, ld9, ld10, ld11, ld12, ld13, ld14, ld15, ld16, ld17, ld18, ld19, ld20, ld21, ld22, ld23, ld24, ld25, ld26, ld27, ld28, ld29, ld30, ld31, ld32, ld33, ld34, ld35, ld36, ld37, ld38, ld39, ld40, ld41, ld42, ld43, ld44, ld45, ld46, ld47, ld48, ld100, ld101, ld102, ld103, ld104, ld105, gF, it.mr.L, e]
    · obtain ⟨u1, g1, m1⟩ := ro t1 (am le (R 0 0)) hz1 al
      refine ⟨u1, ez.trans ?_, g1⟩
      simp (disch := omega) only [bd_some, bd_none, lt_eq, lk_eq, fa_lit, nI_add, nI_mul, nI_sub, nle_t, nle_f, nlt_t, nlt_f, neq_t, neq_f, neg_ne, neg_ne', if_true, if_false, ite_true, ite_false, Nat.zero_add, Nat.add_zero, ld0, ld1, ld2, ld3, ld4, ld5, ld6, ld7, ld8, ld9, ld10, ld11, ld12, ld13, ld14, ld15, ld16, ld17, ld18, ld19, ld20, ld21, ld22, ld23, ld24, ld25, ld26, ld27, ld28, ld29, ld30, ld31, ld32, ld33, ld34, ld35, ld36, ld37, ld38, ld39, ld40, ld41, ld42, ld43, ld44, ld45, ld46, ld47, ld48, ld100, ld101, ld102, ld103, ld104, ld105, gF, it.mr.L, e, m1]
  obtain ⟨t1, e1, f1⟩ := rf
  exact ⟨_, t, t1, e, c4, e1, hc2.tr (c47 f1)⟩
/-! the best terms -/
theorem upd2 (f : Nat → Int32) {A B : Nat} (hab : A ≠ B) (a b x y : Int32) : upd (upd (upd (upd f A a) B b) A x) B y = upd (upd f A x) B y := by
  funext j
  simp only [upd_at]
  by_cases c1 : j = B
  · simp [c1]
  · by_cases c2 : j = A <;> simp [c1, c2]
theorem q_bestTerms (h : IV σ R) (x y : Int32) : QP (Rp_bestTerms σ x y) (fun τ => Mo_bestTerms τ x y) σ := by
  obtain ⟨h1, hc, en⟩ := thr h (nI 0)
  have o1 := h.ro.L
  have o2 := h.ro.P
  have o3 := h.ro.S
  unfold Rp_bestTerms Mo_bestTerms
  rcases at_or (x := x) (n := R 0 0) (by omega) with ⟨l, hl, rfl⟩ | hx
  rotate_left
  · refine QPf (v := -nI 1) ?_ ?_ <;> simp (disch := omega) only [bd_some, lt_eq, fa_lit, neq_t, neq_f, if_true, if_false, ite_true, ite_false, Rp_isLand_t h, Mo_isLand_t h1.mr h1.ro, Rp_isPlayer_t h, Mo_isPlayer_t h1.mr h1.ro, Rp_isSession_t h, Mo_isSession_t h1.mr h1.ro, Rp_isSeat_t h, Mo_isSeat_t h1.mr h1.ro, Rp_isChoice_t, Mo_isRole_t, h.q0, h.cr.L, h.cr.P, h.cr.S, h.cr.kp, h.cr.ld, h1.mr.L, h1.mr.P, h1.mr.S, h1.mr.kp, h1.mr.ld, en, Rp_isPlay, Rp_isLand_f h hx, Mo_isLand_f h1.mr hx]
  rcases at_or (x := y) (n := 3) (by omega) with ⟨w, hw, rfl⟩ | hx
  rotate_left
  · rcases nix_or hx (by decide) with hq | ⟨hq, hq2⟩
    · refine QPf (v := -nI 1) ?_ ?_ <;> simp (disch := omega) only [bd_some, lt_eq, fa_lit, neq_t, neq_f, if_true, if_false, ite_true, ite_false, Rp_isLand_t h, Mo_isLand_t h1.mr h1.ro, Rp_isPlayer_t h, Mo_isPlayer_t h1.mr h1.ro, Rp_isSession_t h, Mo_isSession_t h1.mr h1.ro, Rp_isSeat_t h, Mo_isSeat_t h1.mr h1.ro, Rp_isChoice_t, Mo_isRole_t, h.q0, h.cr.L, h.cr.P, h.cr.S, h.cr.kp, h.cr.ld, h1.mr.L, h1.mr.P, h1.mr.S, h1.mr.kp, h1.mr.ld, en, Rp_isPlay, Rp_isCopies_t, Mo_areCopies_t, Rp_isChoice_f hx, hq]
    · refine QPf (v := -nI 1) ?_ ?_ <;> simp (disch := omega) only [bd_some, lt_eq, fa_lit, neq_t, neq_f, if_true, if_false, ite_true, ite_false, Rp_isLand_t h, Mo_isLand_t h1.mr h1.ro, Rp_isPlayer_t h, Mo_isPlayer_t h1.mr h1.ro, Rp_isSession_t h, Mo_isSession_t h1.mr h1.ro, Rp_isSeat_t h, Mo_isSeat_t h1.mr h1.ro, Rp_isChoice_t, Mo_isRole_t, h.q0, h.cr.L, h.cr.P, h.cr.S, h.cr.kp, h.cr.ld, h1.mr.L, h1.mr.P, h1.mr.S, h1.mr.kp, h1.mr.ld, en, Rp_isPlay, Rp_isCopies_t, Mo_areCopies_t, Rp_isChoice_f hx, hq, hq2]
  have hl6 : l < 6 := by omega
  generalize hv : (fun k => toP R (upd (upd (σ.1 34 0) (2660 + l) (nI (k / 3))) (2666 + l) (nI (1 + k % 3))) l) = v
  have hv2 : ∀ k, toP R (upd (upd (σ.1 34 0) (2660 + l) (nI (k / 3))) (2666 + l) (nI (1 + k % 3))) l = v k := fun k => by rw [← hv]
  have vnn : ∀ k, 0 ≤ (v k).toInt := fun k => by rw [← hv2]; exact toP_nn h.ro l
  generalize hle : (fun n b => decide (v n ≤ v b)) = le
  have hle2 : ∀ n b, (v n ≤ v b) = (le n b = true) := fun n b => by rw [← hle]; simp
  have al := am_lt le (show 0 < 9 by decide)
  have cls : ∃ τ, Rp_bestTerms σ (nI l) (nI w) = some (if w = 0 then nI (am le 9 / 3) else if w = 1 then nI (1 + am le 9 % 3) else v (am le 9), τ) ∧ Core σ τ := by
    obtain ⟨t0, e0, c0, w0, f0⟩ := were_terms h hl6
    unfold Rp_bestTerms
    simp (disch := omega) only [bd_some, lt_eq, fa_lit, neq_t, neq_f, if_true, if_false, ite_true, ite_false, Rp_isLand_t h, Mo_isLand_t h1.mr h1.ro, Rp_isPlayer_t h, Mo_isPlayer_t h1.mr h1.ro, Rp_isSession_t h, Mo_isSession_t h1.mr h1.ro, Rp_isSeat_t h, Mo_isSeat_t h1.mr h1.ro, Rp_isChoice_t, Mo_isRole_t, h.q0, h.cr.L, h.cr.P, h.cr.S, h.cr.kp, h.cr.ld, h1.mr.L, h1.mr.P, h1.mr.S, h1.mr.kp, h1.mr.ld, en, e0]
    obtain ⟨z, ⟨hz1, hz2, hz3⟩, rec, ez⟩ := lp_invG (β := Int32 × ST) (z0 := (t0, -nI 1, -nI 1, -nI 1, nI 0)) (step := fun rec5 (z4 : ST × Int32 × Int32 × Int32 × Int32) => (if nI 2 < z4.2.2.2.2 then (if nI w = nI 2 then some (z4.2.2.2.1, z4.1) else (if nI w = nI 0 then some (z4.2.1, z4.1) else some (z4.2.2.1, z4.1))) else lp_ (fun rec8 (z7 : ST × Int32 × Int32 × Int32 × Int32) => (if nI 3 < z7.2.2.2.2 then rec5 (z7.1, z7.2.1, z7.2.2.1, z7.2.2.2.1, (z4.2.2.2.2 + nI 1)) else bd_ (Wo_setTerms z7.1 13 (nI l) z4.2.2.2.2 z7.2.2.2.2) (fun q10 => bd_ (ldQ q10 0) (fun rr11 => bd_ (Rn_toPlayersOf q10 rr11 13 (nI l)) (fun q12 => (if q12.1 ≤ z7.2.2.2.1 then rec8 (q12.2, z7.2.1, z7.2.2.1, z7.2.2.2.1, (z7.2.2.2.2 + nI 1)) else rec8 (q12.2, z4.2.2.2.2, z7.2.2.2.2, q12.1, (z7.2.2.2.2 + nI 1)))))))) FU (z4.1, z4.2.1, z4.2.2.1, z4.2.2.2.1, nI 1))) 3 (by decide) (fun t z => Core σ z.1 ∧ (∃ x y, WR z.1 13 R (upd (upd (σ.1 34 0) (2660 + l) x) (2666 + l) y)) ∧ z.2 = (if 3 * t = 0 then -nI 1 else nI (am le (3 * t) / 3), if 3 * t = 0 then -nI 1 else nI (1 + am le (3 * t) % 3), if 3 * t = 0 then -nI 1 else v (am le (3 * t)), nI t)) ⟨c0, ⟨σ.1 34 0 (2660 + l), σ.1 34 0 (2666 + l), by rw [fa_upd_same (f := σ.1 34 0) rfl, fa_upd_same rfl]; exact w0⟩, rfl⟩ (by
      rintro rec t ⟨t1, a⟩ ht ⟨ct, hw1, ha⟩
      have ha : a = _ := ha
      subst ha
      have ct : Core σ t1 := ct
      obtain ⟨z, ⟨hz1, hz2, hz3⟩, rec2, ez⟩ := lp_invG (β := Int32 × ST) (z0 := (t1, (if 3 * t = 0 then -nI 1 else nI (am le (3 * t) / 3)), (if 3 * t = 0 then -nI 1 else nI (1 + am le (3 * t) % 3)), (if 3 * t = 0 then -nI 1 else v (am le (3 * t))), nI 1)) (step := fun rec8 (z7 : ST × Int32 × Int32 × Int32 × Int32) => (if nI 3 < z7.2.2.2.2 then rec (z7.1, z7.2.1, z7.2.2.1, z7.2.2.2.1, (nI t + nI 1)) else bd_ (Wo_setTerms z7.1 13 (nI l) (nI t) z7.2.2.2.2) (fun q10 => bd_ (ldQ q10 0) (fun rr11 => bd_ (Rn_toPlayersOf q10 rr11 13 (nI l)) (fun q12 => (if q12.1 ≤ z7.2.2.2.1 then rec8 (q12.2, z7.2.1, z7.2.2.1, z7.2.2.2.1, (z7.2.2.2.2 + nI 1)) else rec8 (q12.2, (nI t), z7.2.2.2.2, q12.1, (z7.2.2.2.2 + nI 1)))))))) 3 (by decide) (fun j z => Core σ z.1 ∧ (∃ x y, WR z.1 13 R (upd (upd (σ.1 34 0) (2660 + l) x) (2666 + l) y)) ∧ z.2 = (if 3 * t + j = 0 then -nI 1 else nI (am le (3 * t + j) / 3), if 3 * t + j = 0 then -nI 1 else nI (1 + am le (3 * t + j) % 3), if 3 * t + j = 0 then -nI 1 else v (am le (3 * t + j)), nI (1 + j))) ⟨ct, hw1, rfl⟩ (by
        rintro rec2 j ⟨t2, a⟩ hj ⟨ct2, ⟨x0, y0, hw2⟩, ha⟩
        have ha : a = _ := ha
        subst ha
        have ct2 : Core σ t2 := ct2
        have hw2 : WR t2 13 R (upd (upd (σ.1 34 0) (2660 + l) x0) (2666 + l) y0) := hw2
        have w3 := hw2.terms (l := l) (x := nI t) (y := nI (1 + j)) h.ro hl6
        rw [upd2 _ (by omega)] at w3
        have f3 := terms13 (σ := t2) (l := l) (nI t) (nI (1 + j))
        have i3 := (h.core ct2).core f3.cw
        have e3 := Wo_setTerms_eq (σ := t2) (i := 13) (x := nI t) (y := nI (1 + j)) hl6
        generalize setR (setR t2 24 13 (upd (t2.1 24 13) l (nI t))) 25 13 (upd (t2.1 25 13) l (nI (1 + j))) = t3 at *
        obtain ⟨t4, e4, f4⟩ := Rn_toPlayersOf_eq (h := l) i3.cr w3 h.ro (h.ho.terms h.ro hl6 _ _) hl6
        have hk3 : (3 * t + j) / 3 = t := by omega
        have hk4 : (3 * t + j) % 3 = j := by omega
        have hk5 := hv2 (3 * t + j)
        rw [hk3, hk4] at hk5
        rw [hk5] at e4
        refine ⟨(t4, nI (am le (3 * t + (j + 1)) / 3), nI (1 + am le (3 * t + (j + 1)) % 3), v (am le (3 * t + (j + 1))), nI (1 + (j + 1))), ⟨(ct2.tr f3.cw).tr (cscr f4), ⟨_, _, w3.fr f4⟩, ?_⟩, ?_⟩
        · simp only [show ¬ 3 * t + (j + 1) = 0 by omega, if_false]
        · rw [← Nat.add_assoc (3 * t) j 1, am_succ le (3 * t + j)]
          by_cases ek : 3 * t + j = 0
          · have t0 : t = 0 := by omega
            have j0 : j = 0 := by omega
            subst t0; subst j0
            simp (disch := omega) only [bd_some, bd_none, lt_eq, lk_eq, fa_lit, nI_add, nI_mul, nI_sub, nle_t, nle_f, nlt_t, nlt_f, neq_t, neq_f, neg_ne, neg_ne', if_true, if_false, ite_true, ite_false, Nat.zero_add, Nat.add_zero, ld0, ld1, ld2, ld3, ld4, ld5, ld6, ld7, ld8, ld9, ld10, ld11, ld12, ld13, ld14, ld15, ld16, ld17, ld18, ld19, ld20, ld21, ld22, ld23, ld24, ld25, ld26, ld27, ld28, ld29, ld30, ld31, ld32, ld33, ld34, ld35, ld36, ld37, ld38, ld39, ld40, ld41, ld42, ld43, ld44, ld45, ld46, ld47, ld48, ld100, ld101, ld102, ld103, ld104, ld105, gF, e3, i3.q0, e4, le_m1 (vnn _)]
          · simp (disch := omega) only [bd_some, bd_none, lt_eq, lk_eq, fa_lit, nI_add, nI_mul, nI_sub, nle_t, nle_f, nlt_t, nlt_f, neq_t, neq_f, neg_ne, neg_ne', if_true, if_false, ite_true, ite_false, Nat.zero_add, Nat.add_zero, ld0, ld1, ld2, ld3, ld4, ld5, ld6, ld7, ld8, ld9, ld10, ld11, ld12, ld13, ld14, ld15, ld16, ld17, ld18, ld19, ld20, ld21, ld22, ld23, ld24, ld25, ld26, ld27, ld28, ld29, ld30, ld31, ld32, ld33, ld34, ld35, ld36, ld37, ld38, ld39, ld40, ld41, ld42, ld43, ld44, ld45, ld46, ld47, ld48, ld100, ld101, ld102, ld103, ld104, ld105, gF, e3, i3.q0, e4, ek, hle2]
            cases le (3 * t + j) (am le (3 * t + j))
            · simp [hk3, hk4, Nat.add_assoc]
            · simp [Nat.add_assoc])
      obtain ⟨t2, a⟩ := z
      have hz3 : a = _ := hz3
      subst hz3
      refine ⟨(t2, (if 3 * (t + 1) = 0 then -nI 1 else nI (am le (3 * (t + 1)) / 3)), (if 3 * (t + 1) = 0 then -nI 1 else nI (1 + am le (3 * (t + 1)) % 3)), (if 3 * (t + 1) = 0 then -nI 1 else v (am le (3 * (t + 1)))), nI (t + 1)), ⟨hz1, hz2, rfl⟩, ?_⟩
      refine (if_neg (show ¬ nI 2 < nI t from of_eq_false (nlt_f (by omega) (by omega)))).trans (ez.trans ?_)
      simp (disch := omega) only [bd_some, bd_none, lt_eq, lk_eq, fa_lit, nI_add, nI_mul, nI_sub, nle_t, nle_f, nlt_t, nlt_f, neq_t, neq_f, neg_ne, neg_ne', if_true, if_false, ite_true, ite_false, Nat.zero_add, Nat.add_zero, ld0, ld1, ld2, ld3, ld4, ld5, ld6, ld7, ld8, ld9, ld10, ld11, ld12, ld13, ld14, ld15, ld16, ld17, ld18, ld19, ld20, ld21, ld22, ld23, ld24, ld25, ld26, ld27, ld28, ld29, ld30, ld31, ld32, ld33, ld34, ld35, ld36, ld37, ld38, ld39, ld40, ld41, ld42, ld43, ld44, ld45, ld46, ld47, ld48, ld100, ld101, ld102, ld103, ld104, ld105, gF, show 3 * (t + 1) = 3 * t + 3 from rfl])
    obtain ⟨t, a⟩ := z
    have hz3 : a = _ := hz3
    subst hz3
    refine ⟨t, ez.trans ?_, hz1⟩
    rcases (show w = 0 ∨ w = 1 ∨ w = 2 by omega) with rfl | rfl | rfl <;> simp (disch := omega) only [bd_some, bd_none, lt_eq, lk_eq, fa_lit, nI_add, nI_mul, nI_sub, nle_t, nle_f, nlt_t, nlt_f, neq_t, neq_f, neg_ne, neg_ne', if_true, if_false, ite_true, ite_false, Nat.zero_add, Nat.add_zero, ld0, ld1, ld2, ld3, ld4, ld5, ld6, ld7, ld8, ld9, ld10, ld11, ld12, ld13, ld14, ld15, ld16, ld17, ld18, ld19, ld20, ld21, ld22, ld23, ld24, ld25, ld26, ld27, ld28, ld29, ld30, ld31, ld32, ld33, ld34, ld35, ld36, ld37, ld38, ld39, ld40, ld41, ld42, ld43, ld44, ld45, ld46, ld47, ld48, ld100, ld101, ld102, ld103, ld104, ld105, gF, show ¬ 3 * 3 = 0 by decide] <;> rfl
  obtain ⟨t, e, c4⟩ := cls
  have et : t.1 34 0 = σ.1 34 0 := core_n c4
  obtain ⟨h2, hc2, en2⟩ := thr (h.core c4) (nI 0)
  have rf : ∃ τ, Mo_bestTerms t (nI l) (nI w) = some (if w = 0 then nI (am le 9 / 3) else if w = 1 then nI (1 + am le 9 % 3) else v (am le 9), τ) ∧ FrK rlb (setF t 840 0 (nI 0)) τ := by
    unfold Mo_bestTerms
    simp (disch := omega) only [bd_some, lt_eq, fa_lit, neq_t, neq_f, if_true, if_false, ite_true, ite_false, Mo_isLand_t h2.mr h2.ro, Mo_isPlayer_t h2.mr h2.ro, Mo_isSession_t h2.mr h2.ro, Mo_isSeat_t h2.mr h2.ro, h2.mr.L, h2.mr.P, h2.mr.S, h2.mr.kp, h2.mr.ld, Mo_isRole_t, en2, nlt_f, nle_t]
    obtain ⟨z, ⟨hz1, hz2⟩, rec, ez⟩ := lp_invG (β := Int32 × ST) (z0 := (setF t 840 0 (nI 0), nI 0, -nI 1, nI 0)) (step := fun rec4 (z3 : ST × Int32 × Int32 × Int32) => (if nI 9 ≤ z3.2.2.2 then (if nI w = nI 0 then bd_ (idv z3.2.1 (nI 3)) (fun v7 => some (v7, z3.1)) else (if nI w = nI 1 then bd_ (irm z3.2.1 (nI 3)) (fun v6 => some ((nI 1 + v6), z3.1)) else some (z3.2.2.1, z3.1))) else bd_ (idv z3.2.2.2 (nI 3)) (fun v8 => bd_ (irm z3.2.2.2 (nI 3)) (fun v9 => bd_ (Mo_lends z3.1 (nI l) v8 (nI 1 + v9)) (fun q10 => bd_ (Mo_toPlayersOf q10 (nI l)) (fun q11 => bd_ (Mo_back q11.2 (nI l)) (fun q12 => (if z3.2.2.1 < q11.1 then rec4 (q12, z3.2.2.2, q11.1, (z3.2.2.2 + nI 1)) else rec4 (q12, z3.2.1, z3.2.2.1, (z3.2.2.2 + nI 1)))))))))) 9 (by decide) (fun k z => FrK rlb (setF t 840 0 (nI 0)) z.1 ∧ z.2 = (nI (am le k), if k = 0 then -nI 1 else v (am le k), nI k)) ⟨FrK.rf _, rfl⟩ (by
      rintro rec k ⟨t1, a⟩ hk ⟨ft, ha⟩
      have ha : a = _ := ha
      subst ha
      have ft : FrK rlb (setF t 840 0 (nI 0)) t1 := ft
      have it := h2.core (ft.core rlb_cor)
      have n1 : t1.1 34 0 = σ.1 34 0 := (core_n (ft.core rlb_cor)).trans (en2.trans et)
      obtain ⟨u1, l1, k2, l3, l4⟩ := lend_eq (σ := t1) (x := nI (k / 3)) (y := nI (1 + k % 3)) hl6
      rw [n1] at k2
      obtain ⟨u2, g2, m2⟩ := Mo_toPlayersOf_eq (d := l) (l3 R it.mr) h.ro (by rw [k2]; exact h.ho.terms h.ro hl6 _ _) hl6
      rw [k2, hv2] at m2
      obtain ⟨u3, l5, l6⟩ := l4 u2 g2
      refine ⟨(u3, nI (am le (k + 1)), v (am le (k + 1)), nI (k + 1)), ⟨ft.tr l6, ?_⟩, ?_⟩
      · simp only [show ¬ k + 1 = 0 from Nat.succ_ne_zero k, if_false]
      · rw [am_succ le k]
        by_cases ek : k = 0
        · subst ek
          simp (disch := omega) only [bd_some, bd_none, lt_eq, lk_eq, fa_lit, nI_add, nI_mul, nI_sub, nle_t, nle_f, nlt_t, nlt_f, neq_t, neq_f, neg_ne, neg_ne', if_true, if_false, ite_true, ite_false, Nat.zero_add, Nat.add_zero, ld0, ld1, ld2, ld3, ld4, ld5, ld6, ld7, ld8, ld9, ld10, ld11, ld12, ld13, ld14, ld15, ld16, ld17, ld18, ld19, ld20, ld21, ld22, ld23, ld24, ld25, ld26, ld27, ld28, ld29, ld30, ld31, ld32, ld33, ld34, ld35, ld36, ld37, ld38, ld39, ld40, ld41, ld42, ld43, ld44, ld45, ld46, ld47, ld48, ld100, ld101, ld102, ld103, ld104, ld105, gF, div_i, rem_i, l1, m2, l5, m1_lt (vnn _)]
        · have : (v (am le k) < v k) = ¬ (le k (am le k) = true) := by
            rw [← hle2]
            exact propext ⟨fun q => by rw [fa_lt] at q; rw [fa_le]; omega, fun q => fa_of_nle q⟩
          simp (disch := omega) only [bd_some, bd_none, lt_eq, lk_eq, fa_lit, nI_add, nI_mul, nI_sub, nle_t, nle_f, nlt_t, nlt_f, neq_t, neq_f, neg_ne, neg_ne', if_true, if_false, ite_true, ite_false, Nat.zero_add, Nat.add_zero, ld0, ld1, ld2, ld3, ld4, ld5, ld6, ld7, ld8, ld9, ld10, ld11, ld12, ld13, ld14, ld15, ld16, ld17, ld18, ld19, ld20, ld21, ld22, ld23, ld24, ld25, ld26, ld27, ld28, ld29, ld30, ld31, ld32, ld33, ld34, ld35, ld36, ld37, ld38, ld39, ld40, ld41, ld42, ld43, ld44, ld45, ld46, ld47, ld48, ld100, ld101, ld102, ld103, ld104, ld105, gF, div_i, rem_i, l1, m2, l5, ek, this]
          cases le k (am le k) <;> simp)
    obtain ⟨t1, a⟩ := z
    have hz2 : a = _ := hz2
    subst hz2
    refine ⟨t1, ez.trans ?_, hz1⟩
    rcases (show w = 0 ∨ w = 1 ∨ w = 2 by omega) with rfl | rfl | rfl <;> simp (disch := omega) only [bd_some, bd_none, lt_eq, lk_eq, fa_lit, nI_add, nI_mul, nI_sub, nle_t, nle_f, nlt_t, nlt_f, neq_t, neq_f, neg_ne, neg_ne', if_true, if_false, ite_true, ite_false, Nat.zero_add, Nat.add_zero, ld0, ld1, ld2, ld3, ld4, ld5, ld6, ld7, ld8, ld9, ld10, ld11, ld12, ld13, ld14, ld15, ld16, ld17, ld18, ld19, ld20, ld21, ld22, ld23, ld24, ld25, ld26, ld27, ld28, ld29, ld30, ld31, ld32, ld33, ld34, ld35, ld36, ld37, ld38, ld39, ld40, ld41, ld42, ld43, ld44, ld45, ld46, ld47, ld48, ld100, ld101, ld102, ld103, ld104, ld105, gF, div_i, rem_i, show ¬ (9 : Nat) = 0 by decide] <;> rfl
  obtain ⟨t1, e1, f1⟩ := rf
  exact ⟨_, t, t1, e, c4, e1, hc2.tr (f1.core rlb_cor)⟩
end Q9

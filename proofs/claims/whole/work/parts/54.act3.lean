/-! ===== acts: terms, moves, seats given back; undone ===== -/
section Act3
variable {σ τ : ST} {R : RT} {ν μ : NU}
theorem BR.hi (b : BR σ 0 R ν) (w : WR τ 0 R μ) (e : ∀ k, k < 2604 → μ k = ν k) (e2 : ∀ s, s < 16 → μ (2644 + s) = ν (2644 + s)) (e3 : μ 2688 = ν 2688) (f : ∀ k, k ≤ 7 ∨ k = 209 → τ.1 k 0 = σ.1 k 0) : BR τ 0 R μ := by
  obtain ⟨h1, h2, h3, h4, h5, h6, h7, h8, h9, h10⟩ := b
  refine ⟨w, fun l hl => ?_, fun l hl => ?_, fun s hs => ?_, fun s hs => ?_, fun j hj => ?_, fun j hj => ?_, fun j hj => ?_, fun j hj => ?_, ?_⟩
  · rw [f 0 (by omega), e _ (by omega)]; exact h2 l hl
  · rw [f 1 (by omega), e _ (by omega)]; exact h3 l hl
  · rw [f 2 (by omega), show 2652 + s = 2644 + (8 + s) by omega, e2 _ (by omega), show 2644 + (8 + s) = 2652 + s by omega]; exact h4 s hs
  · rw [f 3 (by omega), e2 _ (by omega)]; exact h5 s hs
  · rw [f 4 (by omega), e _ (by omega)]; exact h6 j hj
  · rw [f 5 (by omega), e _ (by omega), e _ (by omega)]; exact h7 j hj
  · rw [f 6 (by omega), e _ (by omega)]; exact h8 j hj
  · rw [f 7 (by omega), e _ (by omega)]; exact h9 j hj
  · rw [f 209 (by omega), e3]; exact h10
theorem JJ.ro (j : JJ σ R ν) : RO R := j.1
theorem JJ.vo (j : JJ σ R ν) : VO R ν := j.2.2.2.2.1
theorem JJ.qo (j : JJ σ R ν) : QO σ := j.2.2.1
theorem JJ.cr (j : JJ σ R ν) : CR σ (σ.2.2 0) R := j.2.2.2.1
theorem JJ.q0 (j : JJ σ R ν) : ldQ σ 0 = some (σ.2.2 0) := if_pos j.2.2.1.1
theorem KA.mr (k : KA σ R ν μ) : MR σ R := k.2.1
theorem KA.n (k : KA σ R ν μ) : σ.1 34 0 = ν := k.2.2.2.2.2.1
theorem IV.tm (h : IV σ R) {l : Nat} (hl : l < R 0 0) (x y : Int32) : Wo_hasTerms σ 0 (nI l) x y = some (if σ.1 34 0 (2660 + l) = x ∧ σ.1 34 0 (2666 + l) = y then nI 1 else nI 0) := by
  have o1 := h.ro.L
  unfold Wo_hasTerms
  simp (disch := omega) only [bd_some, bd_none, lt_eq, lk_eq, fa_lit, nI_add, nI_mul, nI_sub, nle_t, nle_f, nlt_t, nlt_f, neq_t, neq_f, neg_ne, neg_ne', if_true, if_false, ite_true, ite_false, Nat.zero_add, Nat.add_zero, ld0, ld1, ld2, ld3, ld4, ld5, ld6, ld7, ld8, ld9, ld10, ld11, ld12, ld13, ld14, ld15, ld16, ld17, ld18, ld19, ld20, ld21, ld22, ld23, ld24, ld25, ld26, ld27, ld28, ld29, ld30, ld31, ld32, ld33, ld34, ld35, ld36, ld37, ld38, ld39, ld40, ld41, ld42, ld43, ld44, ld45, ld46, ld47, ld48, ld100, ld101, ld102, ld103, ld104, ld105, gF, h.br.W.tm hl, h.br.W.rl hl]
  by_cases c1 : σ.1 34 0 (2660 + l) = x <;> by_cases c2 : σ.1 34 0 (2666 + l) = y <;> simp [c1, c2]
theorem q_terms (h : IV σ R) (x y z : Int32) : QA (Rp_terms σ x y z) (fun τ => Mo_terms τ x y z) := by
  obtain ⟨h1, hc, en⟩ := thr h (nI 0)
  have o1 := h.ro.L
  have o2 := h.ro.P
  have o3 := h.ro.S
  unfold Rp_terms Mo_terms
  rcases at_or (x := x) (n := R 0 0) (by omega) with ⟨l, hl, rfl⟩ | hx
  rotate_left
  · refine QAf (v := nI 0) h ?_ ?_ <;> simp (disch := omega) only [bd_some, lt_eq, fa_lit, neq_t, neq_f, if_true, if_false, ite_true, ite_false, Rp_isLand_t h, Mo_isLand_t h1.mr h1.ro, Rp_isPlayer_t h, Mo_isPlayer_t h1.mr h1.ro, Rp_isSession_t h, Mo_isSession_t h1.mr h1.ro, Rp_isSeat_t h, Mo_isSeat_t h1.mr h1.ro, Rp_isChoice_t, Mo_isRole_t, h.q0, h.cr.L, h.cr.P, h.cr.S, h.cr.kp, h.cr.ld, h1.mr.L, h1.mr.P, h1.mr.S, h1.mr.kp, h1.mr.ld, en, Rp_isLand_f h hx, Mo_isLand_f h1.mr hx]
  rcases tm_or y z with ⟨a, b, ha, hb, hb2, rfl, rfl⟩ | hx
  rotate_left
  · refine QAf (v := nI 0) h ?_ ?_ <;> simp (disch := omega) only [bd_some, lt_eq, fa_lit, neq_t, neq_f, if_true, if_false, ite_true, ite_false, Rp_isLand_t h, Mo_isLand_t h1.mr h1.ro, Rp_isPlayer_t h, Mo_isPlayer_t h1.mr h1.ro, Rp_isSession_t h, Mo_isSession_t h1.mr h1.ro, Rp_isSeat_t h, Mo_isSeat_t h1.mr h1.ro, Rp_isChoice_t, Mo_isRole_t, h.q0, h.cr.L, h.cr.P, h.cr.S, h.cr.kp, h.cr.ld, h1.mr.L, h1.mr.P, h1.mr.S, h1.mr.kp, h1.mr.ld, en, hx]
  by_cases same : σ.1 34 0 (2660 + l) = nI a ∧ σ.1 34 0 (2666 + l) = nI b
  · refine QAf (v := nI 0) h ?_ ?_
    · simp (disch := omega) only [bd_some, bd_none, lt_eq, lk_eq, fa_lit, nI_add, nI_mul, nI_sub, nle_t, nle_f, nlt_t, nlt_f, neq_t, neq_f, neg_ne, neg_ne', if_true, if_false, ite_true, ite_false, Nat.zero_add, Nat.add_zero, ld0, ld1, ld2, ld3, ld4, ld5, ld6, ld7, ld8, ld9, ld10, ld11, ld12, ld13, ld14, ld15, ld16, ld17, ld18, ld19, ld20, ld21, ld22, ld23, ld24, ld25, ld26, ld27, ld28, ld29, ld30, ld31, ld32, ld33, ld34, ld35, ld36, ld37, ld38, ld39, ld40, ld41, ld42, ld43, ld44, ld45, ld46, ld47, ld48, ld100, ld101, ld102, ld103, ld104, ld105, gF, Rp_isLand_t h, Mo_isLand_t h1.mr h1.ro, Rp_isPlayer_t h, Mo_isPlayer_t h1.mr h1.ro, Rp_isSession_t h, Mo_isSession_t h1.mr h1.ro, Rp_isSeat_t h, Mo_isSeat_t h1.mr h1.ro, Rp_isChoice_t, Mo_isRole_t, h.q0, h.cr.L, h.cr.P, h.cr.S, h.cr.kp, h.cr.ld, h1.mr.L, h1.mr.P, h1.mr.S, h1.mr.kp, h1.mr.ld, en, Rp_areTerms_t, h.tm hl, same]
      simp [n10]
    · simp (disch := omega) only [bd_some, bd_none, lt_eq, lk_eq, fa_lit, nI_add, nI_mul, nI_sub, nle_t, nle_f, nlt_t, nlt_f, neq_t, neq_f, neg_ne, neg_ne', if_true, if_false, ite_true, ite_false, Nat.zero_add, Nat.add_zero, ld0, ld1, ld2, ld3, ld4, ld5, ld6, ld7, ld8, ld9, ld10, ld11, ld12, ld13, ld14, ld15, ld16, ld17, ld18, ld19, ld20, ld21, ld22, ld23, ld24, ld25, ld26, ld27, ld28, ld29, ld30, ld31, ld32, ld33, ld34, ld35, ld36, ld37, ld38, ld39, ld40, ld41, ld42, ld43, ld44, ld45, ld46, ld47, ld48, ld100, ld101, ld102, ld103, ld104, ld105, gF, Rp_isLand_t h, Mo_isLand_t h1.mr h1.ro, Rp_isPlayer_t h, Mo_isPlayer_t h1.mr h1.ro, Rp_isSession_t h, Mo_isSession_t h1.mr h1.ro, Rp_isSeat_t h, Mo_isSeat_t h1.mr h1.ro, Rp_isChoice_t, Mo_isRole_t, h.q0, h.cr.L, h.cr.P, h.cr.S, h.cr.kp, h.cr.ld, h1.mr.L, h1.mr.P, h1.mr.S, h1.mr.kp, h1.mr.ld, en, Mo_areTerms_t, same.1, same.2]
  obtain ⟨σ1, e1, j1, b1⟩ := act h
  have e2 := Wo_setTerms_eq (σ := σ1) (i := 0) (x := nI a) (y := nI b) (show l < 6 by omega)
  have f2 : FrK cbd σ1 (setR (setR σ1 24 0 (upd (σ1.1 24 0) l (nI a))) 25 0 (upd (σ1.1 25 0) l (nI b))) := (fr_cbR σ1 _ rfl).tr (fr_cbR _ _ rfl)
  have b2 : BR (setR (setR σ1 24 0 (upd (σ1.1 24 0) l (nI a))) 25 0 (upd (σ1.1 25 0) l (nI b))) 0 R (upd (upd (σ.1 34 0) (2660 + l) (nI a)) (2666 + l) (nI b)) := b1.hi (b1.W.terms h.ro (by omega)) (fun k hk => by rw [upd_ne (by omega), upd_ne (by omega)]) (fun s hs => by rw [upd_ne (by omega), upd_ne (by omega)]) (by rw [upd_ne (by omega), upd_ne (by omega)]) (fun k hk => by rw [rd_ne (by omega), rd_ne (by omega)])
  generalize setR (setR σ1 24 0 (upd (σ1.1 24 0) l (nI a))) 25 0 (upd (σ1.1 25 0) l (nI b)) = σ2 at *
  have j2 := j1.cb f2
  obtain ⟨τ, e3, k3⟩ := keeps_of j2.t b2.t
  refine ⟨nI 1, σ2, setR τ 34 0 (upd (upd (σ.1 34 0) (2660 + l) (nI a)) (2666 + l) (nI b)), R, ?_, ?_, k3.fin (fr_rbR τ _) rd_eq (h.vo.low (fun k hk => by rw [upd_ne (by omega), upd_ne (by omega)]) (by rw [upd_ne (by omega), upd_ne (by omega)]) (h.ho.terms h.ro (by omega) _ _) (fun k hk => ?_))⟩
  · simp (disch := omega) only [bd_some, bd_none, lt_eq, lk_eq, fa_lit, nI_add, nI_mul, nI_sub, nle_t, nle_f, nlt_t, nlt_f, neq_t, neq_f, neg_ne, neg_ne', if_true, if_false, ite_true, ite_false, Nat.zero_add, Nat.add_zero, ld0, ld1, ld2, ld3, ld4, ld5, ld6, ld7, ld8, ld9, ld10, ld11, ld12, ld13, ld14, ld15, ld16, ld17, ld18, ld19, ld20, ld21, ld22, ld23, ld24, ld25, ld26, ld27, ld28, ld29, ld30, ld31, ld32, ld33, ld34, ld35, ld36, ld37, ld38, ld39, ld40, ld41, ld42, ld43, ld44, ld45, ld46, ld47, ld48, ld100, ld101, ld102, ld103, ld104, ld105, gF, Rp_isLand_t h, Mo_isLand_t h1.mr h1.ro, Rp_isPlayer_t h, Mo_isPlayer_t h1.mr h1.ro, Rp_isSession_t h, Mo_isSession_t h1.mr h1.ro, Rp_isSeat_t h, Mo_isSeat_t h1.mr h1.ro, Rp_isChoice_t, Mo_isRole_t, h.q0, h.cr.L, h.cr.P, h.cr.S, h.cr.kp, h.cr.ld, h1.mr.L, h1.mr.P, h1.mr.S, h1.mr.kp, h1.mr.ld, en, Rp_areTerms_t, h.tm hl, same, e1, e2]
  · have i2 : MR (setF σ2 840 0 (nI 0)) R := j2.t.2.1
    have n2 : (setF σ2 840 0 (nI 0)).1 34 0 = σ.1 34 0 := j2.t.2.2.2.2.2.1
    simp (disch := omega) only [bd_some, bd_none, lt_eq, lk_eq, fa_lit, nI_add, nI_mul, nI_sub, nle_t, nle_f, nlt_t, nlt_f, neq_t, neq_f, neg_ne, neg_ne', if_true, if_false, ite_true, ite_false, Nat.zero_add, Nat.add_zero, ld0, ld1, ld2, ld3, ld4, ld5, ld6, ld7, ld8, ld9, ld10, ld11, ld12, ld13, ld14, ld15, ld16, ld17, ld18, ld19, ld20, ld21, ld22, ld23, ld24, ld25, ld26, ld27, ld28, ld29, ld30, ld31, ld32, ld33, ld34, ld35, ld36, ld37, ld38, ld39, ld40, ld41, ld42, ld43, ld44, ld45, ld46, ld47, ld48, ld100, ld101, ld102, ld103, ld104, ld105, st0, st1, st2, st3, st4, st5, st6, st7, st8, st9, st10, st11, st12, st13, st14, st15, st16, st17, st18, st19, st20, st21, st22, st23, st24, st25, st26, st27, st28, st29, st30, st31, st32, st33, st34, st35, st36, st37, st38, st39, st40, st41, st42, st43, st44, st45, st46, st47, st48, st100, st101, st102, st103, st104, st105, gF, Mo_isLand_t i2 h.ro, Mo_areTerms_t, n2, e3, k3.n, rd_eq, setR_setR]
    by_cases c1 : σ.1 34 0 (2660 + l) = nI a
    · by_cases c2 : σ.1 34 0 (2666 + l) = nI b
      · exact absurd ⟨c1, c2⟩ same
      · simp only [c1, c2, if_true, if_false]
    · simp only [c1, if_false]
  · rw [upd_at]
    split
    · exact ⟨b, hb, hb2, rfl⟩
    · rw [upd_ne (by omega)]
      exact h.to k hk
theorem q_move (h : IV σ R) (x y : Int32) : QA (Rp_move σ x y) (fun τ => Mo_move τ x y) := by
  obtain ⟨h1, hc, en⟩ := thr h (nI 0)
  have o1 := h.ro.L
  have o2 := h.ro.P
  have o3 := h.ro.S
  unfold Rp_move Mo_move
  rcases at_or (x := x) (n := R 0 1) (by omega) with ⟨p, hp, rfl⟩ | hx
  rotate_left
  · refine QAf (v := nI 0) h ?_ ?_ <;> simp (disch := omega) only [bd_some, lt_eq, fa_lit, neq_t, neq_f, if_true, if_false, ite_true, ite_false, Rp_isLand_t h, Mo_isLand_t h1.mr h1.ro, Rp_isPlayer_t h, Mo_isPlayer_t h1.mr h1.ro, Rp_isSession_t h, Mo_isSession_t h1.mr h1.ro, Rp_isSeat_t h, Mo_isSeat_t h1.mr h1.ro, Rp_isChoice_t, Mo_isRole_t, h.q0, h.cr.L, h.cr.P, h.cr.S, h.cr.kp, h.cr.ld, h1.mr.L, h1.mr.P, h1.mr.S, h1.mr.kp, h1.mr.ld, en, Rp_isPlayer_f h hx, Mo_isPlayer_f h1.mr hx]
  rcases at_or (x := y) (n := R 0 0) (by omega) with ⟨l, hl, rfl⟩ | hx
  rotate_left
  · refine QAf (v := nI 0) h ?_ ?_ <;> simp (disch := omega) only [bd_some, lt_eq, fa_lit, neq_t, neq_f, if_true, if_false, ite_true, ite_false, Rp_isLand_t h, Mo_isLand_t h1.mr h1.ro, Rp_isPlayer_t h, Mo_isPlayer_t h1.mr h1.ro, Rp_isSession_t h, Mo_isSession_t h1.mr h1.ro, Rp_isSeat_t h, Mo_isSeat_t h1.mr h1.ro, Rp_isChoice_t, Mo_isRole_t, h.q0, h.cr.L, h.cr.P, h.cr.S, h.cr.kp, h.cr.ld, h1.mr.L, h1.mr.P, h1.mr.S, h1.mr.kp, h1.mr.ld, en, Rp_isLand_f h hx, Mo_isLand_f h1.mr hx]
  by_cases same : σ.1 34 0 (2672 + p) = nI l
  · refine QAf (v := nI 0) h ?_ ?_ <;> simp (disch := omega) only [bd_some, bd_none, lt_eq, lk_eq, fa_lit, nI_add, nI_mul, nI_sub, nle_t, nle_f, nlt_t, nlt_f, neq_t, neq_f, neg_ne, neg_ne', if_true, if_false, ite_true, ite_false, Nat.zero_add, Nat.add_zero, ld0, ld1, ld2, ld3, ld4, ld5, ld6, ld7, ld8, ld9, ld10, ld11, ld12, ld13, ld14, ld15, ld16, ld17, ld18, ld19, ld20, ld21, ld22, ld23, ld24, ld25, ld26, ld27, ld28, ld29, ld30, ld31, ld32, ld33, ld34, ld35, ld36, ld37, ld38, ld39, ld40, ld41, ld42, ld43, ld44, ld45, ld46, ld47, ld48, ld100, ld101, ld102, ld103, ld104, ld105, gF, Rp_isLand_t h, Mo_isLand_t h1.mr h1.ro, Rp_isPlayer_t h, Mo_isPlayer_t h1.mr h1.ro, Rp_isSession_t h, Mo_isSession_t h1.mr h1.ro, Rp_isSeat_t h, Mo_isSeat_t h1.mr h1.ro, Rp_isChoice_t, Mo_isRole_t, h.q0, h.cr.L, h.cr.P, h.cr.S, h.cr.kp, h.cr.ld, h1.mr.L, h1.mr.P, h1.mr.S, h1.mr.kp, h1.mr.ld, en, h.br.W.hm hp, same]
  obtain ⟨σ1, e1, j1, b1⟩ := act h
  have f2 : FrK cbd σ1 (setR σ1 26 0 (upd (σ1.1 26 0) p (nI l))) := fr_cbR σ1 _ rfl
  have b2 : BR (setR σ1 26 0 (upd (σ1.1 26 0) p (nI l))) 0 R (upd (σ.1 34 0) (2672 + p) (nI l)) := b1.hi (b1.W.home h.ro) (fun k hk => upd_ne (by omega)) (fun s hs => upd_ne (by omega)) (upd_ne (by omega)) (fun k hk => rd_ne (by omega))
  have e2 : stI σ1 26 0 (nI p) (nI l) = some (setR σ1 26 0 (upd (σ1.1 26 0) p (nI l))) := st26 (by omega)
  generalize setR σ1 26 0 (upd (σ1.1 26 0) p (nI l)) = σ2 at *
  have j2 := j1.cb f2
  obtain ⟨τ, e3, k3⟩ := keeps_of j2.t b2.t
  refine ⟨nI 1, σ2, setR τ 34 0 (upd (σ.1 34 0) (2672 + p) (nI l)), R, ?_, ?_, k3.fin (fr_rbR τ _) rd_eq (h.vo.low (fun k hk => upd_ne (by omega)) (upd_ne (by omega)) (h.ho.home h.ro hl) (fun k hk => ?_))⟩
  · simp (disch := omega) only [bd_some, bd_none, lt_eq, lk_eq, fa_lit, nI_add, nI_mul, nI_sub, nle_t, nle_f, nlt_t, nlt_f, neq_t, neq_f, neg_ne, neg_ne', if_true, if_false, ite_true, ite_false, Nat.zero_add, Nat.add_zero, ld0, ld1, ld2, ld3, ld4, ld5, ld6, ld7, ld8, ld9, ld10, ld11, ld12, ld13, ld14, ld15, ld16, ld17, ld18, ld19, ld20, ld21, ld22, ld23, ld24, ld25, ld26, ld27, ld28, ld29, ld30, ld31, ld32, ld33, ld34, ld35, ld36, ld37, ld38, ld39, ld40, ld41, ld42, ld43, ld44, ld45, ld46, ld47, ld48, ld100, ld101, ld102, ld103, ld104, ld105, gF, Rp_isLand_t h, Mo_isLand_t h1.mr h1.ro, Rp_isPlayer_t h, Mo_isPlayer_t h1.mr h1.ro, Rp_isSession_t h, Mo_isSession_t h1.mr h1.ro, Rp_isSeat_t h, Mo_isSeat_t h1.mr h1.ro, Rp_isChoice_t, Mo_isRole_t, h.q0, h.cr.L, h.cr.P, h.cr.S, h.cr.kp, h.cr.ld, h1.mr.L, h1.mr.P, h1.mr.S, h1.mr.kp, h1.mr.ld, en, h.br.W.hm hp, same, e1, e2]
  · have i2 : MR (setF σ2 840 0 (nI 0)) R := j2.t.2.1
    have n2 : (setF σ2 840 0 (nI 0)).1 34 0 = σ.1 34 0 := j2.t.2.2.2.2.2.1
    simp (disch := omega) only [bd_some, bd_none, lt_eq, lk_eq, fa_lit, nI_add, nI_mul, nI_sub, nle_t, nle_f, nlt_t, nlt_f, neq_t, neq_f, neg_ne, neg_ne', if_true, if_false, ite_true, ite_false, Nat.zero_add, Nat.add_zero, ld0, ld1, ld2, ld3, ld4, ld5, ld6, ld7, ld8, ld9, ld10, ld11, ld12, ld13, ld14, ld15, ld16, ld17, ld18, ld19, ld20, ld21, ld22, ld23, ld24, ld25, ld26, ld27, ld28, ld29, ld30, ld31, ld32, ld33, ld34, ld35, ld36, ld37, ld38, ld39, ld40, ld41, ld42, ld43, ld44, ld45, ld46, ld47, ld48, ld100, ld101, ld102, ld103, ld104, ld105, st0, st1, st2, st3, st4, st5, st6, st7, st8, st9, st10, st11, st12, st13, st14, st15, st16, st17, st18, st19, st20, st21, st22, st23, st24, st25, st26, st27, st28, st29, st30, st31, st32, st33, st34, st35, st36, st37, st38, st39, st40, st41, st42, st43, st44, st45, st46, st47, st48, st100, st101, st102, st103, st104, st105, gF, Mo_isPlayer_t i2 h.ro, Mo_isLand_t i2 h.ro, n2, e3, k3.n, same]
  · rw [upd_ne (by omega)]
    exact h.to k hk
theorem q_giveBack (h : IV σ R) (x y : Int32) : QA (Rp_giveBack σ x y) (fun τ => Mo_giveBack τ x y) := by
  obtain ⟨h1, hc, en⟩ := thr h (nI 0)
  have o1 := h.ro.L
  have o2 := h.ro.P
  have o3 := h.ro.S
  unfold Rp_giveBack Mo_giveBack
  rcases at_or (x := x) (n := R 0 2) (by omega) with ⟨s, hs, rfl⟩ | hx
  rotate_left
  · refine QAf (v := -nI 1) h ?_ ?_ <;> simp (disch := omega) only [bd_some, lt_eq, fa_lit, neq_t, neq_f, if_true, if_false, ite_true, ite_false, Rp_isSeat_g h hx, Mo_isSeat_g h1.mr hx]
  have o8 := h.ro.s hs
  rcases at_or (x := y) (n := R 3 s) (by omega) with ⟨t, ht, rfl⟩ | hx
  rotate_left
  · refine QAf (v := -nI 1) h ?_ ?_ <;> simp (disch := omega) only [bd_some, lt_eq, fa_lit, neq_t, neq_f, if_true, if_false, ite_true, ite_false, Rp_isSeat_f h hs hx, Mo_isSeat_f h1.mr h1.ro hs hx]
  by_cases same : σ.1 34 0 (2604 + 5 * s + t) = -nI 1
  · refine QAf (v := -nI 2) h ?_ ?_
    · simp (disch := omega) only [bd_some, bd_none, lt_eq, lk_eq, fa_lit, nI_add, nI_mul, nI_sub, nle_t, nle_f, nlt_t, nlt_f, neq_t, neq_f, neg_ne, neg_ne', if_true, if_false, ite_true, ite_false, Nat.zero_add, Nat.add_zero, ld0, ld1, ld2, ld3, ld4, ld5, ld6, ld7, ld8, ld9, ld10, ld11, ld12, ld13, ld14, ld15, ld16, ld17, ld18, ld19, ld20, ld21, ld22, ld23, ld24, ld25, ld26, ld27, ld28, ld29, ld30, ld31, ld32, ld33, ld34, ld35, ld36, ld37, ld38, ld39, ld40, ld41, ld42, ld43, ld44, ld45, ld46, ld47, ld48, ld100, ld101, ld102, ld103, ld104, ld105, gF, Rp_isLand_t h, Mo_isLand_t h1.mr h1.ro, Rp_isPlayer_t h, Mo_isPlayer_t h1.mr h1.ro, Rp_isSession_t h, Mo_isSession_t h1.mr h1.ro, Rp_isSeat_t h, Mo_isSeat_t h1.mr h1.ro, Rp_isChoice_t, Mo_isRole_t, h.q0, h.cr.L, h.cr.P, h.cr.S, h.cr.kp, h.cr.ld, h1.mr.L, h1.mr.P, h1.mr.S, h1.mr.kp, h1.mr.ld, en, h.br.W.ho, same, hol_m1]
    · simp (disch := omega) only [bd_some, bd_none, lt_eq, lk_eq, fa_lit, nI_add, nI_mul, nI_sub, nle_t, nle_f, nlt_t, nlt_f, neq_t, neq_f, neg_ne, neg_ne', if_true, if_false, ite_true, ite_false, Nat.zero_add, Nat.add_zero, ld0, ld1, ld2, ld3, ld4, ld5, ld6, ld7, ld8, ld9, ld10, ld11, ld12, ld13, ld14, ld15, ld16, ld17, ld18, ld19, ld20, ld21, ld22, ld23, ld24, ld25, ld26, ld27, ld28, ld29, ld30, ld31, ld32, ld33, ld34, ld35, ld36, ld37, ld38, ld39, ld40, ld41, ld42, ld43, ld44, ld45, ld46, ld47, ld48, ld100, ld101, ld102, ld103, ld104, ld105, gF, Rp_isLand_t h, Mo_isLand_t h1.mr h1.ro, Rp_isPlayer_t h, Mo_isPlayer_t h1.mr h1.ro, Rp_isSession_t h, Mo_isSession_t h1.mr h1.ro, Rp_isSeat_t h, Mo_isSeat_t h1.mr h1.ro, Rp_isChoice_t, Mo_isRole_t, h.q0, h.cr.L, h.cr.P, h.cr.S, h.cr.kp, h.cr.ld, h1.mr.L, h1.mr.P, h1.mr.S, h1.mr.kp, h1.mr.ld, en, Mo_owner_eq, same]
  have hst := h.ho.st h.ro hs ht
  have nm2 : ¬ hol (σ.1 34 0 (2604 + 5 * s + t)) = -nI 2 := by rw [hol_m2 _ hst]; exact same
  have hol1 : hol (σ.1 34 0 (2604 + 5 * s + t)) = σ.1 34 0 (2604 + 5 * s + t) := if_neg same
  obtain ⟨σ1, e1, j1, b1⟩ := act h
  have f2 : FrK cbd σ1 (setR σ1 27 0 (upd (σ1.1 27 0) (s * 5 + t) (-nI 2))) := fr_cbR σ1 _ rfl
  have w2 : WR (setR σ1 27 0 (upd (σ1.1 27 0) (s * 5 + t) (-nI 2))) 0 R (upd (σ.1 34 0) (2604 + 5 * s + t) (-nI 1)) := by
    obtain ⟨w1, w2, w3, w4⟩ := b1.W
    refine ⟨fun k hk => ?_, fun k hk => ?_, fun k hk => ?_, fun j hj => ?_⟩
    · rw [rd_ne (by decide), upd_ne (by omega)]; exact w1 k hk
    · rw [rd_ne (by decide), upd_ne (by omega)]; exact w2 k hk
    · rw [rd_ne (by decide), upd_ne (by omega)]; exact w3 k hk
    · rw [rd_eq, upd_at, upd_at]
      by_cases c : j = s * 5 + t
      · rw [if_pos c, if_pos (by omega)]; exact hol_m1.symm
      · rw [if_neg c, if_neg (by omega)]; exact w4 j hj
  have b2 : BR (setR σ1 27 0 (upd (σ1.1 27 0) (s * 5 + t) (-nI 2))) 0 R (upd (σ.1 34 0) (2604 + 5 * s + t) (-nI 1)) := b1.hi w2 (fun k hk => upd_ne (by omega)) (fun s hs => upd_ne (by omega)) (upd_ne (by omega)) (fun k hk => rd_ne (by omega))
  have e2 : stI σ1 27 0 (nI (s * 5 + t)) (-nI 2) = some (setR σ1 27 0 (upd (σ1.1 27 0) (s * 5 + t) (-nI 2))) := st27 (by omega)
  generalize setR σ1 27 0 (upd (σ1.1 27 0) (s * 5 + t) (-nI 2)) = σ2 at *
  have j2 := j1.cb f2
  obtain ⟨τ, e3, k3⟩ := keeps_of j2.t b2.t
  have hv : HO R (upd (σ.1 34 0) (2604 + 5 * s + t) (-nI 1)) := by
    refine ⟨fun p hp => ?_, fun s' t' hs' ht' => ?_⟩
    · rw [upd_ne (by omega)]; exact h.ho.1 p hp
    · rw [upd_at]
      split
      · exact Or.inl rfl
      · exact h.ho.2 s' t' hs' ht'
  refine ⟨σ.1 34 0 (2604 + 5 * s + t), σ2, setR τ 34 0 (upd (σ.1 34 0) (2604 + 5 * s + t) (-nI 1)), R, ?_, ?_, k3.fin (fr_rbR τ _) rd_eq (h.vo.low (fun k hk => upd_ne (by omega)) (upd_ne (by omega)) hv (fun k hk => ?_))⟩
  · simp (disch := omega) only [bd_some, bd_none, lt_eq, lk_eq, fa_lit, nI_add, nI_mul, nI_sub, nle_t, nle_f, nlt_t, nlt_f, neq_t, neq_f, neg_ne, neg_ne', if_true, if_false, ite_true, ite_false, Nat.zero_add, Nat.add_zero, ld0, ld1, ld2, ld3, ld4, ld5, ld6, ld7, ld8, ld9, ld10, ld11, ld12, ld13, ld14, ld15, ld16, ld17, ld18, ld19, ld20, ld21, ld22, ld23, ld24, ld25, ld26, ld27, ld28, ld29, ld30, ld31, ld32, ld33, ld34, ld35, ld36, ld37, ld38, ld39, ld40, ld41, ld42, ld43, ld44, ld45, ld46, ld47, ld48, ld100, ld101, ld102, ld103, ld104, ld105, gF, Rp_isLand_t h, Mo_isLand_t h1.mr h1.ro, Rp_isPlayer_t h, Mo_isPlayer_t h1.mr h1.ro, Rp_isSession_t h, Mo_isSession_t h1.mr h1.ro, Rp_isSeat_t h, Mo_isSeat_t h1.mr h1.ro, Rp_isChoice_t, Mo_isRole_t, h.q0, h.cr.L, h.cr.P, h.cr.S, h.cr.kp, h.cr.ld, h1.mr.L, h1.mr.P, h1.mr.S, h1.mr.kp, h1.mr.ld, en, h.br.W.ho, nm2, e1, e2, hol1]
    simp only [hol1] at nm2
    simp only [nm2, if_false]
  · have i2 : MR (setF σ2 840 0 (nI 0)) R := j2.t.2.1
    have n2 : (setF σ2 840 0 (nI 0)).1 34 0 = σ.1 34 0 := j2.t.2.2.2.2.2.1
    simp (disch := omega) only [bd_some, bd_none, lt_eq, lk_eq, fa_lit, nI_add, nI_mul, nI_sub, nle_t, nle_f, nlt_t, nlt_f, neq_t, neq_f, neg_ne, neg_ne', if_true, if_false, ite_true, ite_false, Nat.zero_add, Nat.add_zero, ld0, ld1, ld2, ld3, ld4, ld5, ld6, ld7, ld8, ld9, ld10, ld11, ld12, ld13, ld14, ld15, ld16, ld17, ld18, ld19, ld20, ld21, ld22, ld23, ld24, ld25, ld26, ld27, ld28, ld29, ld30, ld31, ld32, ld33, ld34, ld35, ld36, ld37, ld38, ld39, ld40, ld41, ld42, ld43, ld44, ld45, ld46, ld47, ld48, ld100, ld101, ld102, ld103, ld104, ld105, st0, st1, st2, st3, st4, st5, st6, st7, st8, st9, st10, st11, st12, st13, st14, st15, st16, st17, st18, st19, st20, st21, st22, st23, st24, st25, st26, st27, st28, st29, st30, st31, st32, st33, st34, st35, st36, st37, st38, st39, st40, st41, st42, st43, st44, st45, st46, st47, st48, st100, st101, st102, st103, st104, st105, gF, Mo_isSeat_t i2 h.ro, Mo_owner_eq, n2, e3, k3.n, same]
  · rw [upd_ne (by omega)]
    exact h.to k hk
/-! undone -/
theorem q_undo (h : IV σ R) : QA (Rp_undo σ) (fun τ => Mo_undo τ) := by
  obtain ⟨h1, hc, en⟩ := thr h (nI 0)
  obtain ⟨i1, i2, i3, i4, i5, i6, ⟨c, t, g1, g2, g3, g4, g5, g6⟩, i8⟩ := id h
  unfold Rp_undo Hi_recall Mo_undo
  by_cases c0 : c = 0
  · subst c0
    have g4' : (setF σ 840 0 (nI 0)).1 856 0 0 = nI 0 := by rw [rf_ne (by decide)]; exact g4
    refine QAf (v := -nI 1) h ?_ ?_ <;> simp (disch := omega) only [bd_some, lt_eq, fa_lit, neq_t, neq_f, if_true, if_false, ite_true, ite_false, gF, g3, g4', bd_some, neq_t]
  obtain ⟨q, e, f, b⟩ := Bk_copyFrom_eq (σ := σ) (a := 0) (b := t + 1) (by omega)
  have g := g6 0 (by omega)
  rw [show 1 + (t + 12 - 0) % 12 = t + 1 by omega, Nat.sub_zero] at g
  have b1 := b R _ i1 g.1
  have e3 : q.1 330 0 0 = nI c := by rw [f.2 330 0 rfl]; exact g3
  have e4 : q.1 329 0 0 = nI t := by rw [f.2 329 0 rfl]; exact g5
  have fq : FrK (hfr 0) σ (setF (setF q 329 0 (nI ((t + 12 - 1) % 12))) 330 0 (nI (c - 1))) := ((f.mono (fun k i hk => (Bool.or_eq_false_iff.mp hk).1)).tr (FrK.setF q _ rfl)).tr (FrK.setF _ _ rfl)
  have b2 : BR (setF (setF q 329 0 (nI ((t + 12 - 1) % 12))) 330 0 (nI (c - 1))) 0 R (pst σ (c - 1)) := b1.same (fun k hk => by rw [rf_ne (fun q => by subst q; cases hk), rf_ne (fun q => by subst q; cases hk)])
  have v1 : (setF (setF q 329 0 (nI ((t + 12 - 1) % 12))) 330 0 (nI (c - 1))).1 330 0 0 = nI (c - 1) := rf_eq
  have v2 : (setF (setF q 329 0 (nI ((t + 12 - 1) % 12))) 330 0 (nI (c - 1))).1 329 0 0 = nI ((t + 12 - 1) % 12) := by rw [rf_ne (by decide), rf_eq]
  have cls : (bd_ (if gF σ 330 0 = 0 then some (0, σ) else bd_ (ldB (gF σ 329 0)) fun rr1 => bd_ (Bk_copyFrom σ 0 rr1) fun q2 => bd_ (irm ((gF q2 329 0 + 12) - 1) 12) fun v3 => lt_ (setF q2 329 0 v3) fun s4 => lt_ (setF s4 330 0 ((gF s4 330 0) - 1)) fun s5 => some (1, s5)) fun (q1 : Int32 × ST) => if q1.1 = 0 then some (-1, q1.2) else some (gF q1.2 330 0, q1.2)) = some (nI (c - 1), setF (setF q 329 0 (nI ((t + 12 - 1) % 12))) 330 0 (nI (c - 1))) := by
    simp (disch := omega) only [bd_some, bd_none, lt_eq, lk_eq, fa_lit, nI_add, nI_mul, nI_sub, nle_t, nle_f, nlt_t, nlt_f, neq_t, neq_f, neg_ne, neg_ne', if_true, if_false, ite_true, ite_false, Nat.zero_add, Nat.add_zero, ld0, ld1, ld2, ld3, ld4, ld5, ld6, ld7, ld8, ld9, ld10, ld11, ld12, ld13, ld14, ld15, ld16, ld17, ld18, ld19, ld20, ld21, ld22, ld23, ld24, ld25, ld26, ld27, ld28, ld29, ld30, ld31, ld32, ld33, ld34, ld35, ld36, ld37, ld38, ld39, ld40, ld41, ld42, ld43, ld44, ld45, ld46, ld47, ld48, ld100, ld101, ld102, ld103, ld104, ld105, gF, g3, g5, ldB_eq, e, e3, e4, rem_i, rf_ne]
    rw [rf_eq]
  generalize setF (setF q 329 0 (nI ((t + 12 - 1) % 12))) 330 0 (nI (c - 1)) = σ2 at *
  have ep : ∀ m, pst σ2 m = pst σ m := fun m => by unfold pst; rw [fq.2 35 0 rfl]
  have g4' : (setF σ2 840 0 (nI 0)).1 856 0 0 = nI c := by rw [rf_ne (by decide), fq.2 856 0 rfl]; exact g4
  have ref : lp_ (fun rec4 (z3 : ST × Int32) => (if nI 2689 ≤ z3.2 then some ((gF z3.1 856 0), z3.1) else bd_ (ldI z3.1 35 0 ((nI 2689 * (gF z3.1 856 0)) + z3.2)) (fun v6 => bd_ (stI z3.1 34 0 z3.2 v6) (fun s7 => rec4 (s7, (z3.2 + nI 1)))))) FU (setF (setF σ2 840 0 (nI 0)) 856 0 (nI (c - 1)), nI 0) = some (nI (c - 1), setR (setF (setF σ2 840 0 (nI 0)) 856 0 (nI (c - 1))) 34 0 (fa_fill (pst σ (c - 1)) (σ2.1 34 0) 2689)) := by
    have z1 : (setF (setF σ2 840 0 (nI 0)) 856 0 (nI (c - 1))).1 856 0 0 = nI (c - 1) := rf_eq
    have z2 : (setF (setF σ2 840 0 (nI 0)) 856 0 (nI (c - 1))).1 34 0 = σ2.1 34 0 := by rw [rf_ne (by decide), rf_ne (by decide)]
    have z3 : (setF (setF σ2 840 0 (nI 0)) 856 0 (nI (c - 1))).1 35 0 = σ.1 35 0 := by rw [rf_ne (by decide), rf_ne (by decide), fq.2 35 0 rfl]
    generalize setF (setF σ2 840 0 (nI 0)) 856 0 (nI (c - 1)) = s at *
    refine lp_runE 2689 (by decide) (fun k => (setR s 34 0 (fa_fill (pst σ (c - 1)) (σ2.1 34 0) k), nI k)) (by rw [fa_fill_0, ← z2, setR_self]) (fun rec k hk => ?_) (fun rec => ?_)
    · have e4 := fa_fill_succ (pst σ (c - 1)) (σ2.1 34 0) k
      have e5 : pst σ (c - 1) k = σ.1 35 0 (2689 * (c - 1) + k) := rfl
      rw [e5] at e4
      simp (disch := omega) only [bd_some, bd_none, lt_eq, lk_eq, fa_lit, nI_add, nI_mul, nI_sub, nle_t, nle_f, nlt_t, nlt_f, neq_t, neq_f, neg_ne, neg_ne', if_true, if_false, ite_true, ite_false, Nat.zero_add, Nat.add_zero, ld0, ld1, ld2, ld3, ld4, ld5, ld6, ld7, ld8, ld9, ld10, ld11, ld12, ld13, ld14, ld15, ld16, ld17, ld18, ld19, ld20, ld21, ld22, ld23, ld24, ld25, ld26, ld27, ld28, ld29, ld30, ld31, ld32, ld33, ld34, ld35, ld36, ld37, ld38, ld39, ld40, ld41, ld42, ld43, ld44, ld45, ld46, ld47, ld48, ld100, ld101, ld102, ld103, ld104, ld105, gF, rd_ne, z1, z3, st34, rd_eq, setR_setR, e4]
    · simp (disch := omega) only [bd_some, bd_none, lt_eq, lk_eq, fa_lit, nI_add, nI_mul, nI_sub, nle_t, nle_f, nlt_t, nlt_f, neq_t, neq_f, neg_ne, neg_ne', if_true, if_false, ite_true, ite_false, Nat.zero_add, Nat.add_zero, ld0, ld1, ld2, ld3, ld4, ld5, ld6, ld7, ld8, ld9, ld10, ld11, ld12, ld13, ld14, ld15, ld16, ld17, ld18, ld19, ld20, ld21, ld22, ld23, ld24, ld25, ld26, ld27, ld28, ld29, ld30, ld31, ld32, ld33, ld34, ld35, ld36, ld37, ld38, ld39, ld40, ld41, ld42, ld43, ld44, ld45, ld46, ld47, ld48, ld100, ld101, ld102, ld103, ld104, ld105, gF, rd_ne, z1]
  have c1 : c - 1 ≤ 12 := by omega
  refine ⟨nI (c - 1), σ2, setR (setF (setF σ2 840 0 (nI 0)) 856 0 (nI (c - 1))) 34 0 (fa_fill (pst σ (c - 1)) (σ2.1 34 0) 2689), R, cls, ?_, ?_⟩
  · simp (disch := omega) only [bd_some, lt_eq, fa_lit, neq_t, neq_f, if_true, if_false, ite_true, ite_false, gF, g4', neq_f, nI_sub]
    exact ref
  · have ff : FrK (fun k i => (decide (k = 34) || (decide (k = 856) || decide (k = 840))) && decide (i = 0)) σ2 (setR (setF (setF σ2 840 0 (nI 0)) 856 0 (nI (c - 1))) 34 0 (fa_fill (pst σ (c - 1)) (σ2.1 34 0) 2689)) := ((FrK.setF σ2 _ rfl).tr (FrK.setF _ _ rfl)).tr (FrK.setR _ _ rfl)
    have r1 : (setR (setF (setF σ2 840 0 (nI 0)) 856 0 (nI (c - 1))) 34 0 (fa_fill (pst σ (c - 1)) (σ2.1 34 0) 2689)).1 34 0 = fa_fill (pst σ (c - 1)) (σ2.1 34 0) 2689 := rd_eq
    have r2 : (setR (setF (setF σ2 840 0 (nI 0)) 856 0 (nI (c - 1))) 34 0 (fa_fill (pst σ (c - 1)) (σ2.1 34 0) 2689)).1 856 0 0 = nI (c - 1) := by rw [rd_ne (by decide), rf_eq]
    generalize setR (setF (setF σ2 840 0 (nI 0)) 856 0 (nI (c - 1))) 34 0 (fa_fill (pst σ (c - 1)) (σ2.1 34 0) 2689) = υ at *
    have ek : ∀ k, k < 2689 → pst σ (c - 1) k = fa_fill (pst σ (c - 1)) (σ2.1 34 0) 2689 k := fun k hk => (fa_fill_in hk).symm
    have sm : ∀ i, ∀ k, bkk k = true → υ.1 k i = σ2.1 k i := fun i k hk => ff.2 k i (by
      show ((decide (k = 34) || (decide (k = 856) || decide (k = 840))) && decide (i = 0)) = false
      rw [decide_eq_false (fun z => by subst z; cases hk), decide_eq_false (fun z => by subst z; cases hk), decide_eq_false (fun z => by subst z; cases hk)]
      rfl)
    have ep2 : ∀ m, pst υ m = pst σ m := fun m => by rw [← ep]; unfold pst; rw [ff.2 35 0 rfl]
    refine ⟨i1, ?_, ?_, ?_, ?_, ?_, ⟨c - 1, (t + 12 - 1) % 12, c1, Nat.mod_lt _ (by decide), by rw [ff.2 330 0 rfl]; exact v1, r2, by rw [ff.2 329 0 rfl]; exact v2, fun j hj => ?_⟩, ?_⟩
    · have m2 := i2.hf fq
      unfold MR at *
      rw [ff.2 850 0 rfl, ff.2 851 0 rfl, ff.2 852 0 rfl, ff.2 853 0 rfl, ff.2 848 0 rfl, ff.2 849 0 rfl, ff.2 29 0 rfl, ff.2 32 0 rfl, ff.2 33 0 rfl, ff.2 30 0 rfl, ff.2 31 0 rfl]
      exact m2
    · unfold QO; rw [ff.1, fq.1]; exact i3
    · rw [ff.1, fq.1]
      generalize σ.2.2 0 = r at *
      have c2 := i4.hf fq
      unfold CR at *
      rw [ff.2 529 r rfl, ff.2 530 r rfl, ff.2 531 r rfl, ff.2 528 r rfl, ff.2 532 r rfl, ff.2 533 r rfl, ff.2 13 r rfl, ff.2 17 r rfl, ff.2 18 r rfl, ff.2 19 r rfl, ff.2 20 r rfl]
      exact c2
    · rw [r1]
      exact (b2.same (sm 0)).cong i1 ek
    · rw [r1]
      exact g.2.cong i1 ek
    · have g7 := g6 (j + 1) (by omega)
      rw [show c - 1 - (j + 1) = c - 1 - 1 - j by omega] at g7
      rw [ep2, show 1 + ((t + 12 - 1) % 12 + 12 - j) % 12 = 1 + (t + 12 - (j + 1)) % 12 by omega]
      refine ⟨(g7.1.same (fun k hk => fq.2 k _ ?_)).same (sm _), g7.2⟩
      unfold hfr
      rw [bk_ne (by omega), Bool.false_or, decide_eq_false (fun z => by subst z; cases hk), decide_eq_false (fun z => by subst z; cases hk)]
      rfl
    · have t2 := i8.hf fq
      unfold TP at *
      rw [ff.2 652 0 rfl, ff.2 842 0 rfl, ff.2 21 0 rfl, ff.2 28 0 rfl, ff.2 463 0 rfl, ff.2 865 0 rfl, ff.2 464 0 rfl, ff.2 866 0 rfl]
      exact t2
end Act3

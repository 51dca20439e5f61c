/-! ===== queries by what would be ===== -/
section Q7
variable {σ τ : ST} {R : RT} {ν : NU}
theorem Rp_isPlay_t {l s n : Nat} (h : IV σ R) (hl : l < R 0 0) (hs : s < R 0 2) (hn : 1 ≤ n) (hn2 : n ≤ 99999) : Rp_isPlay σ (nI l) (nI s) (nI n) = some (nI 1) := by
  unfold Rp_isPlay
  simp (disch := omega) only [bd_some, bd_none, lt_eq, lk_eq, fa_lit, nI_add, nI_mul, nI_sub, nle_t, nle_f, nlt_t, nlt_f, neq_t, neq_f, neg_ne, neg_ne', if_true, if_false, ite_true, ite_false, Nat.zero_add, Nat.add_zero, ld0, ld1, ld2, ld3, ld4, ld5, ld6, ld7, ld8, ld9, ld10, ld11, ld12, ld13, ld14, ld15, ld16, ld17, ld18, ld19, ld20, ld21, ld22, ld23, ld24, ld25, ld26, ld27, ld28, ld29, ld30, ld31, ld32, ld33, ld34, ld35, ld36, ld37, ld38, ld39, ld40, ld41, ld42, ld43, ld44, ld45, ld46, ld47, ld48, ld100, ld101, ld102, ld103, ld104, ld105, gF, Rp_isLand_t h, Rp_isSession_t h, Rp_isCopies_t]
theorem m_lt (ho : RO R) {l n : Nat} (hl : l < R 0 0) (hn : n ≤ 99999) : n * R 1 l ≤ 99899001 := by
  have h := Nat.mul_le_mul hn (ho.rt hl).2
  omega
theorem c47 (f : FrK r47 σ τ) : Core σ τ := f.core r47_cor
theorem cscr (f : FrK scr σ τ) : Core σ τ := f.core scr_cor
theorem too_much {l n : Nat} (h : IV σ R) (hl : l < R 0 0) : Rp_isTooMuch σ (nI l) (nI n) = some (if σ.1 34 0 (198 + l) + nI (n * R 1 l) ≤ nI 300000000 then nI 0 else nI 1) := by
  have o1 := h.ro.L
  unfold Rp_isTooMuch
  simp (disch := omega) only [bd_some, bd_none, lt_eq, lk_eq, fa_lit, nI_add, nI_mul, nI_sub, nle_t, nle_f, nlt_t, nlt_f, neq_t, neq_f, neg_ne, neg_ne', if_true, if_false, ite_true, ite_false, Nat.zero_add, Nat.add_zero, ld0, ld1, ld2, ld3, ld4, ld5, ld6, ld7, ld8, ld9, ld10, ld11, ld12, ld13, ld14, ld15, ld16, ld17, ld18, ld19, ld20, ld21, ld22, ld23, ld24, ld25, ld26, ld27, ld28, ld29, ld30, ld31, ld32, ld33, ld34, ld35, ld36, ld37, ld38, ld39, ld40, ld41, ld42, ld43, ld44, ld45, ld46, ld47, ld48, ld100, ld101, ld102, ld103, ld104, ld105, gF, h.q0, h.br.lm, h.cr.rt hl]
  split <;> rfl
theorem too_much2 {l : Nat} {m : Int32} (hl : l < 6) : Mo_isTooMuch σ (nI l) m = some (if σ.1 34 0 (198 + l) + m ≤ nI 300000000 then nI 0 else nI 1) := by
  unfold Mo_isTooMuch
  simp (disch := omega) only [bd_some, bd_none, lt_eq, lk_eq, fa_lit, nI_add, nI_mul, nI_sub, nle_t, nle_f, nlt_t, nlt_f, neq_t, neq_f, neg_ne, neg_ne', if_true, if_false, ite_true, ite_false, Nat.zero_add, Nat.add_zero, ld0, ld1, ld2, ld3, ld4, ld5, ld6, ld7, ld8, ld9, ld10, ld11, ld12, ld13, ld14, ld15, ld16, ld17, ld18, ld19, ld20, ld21, ld22, ld23, ld24, ld25, ld26, ld27, ld28, ld29, ld30, ld31, ld32, ld33, ld34, ld35, ld36, ld37, ld38, ld39, ld40, ld41, ld42, ld43, ld44, ld45, ld46, ld47, ld48, ld100, ld101, ld102, ld103, ld104, ld105, gF]
  by_cases c : σ.1 34 0 (198 + l) + m ≤ nI 300000000 <;> simp only [c, if_true, if_false]
theorem q_reached (h : IV σ R) (x y : Int32) : QP (Rp_reached σ x y) (fun τ => Mo_reached τ x y) σ := by
  obtain ⟨h1, hc, en⟩ := thr h (nI 0)
  have o1 := h.ro.L
  have o2 := h.ro.P
  have o3 := h.ro.S
  unfold Rp_reached Mo_reached
  rcases at_or (x := x) (n := R 0 0) (by omega) with ⟨l, hl, rfl⟩ | hx
  rotate_left
  · refine QPf (v := -nI 1) ?_ ?_ <;> simp (disch := omega) only [bd_some, lt_eq, fa_lit, neq_t, neq_f, if_true, if_false, ite_true, ite_false, Rp_isLand_t h, Mo_isLand_t h1.mr h1.ro, Rp_isPlayer_t h, Mo_isPlayer_t h1.mr h1.ro, Rp_isSession_t h, Mo_isSession_t h1.mr h1.ro, Rp_isSeat_t h, Mo_isSeat_t h1.mr h1.ro, Rp_isChoice_t, Mo_isRole_t, h.q0, h.cr.L, h.cr.P, h.cr.S, h.cr.kp, h.cr.ld, h1.mr.L, h1.mr.P, h1.mr.S, h1.mr.kp, h1.mr.ld, en, Rp_isPlay, Rp_isLand_f h hx, Mo_isLand_f h1.mr hx]
  rcases at_or (x := y) (n := R 0 2) (by omega) with ⟨s, hs, rfl⟩ | hx
  rotate_left
  · refine QPf (v := -nI 1) ?_ ?_ <;> simp (disch := omega) only [bd_some, lt_eq, fa_lit, neq_t, neq_f, if_true, if_false, ite_true, ite_false, Rp_isLand_t h, Mo_isLand_t h1.mr h1.ro, Rp_isPlayer_t h, Mo_isPlayer_t h1.mr h1.ro, Rp_isSession_t h, Mo_isSession_t h1.mr h1.ro, Rp_isSeat_t h, Mo_isSeat_t h1.mr h1.ro, Rp_isChoice_t, Mo_isRole_t, h.q0, h.cr.L, h.cr.P, h.cr.S, h.cr.kp, h.cr.ld, h1.mr.L, h1.mr.P, h1.mr.S, h1.mr.kp, h1.mr.ld, en, Rp_isPlay, Rp_isSession_f h hx, Mo_isSession_f h1.mr hx]
  have h13 := hd_le h.ro hs
  obtain ⟨t, e, f, q⟩ := Oc_think_eq (o := 0) (n := 1) h.cr h.br.W h.ro h.ho hl hs (by decide)
  obtain ⟨h2, hc2, en2⟩ := thr (h.core (cscr f)) (nI 0)
  have e34 : (setF t 840 0 (nI 0)).1 34 0 = σ.1 34 0 := en2.trans (core_n (cscr f))
  refine ⟨sI (fun k => b01 (decide (ftP R (σ.1 34 0) l s k = 0))) (hdP R s), t, setF t 840 0 (nI 0), ?_, cscr f, ?_, hc2⟩
  · simp (disch := omega) only [bd_some, bd_none, lt_eq, lk_eq, fa_lit, nI_add, nI_mul, nI_sub, nle_t, nle_f, nlt_t, nlt_f, neq_t, neq_f, neg_ne, neg_ne', if_true, if_false, ite_true, ite_false, Nat.zero_add, Nat.add_zero, ld0, ld1, ld2, ld3, ld4, ld5, ld6, ld7, ld8, ld9, ld10, ld11, ld12, ld13, ld14, ld15, ld16, ld17, ld18, ld19, ld20, ld21, ld22, ld23, ld24, ld25, ld26, ld27, ld28, ld29, ld30, ld31, ld32, ld33, ld34, ld35, ld36, ld37, ld38, ld39, ld40, ld41, ld42, ld43, ld44, ld45, ld46, ld47, ld48, ld100, ld101, ld102, ld103, ld104, ld105, gF, Rp_isLand_t h, Mo_isLand_t h1.mr h1.ro, Rp_isPlayer_t h, Mo_isPlayer_t h1.mr h1.ro, Rp_isSession_t h, Mo_isSession_t h1.mr h1.ro, Rp_isSeat_t h, Mo_isSeat_t h1.mr h1.ro, Rp_isChoice_t, Mo_isRole_t, h.q0, h.cr.L, h.cr.P, h.cr.S, h.cr.kp, h.cr.ld, h1.mr.L, h1.mr.P, h1.mr.S, h1.mr.kp, h1.mr.ld, en, e, Oc_headsPaid_eq h.ro hs q]
  · have hw : Mo_whole (setF t 840 0 (nI 0)) (nI s) = some (nI (hdP R s)) := Mo_whole_eq h2.mr h2.ro hs
    simp (disch := omega) only [bd_some, bd_none, lt_eq, lk_eq, fa_lit, nI_add, nI_mul, nI_sub, nle_t, nle_f, nlt_t, nlt_f, neq_t, neq_f, neg_ne, neg_ne', if_true, if_false, ite_true, ite_false, Nat.zero_add, Nat.add_zero, ld0, ld1, ld2, ld3, ld4, ld5, ld6, ld7, ld8, ld9, ld10, ld11, ld12, ld13, ld14, ld15, ld16, ld17, ld18, ld19, ld20, ld21, ld22, ld23, ld24, ld25, ld26, ld27, ld28, ld29, ld30, ld31, ld32, ld33, ld34, ld35, ld36, ld37, ld38, ld39, ld40, ld41, ld42, ld43, ld44, ld45, ld46, ld47, ld48, ld100, ld101, ld102, ld103, ld104, ld105, gF, Mo_isLand_t h2.mr h2.ro, Mo_isPlayer_t h2.mr h2.ro, Mo_isSession_t h2.mr h2.ro, Mo_isSeat_t h2.mr h2.ro, h2.mr.L, h2.mr.P, h2.mr.S, h2.mr.kp, h2.mr.ld, Mo_isRole_t, en2]
    refine lp_run (hdP R s) (by omega) (fun k => (sI (fun k => b01 (decide (ftP R (σ.1 34 0) l s k = 0))) k, nI k)) (fun rec k hk => ?_) (fun rec => ?_)
    · simp (disch := omega) only [bd_some, bd_none, lt_eq, lk_eq, fa_lit, nI_add, nI_mul, nI_sub, nle_t, nle_f, nlt_t, nlt_f, neq_t, neq_f, neg_ne, neg_ne', if_true, if_false, ite_true, ite_false, Nat.zero_add, Nat.add_zero, ld0, ld1, ld2, ld3, ld4, ld5, ld6, ld7, ld8, ld9, ld10, ld11, ld12, ld13, ld14, ld15, ld16, ld17, ld18, ld19, ld20, ld21, ld22, ld23, ld24, ld25, ld26, ld27, ld28, ld29, ld30, ld31, ld32, ld33, ld34, ld35, ld36, ld37, ld38, ld39, ld40, ld41, ld42, ld43, ld44, ld45, ld46, ld47, ld48, ld100, ld101, ld102, ld103, ld104, ld105, gF, hw, Mo_whose_eq h2.mr h2.ro hs hk, Mo_where_eq h2.mr h2.ro h2.ho hl hs hk, e34, n_ft0, sI_succ]
      by_cases e1 : whP R (σ.1 34 0) s k = -nI 1
      · have e2 : ¬ ftP R (σ.1 34 0) l s k = 0 := fun q => ft0_wh q e1
        simp [e1, e2, b01]
      · by_cases e2 : ftP R (σ.1 34 0) l s k = 0 <;> simp [e1, e2, b01]
    · simp (disch := omega) only [bd_some, bd_none, lt_eq, lk_eq, fa_lit, nI_add, nI_mul, nI_sub, nle_t, nle_f, nlt_t, nlt_f, neq_t, neq_f, neg_ne, neg_ne', if_true, if_false, ite_true, ite_false, Nat.zero_add, Nat.add_zero, ld0, ld1, ld2, ld3, ld4, ld5, ld6, ld7, ld8, ld9, ld10, ld11, ld12, ld13, ld14, ld15, ld16, ld17, ld18, ld19, ld20, ld21, ld22, ld23, ld24, ld25, ld26, ld27, ld28, ld29, ld30, ld31, ld32, ld33, ld34, ld35, ld36, ld37, ld38, ld39, ld40, ld41, ld42, ld43, ld44, ld45, ld46, ld47, ld48, ld100, ld101, ld102, ld103, ld104, ld105, gF, hw]
theorem q_share (h : IV σ R) (x y z w : Int32) : QP (Rp_share σ x y z w) (fun τ => Mo_share τ x y z w) σ := by
  obtain ⟨h1, hc, en⟩ := thr h (nI 0)
  have o1 := h.ro.L
  have o2 := h.ro.P
  have o3 := h.ro.S
  unfold Rp_share Mo_share
  rcases at_or (x := x) (n := R 0 0) (by omega) with ⟨l, hl, rfl⟩ | hx
  rotate_left
  · refine QPf (v := -nI 1) ?_ ?_ <;> simp (disch := omega) only [bd_some, lt_eq, fa_lit, neq_t, neq_f, if_true, if_false, ite_true, ite_false, Rp_isLand_t h, Mo_isLand_t h1.mr h1.ro, Rp_isPlayer_t h, Mo_isPlayer_t h1.mr h1.ro, Rp_isSession_t h, Mo_isSession_t h1.mr h1.ro, Rp_isSeat_t h, Mo_isSeat_t h1.mr h1.ro, Rp_isChoice_t, Mo_isRole_t, h.q0, h.cr.L, h.cr.P, h.cr.S, h.cr.kp, h.cr.ld, h1.mr.L, h1.mr.P, h1.mr.S, h1.mr.kp, h1.mr.ld, en, Rp_isPlay, Rp_isLand_f h hx, Mo_isLand_f h1.mr hx]
  rcases at_or (x := y) (n := R 0 2) (by omega) with ⟨s, hs, rfl⟩ | hx
  rotate_left
  · refine QPf (v := -nI 1) ?_ ?_ <;> simp (disch := omega) only [bd_some, lt_eq, fa_lit, neq_t, neq_f, if_true, if_false, ite_true, ite_false, Rp_isLand_t h, Mo_isLand_t h1.mr h1.ro, Rp_isPlayer_t h, Mo_isPlayer_t h1.mr h1.ro, Rp_isSession_t h, Mo_isSession_t h1.mr h1.ro, Rp_isSeat_t h, Mo_isSeat_t h1.mr h1.ro, Rp_isChoice_t, Mo_isRole_t, h.q0, h.cr.L, h.cr.P, h.cr.S, h.cr.kp, h.cr.ld, h1.mr.L, h1.mr.P, h1.mr.S, h1.mr.kp, h1.mr.ld, en, Rp_isPlay, Rp_isSession_f h hx, Mo_isSession_f h1.mr hx]
  rcases cp_or z with ⟨n, hn, hn2, rfl⟩ | hx
  rotate_left
  · refine QPf (v := -nI 1) ?_ ?_ <;> simp (disch := omega) only [bd_some, lt_eq, fa_lit, neq_t, neq_f, if_true, if_false, ite_true, ite_false, Rp_isLand_t h, Mo_isLand_t h1.mr h1.ro, Rp_isPlayer_t h, Mo_isPlayer_t h1.mr h1.ro, Rp_isSession_t h, Mo_isSession_t h1.mr h1.ro, Rp_isSeat_t h, Mo_isSeat_t h1.mr h1.ro, Rp_isChoice_t, Mo_isRole_t, h.q0, h.cr.L, h.cr.P, h.cr.S, h.cr.kp, h.cr.ld, h1.mr.L, h1.mr.P, h1.mr.S, h1.mr.kp, h1.mr.ld, en, Rp_isPlay, hx]
  have h13 := hd_le h.ro hs
  have hml := m_lt h.ro hl hn2
  have hhd : Rl_headsIn σ (σ.2.2 0) (nI s) = some (nI (hdP R s)) := Rl_headsIn_eq h.cr h.ro hs
  have hwh : Mo_whole (setF σ 840 0 (nI 0)) (nI s) = some (nI (hdP R s)) := Mo_whole_eq h1.mr h1.ro hs
  rcases at_or (x := w) (n := hdP R s) (by omega) with ⟨k, hk, rfl⟩ | hx
  rotate_left
  · by_cases e : nI 0 ≤ w
    · have e2 : ¬ w < nI (hdP R s) := by
        rcases hx with q | q
        · exact absurd (Int32.lt_of_le_of_lt e q) (fun z => Int32.lt_irrefl z)
        · exact fun q2 => Int32.lt_irrefl (Int32.lt_of_lt_of_le q2 q)
      refine QPf (v := -nI 2) ?_ ?_ <;> simp (disch := omega) only [bd_some, bd_none, lt_eq, lk_eq, fa_lit, nI_add, nI_mul, nI_sub, nle_t, nle_f, nlt_t, nlt_f, neq_t, neq_f, neg_ne, neg_ne', if_true, if_false, ite_true, ite_false, Nat.zero_add, Nat.add_zero, ld0, ld1, ld2, ld3, ld4, ld5, ld6, ld7, ld8, ld9, ld10, ld11, ld12, ld13, ld14, ld15, ld16, ld17, ld18, ld19, ld20, ld21, ld22, ld23, ld24, ld25, ld26, ld27, ld28, ld29, ld30, ld31, ld32, ld33, ld34, ld35, ld36, ld37, ld38, ld39, ld40, ld41, ld42, ld43, ld44, ld45, ld46, ld47, ld48, ld100, ld101, ld102, ld103, ld104, ld105, gF, Rp_isLand_t h, Mo_isLand_t h1.mr h1.ro, Rp_isPlayer_t h, Mo_isPlayer_t h1.mr h1.ro, Rp_isSession_t h, Mo_isSession_t h1.mr h1.ro, Rp_isSeat_t h, Mo_isSeat_t h1.mr h1.ro, Rp_isChoice_t, Mo_isRole_t, h.q0, h.cr.L, h.cr.P, h.cr.S, h.cr.kp, h.cr.ld, h1.mr.L, h1.mr.P, h1.mr.S, h1.mr.kp, h1.mr.ld, en, Rp_isPlay, Rp_isCopies_t, Mo_areCopies_t, hhd, hwh, e, e2]
    · refine QPf (v := -nI 1) ?_ ?_ <;> simp (disch := omega) only [bd_some, bd_none, lt_eq, lk_eq, fa_lit, nI_add, nI_mul, nI_sub, nle_t, nle_f, nlt_t, nlt_f, neq_t, neq_f, neg_ne, neg_ne', if_true, if_false, ite_true, ite_false, Nat.zero_add, Nat.add_zero, ld0, ld1, ld2, ld3, ld4, ld5, ld6, ld7, ld8, ld9, ld10, ld11, ld12, ld13, ld14, ld15, ld16, ld17, ld18, ld19, ld20, ld21, ld22, ld23, ld24, ld25, ld26, ld27, ld28, ld29, ld30, ld31, ld32, ld33, ld34, ld35, ld36, ld37, ld38, ld39, ld40, ld41, ld42, ld43, ld44, ld45, ld46, ld47, ld48, ld100, ld101, ld102, ld103, ld104, ld105, gF, Rp_isLand_t h, Mo_isLand_t h1.mr h1.ro, Rp_isPlayer_t h, Mo_isPlayer_t h1.mr h1.ro, Rp_isSession_t h, Mo_isSession_t h1.mr h1.ro, Rp_isSeat_t h, Mo_isSeat_t h1.mr h1.ro, Rp_isChoice_t, Mo_isRole_t, h.q0, h.cr.L, h.cr.P, h.cr.S, h.cr.kp, h.cr.ld, h1.mr.L, h1.mr.P, h1.mr.S, h1.mr.kp, h1.mr.ld, en, Rp_isPlay, Rp_isCopies_t, Mo_areCopies_t, e]
  obtain ⟨t, e, f, q⟩ := Oc_think_eq (o := 0) h.cr h.br.W h.ro h.ho hl hs hn2
  obtain ⟨h2, hc2, en2⟩ := thr (h.core (cscr f)) (nI 0)
  have hw : Mo_whole (setF t 840 0 (nI 0)) (nI s) = some (nI (hdP R s)) := Mo_whole_eq h2.mr h2.ro hs
  refine ⟨nI (shP R s (n * R 1 l) k), t, shS (setF t 840 0 (nI 0)) R s (n * R 1 l), ?_, cscr f, ?_, hc2.tr (c47 (shS_fr _ _))⟩
  · simp (disch := omega) only [bd_some, bd_none, lt_eq, lk_eq, fa_lit, nI_add, nI_mul, nI_sub, nle_t, nle_f, nlt_t, nlt_f, neq_t, neq_f, neg_ne, neg_ne', if_true, if_false, ite_true, ite_false, Nat.zero_add, Nat.add_zero, ld0, ld1, ld2, ld3, ld4, ld5, ld6, ld7, ld8, ld9, ld10, ld11, ld12, ld13, ld14, ld15, ld16, ld17, ld18, ld19, ld20, ld21, ld22, ld23, ld24, ld25, ld26, ld27, ld28, ld29, ld30, ld31, ld32, ld33, ld34, ld35, ld36, ld37, ld38, ld39, ld40, ld41, ld42, ld43, ld44, ld45, ld46, ld47, ld48, ld100, ld101, ld102, ld103, ld104, ld105, gF, Rp_isLand_t h, Mo_isLand_t h1.mr h1.ro, Rp_isPlayer_t h, Mo_isPlayer_t h1.mr h1.ro, Rp_isSession_t h, Mo_isSession_t h1.mr h1.ro, Rp_isSeat_t h, Mo_isSeat_t h1.mr h1.ro, Rp_isChoice_t, Mo_isRole_t, h.q0, h.cr.L, h.cr.P, h.cr.S, h.cr.kp, h.cr.ld, h1.mr.L, h1.mr.P, h1.mr.S, h1.mr.kp, h1.mr.ld, en, Rp_isPlay, Rp_isCopies_t, hhd, e, q.2.2.2.1 k hk]
  · simp (disch := omega) only [bd_some, bd_none, lt_eq, lk_eq, fa_lit, nI_add, nI_mul, nI_sub, nle_t, nle_f, nlt_t, nlt_f, neq_t, neq_f, neg_ne, neg_ne', if_true, if_false, ite_true, ite_false, Nat.zero_add, Nat.add_zero, ld0, ld1, ld2, ld3, ld4, ld5, ld6, ld7, ld8, ld9, ld10, ld11, ld12, ld13, ld14, ld15, ld16, ld17, ld18, ld19, ld20, ld21, ld22, ld23, ld24, ld25, ld26, ld27, ld28, ld29, ld30, ld31, ld32, ld33, ld34, ld35, ld36, ld37, ld38, ld39, ld40, ld41, ld42, ld43, ld44, ld45, ld46, ld47, ld48, ld100, ld101, ld102, ld103, ld104, ld105, gF, Mo_isLand_t h2.mr h2.ro, Mo_isPlayer_t h2.mr h2.ro, Mo_isSession_t h2.mr h2.ro, Mo_isSeat_t h2.mr h2.ro, h2.mr.L, h2.mr.P, h2.mr.S, h2.mr.kp, h2.mr.ld, Mo_isRole_t, en2, Mo_areCopies_t, hw, h2.mr.rt hl, Mo_laysShares_eq h2.mr h2.ro hs (show n * R 1 l < 1073741824 by omega), shS_at hk]
theorem q_wouldPlay (h : IV σ R) (x y z w : Int32) : QP (Rp_wouldPlay σ x y z w) (fun τ => Mo_wouldPlay τ x y z w) σ := by
  obtain ⟨h1, hc, en⟩ := thr h (nI 0)
  have o1 := h.ro.L
  have o2 := h.ro.P
  have o3 := h.ro.S
  unfold Rp_wouldPlay Mo_wouldPlay
  rcases at_or (x := x) (n := R 0 0) (by omega) with ⟨l, hl, rfl⟩ | hx
  rotate_left
  · refine QPf (v := -nI 1) ?_ ?_ <;> simp (disch := omega) only [bd_some, lt_eq, fa_lit, neq_t, neq_f, if_true, if_false, ite_true, ite_false, Rp_isLand_t h, Mo_isLand_t h1.mr h1.ro, Rp_isPlayer_t h, Mo_isPlayer_t h1.mr h1.ro, Rp_isSession_t h, Mo_isSession_t h1.mr h1.ro, Rp_isSeat_t h, Mo_isSeat_t h1.mr h1.ro, Rp_isChoice_t, Mo_isRole_t, h.q0, h.cr.L, h.cr.P, h.cr.S, h.cr.kp, h.cr.ld, h1.mr.L, h1.mr.P, h1.mr.S, h1.mr.kp, h1.mr.ld, en, Rp_isPlay, Rp_isLand_f h hx, Mo_isLand_f h1.mr hx]
  rcases at_or (x := y) (n := R 0 2) (by omega) with ⟨s, hs, rfl⟩ | hx
  rotate_left
  · refine QPf (v := -nI 1) ?_ ?_ <;> simp (disch := omega) only [bd_some, lt_eq, fa_lit, neq_t, neq_f, if_true, if_false, ite_true, ite_false, Rp_isLand_t h, Mo_isLand_t h1.mr h1.ro, Rp_isPlayer_t h, Mo_isPlayer_t h1.mr h1.ro, Rp_isSession_t h, Mo_isSession_t h1.mr h1.ro, Rp_isSeat_t h, Mo_isSeat_t h1.mr h1.ro, Rp_isChoice_t, Mo_isRole_t, h.q0, h.cr.L, h.cr.P, h.cr.S, h.cr.kp, h.cr.ld, h1.mr.L, h1.mr.P, h1.mr.S, h1.mr.kp, h1.mr.ld, en, Rp_isPlay, Rp_isSession_f h hx, Mo_isSession_f h1.mr hx]
  rcases cp_or z with ⟨n, hn, hn2, rfl⟩ | hx
  rotate_left
  · refine QPf (v := -nI 1) ?_ ?_ <;> simp (disch := omega) only [bd_some, lt_eq, fa_lit, neq_t, neq_f, if_true, if_false, ite_true, ite_false, Rp_isLand_t h, Mo_isLand_t h1.mr h1.ro, Rp_isPlayer_t h, Mo_isPlayer_t h1.mr h1.ro, Rp_isSession_t h, Mo_isSession_t h1.mr h1.ro, Rp_isSeat_t h, Mo_isSeat_t h1.mr h1.ro, Rp_isChoice_t, Mo_isRole_t, h.q0, h.cr.L, h.cr.P, h.cr.S, h.cr.kp, h.cr.ld, h1.mr.L, h1.mr.P, h1.mr.S, h1.mr.kp, h1.mr.ld, en, Rp_isPlay, hx]
  rcases at_or (x := w) (n := 3) (by omega) with ⟨f, hf, rfl⟩ | hx
  rotate_left
  · rcases nix_or hx (by decide) with hq | ⟨hq, hq2⟩
    · refine QPf (v := -nI 1) ?_ ?_ <;> simp (disch := omega) only [bd_some, lt_eq, fa_lit, neq_t, neq_f, if_true, if_false, ite_true, ite_false, Rp_isLand_t h, Mo_isLand_t h1.mr h1.ro, Rp_isPlayer_t h, Mo_isPlayer_t h1.mr h1.ro, Rp_isSession_t h, Mo_isSession_t h1.mr h1.ro, Rp_isSeat_t h, Mo_isSeat_t h1.mr h1.ro, Rp_isChoice_t, Mo_isRole_t, h.q0, h.cr.L, h.cr.P, h.cr.S, h.cr.kp, h.cr.ld, h1.mr.L, h1.mr.P, h1.mr.S, h1.mr.kp, h1.mr.ld, en, Rp_isPlay, Rp_isCopies_t, Mo_areCopies_t, Rp_isChoice_f hx, hq]
    · refine QPf (v := -nI 1) ?_ ?_ <;> simp (disch := omega) only [bd_some, lt_eq, fa_lit, neq_t, neq_f, if_true, if_false, ite_true, ite_false, Rp_isLand_t h, Mo_isLand_t h1.mr h1.ro, Rp_isPlayer_t h, Mo_isPlayer_t h1.mr h1.ro, Rp_isSession_t h, Mo_isSession_t h1.mr h1.ro, Rp_isSeat_t h, Mo_isSeat_t h1.mr h1.ro, Rp_isChoice_t, Mo_isRole_t, h.q0, h.cr.L, h.cr.P, h.cr.S, h.cr.kp, h.cr.ld, h1.mr.L, h1.mr.P, h1.mr.S, h1.mr.kp, h1.mr.ld, en, Rp_isPlay, Rp_isCopies_t, Mo_areCopies_t, Rp_isChoice_f hx, hq, hq2]
  have hml := m_lt h.ro hl hn2
  by_cases tm : σ.1 34 0 (198 + l) + nI (n * R 1 l) ≤ nI 300000000
  rotate_left
  · refine QPf (v := -nI 2) ?_ ?_ <;> simp (disch := omega) only [bd_some, bd_none, lt_eq, lk_eq, fa_lit, nI_add, nI_mul, nI_sub, nle_t, nle_f, nlt_t, nlt_f, neq_t, neq_f, neg_ne, neg_ne', if_true, if_false, ite_true, ite_false, Nat.zero_add, Nat.add_zero, ld0, ld1, ld2, ld3, ld4, ld5, ld6, ld7, ld8, ld9, ld10, ld11, ld12, ld13, ld14, ld15, ld16, ld17, ld18, ld19, ld20, ld21, ld22, ld23, ld24, ld25, ld26, ld27, ld28, ld29, ld30, ld31, ld32, ld33, ld34, ld35, ld36, ld37, ld38, ld39, ld40, ld41, ld42, ld43, ld44, ld45, ld46, ld47, ld48, ld100, ld101, ld102, ld103, ld104, ld105, gF, Rp_isLand_t h, Mo_isLand_t h1.mr h1.ro, Rp_isPlayer_t h, Mo_isPlayer_t h1.mr h1.ro, Rp_isSession_t h, Mo_isSession_t h1.mr h1.ro, Rp_isSeat_t h, Mo_isSeat_t h1.mr h1.ro, Rp_isChoice_t, Mo_isRole_t, h.q0, h.cr.L, h.cr.P, h.cr.S, h.cr.kp, h.cr.ld, h1.mr.L, h1.mr.P, h1.mr.S, h1.mr.kp, h1.mr.ld, en, Rp_isPlay, Rp_isCopies_t, Mo_areCopies_t, too_much h hl, h1.mr.rt hl, too_much2, tm]
  obtain ⟨t, e, g, q⟩ := Oc_think_eq (o := 0) h.cr h.br.W h.ro h.ho hl hs hn2
  obtain ⟨h2, hc2, en2⟩ := thr (h.core (cscr g)) (nI 0)
  have et : t.1 34 0 = σ.1 34 0 := core_n (cscr g)
  have e34 : (setF t 840 0 (nI 0)).1 34 0 = σ.1 34 0 := en2.trans et
  refine ⟨sumFP R (σ.1 34 0) l s (n * R 1 l) f, t, shS (setF t 840 0 (nI 0)) R s (n * R 1 l), ?_, cscr g, ?_, hc2.tr (c47 (shS_fr _ _))⟩
  · simp (disch := omega) only [bd_some, bd_none, lt_eq, lk_eq, fa_lit, nI_add, nI_mul, nI_sub, nle_t, nle_f, nlt_t, nlt_f, neq_t, neq_f, neg_ne, neg_ne', if_true, if_false, ite_true, ite_false, Nat.zero_add, Nat.add_zero, ld0, ld1, ld2, ld3, ld4, ld5, ld6, ld7, ld8, ld9, ld10, ld11, ld12, ld13, ld14, ld15, ld16, ld17, ld18, ld19, ld20, ld21, ld22, ld23, ld24, ld25, ld26, ld27, ld28, ld29, ld30, ld31, ld32, ld33, ld34, ld35, ld36, ld37, ld38, ld39, ld40, ld41, ld42, ld43, ld44, ld45, ld46, ld47, ld48, ld100, ld101, ld102, ld103, ld104, ld105, gF, Rp_isLand_t h, Mo_isLand_t h1.mr h1.ro, Rp_isPlayer_t h, Mo_isPlayer_t h1.mr h1.ro, Rp_isSession_t h, Mo_isSession_t h1.mr h1.ro, Rp_isSeat_t h, Mo_isSeat_t h1.mr h1.ro, Rp_isChoice_t, Mo_isRole_t, h.q0, h.cr.L, h.cr.P, h.cr.S, h.cr.kp, h.cr.ld, h1.mr.L, h1.mr.P, h1.mr.S, h1.mr.kp, h1.mr.ld, en, Rp_isPlay, Rp_isCopies_t, too_much h hl, tm, e, q.2.2.2.2.2.2 f hf]
    rfl
  · simp (disch := omega) only [bd_some, bd_none, lt_eq, lk_eq, fa_lit, nI_add, nI_mul, nI_sub, nle_t, nle_f, nlt_t, nlt_f, neq_t, neq_f, neg_ne, neg_ne', if_true, if_false, ite_true, ite_false, Nat.zero_add, Nat.add_zero, ld0, ld1, ld2, ld3, ld4, ld5, ld6, ld7, ld8, ld9, ld10, ld11, ld12, ld13, ld14, ld15, ld16, ld17, ld18, ld19, ld20, ld21, ld22, ld23, ld24, ld25, ld26, ld27, ld28, ld29, ld30, ld31, ld32, ld33, ld34, ld35, ld36, ld37, ld38, ld39, ld40, ld41, ld42, ld43, ld44, ld45, ld46, ld47, ld48, ld100, ld101, ld102, ld103, ld104, ld105, gF, Mo_isLand_t h2.mr h2.ro, Mo_isPlayer_t h2.mr h2.ro, Mo_isSession_t h2.mr h2.ro, Mo_isSeat_t h2.mr h2.ro, h2.mr.L, h2.mr.P, h2.mr.S, h2.mr.kp, h2.mr.ld, Mo_isRole_t, en2, Mo_areCopies_t, h2.mr.rt hl, too_much2, et, tm, Mo_sumOf_eq h2.mr h2.ro h2.ho hl hs (show n * R 1 l < 1073741824 by omega) hf]
/-! what shares of a role add up to -/
theorem sI_nI (f : Nat → Nat) : ∀ n, sI (fun k => nI (f k)) n = nI (fb_sm f n)
  | 0 => rfl
  | n + 1 => by rw [sI_succ, sI_nI f n, nI_add]; rfl
theorem sm_over (p : Nat → Bool) (q r : Nat) : ∀ n, fb_sm (fun k => if p k then q + (if fb_ct p k < r then 1 else 0) else 0) n = fb_ct p n * q + (if fb_ct p n < r then fb_ct p n else r)
  | 0 => by
    show 0 = 0 * q + _
    rw [Nat.zero_mul]
    have : fb_ct p 0 = 0 := rfl
    rw [this]
    split <;> omega
  | n + 1 => by
    rw [fb_sm_succ, sm_over p q r n, fb_ct_succ]
    cases p n
    · simp
    · simp only [if_true, Nat.succ_mul, Nat.add_one_mul]
      by_cases c : fb_ct p n < r
      · rw [if_pos c, if_pos c]
        split <;> omega
      · rw [if_neg c, if_neg c, if_neg (by omega)]
        omega
theorem sm_all (p : Nat → Bool) {m n : Nat} (h : 0 < fb_ct p n) : fb_sm (fun k => if p k then m / fb_ct p n + (if fb_ct p k < m % fb_ct p n then 1 else 0) else 0) n = m := by
  rw [sm_over]
  have := Nat.mod_lt m h
  rw [if_neg (by omega)]
  exact Nat.div_add_mod m _
theorem sh_first (ho : RO R) {s m : Nat} (hs : s < R 0 2) : fb_sm (fun k => if rlP R s k = 0 then shP R s m k else 0) (hdP R s) = fmP R s m := by
  have c0 := ct0 (R := R) s
  by_cases e : fsP R s = 0
  · rw [show fmP R s m = 0 by unfold fmP; rw [if_pos e]]
    have z : ∀ k, k < hdP R s → ¬ rlP R s k = 0 := fun k hk q => by
      rw [e] at c0
      have := fb_ct_zero.mp c0 k hk
      simp [q] at this
    have h0 : fb_sm (fun k => if rlP R s k = 0 then shP R s m k else 0) (hdP R s) = fb_sm (fun _ => 0) (hdP R s) := fb_sm_cong (fun k hk => if_neg (z k hk))
    rw [h0, fb_sm_const, Nat.mul_zero]
  · have h1 := sm_all (fun k => decide (rlP R s k = 0)) (m := fmP R s m) (n := hdP R s) (by show 0 < ctP R s 0 (hdP R s); omega)
    refine Eq.trans (fb_sm_cong (fun k hk => ?_)) h1
    have c1 : fb_ct (fun k => decide (rlP R s k = 0)) (hdP R s) = fsP R s := c0
    rw [c1]
    by_cases e2 : rlP R s k = 0
    · simp only [e2, decide_true, if_true]
      unfold shP
      rw [if_pos e2]
      rfl
    · simp [e2]
theorem sh_side (ho : RO R) {s m : Nat} (hs : s < R 0 2) : fb_sm (fun k => if rlP R s k = 1 then shP R s m k else 0) (hdP R s) = m - fmP R s m := by
  have c0 := ct1 ho hs
  have h13 := hd_le ho hs
  by_cases e : hdP R s - fsP R s = 0
  · have e3 : ¬ fsP R s = 0 := by omega
    rw [show m - fmP R s m = 0 by unfold fmP; rw [if_neg e3, if_pos e, Nat.sub_self]]
    have z : ∀ k, k < hdP R s → ¬ rlP R s k = 1 := fun k hk q => by
      rw [e] at c0
      have := fb_ct_zero.mp c0 k hk
      simp [q] at this
    have h0 : fb_sm (fun k => if rlP R s k = 1 then shP R s m k else 0) (hdP R s) = fb_sm (fun _ => 0) (hdP R s) := fb_sm_cong (fun k hk => if_neg (z k hk))
    rw [h0, fb_sm_const, Nat.mul_zero]
  · have h1 := sm_all (fun k => decide (rlP R s k = 1)) (m := m - fmP R s m) (n := hdP R s) (by show 0 < ctP R s 1 (hdP R s); omega)
    refine Eq.trans (fb_sm_cong (fun k hk => ?_)) h1
    have c1 : fb_ct (fun k => decide (rlP R s k = 1)) (hdP R s) = hdP R s - fsP R s := c0
    rw [c1]
    by_cases e2 : rlP R s k = 1
    · simp only [e2, decide_true, if_true]
      unfold shP
      rw [if_neg (by omega)]
      rfl
    · simp [e2]
theorem sh_all (ho : RO R) {s m : Nat} (hs : s < R 0 2) : fb_sm (shP R s m) (hdP R s) = m := by
  have h1 := sh_first (m := m) ho hs
  have h2 := sh_side (m := m) ho hs
  have h3 := fm_le (s := s) (m := m) ho
  have h4 := fb_sm_add (fun k => if rlP R s k = 0 then shP R s m k else 0) (fun k => if rlP R s k = 1 then shP R s m k else 0) (hdP R s)
  have h5 : fb_sm (fun k => (if rlP R s k = 0 then shP R s m k else 0) + (if rlP R s k = 1 then shP R s m k else 0)) (hdP R s) = fb_sm (shP R s m) (hdP R s) := fb_sm_cong (fun k hk => by
    have := rlP_lt (k := k) ho hs
    rcases (show rlP R s k = 0 ∨ rlP R s k = 1 by omega) with e | e <;> simp [e])
  omega
theorem sI_role (s m a : Nat) : sI (fun k => if rlP R s k = a then nI (shP R s m k) else nI 0) (hdP R s) = nI (fb_sm (fun k => if rlP R s k = a then shP R s m k else 0) (hdP R s)) := by
  rw [← sI_nI]
  refine sI_cong (fun k hk => ?_)
  split <;> rfl
theorem q_split (h : IV σ R) (x y z w : Int32) : QP (Rp_split σ x y z w) (fun τ => Mo_split τ x y z w) σ := by
  obtain ⟨h1, hc, en⟩ := thr h (nI 0)
  have o1 := h.ro.L
  have o2 := h.ro.P
  have o3 := h.ro.S
  unfold Rp_split Mo_split
  rcases at_or (x := x) (n := R 0 0) (by omega) with ⟨l, hl, rfl⟩ | hx
  rotate_left
  · refine QPf (v := -nI 1) ?_ ?_ <;> simp (disch := omega) only [bd_some, lt_eq, fa_lit, neq_t, neq_f, if_true, if_false, ite_true, ite_false, Rp_isLand_t h, Mo_isLand_t h1.mr h1.ro, Rp_isPlayer_t h, Mo_isPlayer_t h1.mr h1.ro, Rp_isSession_t h, Mo_isSession_t h1.mr h1.ro, Rp_isSeat_t h, Mo_isSeat_t h1.mr h1.ro, Rp_isChoice_t, Mo_isRole_t, h.q0, h.cr.L, h.cr.P, h.cr.S, h.cr.kp, h.cr.ld, h1.mr.L, h1.mr.P, h1.mr.S, h1.mr.kp, h1.mr.ld, en, Rp_isPlay, Rp_isLand_f h hx, Mo_isLand_f h1.mr hx]
  rcases at_or (x := y) (n := R 0 2) (by omega) with ⟨s, hs, rfl⟩ | hx
  rotate_left
  · refine QPf (v := -nI 1) ?_ ?_ <;> simp (disch := omega) only [bd_some, lt_eq, fa_lit, neq_t, neq_f, if_true, if_false, ite_true, ite_false, Rp_isLand_t h, Mo_isLand_t h1.mr h1.ro, Rp_isPlayer_t h, Mo_isPlayer_t h1.mr h1.ro, Rp_isSession_t h, Mo_isSession_t h1.mr h1.ro, Rp_isSeat_t h, Mo_isSeat_t h1.mr h1.ro, Rp_isChoice_t, Mo_isRole_t, h.q0, h.cr.L, h.cr.P, h.cr.S, h.cr.kp, h.cr.ld, h1.mr.L, h1.mr.P, h1.mr.S, h1.mr.kp, h1.mr.ld, en, Rp_isPlay, Rp_isSession_f h hx, Mo_isSession_f h1.mr hx]
  rcases cp_or z with ⟨n, hn, hn2, rfl⟩ | hx
  rotate_left
  · refine QPf (v := -nI 1) ?_ ?_ <;> simp (disch := omega) only [bd_some, lt_eq, fa_lit, neq_t, neq_f, if_true, if_false, ite_true, ite_false, Rp_isLand_t h, Mo_isLand_t h1.mr h1.ro, Rp_isPlayer_t h, Mo_isPlayer_t h1.mr h1.ro, Rp_isSession_t h, Mo_isSession_t h1.mr h1.ro, Rp_isSeat_t h, Mo_isSeat_t h1.mr h1.ro, Rp_isChoice_t, Mo_isRole_t, h.q0, h.cr.L, h.cr.P, h.cr.S, h.cr.kp, h.cr.ld, h1.mr.L, h1.mr.P, h1.mr.S, h1.mr.kp, h1.mr.ld, en, Rp_isPlay, hx]
  rcases at_or (x := w) (n := 3) (by omega) with ⟨a, ha, rfl⟩ | hx
  rotate_left
  · rcases nix_or hx (by decide) with hq | ⟨hq, hq2⟩
    · refine QPf (v := -nI 1) ?_ ?_ <;> simp (disch := omega) only [bd_some, lt_eq, fa_lit, neq_t, neq_f, if_true, if_false, ite_true, ite_false, Rp_isLand_t h, Mo_isLand_t h1.mr h1.ro, Rp_isPlayer_t h, Mo_isPlayer_t h1.mr h1.ro, Rp_isSession_t h, Mo_isSession_t h1.mr h1.ro, Rp_isSeat_t h, Mo_isSeat_t h1.mr h1.ro, Rp_isChoice_t, Mo_isRole_t, h.q0, h.cr.L, h.cr.P, h.cr.S, h.cr.kp, h.cr.ld, h1.mr.L, h1.mr.P, h1.mr.S, h1.mr.kp, h1.mr.ld, en, Rp_isPlay, Rp_isCopies_t, Mo_areCopies_t, Rp_isChoice_f hx, hq]
    · refine QPf (v := -nI 1) ?_ ?_ <;> simp (disch := omega) only [bd_some, lt_eq, fa_lit, neq_t, neq_f, if_true, if_false, ite_true, ite_false, Rp_isLand_t h, Mo_isLand_t h1.mr h1.ro, Rp_isPlayer_t h, Mo_isPlayer_t h1.mr h1.ro, Rp_isSession_t h, Mo_isSession_t h1.mr h1.ro, Rp_isSeat_t h, Mo_isSeat_t h1.mr h1.ro, Rp_isChoice_t, Mo_isRole_t, h.q0, h.cr.L, h.cr.P, h.cr.S, h.cr.kp, h.cr.ld, h1.mr.L, h1.mr.P, h1.mr.S, h1.mr.kp, h1.mr.ld, en, Rp_isPlay, Rp_isCopies_t, Mo_areCopies_t, Rp_isChoice_f hx, hq, hq2]
  have h13 := hd_le h.ro hs
  have hml := m_lt h.ro hl hn2
  obtain ⟨t, e, g, q⟩ := Oc_think_eq (o := 0) h.cr h.br.W h.ro h.ho hl hs hn2
  obtain ⟨h2, hc2, en2⟩ := thr (h.core (cscr g)) (nI 0)
  have et : t.1 34 0 = σ.1 34 0 := core_n (cscr g)
  have e34 : (setF t 840 0 (nI 0)).1 34 0 = σ.1 34 0 := en2.trans et
  have hcc := hc2.tr (c47 (shS_fr (σ := setF t 840 0 (nI 0)) (R := R) s (n * R 1 l)))
  have h3 := h2.mr.f47 (shS_fr (R := R) s (n * R 1 l))
  have e35 : (shS (setF t 840 0 (nI 0)) R s (n * R 1 l)).1 34 0 = σ.1 34 0 := (shS_34 _ _).trans e34
  have hw : Mo_whole (shS (setF t 840 0 (nI 0)) R s (n * R 1 l)) (nI s) = some (nI (hdP R s)) := Mo_whole_eq h3 h2.ro hs
  have hls := Mo_laysShares_eq h2.mr h2.ro hs (show n * R 1 l < 1073741824 by omega)
  generalize hS : shS (setF t 840 0 (nI 0)) R s (n * R 1 l) = S at *
  have hSk : ∀ k, k < hdP R s → S.1 47 0 k = nI (shP R s (n * R 1 l) k) := fun k hk => by rw [← hS]; exact shS_at hk
  have hra : ∀ k, k < hdP R s → Mo_roleAt S (nI s) (nI k) = some (nI (rlP R s k)) := fun k hk => Mo_roleAt_eq h3 h2.ro hs hk
  rcases (show a = 2 ∨ a < 2 by omega) with rfl | ha2
  · have hsum : opnP R (σ.1 34 0) l s (n * R 1 l) 1 + opnP R (σ.1 34 0) l s (n * R 1 l) 2 = sI (fun k => if whP R (σ.1 34 0) s k = -nI 1 then nI (shP R s (n * R 1 l) k) else nI 0) (hdP R s) := by
      unfold opnP
      rw [← sI_add]
      refine sI_cong (fun k hk => ?_)
      by_cases e1 : whP R (σ.1 34 0) s k = -nI 1
      · rcases ft_open (l := l) e1 with e2 | e2
        · simp only [e1, e2, true_and, if_true, show ¬ (1 : Nat) = 2 by decide, if_false]
          exact add_n0 _
        · simp only [e1, e2, true_and, if_true, show ¬ (2 : Nat) = 1 by decide, if_false]
          exact Int32.zero_add _
      · simp only [e1, false_and, if_false]
        rfl
    refine ⟨sI (fun k => if whP R (σ.1 34 0) s k = -nI 1 then nI (shP R s (n * R 1 l) k) else nI 0) (hdP R s), t, S, ?_, cscr g, ?_, hcc⟩
    · simp (disch := omega) only [bd_some, bd_none, lt_eq, lk_eq, fa_lit, nI_add, nI_mul, nI_sub, nle_t, nle_f, nlt_t, nlt_f, neq_t, neq_f, neg_ne, neg_ne', if_true, if_false, ite_true, ite_false, Nat.zero_add, Nat.add_zero, ld0, ld1, ld2, ld3, ld4, ld5, ld6, ld7, ld8, ld9, ld10, ld11, ld12, ld13, ld14, ld15, ld16, ld17, ld18, ld19, ld20, ld21, ld22, ld23, ld24, ld25, ld26, ld27, ld28, ld29, ld30, ld31, ld32, ld33, ld34, ld35, ld36, ld37, ld38, ld39, ld40, ld41, ld42, ld43, ld44, ld45, ld46, ld47, ld48, ld100, ld101, ld102, ld103, ld104, ld105, gF, Rp_isLand_t h, Mo_isLand_t h1.mr h1.ro, Rp_isPlayer_t h, Mo_isPlayer_t h1.mr h1.ro, Rp_isSession_t h, Mo_isSession_t h1.mr h1.ro, Rp_isSeat_t h, Mo_isSeat_t h1.mr h1.ro, Rp_isChoice_t, Mo_isRole_t, h.q0, h.cr.L, h.cr.P, h.cr.S, h.cr.kp, h.cr.ld, h1.mr.L, h1.mr.P, h1.mr.S, h1.mr.kp, h1.mr.ld, en, Rp_isPlay, Rp_isCopies_t, e, Oc_openMoney_eq h.ro h.ho hs (show 1 < 3 by decide) q, Oc_openMoney_eq h.ro h.ho hs (show 2 < 3 by decide) q]
      rw [hsum]
    · simp (disch := omega) only [bd_some, bd_none, lt_eq, lk_eq, fa_lit, nI_add, nI_mul, nI_sub, nle_t, nle_f, nlt_t, nlt_f, neq_t, neq_f, neg_ne, neg_ne', if_true, if_false, ite_true, ite_false, Nat.zero_add, Nat.add_zero, ld0, ld1, ld2, ld3, ld4, ld5, ld6, ld7, ld8, ld9, ld10, ld11, ld12, ld13, ld14, ld15, ld16, ld17, ld18, ld19, ld20, ld21, ld22, ld23, ld24, ld25, ld26, ld27, ld28, ld29, ld30, ld31, ld32, ld33, ld34, ld35, ld36, ld37, ld38, ld39, ld40, ld41, ld42, ld43, ld44, ld45, ld46, ld47, ld48, ld100, ld101, ld102, ld103, ld104, ld105, gF, Mo_isLand_t h2.mr h2.ro, Mo_isPlayer_t h2.mr h2.ro, Mo_isSession_t h2.mr h2.ro, Mo_isSeat_t h2.mr h2.ro, h2.mr.L, h2.mr.P, h2.mr.S, h2.mr.kp, h2.mr.ld, Mo_isRole_t, en2, Mo_areCopies_t, h2.mr.rt hl, hls]
      refine lp_run (hdP R s) (by omega) (fun k => (sI (fun k => if whP R (σ.1 34 0) s k = -nI 1 then nI (shP R s (n * R 1 l) k) else nI 0) k, nI k)) (fun rec k hk => ?_) (fun rec => ?_)
      · simp (disch := omega) only [bd_some, bd_none, lt_eq, lk_eq, fa_lit, nI_add, nI_mul, nI_sub, nle_t, nle_f, nlt_t, nlt_f, neq_t, neq_f, neg_ne, neg_ne', if_true, if_false, ite_true, ite_false, Nat.zero_add, Nat.add_zero, ld0, ld1, ld2, ld3, ld4, ld5, ld6, ld7, ld8, ld9, ld10, ld11, ld12, ld13, ld14, ld15, ld16, ld17, ld18, ld19, ld20, ld21, ld22, ld23, ld24, ld25, ld26, ld27, ld28, ld29, ld30, ld31, ld32, ld33, ld34, ld35, ld36, ld37, ld38, ld39, ld40, ld41, ld42, ld43, ld44, ld45, ld46, ld47, ld48, ld100, ld101, ld102, ld103, ld104, ld105, gF, hw, Mo_whose_eq h3 h2.ro hs hk, e35, hSk k hk, sI_succ]
        by_cases e1 : whP R (σ.1 34 0) s k = -nI 1 <;> simp [e1]
      · simp (disch := omega) only [bd_some, bd_none, lt_eq, lk_eq, fa_lit, nI_add, nI_mul, nI_sub, nle_t, nle_f, nlt_t, nlt_f, neq_t, neq_f, neg_ne, neg_ne', if_true, if_false, ite_true, ite_false, Nat.zero_add, Nat.add_zero, ld0, ld1, ld2, ld3, ld4, ld5, ld6, ld7, ld8, ld9, ld10, ld11, ld12, ld13, ld14, ld15, ld16, ld17, ld18, ld19, ld20, ld21, ld22, ld23, ld24, ld25, ld26, ld27, ld28, ld29, ld30, ld31, ld32, ld33, ld34, ld35, ld36, ld37, ld38, ld39, ld40, ld41, ld42, ld43, ld44, ld45, ld46, ld47, ld48, ld100, ld101, ld102, ld103, ld104, ld105, gF, hw]
  · refine ⟨sI (fun k => if rlP R s k = a then nI (shP R s (n * R 1 l) k) else nI 0) (hdP R s), t, S, ?_, cscr g, ?_, hcc⟩
    · rw [sI_role]
      rcases (show a = 0 ∨ a = 1 by omega) with rfl | rfl
      · rw [sh_first h.ro hs]
        simp (disch := omega) only [bd_some, bd_none, lt_eq, lk_eq, fa_lit, nI_add, nI_mul, nI_sub, nle_t, nle_f, nlt_t, nlt_f, neq_t, neq_f, neg_ne, neg_ne', if_true, if_false, ite_true, ite_false, Nat.zero_add, Nat.add_zero, ld0, ld1, ld2, ld3, ld4, ld5, ld6, ld7, ld8, ld9, ld10, ld11, ld12, ld13, ld14, ld15, ld16, ld17, ld18, ld19, ld20, ld21, ld22, ld23, ld24, ld25, ld26, ld27, ld28, ld29, ld30, ld31, ld32, ld33, ld34, ld35, ld36, ld37, ld38, ld39, ld40, ld41, ld42, ld43, ld44, ld45, ld46, ld47, ld48, ld100, ld101, ld102, ld103, ld104, ld105, gF, Rp_isLand_t h, Mo_isLand_t h1.mr h1.ro, Rp_isPlayer_t h, Mo_isPlayer_t h1.mr h1.ro, Rp_isSession_t h, Mo_isSession_t h1.mr h1.ro, Rp_isSeat_t h, Mo_isSeat_t h1.mr h1.ro, Rp_isChoice_t, Mo_isRole_t, h.q0, h.cr.L, h.cr.P, h.cr.S, h.cr.kp, h.cr.ld, h1.mr.L, h1.mr.P, h1.mr.S, h1.mr.kp, h1.mr.ld, en, Rp_isPlay, Rp_isCopies_t, e, q.2.1]
      · rw [sh_side h.ro hs]
        simp (disch := omega) only [bd_some, bd_none, lt_eq, lk_eq, fa_lit, nI_add, nI_mul, nI_sub, nle_t, nle_f, nlt_t, nlt_f, neq_t, neq_f, neg_ne, neg_ne', if_true, if_false, ite_true, ite_false, Nat.zero_add, Nat.add_zero, ld0, ld1, ld2, ld3, ld4, ld5, ld6, ld7, ld8, ld9, ld10, ld11, ld12, ld13, ld14, ld15, ld16, ld17, ld18, ld19, ld20, ld21, ld22, ld23, ld24, ld25, ld26, ld27, ld28, ld29, ld30, ld31, ld32, ld33, ld34, ld35, ld36, ld37, ld38, ld39, ld40, ld41, ld42, ld43, ld44, ld45, ld46, ld47, ld48, ld100, ld101, ld102, ld103, ld104, ld105, gF, Rp_isLand_t h, Mo_isLand_t h1.mr h1.ro, Rp_isPlayer_t h, Mo_isPlayer_t h1.mr h1.ro, Rp_isSession_t h, Mo_isSession_t h1.mr h1.ro, Rp_isSeat_t h, Mo_isSeat_t h1.mr h1.ro, Rp_isChoice_t, Mo_isRole_t, h.q0, h.cr.L, h.cr.P, h.cr.S, h.cr.kp, h.cr.ld, h1.mr.L, h1.mr.P, h1.mr.S, h1.mr.kp, h1.mr.ld, en, Rp_isPlay, Rp_isCopies_t, e, q.2.2.1]
    · simp (disch := omega) only [bd_some, bd_none, lt_eq, lk_eq, fa_lit, nI_add, nI_mul, nI_sub, nle_t, nle_f, nlt_t, nlt_f, neq_t, neq_f, neg_ne, neg_ne', if_true, if_false, ite_true, ite_false, Nat.zero_add, Nat.add_zero, ld0, ld1, ld2, ld3, ld4, ld5, ld6, ld7, ld8, ld9, ld10, ld11, ld12, ld13, ld14, ld15, ld16, ld17, ld18, ld19, ld20, ld21, ld22, ld23, ld24, ld25, ld26, ld27, ld28, ld29, ld30, ld31, ld32, ld33, ld34, ld35, ld36, ld37, ld38, ld39, ld40, ld41, ld42, ld43, ld44, ld45, ld46, ld47, ld48, ld100, ld101, ld102, ld103, ld104, ld105, gF, Mo_isLand_t h2.mr h2.ro, Mo_isPlayer_t h2.mr h2.ro, Mo_isSession_t h2.mr h2.ro, Mo_isSeat_t h2.mr h2.ro, h2.mr.L, h2.mr.P, h2.mr.S, h2.mr.kp, h2.mr.ld, Mo_isRole_t, en2, Mo_areCopies_t, h2.mr.rt hl, hls]
      refine lp_run (hdP R s) (by omega) (fun k => (sI (fun k => if rlP R s k = a then nI (shP R s (n * R 1 l) k) else nI 0) k, nI k)) (fun rec k hk => ?_) (fun rec => ?_)
      · have hrl := rlP_lt (k := k) h.ro hs
        simp (disch := omega) only [bd_some, bd_none, lt_eq, lk_eq, fa_lit, nI_add, nI_mul, nI_sub, nle_t, nle_f, nlt_t, nlt_f, neq_t, neq_f, neg_ne, neg_ne', if_true, if_false, ite_true, ite_false, Nat.zero_add, Nat.add_zero, ld0, ld1, ld2, ld3, ld4, ld5, ld6, ld7, ld8, ld9, ld10, ld11, ld12, ld13, ld14, ld15, ld16, ld17, ld18, ld19, ld20, ld21, ld22, ld23, ld24, ld25, ld26, ld27, ld28, ld29, ld30, ld31, ld32, ld33, ld34, ld35, ld36, ld37, ld38, ld39, ld40, ld41, ld42, ld43, ld44, ld45, ld46, ld47, ld48, ld100, ld101, ld102, ld103, ld104, ld105, gF, hw, hra k hk, hSk k hk, sI_succ, neq_i]
        by_cases e1 : rlP R s k = a <;> simp [e1, n10]
      · simp (disch := omega) only [bd_some, bd_none, lt_eq, lk_eq, fa_lit, nI_add, nI_mul, nI_sub, nle_t, nle_f, nlt_t, nlt_f, neq_t, neq_f, neg_ne, neg_ne', if_true, if_false, ite_true, ite_false, Nat.zero_add, Nat.add_zero, ld0, ld1, ld2, ld3, ld4, ld5, ld6, ld7, ld8, ld9, ld10, ld11, ld12, ld13, ld14, ld15, ld16, ld17, ld18, ld19, ld20, ld21, ld22, ld23, ld24, ld25, ld26, ld27, ld28, ld29, ld30, ld31, ld32, ld33, ld34, ld35, ld36, ld37, ld38, ld39, ld40, ld41, ld42, ld43, ld44, ld45, ld46, ld47, ld48, ld100, ld101, ld102, ld103, ld104, ld105, gF, hw]
end Q7

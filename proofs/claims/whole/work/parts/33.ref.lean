/-! ===== the reference's helpers ===== -/
section Ref
variable {σ : ST} {R : RT}
theorem Mo_isLand_t {l : Nat} (h : MR σ R) (ho : RO R) (hl : l < R 0 0) : Mo_isLand σ (nI l) = some (nI 1) := by
  obtain ⟨h1, h2, h3, -⟩ := h
  obtain ⟨o1, o2, o3, -⟩ := ho
  unfold Mo_isLand
  simp (disch := omega) only [bd_some, bd_none, lt_eq, lk_eq, fa_lit, nI_add, nI_mul, nI_sub, nle_t, nle_f, nlt_t, nlt_f, neq_t, neq_f, neg_ne, neg_ne', if_true, if_false, ite_true, ite_false, Nat.zero_add, Nat.add_zero, ld0, ld1, ld2, ld3, ld4, ld5, ld6, ld7, ld8, ld9, ld10, ld11, ld12, ld13, ld14, ld15, ld16, ld17, ld18, ld19, ld20, ld21, ld22, ld23, ld24, ld25, ld26, ld27, ld28, ld29, ld30, ld31, ld32, ld33, ld34, ld35, ld36, ld37, ld38, ld39, ld40, ld41, ld42, ld43, ld44, ld45, ld46, ld47, ld48, ld100, ld101, ld102, ld103, ld104, ld105, h1]
theorem Mo_paidIn_eq {p l : Nat} (hp : p < 16) (hl : l < 6) : Mo_paidIn σ (nI p) (nI l) = some (σ.1 34 0 (6 * p + l)) := by
  unfold Mo_paidIn
  simp (disch := omega) only [bd_some, bd_none, lt_eq, lk_eq, fa_lit, nI_add, nI_mul, nI_sub, nle_t, nle_f, nlt_t, nlt_f, neq_t, neq_f, neg_ne, neg_ne', if_true, if_false, ite_true, ite_false, Nat.zero_add, Nat.add_zero, ld0, ld1, ld2, ld3, ld4, ld5, ld6, ld7, ld8, ld9, ld10, ld11, ld12, ld13, ld14, ld15, ld16, ld17, ld18, ld19, ld20, ld21, ld22, ld23, ld24, ld25, ld26, ld27, ld28, ld29, ld30, ld31, ld32, ld33, ld34, ld35, ld36, ld37, ld38, ld39, ld40, ld41, ld42, ld43, ld44, ld45, ld46, ld47, ld48, ld100, ld101, ld102, ld103, ld104, ld105]
theorem Mo_weightIn_eq {p l : Nat} (hp : p < 16) (hl : l < 6) : Mo_weightIn σ (nI p) (nI l) = some (σ.1 34 0 (96 + 6 * p + l)) := by
  unfold Mo_weightIn
  simp (disch := omega) only [bd_some, bd_none, lt_eq, lk_eq, fa_lit, nI_add, nI_mul, nI_sub, nle_t, nle_f, nlt_t, nlt_f, neq_t, neq_f, neg_ne, neg_ne', if_true, if_false, ite_true, ite_false, Nat.zero_add, Nat.add_zero, ld0, ld1, ld2, ld3, ld4, ld5, ld6, ld7, ld8, ld9, ld10, ld11, ld12, ld13, ld14, ld15, ld16, ld17, ld18, ld19, ld20, ld21, ld22, ld23, ld24, ld25, ld26, ld27, ld28, ld29, ld30, ld31, ld32, ld33, ld34, ld35, ld36, ld37, ld38, ld39, ld40, ld41, ld42, ld43, ld44, ld45, ld46, ld47, ld48, ld100, ld101, ld102, ld103, ld104, ld105]
theorem Mo_paidAll_eq {p : Nat} (hp : p < 16) : Mo_paidAll σ (nI p) = some (sI (fun l => σ.1 34 0 (6 * p + l)) 6) := by
  unfold Mo_paidAll
  refine lp_run 6 (by decide) (fun k => (sI (fun l => σ.1 34 0 (6 * p + l)) k, nI k)) (fun rec k hk => ?_) (fun rec => ?_)
  · simp (disch := omega) only [bd_some, bd_none, lt_eq, lk_eq, fa_lit, nI_add, nI_mul, nI_sub, nle_t, nle_f, nlt_t, nlt_f, neq_t, neq_f, neg_ne, neg_ne', if_true, if_false, ite_true, ite_false, Nat.zero_add, Nat.add_zero, ld0, ld1, ld2, ld3, ld4, ld5, ld6, ld7, ld8, ld9, ld10, ld11, ld12, ld13, ld14, ld15, ld16, ld17, ld18, ld19, ld20, ld21, ld22, ld23, ld24, ld25, ld26, ld27, ld28, ld29, ld30, ld31, ld32, ld33, ld34, ld35, ld36, ld37, ld38, ld39, ld40, ld41, ld42, ld43, ld44, ld45, ld46, ld47, ld48, ld100, ld101, ld102, ld103, ld104, ld105, sI_succ, Mo_paidIn_eq]
  · simp (disch := omega) only [bd_some, bd_none, lt_eq, lk_eq, fa_lit, nI_add, nI_mul, nI_sub, nle_t, nle_f, nlt_t, nlt_f, neq_t, neq_f, neg_ne, neg_ne', if_true, if_false, ite_true, ite_false, Nat.zero_add, Nat.add_zero, ld0, ld1, ld2, ld3, ld4, ld5, ld6, ld7, ld8, ld9, ld10, ld11, ld12, ld13, ld14, ld15, ld16, ld17, ld18, ld19, ld20, ld21, ld22, ld23, ld24, ld25, ld26, ld27, ld28, ld29, ld30, ld31, ld32, ld33, ld34, ld35, ld36, ld37, ld38, ld39, ld40, ld41, ld42, ld43, ld44, ld45, ld46, ld47, ld48, ld100, ld101, ld102, ld103, ld104, ld105]
theorem Mo_doesPay_eq {l o r : Nat} (hl : l < 6) (ho : o < 6) : Mo_doesPay σ (nI l) (nI o) (nI r) = some (b01 (pay (σ.1 34 0) l o r)) := by
  unfold Mo_doesPay pay hrl
  simp (disch := omega) only [bd_some, bd_none, lt_eq, lk_eq, fa_lit, nI_add, nI_mul, nI_sub, nle_t, nle_f, nlt_t, nlt_f, neq_t, neq_f, neg_ne, neg_ne', if_true, if_false, ite_true, ite_false, Nat.zero_add, Nat.add_zero, ld0, ld1, ld2, ld3, ld4, ld5, ld6, ld7, ld8, ld9, ld10, ld11, ld12, ld13, ld14, ld15, ld16, ld17, ld18, ld19, ld20, ld21, ld22, ld23, ld24, ld25, ld26, ld27, ld28, ld29, ld30, ld31, ld32, ld33, ld34, ld35, ld36, ld37, ld38, ld39, ld40, ld41, ld42, ld43, ld44, ld45, ld46, ld47, ld48, ld100, ld101, ld102, ld103, ld104, ld105, neq_i]
  rcases and1n (σ.1 34 0 (2666 + l) >>> (nI r &&& nI 31)) with e | e
  · simp [e, b01, n01]
  · by_cases h1 : l = o <;> by_cases h2 : σ.1 34 0 (2660 + l) = nI 0 <;> by_cases h3 : σ.1 34 0 (2660 + l) = nI 1 <;> by_cases h4 : σ.1 34 0 (2660 + o) = nI 2 <;> rcases and1n (σ.1 34 0 (2666 + o) >>> (nI r &&& nI 31)) with e2 | e2 <;> simp_all [b01, n01, n10]
theorem Mo_isLand_f {x : Int32} (h : MR σ R) (hx : x < nI 0 ∨ nI (R 0 0) ≤ x) : Mo_isLand σ x = some (nI 0) := by
  unfold Mo_isLand
  rw [show gF σ 850 0 = _ from h.1]
  rcases hx with q | q
  · simp only [fa_lit, q, if_true]
  · simp only [fa_lit, q, if_true, ite_self]
theorem Mo_isPlayer_t {l : Nat} (h : MR σ R) (ho : RO R) (hl : l < R 0 1) : Mo_isPlayer σ (nI l) = some (nI 1) := by
  obtain ⟨h1, h2, h3, -⟩ := h
  obtain ⟨o1, o2, o3, -⟩ := ho
  unfold Mo_isPlayer
  simp (disch := omega) only [bd_some, bd_none, lt_eq, lk_eq, fa_lit, nI_add, nI_mul, nI_sub, nle_t, nle_f, nlt_t, nlt_f, neq_t, neq_f, neg_ne, neg_ne', if_true, if_false, ite_true, ite_false, Nat.zero_add, Nat.add_zero, ld0, ld1, ld2, ld3, ld4, ld5, ld6, ld7, ld8, ld9, ld10, ld11, ld12, ld13, ld14, ld15, ld16, ld17, ld18, ld19, ld20, ld21, ld22, ld23, ld24, ld25, ld26, ld27, ld28, ld29, ld30, ld31, ld32, ld33, ld34, ld35, ld36, ld37, ld38, ld39, ld40, ld41, ld42, ld43, ld44, ld45, ld46, ld47, ld48, ld100, ld101, ld102, ld103, ld104, ld105, h2]
theorem Mo_isPlayer_f {x : Int32} (h : MR σ R) (hx : x < nI 0 ∨ nI (R 0 1) ≤ x) : Mo_isPlayer σ x = some (nI 0) := by
  unfold Mo_isPlayer
  rw [show gF σ 851 0 = _ from h.2.1]
  rcases hx with q | q
  · simp only [fa_lit, q, if_true]
  · simp only [fa_lit, q, if_true, ite_self]
theorem Mo_isSession_t {l : Nat} (h : MR σ R) (ho : RO R) (hl : l < R 0 2) : Mo_isSession σ (nI l) = some (nI 1) := by
  obtain ⟨h1, h2, h3, -⟩ := h
  obtain ⟨o1, o2, o3, -⟩ := ho
  unfold Mo_isSession
  simp (disch := omega) only [bd_some, bd_none, lt_eq, lk_eq, fa_lit, nI_add, nI_mul, nI_sub, nle_t, nle_f, nlt_t, nlt_f, neq_t, neq_f, neg_ne, neg_ne', if_true, if_false, ite_true, ite_false, Nat.zero_add, Nat.add_zero, ld0, ld1, ld2, ld3, ld4, ld5, ld6, ld7, ld8, ld9, ld10, ld11, ld12, ld13, ld14, ld15, ld16, ld17, ld18, ld19, ld20, ld21, ld22, ld23, ld24, ld25, ld26, ld27, ld28, ld29, ld30, ld31, ld32, ld33, ld34, ld35, ld36, ld37, ld38, ld39, ld40, ld41, ld42, ld43, ld44, ld45, ld46, ld47, ld48, ld100, ld101, ld102, ld103, ld104, ld105, h3]
theorem Mo_isSession_f {x : Int32} (h : MR σ R) (hx : x < nI 0 ∨ nI (R 0 2) ≤ x) : Mo_isSession σ x = some (nI 0) := by
  unfold Mo_isSession
  rw [show gF σ 852 0 = _ from h.2.2.1]
  rcases hx with q | q
  · simp only [fa_lit, q, if_true]
  · simp only [fa_lit, q, if_true, ite_self]
theorem Mo_isSeat_t {s t : Nat} (h : MR σ R) (ho : RO R) (hs : s < R 0 2) (ht : t < R 3 s) : Mo_isSeat σ (nI s) (nI t) = some (nI 1) := by
  have h9 := h.2.2.2.2.2.2.2.2.1 s hs
  have o3 := ho.2.2.1
  have o8 := ho.2.2.2.2.2.2.2.1 s hs
  unfold Mo_isSeat
  simp (disch := omega) only [bd_some, bd_none, lt_eq, lk_eq, fa_lit, nI_add, nI_mul, nI_sub, nle_t, nle_f, nlt_t, nlt_f, neq_t, neq_f, neg_ne, neg_ne', if_true, if_false, ite_true, ite_false, Nat.zero_add, Nat.add_zero, ld0, ld1, ld2, ld3, ld4, ld5, ld6, ld7, ld8, ld9, ld10, ld11, ld12, ld13, ld14, ld15, ld16, ld17, ld18, ld19, ld20, ld21, ld22, ld23, ld24, ld25, ld26, ld27, ld28, ld29, ld30, ld31, ld32, ld33, ld34, ld35, ld36, ld37, ld38, ld39, ld40, ld41, ld42, ld43, ld44, ld45, ld46, ld47, ld48, ld100, ld101, ld102, ld103, ld104, ld105, Mo_isSession_t h ho hs, h9]
theorem Mo_isSeat_f {x : Int32} {s : Nat} (h : MR σ R) (ho : RO R) (hs : s < R 0 2) (hx : x < nI 0 ∨ nI (R 3 s) ≤ x) : Mo_isSeat σ (nI s) x = some (nI 0) := by
  have h9 := h.2.2.2.2.2.2.2.2.1 s hs
  have o3 := ho.2.2.1
  unfold Mo_isSeat
  simp (disch := omega) only [bd_some, bd_none, lt_eq, lk_eq, fa_lit, nI_add, nI_mul, nI_sub, nle_t, nle_f, nlt_t, nlt_f, neq_t, neq_f, neg_ne, neg_ne', if_true, if_false, ite_true, ite_false, Nat.zero_add, Nat.add_zero, ld0, ld1, ld2, ld3, ld4, ld5, ld6, ld7, ld8, ld9, ld10, ld11, ld12, ld13, ld14, ld15, ld16, ld17, ld18, ld19, ld20, ld21, ld22, ld23, ld24, ld25, ld26, ld27, ld28, ld29, ld30, ld31, ld32, ld33, ld34, ld35, ld36, ld37, ld38, ld39, ld40, ld41, ld42, ld43, ld44, ld45, ld46, ld47, ld48, ld100, ld101, ld102, ld103, ld104, ld105, Mo_isSession_t h ho hs, h9]
  rcases hx with q | q
  · rw [if_pos q]
  · rw [if_pos q, ite_self]
theorem Mo_isSeat_g {x y : Int32} (h : MR σ R) (hx : x < nI 0 ∨ nI (R 0 2) ≤ x) : Mo_isSeat σ x y = some (nI 0) := by
  unfold Mo_isSeat
  simp (disch := omega) only [bd_some, bd_none, lt_eq, lk_eq, fa_lit, nI_add, nI_mul, nI_sub, nle_t, nle_f, nlt_t, nlt_f, neq_t, neq_f, neg_ne, neg_ne', if_true, if_false, ite_true, ite_false, Nat.zero_add, Nat.add_zero, ld0, ld1, ld2, ld3, ld4, ld5, ld6, ld7, ld8, ld9, ld10, ld11, ld12, ld13, ld14, ld15, ld16, ld17, ld18, ld19, ld20, ld21, ld22, ld23, ld24, ld25, ld26, ld27, ld28, ld29, ld30, ld31, ld32, ld33, ld34, ld35, ld36, ld37, ld38, ld39, ld40, ld41, ld42, ld43, ld44, ld45, ld46, ld47, ld48, ld100, ld101, ld102, ld103, ld104, ld105, Mo_isSession_f h hx]
theorem Mo_owner_eq {s t : Nat} (hs : s < 8) (ht : t < 5) : Mo_owner σ (nI s) (nI t) = some (σ.1 34 0 (2604 + 5 * s + t)) := by
  unfold Mo_owner
  simp (disch := omega) only [bd_some, bd_none, lt_eq, lk_eq, fa_lit, nI_add, nI_mul, nI_sub, nle_t, nle_f, nlt_t, nlt_f, neq_t, neq_f, neg_ne, neg_ne', if_true, if_false, ite_true, ite_false, Nat.zero_add, Nat.add_zero, ld0, ld1, ld2, ld3, ld4, ld5, ld6, ld7, ld8, ld9, ld10, ld11, ld12, ld13, ld14, ld15, ld16, ld17, ld18, ld19, ld20, ld21, ld22, ld23, ld24, ld25, ld26, ld27, ld28, ld29, ld30, ld31, ld32, ld33, ld34, ld35, ld36, ld37, ld38, ld39, ld40, ld41, ld42, ld43, ld44, ld45, ld46, ld47, ld48, ld100, ld101, ld102, ld103, ld104, ld105]
theorem Mo_keptAt_eq (l s t : Nat) : Mo_keptAt σ (nI l) (nI s) (nI t) = some (nI (204 + 9 * (5 * (8 * l + s) + t))) := by
  unfold Mo_keptAt
  simp (disch := omega) only [bd_some, bd_none, lt_eq, lk_eq, fa_lit, nI_add, nI_mul, nI_sub, nle_t, nle_f, nlt_t, nlt_f, neq_t, neq_f, neg_ne, neg_ne', if_true, if_false, ite_true, ite_false, Nat.zero_add, Nat.add_zero, ld0, ld1, ld2, ld3, ld4, ld5, ld6, ld7, ld8, ld9, ld10, ld11, ld12, ld13, ld14, ld15, ld16, ld17, ld18, ld19, ld20, ld21, ld22, ld23, ld24, ld25, ld26, ld27, ld28, ld29, ld30, ld31, ld32, ld33, ld34, ld35, ld36, ld37, ld38, ld39, ld40, ld41, ld42, ld43, ld44, ld45, ld46, ld47, ld48, ld100, ld101, ld102, ld103, ld104, ld105]
theorem Mo_lapsedAt_eq (l s t : Nat) : Mo_lapsedAt σ (nI l) (nI s) (nI t) = some (nI (2364 + 5 * (8 * l + s) + t)) := by
  unfold Mo_lapsedAt
  simp (disch := omega) only [bd_some, bd_none, lt_eq, lk_eq, fa_lit, nI_add, nI_mul, nI_sub, nle_t, nle_f, nlt_t, nlt_f, neq_t, neq_f, neg_ne, neg_ne', if_true, if_false, ite_true, ite_false, Nat.zero_add, Nat.add_zero, ld0, ld1, ld2, ld3, ld4, ld5, ld6, ld7, ld8, ld9, ld10, ld11, ld12, ld13, ld14, ld15, ld16, ld17, ld18, ld19, ld20, ld21, ld22, ld23, ld24, ld25, ld26, ld27, ld28, ld29, ld30, ld31, ld32, ld33, ld34, ld35, ld36, ld37, ld38, ld39, ld40, ld41, ld42, ld43, ld44, ld45, ld46, ld47, ld48, ld100, ld101, ld102, ld103, ld104, ld105]
theorem Mo_keptOf_eq {l s t : Nat} (hl : l < 6) (hs : s < 8) (ht : t < 5) : Mo_keptOf σ (nI l) (nI s) (nI t) = some (keptP (σ.1 34 0) l s t) := by
  unfold Mo_keptOf keptP
  refine lp_run 9 (by decide) (fun k => (sI (fun a => σ.1 34 0 (204 + 9 * (5 * (8 * l + s) + t) + a)) k, nI k)) (fun rec k hk => ?_) (fun rec => ?_)
  · simp (disch := omega) only [bd_some, bd_none, lt_eq, lk_eq, fa_lit, nI_add, nI_mul, nI_sub, nle_t, nle_f, nlt_t, nlt_f, neq_t, neq_f, neg_ne, neg_ne', if_true, if_false, ite_true, ite_false, Nat.zero_add, Nat.add_zero, ld0, ld1, ld2, ld3, ld4, ld5, ld6, ld7, ld8, ld9, ld10, ld11, ld12, ld13, ld14, ld15, ld16, ld17, ld18, ld19, ld20, ld21, ld22, ld23, ld24, ld25, ld26, ld27, ld28, ld29, ld30, ld31, ld32, ld33, ld34, ld35, ld36, ld37, ld38, ld39, ld40, ld41, ld42, ld43, ld44, ld45, ld46, ld47, ld48, ld100, ld101, ld102, ld103, ld104, ld105, sI_succ, Mo_keptAt_eq]
  · simp (disch := omega) only [bd_some, bd_none, lt_eq, lk_eq, fa_lit, nI_add, nI_mul, nI_sub, nle_t, nle_f, nlt_t, nlt_f, neq_t, neq_f, neg_ne, neg_ne', if_true, if_false, ite_true, ite_false, Nat.zero_add, Nat.add_zero, ld0, ld1, ld2, ld3, ld4, ld5, ld6, ld7, ld8, ld9, ld10, ld11, ld12, ld13, ld14, ld15, ld16, ld17, ld18, ld19, ld20, ld21, ld22, ld23, ld24, ld25, ld26, ld27, ld28, ld29, ld30, ld31, ld32, ld33, ld34, ld35, ld36, ld37, ld38, ld39, ld40, ld41, ld42, ld43, ld44, ld45, ld46, ld47, ld48, ld100, ld101, ld102, ld103, ld104, ld105]
theorem Mo_weightAll_eq {p : Nat} (hp : p < 16) : Mo_weightAll σ (nI p) = some (sI (fun l => σ.1 34 0 (96 + 6 * p + l)) 6) := by
  unfold Mo_weightAll
  refine lp_run 6 (by decide) (fun k => (sI (fun l => σ.1 34 0 (96 + 6 * p + l)) k, nI k)) (fun rec k hk => ?_) (fun rec => ?_)
  · simp (disch := omega) only [bd_some, bd_none, lt_eq, lk_eq, fa_lit, nI_add, nI_mul, nI_sub, nle_t, nle_f, nlt_t, nlt_f, neq_t, neq_f, neg_ne, neg_ne', if_true, if_false, ite_true, ite_false, Nat.zero_add, Nat.add_zero, ld0, ld1, ld2, ld3, ld4, ld5, ld6, ld7, ld8, ld9, ld10, ld11, ld12, ld13, ld14, ld15, ld16, ld17, ld18, ld19, ld20, ld21, ld22, ld23, ld24, ld25, ld26, ld27, ld28, ld29, ld30, ld31, ld32, ld33, ld34, ld35, ld36, ld37, ld38, ld39, ld40, ld41, ld42, ld43, ld44, ld45, ld46, ld47, ld48, ld100, ld101, ld102, ld103, ld104, ld105, sI_succ, Mo_weightIn_eq]
  · simp (disch := omega) only [bd_some, bd_none, lt_eq, lk_eq, fa_lit, nI_add, nI_mul, nI_sub, nle_t, nle_f, nlt_t, nlt_f, neq_t, neq_f, neg_ne, neg_ne', if_true, if_false, ite_true, ite_false, Nat.zero_add, Nat.add_zero, ld0, ld1, ld2, ld3, ld4, ld5, ld6, ld7, ld8, ld9, ld10, ld11, ld12, ld13, ld14, ld15, ld16, ld17, ld18, ld19, ld20, ld21, ld22, ld23, ld24, ld25, ld26, ld27, ld28, ld29, ld30, ld31, ld32, ld33, ld34, ld35, ld36, ld37, ld38, ld39, ld40, ld41, ld42, ld43, ld44, ld45, ld46, ld47, ld48, ld100, ld101, ld102, ld103, ld104, ld105]
theorem Mo_openSeat_eq {s : Nat} (h : MR σ R) (ho : RO R) (hs : s < R 0 2) : Mo_openSeat σ (nI s) = some (seatP R (σ.1 34 0) s) := by
  have h9 := h.2.2.2.2.2.2.2.2.1 s hs
  have o3 := ho.2.2.1
  have o8 := ho.2.2.2.2.2.2.2.1 s hs
  unfold Mo_openSeat seatP
  refine lp_find (R 3 s) (by omega) (own (σ.1 34 0) s (-nI 1)) (fun k => nI k) (fun rec k hk hp => ?_) (fun rec k hk hp e => ?_) (fun rec e => ?_)
  · simp only [own, decide_eq_false_iff_not] at hp
    simp (disch := omega) only [bd_some, bd_none, lt_eq, lk_eq, fa_lit, nI_add, nI_mul, nI_sub, nle_t, nle_f, nlt_t, nlt_f, neq_t, neq_f, neg_ne, neg_ne', if_true, if_false, ite_true, ite_false, Nat.zero_add, Nat.add_zero, ld0, ld1, ld2, ld3, ld4, ld5, ld6, ld7, ld8, ld9, ld10, ld11, ld12, ld13, ld14, ld15, ld16, ld17, ld18, ld19, ld20, ld21, ld22, ld23, ld24, ld25, ld26, ld27, ld28, ld29, ld30, ld31, ld32, ld33, ld34, ld35, ld36, ld37, ld38, ld39, ld40, ld41, ld42, ld43, ld44, ld45, ld46, ld47, ld48, ld100, ld101, ld102, ld103, ld104, ld105, h9, Mo_owner_eq, hp]
  · simp only [own, decide_eq_true_eq] at hp
    rw [← e]
    simp (disch := omega) only [bd_some, bd_none, lt_eq, lk_eq, fa_lit, nI_add, nI_mul, nI_sub, nle_t, nle_f, nlt_t, nlt_f, neq_t, neq_f, neg_ne, neg_ne', if_true, if_false, ite_true, ite_false, Nat.zero_add, Nat.add_zero, ld0, ld1, ld2, ld3, ld4, ld5, ld6, ld7, ld8, ld9, ld10, ld11, ld12, ld13, ld14, ld15, ld16, ld17, ld18, ld19, ld20, ld21, ld22, ld23, ld24, ld25, ld26, ld27, ld28, ld29, ld30, ld31, ld32, ld33, ld34, ld35, ld36, ld37, ld38, ld39, ld40, ld41, ld42, ld43, ld44, ld45, ld46, ld47, ld48, ld100, ld101, ld102, ld103, ld104, ld105, h9, Mo_owner_eq, hp, hk]
  · rw [e]
    simp (disch := omega) only [bd_some, bd_none, lt_eq, lk_eq, fa_lit, nI_add, nI_mul, nI_sub, nle_t, nle_f, nlt_t, nlt_f, neq_t, neq_f, neg_ne, neg_ne', if_true, if_false, ite_true, ite_false, Nat.zero_add, Nat.add_zero, ld0, ld1, ld2, ld3, ld4, ld5, ld6, ld7, ld8, ld9, ld10, ld11, ld12, ld13, ld14, ld15, ld16, ld17, ld18, ld19, ld20, ld21, ld22, ld23, ld24, ld25, ld26, ld27, ld28, ld29, ld30, ld31, ld32, ld33, ld34, ld35, ld36, ld37, ld38, ld39, ld40, ld41, ld42, ld43, ld44, ld45, ld46, ld47, ld48, ld100, ld101, ld102, ld103, ld104, ld105, h9, Nat.lt_irrefl]
theorem Mo_roleOf_eq {p s : Nat} (h : MR σ R) (ho : RO R) (hs : s < R 0 2) (hp : p < 16) : Mo_roleOf σ (nI p) (nI s) = some (roleP R (σ.1 34 0) p s) := by
  have h8 := h.2.2.2.2.2.2.2.1 s hs
  have h9 := h.2.2.2.2.2.2.2.2.1 s hs
  have h10 := fun k => h.2.2.2.2.2.2.2.2.2.1 s k hs
  have h11 := fun k => h.2.2.2.2.2.2.2.2.2.2 s k hs
  have o2 := ho.2.1
  have o3 := ho.2.2.1
  have o8 := ho.2.2.2.2.2.2.2.1 s hs
  have o9 := fun k => ho.2.2.2.2.2.2.2.2.1 s k hs
  unfold Mo_roleOf roleP
  refine lp_find (R 2 s) (by omega) (mbr R p s) (fun k => nI k) (fun rec k hk hq => ?_) (fun rec k hk hq e => ?_) (fun rec e => ?_)
  · simp only [mbr, decide_eq_false_iff_not] at hq
    have := o9 k hk
    simp (disch := omega) only [bd_some, bd_none, lt_eq, lk_eq, fa_lit, nI_add, nI_mul, nI_sub, nle_t, nle_f, nlt_t, nlt_f, neq_t, neq_f, neg_ne, neg_ne', if_true, if_false, ite_true, ite_false, Nat.zero_add, Nat.add_zero, ld0, ld1, ld2, ld3, ld4, ld5, ld6, ld7, ld8, ld9, ld10, ld11, ld12, ld13, ld14, ld15, ld16, ld17, ld18, ld19, ld20, ld21, ld22, ld23, ld24, ld25, ld26, ld27, ld28, ld29, ld30, ld31, ld32, ld33, ld34, ld35, ld36, ld37, ld38, ld39, ld40, ld41, ld42, ld43, ld44, ld45, ld46, ld47, ld48, ld100, ld101, ld102, ld103, ld104, ld105, h8, h10]
  · simp only [mbr, decide_eq_true_eq] at hq
    have := o9 k hk
    rw [← e]
    simp (disch := omega) only [bd_some, bd_none, lt_eq, lk_eq, fa_lit, nI_add, nI_mul, nI_sub, nle_t, nle_f, nlt_t, nlt_f, neq_t, neq_f, neg_ne, neg_ne', if_true, if_false, ite_true, ite_false, Nat.zero_add, Nat.add_zero, ld0, ld1, ld2, ld3, ld4, ld5, ld6, ld7, ld8, ld9, ld10, ld11, ld12, ld13, ld14, ld15, ld16, ld17, ld18, ld19, ld20, ld21, ld22, ld23, ld24, ld25, ld26, ld27, ld28, ld29, ld30, ld31, ld32, ld33, ld34, ld35, ld36, ld37, ld38, ld39, ld40, ld41, ld42, ld43, ld44, ld45, ld46, ld47, ld48, ld100, ld101, ld102, ld103, ld104, ld105, h8, h10, h11, hk]
  · rw [e]
    simp (disch := omega) only [bd_some, bd_none, lt_eq, lk_eq, fa_lit, nI_add, nI_mul, nI_sub, nle_t, nle_f, nlt_t, nlt_f, neq_t, neq_f, neg_ne, neg_ne', if_true, if_false, ite_true, ite_false, Nat.zero_add, Nat.add_zero, ld0, ld1, ld2, ld3, ld4, ld5, ld6, ld7, ld8, ld9, ld10, ld11, ld12, ld13, ld14, ld15, ld16, ld17, ld18, ld19, ld20, ld21, ld22, ld23, ld24, ld25, ld26, ld27, ld28, ld29, ld30, ld31, ld32, ld33, ld34, ld35, ld36, ld37, ld38, ld39, ld40, ld41, ld42, ld43, ld44, ld45, ld46, ld47, ld48, ld100, ld101, ld102, ld103, ld104, ld105, h8, Nat.lt_irrefl]
    refine lp_find (R 3 s) (by omega) (own (σ.1 34 0) s (nI p)) (fun k => nI k) (fun rec k hk hq => ?_) (fun rec k hk hq e => ?_) (fun rec e => ?_)
    · simp only [own, decide_eq_false_iff_not] at hq
      simp (disch := omega) only [bd_some, bd_none, lt_eq, lk_eq, fa_lit, nI_add, nI_mul, nI_sub, nle_t, nle_f, nlt_t, nlt_f, neq_t, neq_f, neg_ne, neg_ne', if_true, if_false, ite_true, ite_false, Nat.zero_add, Nat.add_zero, ld0, ld1, ld2, ld3, ld4, ld5, ld6, ld7, ld8, ld9, ld10, ld11, ld12, ld13, ld14, ld15, ld16, ld17, ld18, ld19, ld20, ld21, ld22, ld23, ld24, ld25, ld26, ld27, ld28, ld29, ld30, ld31, ld32, ld33, ld34, ld35, ld36, ld37, ld38, ld39, ld40, ld41, ld42, ld43, ld44, ld45, ld46, ld47, ld48, ld100, ld101, ld102, ld103, ld104, ld105, h9, Mo_owner_eq, hq]
    · simp only [own, decide_eq_true_eq] at hq
      rw [← e]
      simp (disch := omega) only [bd_some, bd_none, lt_eq, lk_eq, fa_lit, nI_add, nI_mul, nI_sub, nle_t, nle_f, nlt_t, nlt_f, neq_t, neq_f, neg_ne, neg_ne', if_true, if_false, ite_true, ite_false, Nat.zero_add, Nat.add_zero, ld0, ld1, ld2, ld3, ld4, ld5, ld6, ld7, ld8, ld9, ld10, ld11, ld12, ld13, ld14, ld15, ld16, ld17, ld18, ld19, ld20, ld21, ld22, ld23, ld24, ld25, ld26, ld27, ld28, ld29, ld30, ld31, ld32, ld33, ld34, ld35, ld36, ld37, ld38, ld39, ld40, ld41, ld42, ld43, ld44, ld45, ld46, ld47, ld48, ld100, ld101, ld102, ld103, ld104, ld105, h9, Mo_owner_eq, hq, hk]
    · rw [e]
      simp (disch := omega) only [bd_some, bd_none, lt_eq, lk_eq, fa_lit, nI_add, nI_mul, nI_sub, nle_t, nle_f, nlt_t, nlt_f, neq_t, neq_f, neg_ne, neg_ne', if_true, if_false, ite_true, ite_false, Nat.zero_add, Nat.add_zero, ld0, ld1, ld2, ld3, ld4, ld5, ld6, ld7, ld8, ld9, ld10, ld11, ld12, ld13, ld14, ld15, ld16, ld17, ld18, ld19, ld20, ld21, ld22, ld23, ld24, ld25, ld26, ld27, ld28, ld29, ld30, ld31, ld32, ld33, ld34, ld35, ld36, ld37, ld38, ld39, ld40, ld41, ld42, ld43, ld44, ld45, ld46, ld47, ld48, ld100, ld101, ld102, ld103, ld104, ld105, h9, Nat.lt_irrefl]
theorem add_n0 (x : Int32) : x + nI 0 = x := Int32.add_zero x
theorem Mo_paidByOf_eq {o r : Nat} (h : MR σ R) (ho : RO R) (hl : o < 6) : Mo_paidByOf σ (nI o) (nI r) = some (sI (fun l => b01 (pay (σ.1 34 0) l o r)) (R 0 0)) := by
  have h1 := h.1
  have o1 := ho.1
  unfold Mo_paidByOf
  refine lp_run (R 0 0) (by omega) (fun k => (sI (fun l => b01 (pay (σ.1 34 0) l o r)) k, nI k)) (fun rec k hk => ?_) (fun rec => ?_)
  · simp (disch := omega) only [bd_some, bd_none, lt_eq, lk_eq, fa_lit, nI_add, nI_mul, nI_sub, nle_t, nle_f, nlt_t, nlt_f, neq_t, neq_f, neg_ne, neg_ne', if_true, if_false, ite_true, ite_false, Nat.zero_add, Nat.add_zero, ld0, ld1, ld2, ld3, ld4, ld5, ld6, ld7, ld8, ld9, ld10, ld11, ld12, ld13, ld14, ld15, ld16, ld17, ld18, ld19, ld20, ld21, ld22, ld23, ld24, ld25, ld26, ld27, ld28, ld29, ld30, ld31, ld32, ld33, ld34, ld35, ld36, ld37, ld38, ld39, ld40, ld41, ld42, ld43, ld44, ld45, ld46, ld47, ld48, ld100, ld101, ld102, ld103, ld104, ld105, sI_succ, h1, Mo_doesPay_eq, b01_0]
    cases pay (σ.1 34 0) k o r <;> simp [b01]
  · simp (disch := omega) only [bd_some, bd_none, lt_eq, lk_eq, fa_lit, nI_add, nI_mul, nI_sub, nle_t, nle_f, nlt_t, nlt_f, neq_t, neq_f, neg_ne, neg_ne', if_true, if_false, ite_true, ite_false, Nat.zero_add, Nat.add_zero, ld0, ld1, ld2, ld3, ld4, ld5, ld6, ld7, ld8, ld9, ld10, ld11, ld12, ld13, ld14, ld15, ld16, ld17, ld18, ld19, ld20, ld21, ld22, ld23, ld24, ld25, ld26, ld27, ld28, ld29, ld30, ld31, ld32, ld33, ld34, ld35, ld36, ld37, ld38, ld39, ld40, ld41, ld42, ld43, ld44, ld45, ld46, ld47, ld48, ld100, ld101, ld102, ld103, ld104, ld105, h1, Mo_doesPay_eq, b01_0]
theorem Mo_manyOf_eq {s r : Nat} (h : MR σ R) (ho : RO R) (hs : s < R 0 2) (hr : r < 2) : Mo_manyOf σ (nI s) (nI r) = some (sI (fun k => b01 (decide (R 5 (8 * s + k) = r))) (R 2 s)) := by
  have h8 := h.2.2.2.2.2.2.2.1 s hs
  have h11 := fun k => h.2.2.2.2.2.2.2.2.2.2 s k hs
  have o3 := ho.2.2.1
  have o8 := ho.2.2.2.2.2.2.2.1 s hs
  have o9 := fun k => ho.2.2.2.2.2.2.2.2.1 s k hs
  unfold Mo_manyOf
  refine lp_run (R 2 s) (by omega) (fun k => (sI (fun k => b01 (decide (R 5 (8 * s + k) = r))) k, nI k)) (fun rec k hk => ?_) (fun rec => ?_)
  · simp (disch := omega) only [bd_some, bd_none, lt_eq, lk_eq, fa_lit, nI_add, nI_mul, nI_sub, nle_t, nle_f, nlt_t, nlt_f, neq_t, neq_f, neg_ne, neg_ne', if_true, if_false, ite_true, ite_false, Nat.zero_add, Nat.add_zero, ld0, ld1, ld2, ld3, ld4, ld5, ld6, ld7, ld8, ld9, ld10, ld11, ld12, ld13, ld14, ld15, ld16, ld17, ld18, ld19, ld20, ld21, ld22, ld23, ld24, ld25, ld26, ld27, ld28, ld29, ld30, ld31, ld32, ld33, ld34, ld35, ld36, ld37, ld38, ld39, ld40, ld41, ld42, ld43, ld44, ld45, ld46, ld47, ld48, ld100, ld101, ld102, ld103, ld104, ld105, sI_succ, h8, h11, neq_i]
    have := o9 k hk
    simp (disch := omega) only [neq_i]
    by_cases e : R 5 (8 * s + k) = r <;> simp [b01, e]
  · simp (disch := omega) only [bd_some, bd_none, lt_eq, lk_eq, fa_lit, nI_add, nI_mul, nI_sub, nle_t, nle_f, nlt_t, nlt_f, neq_t, neq_f, neg_ne, neg_ne', if_true, if_false, ite_true, ite_false, Nat.zero_add, Nat.add_zero, ld0, ld1, ld2, ld3, ld4, ld5, ld6, ld7, ld8, ld9, ld10, ld11, ld12, ld13, ld14, ld15, ld16, ld17, ld18, ld19, ld20, ld21, ld22, ld23, ld24, ld25, ld26, ld27, ld28, ld29, ld30, ld31, ld32, ld33, ld34, ld35, ld36, ld37, ld38, ld39, ld40, ld41, ld42, ld43, ld44, ld45, ld46, ld47, ld48, ld100, ld101, ld102, ld103, ld104, ld105, h8, h11, neq_i]
theorem Mo_openOf_eq {s : Nat} (h : MR σ R) (ho : RO R) (hs : s < R 0 2) : Mo_openOf σ (nI s) = some (sI (fun t => b01 (own (σ.1 34 0) s (-nI 1) t)) (R 3 s)) := by
  have h9 := h.2.2.2.2.2.2.2.2.1 s hs
  have o3 := ho.2.2.1
  have o8 := ho.2.2.2.2.2.2.2.1 s hs
  unfold Mo_openOf
  refine lp_run (R 3 s) (by omega) (fun k => (sI (fun t => b01 (own (σ.1 34 0) s (-nI 1) t)) k, nI k)) (fun rec k hk => ?_) (fun rec => ?_)
  · simp (disch := omega) only [bd_some, bd_none, lt_eq, lk_eq, fa_lit, nI_add, nI_mul, nI_sub, nle_t, nle_f, nlt_t, nlt_f, neq_t, neq_f, neg_ne, neg_ne', if_true, if_false, ite_true, ite_false, Nat.zero_add, Nat.add_zero, ld0, ld1, ld2, ld3, ld4, ld5, ld6, ld7, ld8, ld9, ld10, ld11, ld12, ld13, ld14, ld15, ld16, ld17, ld18, ld19, ld20, ld21, ld22, ld23, ld24, ld25, ld26, ld27, ld28, ld29, ld30, ld31, ld32, ld33, ld34, ld35, ld36, ld37, ld38, ld39, ld40, ld41, ld42, ld43, ld44, ld45, ld46, ld47, ld48, ld100, ld101, ld102, ld103, ld104, ld105, sI_succ, h9, Mo_owner_eq]
    by_cases e : σ.1 34 0 (2604 + 5 * s + k) = -nI 1 <;> simp [b01, own, e]
  · simp (disch := omega) only [bd_some, bd_none, lt_eq, lk_eq, fa_lit, nI_add, nI_mul, nI_sub, nle_t, nle_f, nlt_t, nlt_f, neq_t, neq_f, neg_ne, neg_ne', if_true, if_false, ite_true, ite_false, Nat.zero_add, Nat.add_zero, ld0, ld1, ld2, ld3, ld4, ld5, ld6, ld7, ld8, ld9, ld10, ld11, ld12, ld13, ld14, ld15, ld16, ld17, ld18, ld19, ld20, ld21, ld22, ld23, ld24, ld25, ld26, ld27, ld28, ld29, ld30, ld31, ld32, ld33, ld34, ld35, ld36, ld37, ld38, ld39, ld40, ld41, ld42, ld43, ld44, ld45, ld46, ld47, ld48, ld100, ld101, ld102, ld103, ld104, ld105, h9, Mo_owner_eq]
theorem Mo_doAnswer_eq {a b : Nat} (ha : a < 6) (hb : b < 6) : Mo_doAnswer σ (nI a) (nI b) = some (b01 (answ (σ.1 34 0) a b)) := by
  unfold Mo_doAnswer answ
  simp (disch := omega) only [bd_some, bd_none, lt_eq, lk_eq, fa_lit, nI_add, nI_mul, nI_sub, nle_t, nle_f, nlt_t, nlt_f, neq_t, neq_f, neg_ne, neg_ne', if_true, if_false, ite_true, ite_false, Nat.zero_add, Nat.add_zero, ld0, ld1, ld2, ld3, ld4, ld5, ld6, ld7, ld8, ld9, ld10, ld11, ld12, ld13, ld14, ld15, ld16, ld17, ld18, ld19, ld20, ld21, ld22, ld23, ld24, ld25, ld26, ld27, ld28, ld29, ld30, ld31, ld32, ld33, ld34, ld35, ld36, ld37, ld38, ld39, ld40, ld41, ld42, ld43, ld44, ld45, ld46, ld47, ld48, ld100, ld101, ld102, ld103, ld104, ld105, Mo_doesPay_eq, b01_0]
  cases pay (σ.1 34 0) a b 0 <;> cases pay (σ.1 34 0) a b 1 <;> cases pay (σ.1 34 0) b a 0 <;> cases pay (σ.1 34 0) b a 1 <;> simp [b01]
theorem Mo_keptIn_eq {l : Nat} (hl : l < 6) : Mo_keptIn σ (nI l) = some (sI (fun j => σ.1 34 0 (204 + 360 * l + j)) 360) := by
  unfold Mo_keptIn
  simp (disch := omega) only [bd_some, bd_none, lt_eq, lk_eq, fa_lit, nI_add, nI_mul, nI_sub, nle_t, nle_f, nlt_t, nlt_f, neq_t, neq_f, neg_ne, neg_ne', if_true, if_false, ite_true, ite_false, Nat.zero_add, Nat.add_zero, ld0, ld1, ld2, ld3, ld4, ld5, ld6, ld7, ld8, ld9, ld10, ld11, ld12, ld13, ld14, ld15, ld16, ld17, ld18, ld19, ld20, ld21, ld22, ld23, ld24, ld25, ld26, ld27, ld28, ld29, ld30, ld31, ld32, ld33, ld34, ld35, ld36, ld37, ld38, ld39, ld40, ld41, ld42, ld43, ld44, ld45, ld46, ld47, ld48, ld100, ld101, ld102, ld103, ld104, ld105, Mo_keptAt_eq]
  have e1 : 204 + 9 * (5 * (8 * l)) = 204 + 360 * l + 0 := by omega
  have e2 : 204 + 9 * (5 * (8 * (l + 1))) = 204 + 360 * l + 360 := by omega
  rw [e1, e2]
  refine lp_run 360 (by decide) (fun k => (sI (fun j => σ.1 34 0 (204 + 360 * l + j)) k, nI (204 + 360 * l + k))) (fun rec k hk => ?_) (fun rec => ?_)
  · simp (disch := omega) only [bd_some, bd_none, lt_eq, lk_eq, fa_lit, nI_add, nI_mul, nI_sub, nle_t, nle_f, nlt_t, nlt_f, neq_t, neq_f, neg_ne, neg_ne', if_true, if_false, ite_true, ite_false, Nat.zero_add, Nat.add_zero, ld0, ld1, ld2, ld3, ld4, ld5, ld6, ld7, ld8, ld9, ld10, ld11, ld12, ld13, ld14, ld15, ld16, ld17, ld18, ld19, ld20, ld21, ld22, ld23, ld24, ld25, ld26, ld27, ld28, ld29, ld30, ld31, ld32, ld33, ld34, ld35, ld36, ld37, ld38, ld39, ld40, ld41, ld42, ld43, ld44, ld45, ld46, ld47, ld48, ld100, ld101, ld102, ld103, ld104, ld105, sI_succ]
    rfl
  · simp (disch := omega) only [bd_some, bd_none, lt_eq, lk_eq, fa_lit, nI_add, nI_mul, nI_sub, nle_t, nle_f, nlt_t, nlt_f, neq_t, neq_f, neg_ne, neg_ne', if_true, if_false, ite_true, ite_false, Nat.zero_add, Nat.add_zero, ld0, ld1, ld2, ld3, ld4, ld5, ld6, ld7, ld8, ld9, ld10, ld11, ld12, ld13, ld14, ld15, ld16, ld17, ld18, ld19, ld20, ld21, ld22, ld23, ld24, ld25, ld26, ld27, ld28, ld29, ld30, ld31, ld32, ld33, ld34, ld35, ld36, ld37, ld38, ld39, ld40, ld41, ld42, ld43, ld44, ld45, ld46, ld47, ld48, ld100, ld101, ld102, ld103, ld104, ld105]
end Ref

/-! ===== the class's helpers ===== -/
section Cls
variable {σ : ST} {R : RT} {ν : NU} {r i : Nat}
theorem CR.L (h : CR σ r R) : σ.1 529 r 0 = nI (R 0 0) := h.1
theorem CR.P (h : CR σ r R) : σ.1 530 r 0 = nI (R 0 1) := h.2.1
theorem CR.S (h : CR σ r R) : σ.1 531 r 0 = nI (R 0 2) := h.2.2.1
theorem CR.ln (h : CR σ r R) : σ.1 528 r 0 = nI (R 0 3) := h.2.2.2.1
theorem CR.ld (h : CR σ r R) : σ.1 532 r 0 = nI (R 0 4) := h.2.2.2.2.1
theorem CR.kp (h : CR σ r R) : σ.1 533 r 0 = nI (R 0 5) := h.2.2.2.2.2.1
theorem CR.rt (h : CR σ r R) {l : Nat} (hl : l < R 0 0) : σ.1 13 r l = nI (R 1 l) := h.2.2.2.2.2.2.1 l hl
theorem CR.mk (h : CR σ r R) {s : Nat} (hs : s < R 0 2) : σ.1 17 r s = nI (R 2 s) := h.2.2.2.2.2.2.2.1 s hs
theorem CR.st (h : CR σ r R) {s : Nat} (hs : s < R 0 2) : σ.1 18 r s = nI (R 3 s) := h.2.2.2.2.2.2.2.2.1 s hs
theorem CR.mb (h : CR σ r R) {s k : Nat} (hs : s < R 0 2) (hk : k < R 2 s) : σ.1 19 r (8 * s + k) = nI (R 4 (8 * s + k)) := h.2.2.2.2.2.2.2.2.2.1 s k hs hk
theorem CR.mr (h : CR σ r R) {s k : Nat} (hs : s < R 0 2) (hk : k < R 2 s) : σ.1 20 r (8 * s + k) = nI (R 5 (8 * s + k)) := h.2.2.2.2.2.2.2.2.2.2 s k hs hk
theorem CR.mb' (h : CR σ r R) {s k : Nat} (hs : s < R 0 2) (hk : k < R 2 s) : σ.1 19 r (s * 8 + k) = nI (R 4 (8 * s + k)) := by rw [Nat.mul_comm s 8]; exact h.mb hs hk
theorem CR.mr' (h : CR σ r R) {s k : Nat} (hs : s < R 0 2) (hk : k < R 2 s) : σ.1 20 r (s * 8 + k) = nI (R 5 (8 * s + k)) := by rw [Nat.mul_comm s 8]; exact h.mr hs hk
theorem RO.L (h : RO R) : R 0 0 ≤ 6 := h.1
theorem RO.P (h : RO R) : R 0 1 ≤ 16 := h.2.1
theorem RO.S (h : RO R) : R 0 2 ≤ 8 := h.2.2.1
theorem RO.kp (h : RO R) : 1 ≤ R 0 5 ∧ R 0 5 ≤ 9 := h.2.2.2.2.2.1
theorem RO.rt (h : RO R) {l : Nat} (hl : l < R 0 0) : 1 ≤ R 1 l ∧ R 1 l ≤ 999 := h.2.2.2.2.2.2.1 l hl
theorem RO.s (h : RO R) {s : Nat} (hs : s < R 0 2) : R 2 s ≤ 8 ∧ R 3 s ≤ 5 ∧ 1 ≤ R 2 s + R 3 s := h.2.2.2.2.2.2.2.1 s hs
theorem RO.m (h : RO R) {s k : Nat} (hs : s < R 0 2) (hk : k < R 2 s) : R 4 (8 * s + k) < R 0 1 ∧ R 5 (8 * s + k) < 2 := h.2.2.2.2.2.2.2.2.1 s k hs hk
theorem WR.tm (h : WR σ i R ν) {l : Nat} (hl : l < R 0 0) : σ.1 24 i l = ν (2660 + l) := h.1 l hl
theorem WR.rl (h : WR σ i R ν) {l : Nat} (hl : l < R 0 0) : σ.1 25 i l = ν (2666 + l) := h.2.1 l hl
theorem WR.hm (h : WR σ i R ν) {p : Nat} (hp : p < R 0 1) : σ.1 26 i p = ν (2672 + p) := h.2.2.1 p hp
theorem WR.ho (h : WR σ i R ν) {s t : Nat} (hs : s < R 0 2) (ht : t < 5) : σ.1 27 i (s * 5 + t) = hol (ν (2604 + 5 * s + t)) := by
  have := h.2.2.2 (s * 5 + t) (by omega)
  rw [this]
  congr 2
  omega
theorem hol_m2 (x : Int32) (h : x = -nI 1 ∨ ∃ p, p < 16 ∧ x = nI p) : (hol x = -nI 2) = (x = -nI 1) := by
  unfold hol
  by_cases e : x = -nI 1
  · rw [if_pos e]; simp [e]
  · rw [if_neg e]
    rcases h with h | ⟨p, hp, rfl⟩
    · exact absurd h e
    · rw [neg_ne (by omega) (by decide), neg_ne (by omega) (by decide)]
theorem hol_m1 : hol (-nI 1) = -nI 2 := if_pos rfl
theorem hol_p (x : Int32) {p : Nat} (hp : p < 16) : (hol x = nI p) = (x = nI p) := by
  unfold hol
  by_cases e : x = -nI 1
  · rw [if_pos e, e, neg_ne' (by omega) (by decide), neg_ne' (by omega) (by decide)]
  · rw [if_neg e]
theorem HO.st (h : HO R ν) (ho : RO R) {s t : Nat} (hs : s < R 0 2) (ht : t < R 3 s) : ν (2604 + 5 * s + t) = -nI 1 ∨ ∃ p, p < 16 ∧ ν (2604 + 5 * s + t) = nI p := by
  rcases h.2 s t hs ht with e | ⟨p, hp, e, -⟩
  · exact Or.inl e
  · exact Or.inr ⟨p, by have := ho.P; omega, e⟩
theorem Wo_hasRole_eq {l a : Nat} (w : WR σ i R ν) (ho : RO R) (hl : l < R 0 0) : Wo_hasRole σ i (nI l) (nI a) = some (b01 (hrl ν l a)) := by
  have o1 := ho.L
  unfold Wo_hasRole hrl
  simp (disch := omega) only [bd_some, bd_none, lt_eq, lk_eq, fa_lit, nI_add, nI_mul, nI_sub, nle_t, nle_f, nlt_t, nlt_f, neq_t, neq_f, neg_ne, neg_ne', if_true, if_false, ite_true, ite_false, Nat.zero_add, Nat.add_zero, ld0, ld1, ld2, ld3, ld4, ld5, ld6, ld7, ld8, ld9, ld10, ld11, ld12, ld13, ld14, ld15, ld16, ld17, ld18, ld19, ld20, ld21, ld22, ld23, ld24, ld25, ld26, ld27, ld28, ld29, ld30, ld31, ld32, ld33, ld34, ld35, ld36, ld37, ld38, ld39, ld40, ld41, ld42, ld43, ld44, ld45, ld46, ld47, ld48, ld100, ld101, ld102, ld103, ld104, ld105, w.tm, w.rl]
  rcases and1n (ν (2666 + l) >>> (nI a &&& nI 31)) with e | e <;> simp [e, b01, n01]
theorem Wo_payable_eq {l o a : Nat} (w : WR σ i R ν) (ho : RO R) (hl : l < R 0 0) (hq : o < R 0 0) : Wo_payable σ i (nI l) (nI o) (nI a) = some (b01 (pay ν l o a)) := by
  have o1 := ho.L
  unfold Wo_payable pay
  simp (disch := omega) only [bd_some, bd_none, lt_eq, lk_eq, fa_lit, nI_add, nI_mul, nI_sub, nle_t, nle_f, nlt_t, nlt_f, neq_t, neq_f, neg_ne, neg_ne', if_true, if_false, ite_true, ite_false, Nat.zero_add, Nat.add_zero, ld0, ld1, ld2, ld3, ld4, ld5, ld6, ld7, ld8, ld9, ld10, ld11, ld12, ld13, ld14, ld15, ld16, ld17, ld18, ld19, ld20, ld21, ld22, ld23, ld24, ld25, ld26, ld27, ld28, ld29, ld30, ld31, ld32, ld33, ld34, ld35, ld36, ld37, ld38, ld39, ld40, ld41, ld42, ld43, ld44, ld45, ld46, ld47, ld48, ld100, ld101, ld102, ld103, ld104, ld105, Wo_hasRole_eq w ho hl, Wo_hasRole_eq w ho hq, w.tm, w.rl, neq_i, b01_0]
  by_cases h1 : l = o <;> by_cases h2 : ν (2660 + l) = nI 0 <;> by_cases h3 : ν (2660 + l) = nI 1 <;> by_cases h4 : ν (2660 + o) = nI 2 <;> cases e1 : hrl ν l a <;> cases e2 : hrl ν o a <;> simp_all [b01, n01, n10]
theorem Wo_payers_eq {o a : Nat} (c : CR σ r R) (w : WR σ i R ν) (ho : RO R) (hq : o < R 0 0) : Wo_payers σ i r (nI o) (nI a) = some (sI (fun l => b01 (pay ν l o a)) (R 0 0)) := by
  have o1 := ho.L
  unfold Wo_payers
  refine lp_run (R 0 0) (by omega) (fun k => (sI (fun l => b01 (pay ν l o a)) k, nI k)) (fun rec k hk => ?_) (fun rec => ?_)
  · simp (disch := omega) only [bd_some, bd_none, lt_eq, lk_eq, fa_lit, nI_add, nI_mul, nI_sub, nle_t, nle_f, nlt_t, nlt_f, neq_t, neq_f, neg_ne, neg_ne', if_true, if_false, ite_true, ite_false, Nat.zero_add, Nat.add_zero, ld0, ld1, ld2, ld3, ld4, ld5, ld6, ld7, ld8, ld9, ld10, ld11, ld12, ld13, ld14, ld15, ld16, ld17, ld18, ld19, ld20, ld21, ld22, ld23, ld24, ld25, ld26, ld27, ld28, ld29, ld30, ld31, ld32, ld33, ld34, ld35, ld36, ld37, ld38, ld39, ld40, ld41, ld42, ld43, ld44, ld45, ld46, ld47, ld48, ld100, ld101, ld102, ld103, ld104, ld105, sI_succ, c.L, Wo_payable_eq w ho, b01_0]
    cases pay ν k o a <;> simp [b01, add_n0]
  · simp (disch := omega) only [bd_some, bd_none, lt_eq, lk_eq, fa_lit, nI_add, nI_mul, nI_sub, nle_t, nle_f, nlt_t, nlt_f, neq_t, neq_f, neg_ne, neg_ne', if_true, if_false, ite_true, ite_false, Nat.zero_add, Nat.add_zero, ld0, ld1, ld2, ld3, ld4, ld5, ld6, ld7, ld8, ld9, ld10, ld11, ld12, ld13, ld14, ld15, ld16, ld17, ld18, ld19, ld20, ld21, ld22, ld23, ld24, ld25, ld26, ld27, ld28, ld29, ld30, ld31, ld32, ld33, ld34, ld35, ld36, ld37, ld38, ld39, ld40, ld41, ld42, ld43, ld44, ld45, ld46, ld47, ld48, ld100, ld101, ld102, ld103, ld104, ld105, c.L, Wo_payable_eq w ho, b01_0]
theorem Wo_paysSome_eq {l o : Nat} (w : WR σ i R ν) (ho : RO R) (hl : l < R 0 0) (hq : o < R 0 0) : Wo_paysSome σ i (nI l) (nI o) = some (b01 (pay ν l o 0 || pay ν l o 1)) := by
  unfold Wo_paysSome
  simp (disch := omega) only [bd_some, bd_none, lt_eq, lk_eq, fa_lit, nI_add, nI_mul, nI_sub, nle_t, nle_f, nlt_t, nlt_f, neq_t, neq_f, neg_ne, neg_ne', if_true, if_false, ite_true, ite_false, Nat.zero_add, Nat.add_zero, ld0, ld1, ld2, ld3, ld4, ld5, ld6, ld7, ld8, ld9, ld10, ld11, ld12, ld13, ld14, ld15, ld16, ld17, ld18, ld19, ld20, ld21, ld22, ld23, ld24, ld25, ld26, ld27, ld28, ld29, ld30, ld31, ld32, ld33, ld34, ld35, ld36, ld37, ld38, ld39, ld40, ld41, ld42, ld43, ld44, ld45, ld46, ld47, ld48, ld100, ld101, ld102, ld103, ld104, ld105, Wo_payable_eq w ho, b01_0]
  cases pay ν l o 0 <;> cases pay ν l o 1 <;> simp [b01]
theorem Wo_answerOne_eq {a b : Nat} (w : WR σ i R ν) (ho : RO R) (ha : a < R 0 0) (hb : b < R 0 0) : Wo_answerOne σ i (nI a) (nI b) = some (b01 (decide (a = b) || answ ν a b)) := by
  have o1 := ho.L
  unfold Wo_answerOne answ
  simp (disch := omega) only [bd_some, bd_none, lt_eq, lk_eq, fa_lit, nI_add, nI_mul, nI_sub, nle_t, nle_f, nlt_t, nlt_f, neq_t, neq_f, neg_ne, neg_ne', if_true, if_false, ite_true, ite_false, Nat.zero_add, Nat.add_zero, ld0, ld1, ld2, ld3, ld4, ld5, ld6, ld7, ld8, ld9, ld10, ld11, ld12, ld13, ld14, ld15, ld16, ld17, ld18, ld19, ld20, ld21, ld22, ld23, ld24, ld25, ld26, ld27, ld28, ld29, ld30, ld31, ld32, ld33, ld34, ld35, ld36, ld37, ld38, ld39, ld40, ld41, ld42, ld43, ld44, ld45, ld46, ld47, ld48, ld100, ld101, ld102, ld103, ld104, ld105, Wo_paysSome_eq w ho, b01_0, neq_i]
  by_cases e : a = b
  · simp [e, b01]
  · cases (pay ν a b 0 || pay ν a b 1) <;> cases (pay ν b a 0 || pay ν b a 1) <;> simp [b01, e]
theorem Rl_headsIn_eq {s : Nat} (c : CR σ r R) (ho : RO R) (hs : s < R 0 2) : Rl_headsIn σ r (nI s) = some (nI (R 2 s + R 3 s)) := by
  have o3 := ho.S
  unfold Rl_headsIn
  simp (disch := omega) only [bd_some, bd_none, lt_eq, lk_eq, fa_lit, nI_add, nI_mul, nI_sub, nle_t, nle_f, nlt_t, nlt_f, neq_t, neq_f, neg_ne, neg_ne', if_true, if_false, ite_true, ite_false, Nat.zero_add, Nat.add_zero, ld0, ld1, ld2, ld3, ld4, ld5, ld6, ld7, ld8, ld9, ld10, ld11, ld12, ld13, ld14, ld15, ld16, ld17, ld18, ld19, ld20, ld21, ld22, ld23, ld24, ld25, ld26, ld27, ld28, ld29, ld30, ld31, ld32, ld33, ld34, ld35, ld36, ld37, ld38, ld39, ld40, ld41, ld42, ld43, ld44, ld45, ld46, ld47, ld48, ld100, ld101, ld102, ld103, ld104, ld105, c.mk hs, c.st hs]
theorem Rl_leadsIn_eq {s : Nat} (c : CR σ r R) (ho : RO R) (hs : s < R 0 2) : Rl_leadsIn σ r (nI s) = some (sI (fun k => b01 (decide (R 5 (8 * s + k) = 0))) (R 2 s)) := by
  have o3 := ho.S
  have o8 := ho.s hs
  unfold Rl_leadsIn
  refine lp_run (R 2 s) (by omega) (fun k => (sI (fun k => b01 (decide (R 5 (8 * s + k) = 0))) k, nI k)) (fun rec k hk => ?_) (fun rec => ?_)
  · simp (disch := omega) only [bd_some, bd_none, lt_eq, lk_eq, fa_lit, nI_add, nI_mul, nI_sub, nle_t, nle_f, nlt_t, nlt_f, neq_t, neq_f, neg_ne, neg_ne', if_true, if_false, ite_true, ite_false, Nat.zero_add, Nat.add_zero, ld0, ld1, ld2, ld3, ld4, ld5, ld6, ld7, ld8, ld9, ld10, ld11, ld12, ld13, ld14, ld15, ld16, ld17, ld18, ld19, ld20, ld21, ld22, ld23, ld24, ld25, ld26, ld27, ld28, ld29, ld30, ld31, ld32, ld33, ld34, ld35, ld36, ld37, ld38, ld39, ld40, ld41, ld42, ld43, ld44, ld45, ld46, ld47, ld48, ld100, ld101, ld102, ld103, ld104, ld105, sI_succ, c.mk hs, c.mr' hs]
    have := ho.m hs hk
    simp (disch := omega) only [neq_i]
    by_cases e : R 5 (8 * s + k) = 0 <;> simp [b01, e, add_n0]
  · simp (disch := omega) only [bd_some, bd_none, lt_eq, lk_eq, fa_lit, nI_add, nI_mul, nI_sub, nle_t, nle_f, nlt_t, nlt_f, neq_t, neq_f, neg_ne, neg_ne', if_true, if_false, ite_true, ite_false, Nat.zero_add, Nat.add_zero, ld0, ld1, ld2, ld3, ld4, ld5, ld6, ld7, ld8, ld9, ld10, ld11, ld12, ld13, ld14, ld15, ld16, ld17, ld18, ld19, ld20, ld21, ld22, ld23, ld24, ld25, ld26, ld27, ld28, ld29, ld30, ld31, ld32, ld33, ld34, ld35, ld36, ld37, ld38, ld39, ld40, ld41, ld42, ld43, ld44, ld45, ld46, ld47, ld48, ld100, ld101, ld102, ld103, ld104, ld105, c.mk hs, c.mr' hs]
theorem Rl_roleAt_eq {s k : Nat} (c : CR σ r R) (ho : RO R) (hs : s < R 0 2) (hk : k < R 2 s + R 3 s) : Rl_roleAt σ r (nI s) (nI k) = some (nI (if k < R 2 s then R 5 (8 * s + k) else 1)) := by
  have o3 := ho.S
  have o8 := ho.s hs
  unfold Rl_roleAt
  by_cases e : k < R 2 s
  · simp (disch := omega) only [bd_some, bd_none, lt_eq, lk_eq, fa_lit, nI_add, nI_mul, nI_sub, nle_t, nle_f, nlt_t, nlt_f, neq_t, neq_f, neg_ne, neg_ne', if_true, if_false, ite_true, ite_false, Nat.zero_add, Nat.add_zero, ld0, ld1, ld2, ld3, ld4, ld5, ld6, ld7, ld8, ld9, ld10, ld11, ld12, ld13, ld14, ld15, ld16, ld17, ld18, ld19, ld20, ld21, ld22, ld23, ld24, ld25, ld26, ld27, ld28, ld29, ld30, ld31, ld32, ld33, ld34, ld35, ld36, ld37, ld38, ld39, ld40, ld41, ld42, ld43, ld44, ld45, ld46, ld47, ld48, ld100, ld101, ld102, ld103, ld104, ld105, c.mk hs, c.mr' hs e, e]
  · simp (disch := omega) only [bd_some, bd_none, lt_eq, lk_eq, fa_lit, nI_add, nI_mul, nI_sub, nle_t, nle_f, nlt_t, nlt_f, neq_t, neq_f, neg_ne, neg_ne', if_true, if_false, ite_true, ite_false, Nat.zero_add, Nat.add_zero, ld0, ld1, ld2, ld3, ld4, ld5, ld6, ld7, ld8, ld9, ld10, ld11, ld12, ld13, ld14, ld15, ld16, ld17, ld18, ld19, ld20, ld21, ld22, ld23, ld24, ld25, ld26, ld27, ld28, ld29, ld30, ld31, ld32, ld33, ld34, ld35, ld36, ld37, ld38, ld39, ld40, ld41, ld42, ld43, ld44, ld45, ld46, ld47, ld48, ld100, ld101, ld102, ld103, ld104, ld105, c.mk hs, e]
theorem Rl_roleTold_eq {p s : Nat} (c : CR σ r R) (ho : RO R) (hs : s < R 0 2) (hp : p < 16) : Rl_roleTold σ r (nI p) (nI s) = some (if fd (mbr R p s) (R 2 s) < R 2 s then nI (R 5 (8 * s + fd (mbr R p s) (R 2 s))) else -nI 2) := by
  have o2 := ho.P
  have o3 := ho.S
  have o8 := ho.s hs
  unfold Rl_roleTold
  refine lp_find (R 2 s) (by omega) (mbr R p s) (fun k => nI k) (fun rec k hk hq => ?_) (fun rec k hk hq e => ?_) (fun rec e => ?_)
  · simp only [mbr, decide_eq_false_iff_not] at hq
    have := ho.m hs hk
    simp (disch := omega) only [bd_some, bd_none, lt_eq, lk_eq, fa_lit, nI_add, nI_mul, nI_sub, nle_t, nle_f, nlt_t, nlt_f, neq_t, neq_f, neg_ne, neg_ne', if_true, if_false, ite_true, ite_false, Nat.zero_add, Nat.add_zero, ld0, ld1, ld2, ld3, ld4, ld5, ld6, ld7, ld8, ld9, ld10, ld11, ld12, ld13, ld14, ld15, ld16, ld17, ld18, ld19, ld20, ld21, ld22, ld23, ld24, ld25, ld26, ld27, ld28, ld29, ld30, ld31, ld32, ld33, ld34, ld35, ld36, ld37, ld38, ld39, ld40, ld41, ld42, ld43, ld44, ld45, ld46, ld47, ld48, ld100, ld101, ld102, ld103, ld104, ld105, c.mk hs, c.mb' hs hk]
  · simp only [mbr, decide_eq_true_eq] at hq
    have := ho.m hs hk
    rw [← e]
    simp (disch := omega) only [bd_some, bd_none, lt_eq, lk_eq, fa_lit, nI_add, nI_mul, nI_sub, nle_t, nle_f, nlt_t, nlt_f, neq_t, neq_f, neg_ne, neg_ne', if_true, if_false, ite_true, ite_false, Nat.zero_add, Nat.add_zero, ld0, ld1, ld2, ld3, ld4, ld5, ld6, ld7, ld8, ld9, ld10, ld11, ld12, ld13, ld14, ld15, ld16, ld17, ld18, ld19, ld20, ld21, ld22, ld23, ld24, ld25, ld26, ld27, ld28, ld29, ld30, ld31, ld32, ld33, ld34, ld35, ld36, ld37, ld38, ld39, ld40, ld41, ld42, ld43, ld44, ld45, ld46, ld47, ld48, ld100, ld101, ld102, ld103, ld104, ld105, c.mk hs, c.mb' hs hk, c.mr' hs hk, hk]
  · rw [e]
    simp (disch := omega) only [bd_some, bd_none, lt_eq, lk_eq, fa_lit, nI_add, nI_mul, nI_sub, nle_t, nle_f, nlt_t, nlt_f, neq_t, neq_f, neg_ne, neg_ne', if_true, if_false, ite_true, ite_false, Nat.zero_add, Nat.add_zero, ld0, ld1, ld2, ld3, ld4, ld5, ld6, ld7, ld8, ld9, ld10, ld11, ld12, ld13, ld14, ld15, ld16, ld17, ld18, ld19, ld20, ld21, ld22, ld23, ld24, ld25, ld26, ld27, ld28, ld29, ld30, ld31, ld32, ld33, ld34, ld35, ld36, ld37, ld38, ld39, ld40, ld41, ld42, ld43, ld44, ld45, ld46, ld47, ld48, ld100, ld101, ld102, ld103, ld104, ld105, c.mk hs, Nat.lt_irrefl]
theorem Wo_roleIn_eq {p s : Nat} (c : CR σ r R) (w : WR σ i R ν) (ho : RO R) (hv : HO R ν) (hs : s < R 0 2) (hp : p < 16) : Wo_roleIn σ i r (nI p) (nI s) = some (roleP R ν p s) := by
  have o2 := ho.P
  have o3 := ho.S
  have o8 := ho.s hs
  unfold Wo_roleIn roleP
  refine lp_find (R 3 s) (by omega) (own ν s (nI p)) (fun k => nI k) (fun rec k hk hq => ?_) (fun rec k hk hq e => ?_) (fun rec e => ?_)
  · simp only [own, decide_eq_false_iff_not] at hq
    simp (disch := omega) only [bd_some, bd_none, lt_eq, lk_eq, fa_lit, nI_add, nI_mul, nI_sub, nle_t, nle_f, nlt_t, nlt_f, neq_t, neq_f, neg_ne, neg_ne', if_true, if_false, ite_true, ite_false, Nat.zero_add, Nat.add_zero, ld0, ld1, ld2, ld3, ld4, ld5, ld6, ld7, ld8, ld9, ld10, ld11, ld12, ld13, ld14, ld15, ld16, ld17, ld18, ld19, ld20, ld21, ld22, ld23, ld24, ld25, ld26, ld27, ld28, ld29, ld30, ld31, ld32, ld33, ld34, ld35, ld36, ld37, ld38, ld39, ld40, ld41, ld42, ld43, ld44, ld45, ld46, ld47, ld48, ld100, ld101, ld102, ld103, ld104, ld105, c.st hs, w.ho, hol_p, hq]
  · simp only [own, decide_eq_true_eq] at hq
    have hno : ¬ fd (mbr R p s) (R 2 s) < R 2 s := by
      intro hlt
      have hy := fd_yes hlt
      simp only [mbr, decide_eq_true_eq] at hy
      rcases hv.2 s k hs hk with q | ⟨p', hp', q, hn⟩
      · rw [q] at hq
        exact of_eq_false (neg_ne' (by omega) (by decide)) hq
      · rw [q] at hq
        have : p' = p := (nI_eq (by omega) (by omega)).mp hq
        subst this
        exact hn _ hlt hy
    rw [← e]
    simp (disch := omega) only [bd_some, bd_none, lt_eq, lk_eq, fa_lit, nI_add, nI_mul, nI_sub, nle_t, nle_f, nlt_t, nlt_f, neq_t, neq_f, neg_ne, neg_ne', if_true, if_false, ite_true, ite_false, Nat.zero_add, Nat.add_zero, ld0, ld1, ld2, ld3, ld4, ld5, ld6, ld7, ld8, ld9, ld10, ld11, ld12, ld13, ld14, ld15, ld16, ld17, ld18, ld19, ld20, ld21, ld22, ld23, ld24, ld25, ld26, ld27, ld28, ld29, ld30, ld31, ld32, ld33, ld34, ld35, ld36, ld37, ld38, ld39, ld40, ld41, ld42, ld43, ld44, ld45, ld46, ld47, ld48, ld100, ld101, ld102, ld103, ld104, ld105, c.st hs, w.ho, hol_p, hq, hno, hk]
  · rw [e]
    simp (disch := omega) only [bd_some, bd_none, lt_eq, lk_eq, fa_lit, nI_add, nI_mul, nI_sub, nle_t, nle_f, nlt_t, nlt_f, neq_t, neq_f, neg_ne, neg_ne', if_true, if_false, ite_true, ite_false, Nat.zero_add, Nat.add_zero, ld0, ld1, ld2, ld3, ld4, ld5, ld6, ld7, ld8, ld9, ld10, ld11, ld12, ld13, ld14, ld15, ld16, ld17, ld18, ld19, ld20, ld21, ld22, ld23, ld24, ld25, ld26, ld27, ld28, ld29, ld30, ld31, ld32, ld33, ld34, ld35, ld36, ld37, ld38, ld39, ld40, ld41, ld42, ld43, ld44, ld45, ld46, ld47, ld48, ld100, ld101, ld102, ld103, ld104, ld105, c.st hs, Nat.lt_irrefl, Rl_roleTold_eq c ho hs hp]
theorem Wo_firstOpen_eq {s : Nat} (c : CR σ r R) (w : WR σ i R ν) (ho : RO R) (hv : HO R ν) (hs : s < R 0 2) : Wo_firstOpen σ i r (nI s) = some (seatP R ν s) := by
  have o3 := ho.S
  have o8 := ho.s hs
  unfold Wo_firstOpen seatP
  refine lp_find (R 3 s) (by omega) (own ν s (-nI 1)) (fun k => nI k) (fun rec k hk hq => ?_) (fun rec k hk hq e => ?_) (fun rec e => ?_)
  · simp only [own, decide_eq_false_iff_not] at hq
    simp (disch := omega) only [bd_some, bd_none, lt_eq, lk_eq, fa_lit, nI_add, nI_mul, nI_sub, nle_t, nle_f, nlt_t, nlt_f, neq_t, neq_f, neg_ne, neg_ne', if_true, if_false, ite_true, ite_false, Nat.zero_add, Nat.add_zero, ld0, ld1, ld2, ld3, ld4, ld5, ld6, ld7, ld8, ld9, ld10, ld11, ld12, ld13, ld14, ld15, ld16, ld17, ld18, ld19, ld20, ld21, ld22, ld23, ld24, ld25, ld26, ld27, ld28, ld29, ld30, ld31, ld32, ld33, ld34, ld35, ld36, ld37, ld38, ld39, ld40, ld41, ld42, ld43, ld44, ld45, ld46, ld47, ld48, ld100, ld101, ld102, ld103, ld104, ld105, c.st hs, w.ho, hol_m2 _ (hv.st ho hs hk), hq]
  · simp only [own, decide_eq_true_eq] at hq
    rw [← e]
    simp (disch := omega) only [bd_some, bd_none, lt_eq, lk_eq, fa_lit, nI_add, nI_mul, nI_sub, nle_t, nle_f, nlt_t, nlt_f, neq_t, neq_f, neg_ne, neg_ne', if_true, if_false, ite_true, ite_false, Nat.zero_add, Nat.add_zero, ld0, ld1, ld2, ld3, ld4, ld5, ld6, ld7, ld8, ld9, ld10, ld11, ld12, ld13, ld14, ld15, ld16, ld17, ld18, ld19, ld20, ld21, ld22, ld23, ld24, ld25, ld26, ld27, ld28, ld29, ld30, ld31, ld32, ld33, ld34, ld35, ld36, ld37, ld38, ld39, ld40, ld41, ld42, ld43, ld44, ld45, ld46, ld47, ld48, ld100, ld101, ld102, ld103, ld104, ld105, c.st hs, w.ho, hol_m1, hq, hk]
  · rw [e]
    simp (disch := omega) only [bd_some, bd_none, lt_eq, lk_eq, fa_lit, nI_add, nI_mul, nI_sub, nle_t, nle_f, nlt_t, nlt_f, neq_t, neq_f, neg_ne, neg_ne', if_true, if_false, ite_true, ite_false, Nat.zero_add, Nat.add_zero, ld0, ld1, ld2, ld3, ld4, ld5, ld6, ld7, ld8, ld9, ld10, ld11, ld12, ld13, ld14, ld15, ld16, ld17, ld18, ld19, ld20, ld21, ld22, ld23, ld24, ld25, ld26, ld27, ld28, ld29, ld30, ld31, ld32, ld33, ld34, ld35, ld36, ld37, ld38, ld39, ld40, ld41, ld42, ld43, ld44, ld45, ld46, ld47, ld48, ld100, ld101, ld102, ld103, ld104, ld105, c.st hs, Nat.lt_irrefl]
theorem Wo_playersOf_eq {l : Nat} (c : CR σ r R) (w : WR σ i R ν) (ho : RO R) : Wo_playersOf σ i r (nI l) = some (sI (fun p => b01 (decide (ν (2672 + p) = nI l))) (R 0 1)) := by
  have o1 := ho.P
  unfold Wo_playersOf
  refine lp_run (R 0 1) (by omega) (fun k => (sI (fun p => b01 (decide (ν (2672 + p) = nI l))) k, nI k)) (fun rec k hk => ?_) (fun rec => ?_)
  · simp (disch := omega) only [bd_some, bd_none, lt_eq, lk_eq, fa_lit, nI_add, nI_mul, nI_sub, nle_t, nle_f, nlt_t, nlt_f, neq_t, neq_f, neg_ne, neg_ne', if_true, if_false, ite_true, ite_false, Nat.zero_add, Nat.add_zero, ld0, ld1, ld2, ld3, ld4, ld5, ld6, ld7, ld8, ld9, ld10, ld11, ld12, ld13, ld14, ld15, ld16, ld17, ld18, ld19, ld20, ld21, ld22, ld23, ld24, ld25, ld26, ld27, ld28, ld29, ld30, ld31, ld32, ld33, ld34, ld35, ld36, ld37, ld38, ld39, ld40, ld41, ld42, ld43, ld44, ld45, ld46, ld47, ld48, ld100, ld101, ld102, ld103, ld104, ld105, sI_succ, c.P, w.hm]
    by_cases e : ν (2672 + k) = nI l <;> simp [b01, e, add_n0]
  · simp (disch := omega) only [bd_some, bd_none, lt_eq, lk_eq, fa_lit, nI_add, nI_mul, nI_sub, nle_t, nle_f, nlt_t, nlt_f, neq_t, neq_f, neg_ne, neg_ne', if_true, if_false, ite_true, ite_false, Nat.zero_add, Nat.add_zero, ld0, ld1, ld2, ld3, ld4, ld5, ld6, ld7, ld8, ld9, ld10, ld11, ld12, ld13, ld14, ld15, ld16, ld17, ld18, ld19, ld20, ld21, ld22, ld23, ld24, ld25, ld26, ld27, ld28, ld29, ld30, ld31, ld32, ld33, ld34, ld35, ld36, ld37, ld38, ld39, ld40, ld41, ld42, ld43, ld44, ld45, ld46, ld47, ld48, ld100, ld101, ld102, ld103, ld104, ld105, c.P, w.hm]
end Cls

/-! ===== the invariant ===== -/
/-- money: none below 0, each land's is paid, kept or in its box; what has lapsed lies in the box -/
def mI (ν : NU) (j : Nat) : Int := (ν j).toInt
def MO (R : RT) (ν : NU) : Prop := (∀ j, j < 2604 → 0 ≤ mI ν j) ∧ (∀ l, l < 6 → mI ν (198 + l) ≤ 300000000 ∧ mI ν (198 + l) = fb_si (fun p => mI ν (6 * p + l)) 16 + fb_si (fun j => mI ν (204 + 360 * l + j)) 360 + mI ν (192 + l) ∧ fb_si (fun j => mI ν (2364 + 40 * l + j)) 40 ≤ mI ν (192 + l)) ∧ (∀ j, j < 96 → mI ν (96 + j) ≤ mI ν j)
def TO (R : RT) (ν : NU) : Prop := ∀ l, l < R 0 0 → ∃ a, 1 ≤ a ∧ a ≤ 3 ∧ ν (2666 + l) = nI a
def VO (R : RT) (ν : NU) : Prop := HO R ν ∧ ZO R ν ∧ MO R ν ∧ (∃ y, y ≤ 9999 ∧ ν 2688 = nI y) ∧ TO R ν
def pst (σ : ST) (m : Nat) : NU := fun k => σ.1 35 0 (2689 * m + k)
def HI (σ : ST) (R : RT) : Prop := ∃ c t, c ≤ 12 ∧ t < 12 ∧ σ.1 330 0 0 = nI c ∧ σ.1 856 0 0 = nI c ∧ σ.1 329 0 0 = nI t ∧ ∀ j, j < c → BR σ (1 + (t + 12 - j) % 12) R (pst σ (c - 1 - j)) ∧ VO R (pst σ (c - 1 - j))
def TP (σ : ST) : Prop := (∃ n, n ≤ 900 ∧ σ.1 652 0 0 = nI n ∧ σ.1 842 0 0 = nI n ∧ ∀ j, j < n → σ.1 21 0 j = σ.1 28 0 j ∧ ∃ b, b < 256 ∧ σ.1 28 0 j = nI b) ∧ σ.1 463 0 0 = σ.1 865 0 0 ∧ σ.1 464 0 0 = σ.1 866 0 0
def QO (σ : ST) : Prop := σ.2.2 0 < 2 ∧ σ.2.2 1 < 2 ∧ σ.2.2 0 ≠ σ.2.2 1
def IV (σ : ST) (R : RT) : Prop := RO R ∧ MR σ R ∧ QO σ ∧ CR σ (σ.2.2 0) R ∧ BR σ 0 R (σ.1 34 0) ∧ VO R (σ.1 34 0) ∧ HI σ R ∧ TP σ
/-! what the invariant looks at -/
def cor (k i : Nat) : Bool := decide (k ≤ 7) || ((decide (13 ≤ k) && decide (k ≤ 21)) || ((decide (24 ≤ k) && (decide (k ≤ 27) && decide (i ≤ 12))) || ((decide (28 ≤ k) && decide (k ≤ 35)) || [209, 329, 330, 463, 464, 528, 529, 530, 531, 532, 533, 652, 842, 848, 849, 850, 851, 852, 853, 856, 865, 866].contains k)))
def Core (σ τ : ST) : Prop := τ.2.2 = σ.2.2 ∧ ∀ k i, cor k i = true → τ.1 k i = σ.1 k i
theorem Core.rf (σ : ST) : Core σ σ := ⟨rfl, fun _ _ _ => rfl⟩
theorem Core.tr {σ τ υ : ST} (h : Core σ τ) (g : Core τ υ) : Core σ υ := ⟨g.1.trans h.1, fun k i c => (g.2 k i c).trans (h.2 k i c)⟩
theorem Core.symm {σ τ : ST} (h : Core σ τ) : Core τ σ := ⟨h.1.symm, fun k i c => (h.2 k i c).symm⟩
theorem Core.setF (σ : ST) {k i : Nat} (v : Int32) (h : cor k i = false) : Core σ (setF σ k i v) := by
  refine ⟨rfl, fun k' i' c => ?_⟩
  show up3 σ.1 k i _ k' i' = _
  unfold up3
  rw [if_neg]
  rintro ⟨rfl, rfl⟩
  rw [h] at c
  cases c
theorem Core.setR (σ : ST) {k i : Nat} (f : Nat → Int32) (h : cor k i = false) : Core σ (setR σ k i f) := by
  refine ⟨rfl, fun k' i' c => ?_⟩
  show up3 σ.1 k i _ k' i' = _
  unfold up3
  rw [if_neg]
  rintro ⟨rfl, rfl⟩
  rw [h] at c
  cases c
theorem Core.setL (σ : ST) (k i : Nat) (f : Nat → Int64) : Core σ (setL σ k i f) := ⟨rfl, fun _ _ _ => rfl⟩
theorem cor_w {k i : Nat} (h1 : 24 ≤ k) (h2 : k ≤ 27) (hi : i ≤ 12) : cor k i = true := by
  unfold cor
  simp only [h1, h2, hi, decide_true, Bool.and_self, Bool.true_or, Bool.or_true]
section Inv
variable {σ τ : ST} {R : RT} {ν : NU} {r i : Nat}
theorem MR.core (h : MR σ R) (e : Core σ τ) : MR τ R := by
  unfold MR at *
  rw [e.2 850 0 rfl, e.2 851 0 rfl, e.2 852 0 rfl, e.2 853 0 rfl, e.2 848 0 rfl, e.2 849 0 rfl, e.2 29 0 rfl, e.2 32 0 rfl, e.2 33 0 rfl, e.2 30 0 rfl, e.2 31 0 rfl]
  exact h
theorem CR.core (h : CR σ r R) (e : Core σ τ) : CR τ r R := by
  unfold CR at *
  rw [e.2 529 r rfl, e.2 530 r rfl, e.2 531 r rfl, e.2 528 r rfl, e.2 532 r rfl, e.2 533 r rfl, e.2 13 r rfl, e.2 17 r rfl, e.2 18 r rfl, e.2 19 r rfl, e.2 20 r rfl]
  exact h
theorem WR.core (h : WR σ i R ν) (e : Core σ τ) (hi : i ≤ 12) : WR τ i R ν := by
  unfold WR at *
  rw [e.2 24 i (cor_w (by decide) (by decide) hi), e.2 25 i (cor_w (by decide) (by decide) hi), e.2 26 i (cor_w (by decide) (by decide) hi), e.2 27 i (cor_w (by decide) (by decide) hi)]
  exact h
theorem BR.core (h : BR σ i R ν) (e : Core σ τ) (hi : i ≤ 12) : BR τ i R ν := by
  refine ⟨h.1.core e hi, ?_⟩
  rw [e.2 0 i rfl, e.2 1 i rfl, e.2 2 i rfl, e.2 3 i rfl, e.2 4 i rfl, e.2 5 i rfl, e.2 6 i rfl, e.2 7 i rfl, e.2 209 i rfl]
  exact h.2
theorem HI.core (h : HI σ R) (e : Core σ τ) : HI τ R := by
  obtain ⟨c, t, h1, h2, h3, h4, h5, h6⟩ := h
  refine ⟨c, t, h1, h2, by rw [e.2 330 0 rfl]; exact h3, by rw [e.2 856 0 rfl]; exact h4, by rw [e.2 329 0 rfl]; exact h5, fun j hj => ?_⟩
  have ep : ∀ m, pst τ m = pst σ m := fun m => by unfold pst; rw [e.2 35 0 rfl]
  rw [ep]
  exact ⟨(h6 j hj).1.core e (by omega), (h6 j hj).2⟩
theorem TP.core (h : TP σ) (e : Core σ τ) : TP τ := by
  unfold TP at *
  rw [e.2 652 0 rfl, e.2 842 0 rfl, e.2 21 0 rfl, e.2 28 0 rfl, e.2 463 0 rfl, e.2 865 0 rfl, e.2 464 0 rfl, e.2 866 0 rfl]
  exact h
theorem IV.core (h : IV σ R) (e : Core σ τ) : IV τ R := by
  obtain ⟨h1, h2, h3, h4, h5, h6, h7, h8⟩ := h
  refine ⟨h1, h2.core e, ?_, ?_, ?_, ?_, h7.core e, h8.core e⟩
  · unfold QO; rw [e.1]; exact h3
  · rw [e.1]; exact h4.core e
  · rw [e.2 34 0 rfl]; exact h5.core e (by omega)
  · rw [e.2 34 0 rfl]; exact h6
theorem IV.ro (h : IV σ R) : RO R := h.1
theorem IV.mr (h : IV σ R) : MR σ R := h.2.1
theorem IV.cr (h : IV σ R) : CR σ (σ.2.2 0) R := h.2.2.2.1
theorem IV.br (h : IV σ R) : BR σ 0 R (σ.1 34 0) := h.2.2.2.2.1
theorem IV.vo (h : IV σ R) : VO R (σ.1 34 0) := h.2.2.2.2.2.1
theorem IV.ho (h : IV σ R) : HO R (σ.1 34 0) := h.2.2.2.2.2.1.1
theorem IV.zo (h : IV σ R) : ZO R (σ.1 34 0) := h.2.2.2.2.2.1.2.1
theorem IV.mo (h : IV σ R) : MO R (σ.1 34 0) := h.2.2.2.2.2.1.2.2.1
theorem IV.yr (h : IV σ R) : ∃ y, y ≤ 9999 ∧ σ.1 34 0 2688 = nI y := h.2.2.2.2.2.1.2.2.2.1
theorem IV.to (h : IV σ R) : TO R (σ.1 34 0) := h.2.2.2.2.2.1.2.2.2.2
theorem IV.q0 (h : IV σ R) : ldQ σ 0 = some (σ.2.2 0) := if_pos h.2.2.1.1
/-- both answer alike, and nothing that counts is changed: the class's state stands still -/
def QI (f : Option Int32) (g : Option (Int32 × ST)) (σ : ST) : Prop := ∃ v τ, f = some v ∧ g = some (v, τ) ∧ Core σ τ
theorem thr (h : IV σ R) (v : Int32) : IV (setF σ 840 0 v) R ∧ Core σ (setF σ 840 0 v) ∧ (setF σ 840 0 v).1 34 0 = σ.1 34 0 := ⟨h.core (Core.setF σ v rfl), Core.setF σ v rfl, rfl⟩
theorem Rp_isLand_t {l : Nat} (h : IV σ R) (hl : l < R 0 0) : Rp_isLand σ (nI l) = some (nI 1) := by
  have o1 := h.ro.L
  unfold Rp_isLand
  simp (disch := omega) only [bd_some, bd_none, lt_eq, lk_eq, fa_lit, nI_add, nI_mul, nI_sub, nle_t, nle_f, nlt_t, nlt_f, neq_t, neq_f, neg_ne, neg_ne', if_true, if_false, ite_true, ite_false, Nat.zero_add, Nat.add_zero, ld0, ld1, ld2, ld3, ld4, ld5, ld6, ld7, ld8, ld9, ld10, ld11, ld12, ld13, ld14, ld15, ld16, ld17, ld18, ld19, ld20, ld21, ld22, ld23, ld24, ld25, ld26, ld27, ld28, ld29, ld30, ld31, ld32, ld33, ld34, ld35, ld36, ld37, ld38, ld39, ld40, ld41, ld42, ld43, ld44, ld45, ld46, ld47, ld48, ld100, ld101, ld102, ld103, ld104, ld105, h.q0, h.cr.L]
theorem Rp_isLand_f {x : Int32} (h : IV σ R) (hx : x < nI 0 ∨ nI (R 0 0) ≤ x) : Rp_isLand σ x = some (nI 0) := by
  unfold Rp_isLand
  simp only [h.q0, bd_some, h.cr.L, fa_lit]
  rcases hx with q | q
  · simp only [q, if_true]
  · simp only [q, if_true, ite_self]
theorem Rp_isPlayer_t {l : Nat} (h : IV σ R) (hl : l < R 0 1) : Rp_isPlayer σ (nI l) = some (nI 1) := by
  have o1 := h.ro.P
  unfold Rp_isPlayer
  simp (disch := omega) only [bd_some, bd_none, lt_eq, lk_eq, fa_lit, nI_add, nI_mul, nI_sub, nle_t, nle_f, nlt_t, nlt_f, neq_t, neq_f, neg_ne, neg_ne', if_true, if_false, ite_true, ite_false, Nat.zero_add, Nat.add_zero, ld0, ld1, ld2, ld3, ld4, ld5, ld6, ld7, ld8, ld9, ld10, ld11, ld12, ld13, ld14, ld15, ld16, ld17, ld18, ld19, ld20, ld21, ld22, ld23, ld24, ld25, ld26, ld27, ld28, ld29, ld30, ld31, ld32, ld33, ld34, ld35, ld36, ld37, ld38, ld39, ld40, ld41, ld42, ld43, ld44, ld45, ld46, ld47, ld48, ld100, ld101, ld102, ld103, ld104, ld105, h.q0, h.cr.P]
theorem Rp_isPlayer_f {x : Int32} (h : IV σ R) (hx : x < nI 0 ∨ nI (R 0 1) ≤ x) : Rp_isPlayer σ x = some (nI 0) := by
  unfold Rp_isPlayer
  simp only [h.q0, bd_some, h.cr.P, fa_lit]
  rcases hx with q | q
  · simp only [q, if_true]
  · simp only [q, if_true, ite_self]
theorem Rp_isSession_t {l : Nat} (h : IV σ R) (hl : l < R 0 2) : Rp_isSession σ (nI l) = some (nI 1) := by
  have o1 := h.ro.S
  unfold Rp_isSession
  simp (disch := omega) only [bd_some, bd_none, lt_eq, lk_eq, fa_lit, nI_add, nI_mul, nI_sub, nle_t, nle_f, nlt_t, nlt_f, neq_t, neq_f, neg_ne, neg_ne', if_true, if_false, ite_true, ite_false, Nat.zero_add, Nat.add_zero, ld0, ld1, ld2, ld3, ld4, ld5, ld6, ld7, ld8, ld9, ld10, ld11, ld12, ld13, ld14, ld15, ld16, ld17, ld18, ld19, ld20, ld21, ld22, ld23, ld24, ld25, ld26, ld27, ld28, ld29, ld30, ld31, ld32, ld33, ld34, ld35, ld36, ld37, ld38, ld39, ld40, ld41, ld42, ld43, ld44, ld45, ld46, ld47, ld48, ld100, ld101, ld102, ld103, ld104, ld105, h.q0, h.cr.S]
theorem Rp_isSession_f {x : Int32} (h : IV σ R) (hx : x < nI 0 ∨ nI (R 0 2) ≤ x) : Rp_isSession σ x = some (nI 0) := by
  unfold Rp_isSession
  simp only [h.q0, bd_some, h.cr.S, fa_lit]
  rcases hx with q | q
  · simp only [q, if_true]
  · simp only [q, if_true, ite_self]
theorem Rp_isSeat_t {s t : Nat} (h : IV σ R) (hs : s < R 0 2) (ht : t < R 3 s) : Rp_isSeat σ (nI s) (nI t) = some (nI 1) := by
  have o3 := h.ro.S
  have o8 := h.ro.s hs
  unfold Rp_isSeat
  simp (disch := omega) only [bd_some, bd_none, lt_eq, lk_eq, fa_lit, nI_add, nI_mul, nI_sub, nle_t, nle_f, nlt_t, nlt_f, neq_t, neq_f, neg_ne, neg_ne', if_true, if_false, ite_true, ite_false, Nat.zero_add, Nat.add_zero, ld0, ld1, ld2, ld3, ld4, ld5, ld6, ld7, ld8, ld9, ld10, ld11, ld12, ld13, ld14, ld15, ld16, ld17, ld18, ld19, ld20, ld21, ld22, ld23, ld24, ld25, ld26, ld27, ld28, ld29, ld30, ld31, ld32, ld33, ld34, ld35, ld36, ld37, ld38, ld39, ld40, ld41, ld42, ld43, ld44, ld45, ld46, ld47, ld48, ld100, ld101, ld102, ld103, ld104, ld105, Rp_isSession_t h hs, h.q0, h.cr.st hs]
theorem Rp_isSeat_f {x : Int32} {s : Nat} (h : IV σ R) (hs : s < R 0 2) (hx : x < nI 0 ∨ nI (R 3 s) ≤ x) : Rp_isSeat σ (nI s) x = some (nI 0) := by
  have o3 := h.ro.S
  unfold Rp_isSeat
  simp (disch := omega) only [bd_some, bd_none, lt_eq, lk_eq, fa_lit, nI_add, nI_mul, nI_sub, nle_t, nle_f, nlt_t, nlt_f, neq_t, neq_f, neg_ne, neg_ne', if_true, if_false, ite_true, ite_false, Nat.zero_add, Nat.add_zero, ld0, ld1, ld2, ld3, ld4, ld5, ld6, ld7, ld8, ld9, ld10, ld11, ld12, ld13, ld14, ld15, ld16, ld17, ld18, ld19, ld20, ld21, ld22, ld23, ld24, ld25, ld26, ld27, ld28, ld29, ld30, ld31, ld32, ld33, ld34, ld35, ld36, ld37, ld38, ld39, ld40, ld41, ld42, ld43, ld44, ld45, ld46, ld47, ld48, ld100, ld101, ld102, ld103, ld104, ld105, Rp_isSession_t h hs, h.q0, h.cr.st hs]
  rcases hx with q | q
  · simp only [q, if_true]
  · simp only [q, if_true, ite_self]
theorem Rp_isSeat_g {x y : Int32} (h : IV σ R) (hx : x < nI 0 ∨ nI (R 0 2) ≤ x) : Rp_isSeat σ x y = some (nI 0) := by
  unfold Rp_isSeat
  simp (disch := omega) only [bd_some, bd_none, lt_eq, lk_eq, fa_lit, nI_add, nI_mul, nI_sub, nle_t, nle_f, nlt_t, nlt_f, neq_t, neq_f, neg_ne, neg_ne', if_true, if_false, ite_true, ite_false, Nat.zero_add, Nat.add_zero, ld0, ld1, ld2, ld3, ld4, ld5, ld6, ld7, ld8, ld9, ld10, ld11, ld12, ld13, ld14, ld15, ld16, ld17, ld18, ld19, ld20, ld21, ld22, ld23, ld24, ld25, ld26, ld27, ld28, ld29, ld30, ld31, ld32, ld33, ld34, ld35, ld36, ld37, ld38, ld39, ld40, ld41, ld42, ld43, ld44, ld45, ld46, ld47, ld48, ld100, ld101, ld102, ld103, ld104, ld105, Rp_isSession_f h hx]
theorem Rp_isChoice_t {a n : Nat} (ha : a < n) (hn : n < 2147483648) : Rp_isChoice σ (nI a) (nI n) = some (nI 1) := by
  unfold Rp_isChoice
  simp (disch := omega) only [bd_some, bd_none, lt_eq, lk_eq, fa_lit, nI_add, nI_mul, nI_sub, nle_t, nle_f, nlt_t, nlt_f, neq_t, neq_f, neg_ne, neg_ne', if_true, if_false, ite_true, ite_false, Nat.zero_add, Nat.add_zero, ld0, ld1, ld2, ld3, ld4, ld5, ld6, ld7, ld8, ld9, ld10, ld11, ld12, ld13, ld14, ld15, ld16, ld17, ld18, ld19, ld20, ld21, ld22, ld23, ld24, ld25, ld26, ld27, ld28, ld29, ld30, ld31, ld32, ld33, ld34, ld35, ld36, ld37, ld38, ld39, ld40, ld41, ld42, ld43, ld44, ld45, ld46, ld47, ld48, ld100, ld101, ld102, ld103, ld104, ld105]
theorem Rp_isChoice_f {x : Int32} {n : Nat} (hx : x < nI 0 ∨ nI n ≤ x) : Rp_isChoice σ x (nI n) = some (nI 0) := by
  unfold Rp_isChoice
  simp only [fa_lit]
  rcases hx with q | q
  · simp only [q, if_true]
  · simp only [q, if_true, ite_self]
end Inv

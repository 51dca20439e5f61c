/-! ===== other worlds: copied, other terms, other homes ===== -/
theorem cp_eq {σ : ST} {k i j n : Nat} (hl : lenI k = n) (hn : n < 2147483648) : cpI σ k i (nI 0) k j (nI 0) (nI n) = some (setR σ k j (va_cpy (σ.1 k i) (σ.1 k j) 0 0 n)) := by
  unfold cpI
  rw [nI_clamp (by decide), nI_clamp (by omega), hl, if_pos]
  have h0 : (0 : Int32) ≤ nI n := of_eq_true (nle_t (Nat.zero_le n) hn)
  exact ⟨by decide, by decide, h0, by omega, by omega⟩
theorem cp0 {σ : ST} {i j : Nat} : cpI σ 0 i (nI 0) 0 j (nI 0) (nI 6) = some (setR σ 0 j (va_cpy (σ.1 0 i) (σ.1 0 j) 0 0 6)) := cp_eq rfl (by decide)
theorem cp1 {σ : ST} {i j : Nat} : cpI σ 1 i (nI 0) 1 j (nI 0) (nI 6) = some (setR σ 1 j (va_cpy (σ.1 1 i) (σ.1 1 j) 0 0 6)) := cp_eq rfl (by decide)
theorem cp2 {σ : ST} {i j : Nat} : cpI σ 2 i (nI 0) 2 j (nI 0) (nI 8) = some (setR σ 2 j (va_cpy (σ.1 2 i) (σ.1 2 j) 0 0 8)) := cp_eq rfl (by decide)
theorem cp3 {σ : ST} {i j : Nat} : cpI σ 3 i (nI 0) 3 j (nI 0) (nI 8) = some (setR σ 3 j (va_cpy (σ.1 3 i) (σ.1 3 j) 0 0 8)) := cp_eq rfl (by decide)
theorem cp4 {σ : ST} {i j : Nat} : cpI σ 4 i (nI 0) 4 j (nI 0) (nI 96) = some (setR σ 4 j (va_cpy (σ.1 4 i) (σ.1 4 j) 0 0 96)) := cp_eq rfl (by decide)
theorem cp5 {σ : ST} {i j : Nat} : cpI σ 5 i (nI 0) 5 j (nI 0) (nI 96) = some (setR σ 5 j (va_cpy (σ.1 5 i) (σ.1 5 j) 0 0 96)) := cp_eq rfl (by decide)
theorem cp6 {σ : ST} {i j : Nat} : cpI σ 6 i (nI 0) 6 j (nI 0) (nI 240) = some (setR σ 6 j (va_cpy (σ.1 6 i) (σ.1 6 j) 0 0 240)) := cp_eq rfl (by decide)
theorem cp7 {σ : ST} {i j : Nat} : cpI σ 7 i (nI 0) 7 j (nI 0) (nI 2160) = some (setR σ 7 j (va_cpy (σ.1 7 i) (σ.1 7 j) 0 0 2160)) := cp_eq rfl (by decide)
theorem cp24 {σ : ST} {i j : Nat} : cpI σ 24 i (nI 0) 24 j (nI 0) (nI 6) = some (setR σ 24 j (va_cpy (σ.1 24 i) (σ.1 24 j) 0 0 6)) := cp_eq rfl (by decide)
theorem cp25 {σ : ST} {i j : Nat} : cpI σ 25 i (nI 0) 25 j (nI 0) (nI 6) = some (setR σ 25 j (va_cpy (σ.1 25 i) (σ.1 25 j) 0 0 6)) := cp_eq rfl (by decide)
theorem cp26 {σ : ST} {i j : Nat} : cpI σ 26 i (nI 0) 26 j (nI 0) (nI 16) = some (setR σ 26 j (va_cpy (σ.1 26 i) (σ.1 26 j) 0 0 16)) := cp_eq rfl (by decide)
theorem cp27 {σ : ST} {i j : Nat} : cpI σ 27 i (nI 0) 27 j (nI 0) (nI 40) = some (setR σ 27 j (va_cpy (σ.1 27 i) (σ.1 27 j) 0 0 40)) := cp_eq rfl (by decide)
theorem cpy_in {f g : Nat → Int32} {n j : Nat} (h : j < n) : va_cpy f g 0 0 n j = f j := by
  unfold va_cpy
  rw [if_pos (by omega), Nat.zero_add, Nat.sub_zero]
def wok (a k i : Nat) : Bool := decide (24 ≤ k) && (decide (k ≤ 27) && decide (i = a))
section Wor
variable {σ τ : ST} {R : RT} {ν : NU} {r i o : Nat}
theorem Wo_copyFrom_eq {a b : Nat} (hab : b ≠ a) : ∃ τ, Wo_copyFrom σ a b = some τ ∧ FrK (wok a) σ τ ∧ (∀ j, j < 6 → τ.1 24 a j = σ.1 24 b j) ∧ (∀ j, j < 6 → τ.1 25 a j = σ.1 25 b j) ∧ (∀ j, j < 16 → τ.1 26 a j = σ.1 26 b j) ∧ (∀ j, j < 40 → τ.1 27 a j = σ.1 27 b j) := by
  unfold Wo_copyFrom
  simp only [fa_lit, cp24, cp25, cp26, cp27, bd_some]
  have w : ∀ k, 24 ≤ k → k ≤ 27 → wok a k a = true := fun k h1 h2 => by unfold wok; simp [h1, h2]
  refine ⟨_, rfl, (((FrK.setR σ _ (w 24 (by decide) (by decide))).tr (FrK.setR _ _ (w 25 (by decide) (by decide)))).tr (FrK.setR _ _ (w 26 (by decide) (by decide)))).tr (FrK.setR _ _ (w 27 (by decide) (by decide))), ?_, ?_, ?_, ?_⟩
  · intro j hj
    simp (disch := omega) only [rd_ne, rd_eq, cpy_in]
  · intro j hj
    simp (disch := omega) only [rd_ne, rd_eq, cpy_in]
  · intro j hj
    simp (disch := omega) only [rd_ne, rd_eq, cpy_in]
  · intro j hj
    simp (disch := omega) only [rd_ne, rd_eq, cpy_in]
theorem WR.cp {a b : Nat} (w : WR σ b R ν) (ho : RO R) (h1 : ∀ j, j < 6 → τ.1 24 a j = σ.1 24 b j) (h2 : ∀ j, j < 6 → τ.1 25 a j = σ.1 25 b j) (h3 : ∀ j, j < 16 → τ.1 26 a j = σ.1 26 b j) (h4 : ∀ j, j < 40 → τ.1 27 a j = σ.1 27 b j) : WR τ a R ν := by
  have o1 := ho.L
  have o2 := ho.P
  have o3 := ho.S
  exact ⟨fun l hl => (h1 l (by omega)).trans (w.1 l hl), fun l hl => (h2 l (by omega)).trans (w.2.1 l hl), fun p hp => (h3 p (by omega)).trans (w.2.2.1 p hp), fun j hj => (h4 j (by omega)).trans (w.2.2.2 j hj)⟩
theorem WR.terms {l : Nat} {x y : Int32} (w : WR σ i R ν) (ho : RO R) (hl : l < 6) : WR (setR (setR σ 24 i (upd (σ.1 24 i) l x)) 25 i (upd (σ.1 25 i) l y)) i R (upd (upd ν (2660 + l) x) (2666 + l) y) := by
  have o1 := ho.L
  have o2 := ho.P
  have o3 := ho.S
  refine ⟨fun k hk => ?_, fun k hk => ?_, fun p hp => ?_, fun j hj => ?_⟩
  · simp (disch := omega) only [rd_ne, rd_eq]
    rw [upd_at, upd_ne (by omega), upd_at, w.1 k hk]
    by_cases e : k = l
    · rw [if_pos e, if_pos (by omega)]
    · rw [if_neg e, if_neg (by omega)]
  · simp only [rd_eq]
    rw [upd_at, upd_at, upd_ne (by omega), w.2.1 k hk]
    by_cases e : k = l
    · rw [if_pos e, if_pos (by omega)]
    · rw [if_neg e, if_neg (by omega)]
  · simp (disch := omega) only [rd_ne]
    rw [upd_ne (by omega), upd_ne (by omega), w.2.2.1 p hp]
  · simp (disch := omega) only [rd_ne]
    rw [upd_ne (by omega), upd_ne (by omega), w.2.2.2 j hj]
theorem WR.home {p : Nat} {x : Int32} (w : WR σ i R ν) (ho : RO R) : WR (setR σ 26 i (upd (σ.1 26 i) p x)) i R (upd ν (2672 + p) x) := by
  have o1 := ho.L
  have o2 := ho.P
  have o3 := ho.S
  refine ⟨fun k hk => ?_, fun k hk => ?_, fun q hq => ?_, fun j hj => ?_⟩
  · simp (disch := omega) only [rd_ne]
    rw [upd_ne (by omega), w.1 k hk]
  · simp (disch := omega) only [rd_ne]
    rw [upd_ne (by omega), w.2.1 k hk]
  · simp only [rd_eq]
    rw [upd_at, upd_at, w.2.2.1 q hq]
    by_cases e : q = p
    · rw [if_pos e, if_pos (by omega)]
    · rw [if_neg e, if_neg (by omega)]
  · simp (disch := omega) only [rd_ne]
    rw [upd_ne (by omega), w.2.2.2 j hj]
theorem HO.home (hv : HO R ν) (ho : RO R) {p d : Nat} (hd : d < R 0 0) : HO R (upd ν (2672 + p) (nI d)) := by
  have o3 := ho.S
  refine ⟨fun q hq => ?_, fun s t hs ht => ?_⟩
  · rw [upd_at]
    split
    · exact ⟨d, hd, rfl⟩
    · exact hv.1 q hq
  · have o8 := ho.s hs
    rw [upd_ne (by omega)]
    exact hv.2 s t hs ht
theorem HO.terms (hv : HO R ν) (ho : RO R) {l : Nat} (hl : l < 6) (x y : Int32) : HO R (upd (upd ν (2660 + l) x) (2666 + l) y) := by
  have o2 := ho.P
  have o3 := ho.S
  refine ⟨fun q hq => ?_, fun s t hs ht => ?_⟩
  · rw [upd_ne (by omega), upd_ne (by omega)]
    exact hv.1 q hq
  · have o8 := ho.s hs
    rw [upd_ne (by omega), upd_ne (by omega)]
    exact hv.2 s t hs ht
def s13 (k i : Nat) : Bool := scr k i || wok 13 k i
theorem s13_cor : ∀ k i, cor k i = true → s13 k i = false := by
  intro k i c
  cases e : s13 k i
  · rfl
  · unfold s13 at e
    rw [scr_cor k i c, Bool.false_or] at e
    simp only [wok, Bool.and_eq_true, decide_eq_true_eq] at e
    obtain ⟨e1, e2, rfl⟩ := e
    have h : k = 24 ∨ k = 25 ∨ k = 26 ∨ k = 27 := by omega
    rcases h with rfl | rfl | rfl | rfl <;> exact absurd c (by decide)
theorem FrK.a13 (f : FrK scr σ τ) : FrK s13 σ τ := f.mono (fun k i h => by
  unfold s13 at h
  exact (Bool.or_eq_false_iff.mp h).1)
theorem FrK.b13 (f : FrK (wok 13) σ τ) : FrK s13 σ τ := f.mono (fun k i h => by
  unfold s13 at h
  exact (Bool.or_eq_false_iff.mp h).2)
theorem FrK.c13 (f : FrK s13 σ τ) : Core σ τ := f.core s13_cor
theorem were_terms {l : Nat} (h : IV σ R) (hl : l < 6) : ∃ τ, Wo_copyFrom σ 13 0 = some τ ∧ Core σ τ ∧ WR τ 13 R (σ.1 34 0) ∧ FrK (wok 13) σ τ := by
  obtain ⟨τ, e, f, h1, h2, h3, h4⟩ := Wo_copyFrom_eq (σ := σ) (a := 13) (b := 0) (by decide)
  exact ⟨τ, e, f.b13.c13, h.br.W.cp h.ro h1 h2 h3 h4, f⟩
theorem Wo_setTerms_eq {l : Nat} {x y : Int32} (hl : l < 6) : Wo_setTerms σ i (nI l) x y = some (setR (setR σ 24 i (upd (σ.1 24 i) l x)) 25 i (upd (σ.1 25 i) l y)) := by
  unfold Wo_setTerms
  simp (disch := omega) only [bd_some, bd_none, lt_eq, lk_eq, fa_lit, nI_add, nI_mul, nI_sub, nle_t, nle_f, nlt_t, nlt_f, neq_t, neq_f, neg_ne, neg_ne', if_true, if_false, ite_true, ite_false, Nat.zero_add, Nat.add_zero, ld0, ld1, ld2, ld3, ld4, ld5, ld6, ld7, ld8, ld9, ld10, ld11, ld12, ld13, ld14, ld15, ld16, ld17, ld18, ld19, ld20, ld21, ld22, ld23, ld24, ld25, ld26, ld27, ld28, ld29, ld30, ld31, ld32, ld33, ld34, ld35, ld36, ld37, ld38, ld39, ld40, ld41, ld42, ld43, ld44, ld45, ld46, ld47, ld48, ld100, ld101, ld102, ld103, ld104, ld105, gF, st24, st25, rd_ne]
theorem terms13 {l : Nat} (x y : Int32) : FrK (wok 13) σ (setR (setR σ 24 13 (upd (σ.1 24 13) l x)) 25 13 (upd (σ.1 25 13) l y)) := (FrK.setR σ _ rfl).tr (FrK.setR _ _ rfl)
/-! the reference lends other terms -/
def rlb (k _i : Nat) : Bool := decide (k = 47) || (decide (k = 888) || decide (k = 889))
theorem rlb_cor : ∀ k i, cor k i = true → rlb k i = false := by
  intro k i c
  cases e : rlb k i
  · rfl
  · simp only [rlb, Bool.or_eq_true, decide_eq_true_eq] at e
    rcases e with rfl | rfl | rfl
    · rw [show cor 47 i = false from rfl] at c; cases c
    · rw [show cor 888 i = false from rfl] at c; cases c
    · rw [show cor 889 i = false from rfl] at c; cases c
theorem r47_rlb (f : FrK r47 σ τ) : FrK rlb σ τ := f.mono (fun k i h => by
  unfold rlb at h
  exact (Bool.or_eq_false_iff.mp h).1)
theorem MR.fb (h : MR σ R) (f : FrK rlb σ τ) : MR τ R := h.core (f.core rlb_cor)
theorem MR.s34 (h : MR σ R) (g : Nat → Int32) : MR (setR σ 34 0 g) R := by
  unfold MR at *
  simp (disch := omega) only [rd_ne]
  exact h
theorem lend_eq {l : Nat} {x y : Int32} (hl : l < 6) : ∃ τ, Mo_lends σ (nI l) x y = some τ ∧ τ.1 34 0 = upd (upd (σ.1 34 0) (2660 + l) x) (2666 + l) y ∧ (∀ R, MR σ R → MR τ R) ∧ ∀ υ, FrK r47 τ υ → ∃ ω, Mo_back υ (nI l) = some ω ∧ FrK rlb σ ω := by
  unfold Mo_lends
  simp (disch := omega) only [bd_some, bd_none, lt_eq, lk_eq, fa_lit, nI_add, nI_mul, nI_sub, nle_t, nle_f, nlt_t, nlt_f, neq_t, neq_f, neg_ne, neg_ne', if_true, if_false, ite_true, ite_false, Nat.zero_add, Nat.add_zero, ld0, ld1, ld2, ld3, ld4, ld5, ld6, ld7, ld8, ld9, ld10, ld11, ld12, ld13, ld14, ld15, ld16, ld17, ld18, ld19, ld20, ld21, ld22, ld23, ld24, ld25, ld26, ld27, ld28, ld29, ld30, ld31, ld32, ld33, ld34, ld35, ld36, ld37, ld38, ld39, ld40, ld41, ld42, ld43, ld44, ld45, ld46, ld47, ld48, ld100, ld101, ld102, ld103, ld104, ld105, st0, st1, st2, st3, st4, st5, st6, st7, st8, st9, st10, st11, st12, st13, st14, st15, st16, st17, st18, st19, st20, st21, st22, st23, st24, st25, st26, st27, st28, st29, st30, st31, st32, st33, st34, st35, st36, st37, st38, st39, st40, st41, st42, st43, st44, st45, st46, st47, st48, st100, st101, st102, st103, st104, st105, gF, rf_ne, rd_eq, setR_setR]
  refine ⟨_, rfl, rd_eq, fun R h => ?_, fun υ f => ?_⟩
  · exact (h.fb ((FrK.setF σ _ rfl).tr (FrK.setF _ _ rfl))).s34 _
  · unfold Mo_back
    simp (disch := omega) only [bd_some, bd_none, lt_eq, lk_eq, fa_lit, nI_add, nI_mul, nI_sub, nle_t, nle_f, nlt_t, nlt_f, neq_t, neq_f, neg_ne, neg_ne', if_true, if_false, ite_true, ite_false, Nat.zero_add, Nat.add_zero, ld0, ld1, ld2, ld3, ld4, ld5, ld6, ld7, ld8, ld9, ld10, ld11, ld12, ld13, ld14, ld15, ld16, ld17, ld18, ld19, ld20, ld21, ld22, ld23, ld24, ld25, ld26, ld27, ld28, ld29, ld30, ld31, ld32, ld33, ld34, ld35, ld36, ld37, ld38, ld39, ld40, ld41, ld42, ld43, ld44, ld45, ld46, ld47, ld48, ld100, ld101, ld102, ld103, ld104, ld105, st0, st1, st2, st3, st4, st5, st6, st7, st8, st9, st10, st11, st12, st13, st14, st15, st16, st17, st18, st19, st20, st21, st22, st23, st24, st25, st26, st27, st28, st29, st30, st31, st32, st33, st34, st35, st36, st37, st38, st39, st40, st41, st42, st43, st44, st45, st46, st47, st48, st100, st101, st102, st103, st104, st105, gF, rd_ne, rd_eq, setR_setR]
    refine ⟨_, rfl, ?_⟩
    have e34 : υ.1 34 0 = upd (upd (σ.1 34 0) (2660 + l) x) (2666 + l) y := (f.2 34 0 rfl).trans rd_eq
    have e8 : υ.1 888 0 0 = σ.1 34 0 (2660 + l) := by
      rw [f.2 888 0 rfl, rd_ne (by decide), rf_ne (by decide), rf_eq]
    have e9 : υ.1 889 0 0 = σ.1 34 0 (2666 + l) := by
      rw [f.2 889 0 rfl, rd_ne (by decide), rf_eq]
    have ev : upd (upd (υ.1 34 0) (2660 + l) (υ.1 888 0 0)) (2666 + l) (υ.1 889 0 0) = σ.1 34 0 := by
      rw [e34, e8, e9]
      funext j
      simp only [upd_at]
      by_cases c1 : j = 2666 + l
      · rw [if_pos c1, c1]
      · rw [if_neg c1, if_neg c1]
        by_cases c2 : j = 2660 + l
        · rw [if_pos c2, c2]
        · rw [if_neg c2, if_neg c2]
    rw [ev]
    refine ⟨f.1, fun k i hk => ?_⟩
    by_cases c : k = 34 ∧ i = 0
    · obtain ⟨rfl, rfl⟩ := c
      exact rd_eq
    · have n1 : (setR υ 34 0 (σ.1 34 0)).1 k i = υ.1 k i := by
        show up3 υ.1 34 0 _ k i = _
        unfold up3
        rw [if_neg c]
      have hk2 := Bool.or_eq_false_iff.mp hk
      have hk3 := Bool.or_eq_false_iff.mp hk2.2
      rw [n1, f.2 k i hk2.1]
      show up3 _ 34 0 _ k i = _
      unfold up3
      rw [if_neg c, rf_ne (by simpa using hk3.2), rf_ne (by simpa using hk3.1)]
/-- a row that is set back -/
theorem fr_back {g f : Nat → Int32} (h : FrK r47 (setR σ 34 0 g) τ) (e : f = σ.1 34 0) : FrK r47 σ (setR τ 34 0 f) := by
  subst e
  refine ⟨h.1, fun k i hk => ?_⟩
  by_cases c : k = 34 ∧ i = 0
  · obtain ⟨rfl, rfl⟩ := c
    exact rd_eq
  · have n1 : (setR τ 34 0 (σ.1 34 0)).1 k i = τ.1 k i := by
      show up3 τ.1 34 0 _ k i = _
      unfold up3
      rw [if_neg c]
    rw [n1, h.2 k i hk]
    show up3 _ 34 0 _ k i = _
    unfold up3
    rw [if_neg c]
theorem Mo_roundOf_eq {p d : Nat} (h : MR σ R) (ho : RO R) (hv : HO R (σ.1 34 0)) (hp : p < R 0 1) (hd : d < R 0 0) : ∃ τ, FrK r47 σ τ ∧ Mo_roundOf σ (nI p) (nI d) = some (rndP R (upd (σ.1 34 0) (2672 + p) (nI d)) p, τ) := by
  have o2 := ho.P
  unfold Mo_roundOf
  have e1 : ldI σ 34 0 (nI (2672 + p)) = some (σ.1 34 0 (2672 + p)) := ld34 (by omega)
  have e2 : stI σ 34 0 (nI (2672 + p)) (nI d) = some (setR σ 34 0 (upd (σ.1 34 0) (2672 + p) (nI d))) := st34 (by omega)
  have hv2 : HO R ((setR σ 34 0 (upd (σ.1 34 0) (2672 + p) (nI d))).1 34 0) := by rw [rd_eq]; exact hv.home ho hd
  have h2 := h.s34 (upd (σ.1 34 0) (2672 + p) (nI d))
  obtain ⟨t, ft, et⟩ := Mo_two (g := fun l s => oneP R (upd (σ.1 34 0) (2672 + p) (nI d)) l s (1000 * R 1 l) p) (G := fun rec8 l z7 => bd_ (ldI z7.1 29 0 l) (fun v10 => bd_ (Mo_paidTo z7.1 (nI p) l z7.2.2 (1000 * v10)) (fun q11 => lt_ ((z7.2.1 + q11.1)) (fun x12 => rec8 (q11.2, x12, (z7.2.2 + 1)))))) h2 ho (fun rec t l s a ft hl hs => ⟨shS t R s (1000 * R 1 l), ft.tr (shS_fr _ _), by
    have ht := h2.f47 ft
    have o1 := ho.L
    have e34 : t.1 34 0 = upd (σ.1 34 0) (2672 + p) (nI d) := (ft.2 34 0 rfl).trans rd_eq
    simp (disch := omega) only [bd_some, bd_none, lt_eq, lk_eq, fa_lit, nI_add, nI_mul, nI_sub, nle_t, nle_f, nlt_t, nlt_f, neq_t, neq_f, neg_ne, neg_ne', if_true, if_false, ite_true, ite_false, Nat.zero_add, Nat.add_zero, ld0, ld1, ld2, ld3, ld4, ld5, ld6, ld7, ld8, ld9, ld10, ld11, ld12, ld13, ld14, ld15, ld16, ld17, ld18, ld19, ld20, ld21, ld22, ld23, ld24, ld25, ld26, ld27, ld28, ld29, ld30, ld31, ld32, ld33, ld34, ld35, ld36, ld37, ld38, ld39, ld40, ld41, ld42, ld43, ld44, ld45, ld46, ld47, ld48, ld100, ld101, ld102, ld103, ld104, ld105, gF, ht.rt hl, Mo_paidTo_eq ht ho (by rw [e34]; exact hv.home ho hd) hl hs (rt1000 ho hl), e34]⟩) (fun t a => bd_ (stI t 34 0 (2672 + nI p) (σ.1 34 0 (2672 + p))) (fun s6 => some (a, s6)))
  refine ⟨setR t 34 0 (upd (t.1 34 0) (2672 + p) (σ.1 34 0 (2672 + p))), fr_back ft ?_, ?_⟩
  · rw [ft.2 34 0 rfl, rd_eq, fa_upd_twice, fa_upd_same rfl]
  · have e3 : stI t 34 0 (nI (2672 + p)) (σ.1 34 0 (2672 + p)) = some (setR t 34 0 (upd (t.1 34 0) (2672 + p) (σ.1 34 0 (2672 + p)))) := st34 (by omega)
    simp only [fa_lit, nI_add] at et ⊢
    rw [e1, bd_some, e2, bd_some, et, e3, bd_some]
    rfl
end Wor

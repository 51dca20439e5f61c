/-! ===== the law's other cases ===== -/
section Law2
variable {σ : ST} {R : RT} {xs : Nat → Int32} {L : Nat} {rec : ST × Int32 → Option Int32} {i x1 x2 x3 x4 x5 x6 : Int32}
theorem lc3 (h : IV σ R) (X1 : ldX xs L (i + 1) = some x1) (X2 : ldX xs L (i + 2) = some x2) (X3 : ldX xs L (i + 3) = some x3) (X4 : ldX xs L (i + 4) = some x4) (X5 : ldX xs L (i + 5) = some x5) (X6 : ldX xs L (i + 6) = some x6) : ∃ σ' R', IV σ' R' ∧ lawC3 xs L rec σ i = rec (σ', i + 7) := by
  obtain ⟨e, v, w, υ, e1, e2, c, l, t, d⟩ := q_land h (Core.rf σ) x1 x2
  have hth : ∀ s : ST, Mo_thrown s = some (s.1 840 0 0) := fun s => rfl
  rcases d with ⟨d1, d2⟩ | d | d
  · subst d1
    have hs : stL σ 105 0 0 v.toInt64 = some (setL σ 105 0 (vp_updL (σ.2.1 105 0) 0 v.toInt64)) := st105 (j := 0) (by decide)
    have hc : Core σ (setL σ 105 0 (vp_updL (σ.2.1 105 0) 0 v.toInt64)) := Core.setL σ _ _ _
    obtain ⟨e', v', w', υ', e1', e2', c', l', t', d'⟩ := q_land h hc x1 x2
    rw [e1] at e1'
    obtain ⟨q1, q2⟩ := Prod.mk.inj (Option.some.inj e1')
    subst q1 q2
    have hl : ldL υ' 105 0 0 = some v.toInt64 := by
      have : ldL υ' 105 0 0 = some (υ'.2.1 105 0 0) := ld105 (j := 0) (by decide)
      rw [this, l', rL_eq, rl_at, if_pos rfl]
    have hw : w' = v := by
      rcases d' with d' | d' | d'
      · exact d'.2
      · exact absurd d' (by decide)
      · exact absurd d' (by decide)
    subst hw
    refine ⟨υ', R, (h.core hc).core c', ?_⟩
    have cmp : (lg_cmp w'.toInt64 w'.toInt64 = 0) = True := eq_true ((lg_cmp_eq _ _).mpr rfl)
    unfold lawC3 Lw_land
    simp only [X1, X2, bd_some, e1, i00, l00, if_true, hs, e2', hth, t', hl, cmp]
  · subst d
    refine ⟨υ, R, h.core c, ?_⟩
    have q1 : (nI 1 = (1 : Int32)) = True := eq_true rfl
    unfold lawC3 Lw_land
    simp only [X1, X2, bd_some, e1, i10, q1, if_true, if_false, e2, hth, t, l10]
  · subst d
    refine ⟨υ, R, h.core c, ?_⟩
    have q0 : (nI 2 = (0 : Int32)) = False := eq_false (by decide)
    have q1 : (nI 2 = (1 : Int32)) = False := eq_false (by decide)
    have q2 : (nI 2 = (2 : Int32)) = True := eq_true rfl
    have q3 : ((2 : Int32) = 0) = False := eq_false (by decide)
    unfold lawC3 Lw_land
    simp only [X1, X2, bd_some, e1, q0, q1, q2, q3, if_true, if_false, e2, hth, t]
theorem lc4 (h : IV σ R) (X1 : ldX xs L (i + 1) = some x1) (X2 : ldX xs L (i + 2) = some x2) (X3 : ldX xs L (i + 3) = some x3) (X4 : ldX xs L (i + 4) = some x4) (X5 : ldX xs L (i + 5) = some x5) (X6 : ldX xs L (i + 6) = some x6) : ∃ σ' R', IV σ' R' ∧ lawC4 xs L rec σ i = rec (σ', i + 7) := by
  obtain ⟨e, v, w, υ, e1, e2, c, l, t, d⟩ := q_player h (Core.rf σ) x1 x2
  have hth : ∀ s : ST, Mo_thrown s = some (s.1 840 0 0) := fun s => rfl
  rcases d with ⟨d1, d2⟩ | d | d
  · subst d1
    have hs : stL σ 105 0 0 v.toInt64 = some (setL σ 105 0 (vp_updL (σ.2.1 105 0) 0 v.toInt64)) := st105 (j := 0) (by decide)
    have hc : Core σ (setL σ 105 0 (vp_updL (σ.2.1 105 0) 0 v.toInt64)) := Core.setL σ _ _ _
    obtain ⟨e', v', w', υ', e1', e2', c', l', t', d'⟩ := q_player h hc x1 x2
    rw [e1] at e1'
    obtain ⟨q1, q2⟩ := Prod.mk.inj (Option.some.inj e1')
    subst q1 q2
    have hl : ldL υ' 105 0 0 = some v.toInt64 := by
      have : ldL υ' 105 0 0 = some (υ'.2.1 105 0 0) := ld105 (j := 0) (by decide)
      rw [this, l', rL_eq, rl_at, if_pos rfl]
    have hw : w' = v := by
      rcases d' with d' | d' | d'
      · exact d'.2
      · exact absurd d' (by decide)
      · exact absurd d' (by decide)
    subst hw
    refine ⟨υ', R, (h.core hc).core c', ?_⟩
    have cmp : (lg_cmp w'.toInt64 w'.toInt64 = 0) = True := eq_true ((lg_cmp_eq _ _).mpr rfl)
    unfold lawC4 Lw_player
    simp only [X1, X2, bd_some, e1, i00, l00, if_true, hs, e2', hth, t', hl, cmp]
  · subst d
    refine ⟨υ, R, h.core c, ?_⟩
    have q1 : (nI 1 = (1 : Int32)) = True := eq_true rfl
    unfold lawC4 Lw_player
    simp only [X1, X2, bd_some, e1, i10, q1, if_true, if_false, e2, hth, t, l10]
  · subst d
    refine ⟨υ, R, h.core c, ?_⟩
    have q0 : (nI 2 = (0 : Int32)) = False := eq_false (by decide)
    have q1 : (nI 2 = (1 : Int32)) = False := eq_false (by decide)
    have q2 : (nI 2 = (2 : Int32)) = True := eq_true rfl
    have q3 : ((2 : Int32) = 0) = False := eq_false (by decide)
    unfold lawC4 Lw_player
    simp only [X1, X2, bd_some, e1, q0, q1, q2, q3, if_true, if_false, e2, hth, t]
theorem lc5 (h : IV σ R) (X1 : ldX xs L (i + 1) = some x1) (X2 : ldX xs L (i + 2) = some x2) (X3 : ldX xs L (i + 3) = some x3) (X4 : ldX xs L (i + 4) = some x4) (X5 : ldX xs L (i + 5) = some x5) (X6 : ldX xs L (i + 6) = some x6) : ∃ σ' R', IV σ' R' ∧ lawC5 xs L rec σ i = rec (σ', i + 7) := by
  obtain ⟨e, v, w, υ, e1, e2, c, l, t, d⟩ := q_session h (Core.rf σ) x1 x2
  have hth : ∀ s : ST, Mo_thrown s = some (s.1 840 0 0) := fun s => rfl
  rcases d with ⟨d1, d2⟩ | d | d
  · subst d1
    have hs : stL σ 105 0 0 v.toInt64 = some (setL σ 105 0 (vp_updL (σ.2.1 105 0) 0 v.toInt64)) := st105 (j := 0) (by decide)
    have hc : Core σ (setL σ 105 0 (vp_updL (σ.2.1 105 0) 0 v.toInt64)) := Core.setL σ _ _ _
    obtain ⟨e', v', w', υ', e1', e2', c', l', t', d'⟩ := q_session h hc x1 x2
    rw [e1] at e1'
    obtain ⟨q1, q2⟩ := Prod.mk.inj (Option.some.inj e1')
    subst q1 q2
    have hl : ldL υ' 105 0 0 = some v.toInt64 := by
      have : ldL υ' 105 0 0 = some (υ'.2.1 105 0 0) := ld105 (j := 0) (by decide)
      rw [this, l', rL_eq, rl_at, if_pos rfl]
    have hw : w' = v := by
      rcases d' with d' | d' | d'
      · exact d'.2
      · exact absurd d' (by decide)
      · exact absurd d' (by decide)
    subst hw
    refine ⟨υ', R, (h.core hc).core c', ?_⟩
    have cmp : (lg_cmp w'.toInt64 w'.toInt64 = 0) = True := eq_true ((lg_cmp_eq _ _).mpr rfl)
    unfold lawC5 Lw_session
    simp only [X1, X2, bd_some, e1, i00, l00, if_true, hs, e2', hth, t', hl, cmp]
  · subst d
    refine ⟨υ, R, h.core c, ?_⟩
    have q1 : (nI 1 = (1 : Int32)) = True := eq_true rfl
    unfold lawC5 Lw_session
    simp only [X1, X2, bd_some, e1, i10, q1, if_true, if_false, e2, hth, t, l10]
  · subst d
    refine ⟨υ, R, h.core c, ?_⟩
    have q0 : (nI 2 = (0 : Int32)) = False := eq_false (by decide)
    have q1 : (nI 2 = (1 : Int32)) = False := eq_false (by decide)
    have q2 : (nI 2 = (2 : Int32)) = True := eq_true rfl
    have q3 : ((2 : Int32) = 0) = False := eq_false (by decide)
    unfold lawC5 Lw_session
    simp only [X1, X2, bd_some, e1, q0, q1, q2, q3, if_true, if_false, e2, hth, t]
theorem lc37 (h : IV σ R) (X1 : ldX xs L (i + 1) = some x1) (X2 : ldX xs L (i + 2) = some x2) (X3 : ldX xs L (i + 3) = some x3) (X4 : ldX xs L (i + 4) = some x4) (X5 : ldX xs L (i + 5) = some x5) (X6 : ldX xs L (i + 6) = some x6) : ∃ σ' R', IV σ' R' ∧ lawC37 xs L rec σ i = rec (σ', i + 7) := by
  by_cases c3 : x3 = 0
  · obtain ⟨v, τ, e1, e2, c⟩ := q_across h x1 x2 0
    refine ⟨τ, R, h.core c, ?_⟩
    unfold lawC37
    simp only [X1, X2, X3, bd_some, e1, e2, c3, if_true]
  · obtain ⟨v, τ, e1, e2, c⟩ := q_across h x1 x2 1
    refine ⟨τ, R, h.core c, ?_⟩
    unfold lawC37
    simp only [X1, X2, X3, bd_some, e1, e2, c3, if_true, if_false]
theorem ldX_in {j : Nat} (hL : L < 2147483648) (h : j < L) : ldX xs L (nI j) = some (xs j) := by
  unfold ldX
  have h1 : inB (nI j) L = true := by
    unfold inB
    simp only [Bool.and_eq_true, decide_eq_true_eq]
    exact ⟨of_eq_true (nle_t (a := 0) (Nat.zero_le j) (by omega)), by rw [nI_clamp (by omega)]; exact h⟩
  rw [if_pos h1, nI_clamp (by omega)]
theorem lawStep (h : IV σ R) {j : Nat} (hL : L ≤ 3584) (hj : j + 7 ≤ L) : ∃ σ' R', IV σ' R' ∧ lawS xs L rec (σ, nI j) = rec (σ', nI (j + 7)) := by
  have X0 : ldX xs L (nI j) = some (xs j) := ldX_in (by omega) (by omega)
  have X1 : ldX xs L (nI j + 1) = some (xs (j + 1)) := by rw [show nI j + 1 = nI (j + 1) from nI_add j 1]; exact ldX_in (by omega) (by omega)
  have X2 : ldX xs L (nI j + 2) = some (xs (j + 2)) := by rw [show nI j + 2 = nI (j + 2) from nI_add j 2]; exact ldX_in (by omega) (by omega)
  have X3 : ldX xs L (nI j + 3) = some (xs (j + 3)) := by rw [show nI j + 3 = nI (j + 3) from nI_add j 3]; exact ldX_in (by omega) (by omega)
  have X4 : ldX xs L (nI j + 4) = some (xs (j + 4)) := by rw [show nI j + 4 = nI (j + 4) from nI_add j 4]; exact ldX_in (by omega) (by omega)
  have X5 : ldX xs L (nI j + 5) = some (xs (j + 5)) := by rw [show nI j + 5 = nI (j + 5) from nI_add j 5]; exact ldX_in (by omega) (by omega)
  have X6 : ldX xs L (nI j + 6) = some (xs (j + 6)) := by rw [show nI j + 6 = nI (j + 6) from nI_add j 6]; exact ldX_in (by omega) (by omega)
  have e7 : nI j + 7 = nI (j + 7) := nI_add j 7
  have e0 : ¬ nI L - 7 < nI j := by
    rw [show nI L - 7 = nI (L - 7) from nI_sub (b := 7) (by omega)]
    exact of_eq_false (nlt_f (by omega) (by omega))
  unfold lawS
  show ∃ σ' R', IV σ' R' ∧ (if nI L - 7 < nI j then some 1 else bd_ (ldX xs L (nI j)) _) = _
  rw [if_neg e0, X0, bd_some, lt_eq, lt_eq, ← e7]
  obtain ⟨m, hm, em⟩ := wb_of32 (xs j)
  have e63 : xs j &&& 63 = nI (m % 64) := by rw [em]; exact fa_mask m 6
  rw [e63]
  have hm64 : m % 64 < 64 := Nat.mod_lt _ (by decide)
  generalize m % 64 = q at *
  by_cases c0 : q = 0
  · subst c0
    obtain ⟨σ', R', h1, h2⟩ := lc0 (xs := xs) (L := L) (rec := rec) (i := nI j) h X1 X2 X3 X4 X5 X6
    exact ⟨σ', R', h1, (sw_get0 (by decide)).trans h2⟩
  by_cases c1 : q = 1
  · subst c1
    obtain ⟨σ', R', h1, h2⟩ := lc1 (xs := xs) (L := L) (rec := rec) (i := nI j) h X1 X2 X3 X4 X5 X6
    exact ⟨σ', R', h1, (sw_get0 (by decide)).trans h2⟩
  by_cases c2 : q = 2
  · subst c2
    obtain ⟨σ', R', h1, h2⟩ := lc2 (xs := xs) (L := L) (rec := rec) (i := nI j) h X1 X2 X3 X4 X5 X6
    exact ⟨σ', R', h1, (sw_get0 (by decide)).trans h2⟩
  by_cases c3 : q = 3
  · subst c3
    obtain ⟨σ', R', h1, h2⟩ := lc3 (xs := xs) (L := L) (rec := rec) (i := nI j) h X1 X2 X3 X4 X5 X6
    exact ⟨σ', R', h1, (sw_get0 (by decide)).trans h2⟩
  by_cases c4 : q = 4
  · subst c4
    obtain ⟨σ', R', h1, h2⟩ := lc4 (xs := xs) (L := L) (rec := rec) (i := nI j) h X1 X2 X3 X4 X5 X6
    exact ⟨σ', R', h1, (sw_get0 (by decide)).trans h2⟩
  by_cases c5 : q = 5
  · subst c5
    obtain ⟨σ', R', h1, h2⟩ := lc5 (xs := xs) (L := L) (rec := rec) (i := nI j) h X1 X2 X3 X4 X5 X6
    exact ⟨σ', R', h1, (sw_get0 (by decide)).trans h2⟩
  by_cases c6 : q = 6
  · subst c6
    obtain ⟨σ', R', h1, h2⟩ := lc6 (xs := xs) (L := L) (rec := rec) (i := nI j) h X1 X2 X3 X4 X5 X6
    exact ⟨σ', R', h1, (sw_get0 (by decide)).trans h2⟩
  by_cases c7 : q = 7
  · subst c7
    obtain ⟨σ', R', h1, h2⟩ := lc7 (xs := xs) (L := L) (rec := rec) (i := nI j) h X1 X2 X3 X4 X5 X6
    exact ⟨σ', R', h1, (sw_get0 (by decide)).trans h2⟩
  by_cases c8 : q = 8
  · subst c8
    obtain ⟨σ', R', h1, h2⟩ := lc8 (xs := xs) (L := L) (rec := rec) (i := nI j) h X1 X2 X3 X4 X5 X6
    exact ⟨σ', R', h1, (sw_get0 (by decide)).trans h2⟩
  by_cases c9 : q = 9
  · subst c9
    obtain ⟨σ', R', h1, h2⟩ := lc9 (xs := xs) (L := L) (rec := rec) (i := nI j) h X1 X2 X3 X4 X5 X6
    exact ⟨σ', R', h1, (sw_get0 (by decide)).trans h2⟩
  by_cases c10 : q = 10
  · subst c10
    obtain ⟨σ', R', h1, h2⟩ := lc10 (xs := xs) (L := L) (rec := rec) (i := nI j) h X1 X2 X3 X4 X5 X6
    exact ⟨σ', R', h1, (sw_get0 (by decide)).trans h2⟩
  by_cases c11 : q = 11
  · subst c11
    obtain ⟨σ', R', h1, h2⟩ := lc11 (xs := xs) (L := L) (rec := rec) (i := nI j) h X1 X2 X3 X4 X5 X6
    exact ⟨σ', R', h1, (sw_get0 (by decide)).trans h2⟩
  by_cases c12 : q = 12
  · subst c12
    obtain ⟨σ', R', h1, h2⟩ := lc12 (xs := xs) (L := L) (rec := rec) (i := nI j) h X1 X2 X3 X4 X5 X6
    exact ⟨σ', R', h1, (sw_get0 (by decide)).trans h2⟩
  by_cases c13 : q = 13
  · subst c13
    obtain ⟨σ', R', h1, h2⟩ := lc13 (xs := xs) (L := L) (rec := rec) (i := nI j) h X1 X2 X3 X4 X5 X6
    exact ⟨σ', R', h1, (sw_get0 (by decide)).trans h2⟩
  by_cases c14 : q = 14
  · subst c14
    obtain ⟨σ', R', h1, h2⟩ := lc14 (xs := xs) (L := L) (rec := rec) (i := nI j) h X1 X2 X3 X4 X5 X6
    exact ⟨σ', R', h1, (sw_get0 (by decide)).trans h2⟩
  by_cases c15 : q = 15
  · subst c15
    obtain ⟨σ', R', h1, h2⟩ := lc15 (xs := xs) (L := L) (rec := rec) (i := nI j) h X1 X2 X3 X4 X5 X6
    exact ⟨σ', R', h1, (sw_get0 (by decide)).trans h2⟩
  by_cases c16 : q = 16
  · subst c16
    obtain ⟨σ', R', h1, h2⟩ := lc16 (xs := xs) (L := L) (rec := rec) (i := nI j) h X1 X2 X3 X4 X5 X6
    exact ⟨σ', R', h1, (sw_get0 (by decide)).trans h2⟩
  by_cases c17 : q = 17
  · subst c17
    obtain ⟨σ', R', h1, h2⟩ := lc17 (xs := xs) (L := L) (rec := rec) (i := nI j) h X1 X2 X3 X4 X5 X6
    exact ⟨σ', R', h1, (sw_get0 (by decide)).trans h2⟩
  by_cases c18 : q = 18
  · subst c18
    obtain ⟨σ', R', h1, h2⟩ := lc18 (xs := xs) (L := L) (rec := rec) (i := nI j) h X1 X2 X3 X4 X5 X6
    exact ⟨σ', R', h1, (sw_get0 (by decide)).trans h2⟩
  by_cases c19 : q = 19
  · subst c19
    obtain ⟨σ', R', h1, h2⟩ := lc19 (xs := xs) (L := L) (rec := rec) (i := nI j) h X1 X2 X3 X4 X5 X6
    exact ⟨σ', R', h1, (sw_get0 (by decide)).trans h2⟩
  by_cases c20 : q = 20
  · subst c20
    obtain ⟨σ', R', h1, h2⟩ := lc20 (xs := xs) (L := L) (rec := rec) (i := nI j) h X1 X2 X3 X4 X5 X6
    exact ⟨σ', R', h1, (sw_get0 (by decide)).trans h2⟩
  by_cases c21 : q = 21
  · subst c21
    obtain ⟨σ', R', h1, h2⟩ := lc21 (xs := xs) (L := L) (rec := rec) (i := nI j) h X1 X2 X3 X4 X5 X6
    exact ⟨σ', R', h1, (sw_get0 (by decide)).trans h2⟩
  by_cases c22 : q = 22
  · subst c22
    obtain ⟨σ', R', h1, h2⟩ := lc22 (xs := xs) (L := L) (rec := rec) (i := nI j) h X1 X2 X3 X4 X5 X6
    exact ⟨σ', R', h1, (sw_get0 (by decide)).trans h2⟩
  by_cases c23 : q = 23
  · subst c23
    obtain ⟨σ', R', h1, h2⟩ := lc23 (xs := xs) (L := L) (rec := rec) (i := nI j) h X1 X2 X3 X4 X5 X6
    exact ⟨σ', R', h1, (sw_get0 (by decide)).trans h2⟩
  by_cases c24 : q = 24
  · subst c24
    obtain ⟨σ', R', h1, h2⟩ := lc24 (xs := xs) (L := L) (rec := rec) (i := nI j) h X1 X2 X3 X4 X5 X6
    exact ⟨σ', R', h1, (sw_get0 (by decide)).trans h2⟩
  by_cases c25 : q = 25
  · subst c25
    obtain ⟨σ', R', h1, h2⟩ := lc25 (xs := xs) (L := L) (rec := rec) (i := nI j) h X1 X2 X3 X4 X5 X6
    exact ⟨σ', R', h1, (sw_get0 (by decide)).trans h2⟩
  by_cases c26 : q = 26
  · subst c26
    obtain ⟨σ', R', h1, h2⟩ := lc26 (xs := xs) (L := L) (rec := rec) (i := nI j) h X1 X2 X3 X4 X5 X6
    exact ⟨σ', R', h1, (sw_get0 (by decide)).trans h2⟩
  by_cases c27 : q = 27
  · subst c27
    obtain ⟨σ', R', h1, h2⟩ := lc27 (xs := xs) (L := L) (rec := rec) (i := nI j) h X1 X2 X3 X4 X5 X6
    exact ⟨σ', R', h1, (sw_get0 (by decide)).trans h2⟩
  by_cases c28 : q = 28
  · subst c28
    obtain ⟨σ', R', h1, h2⟩ := lc28 (xs := xs) (L := L) (rec := rec) (i := nI j) h X1 X2 X3 X4 X5 X6
    exact ⟨σ', R', h1, (sw_get0 (by decide)).trans h2⟩
  by_cases c29 : q = 29
  · subst c29
    obtain ⟨σ', R', h1, h2⟩ := lc29 (xs := xs) (L := L) (rec := rec) (i := nI j) h X1 X2 X3 X4 X5 X6
    exact ⟨σ', R', h1, (sw_get0 (by decide)).trans h2⟩
  by_cases c30 : q = 30
  · subst c30
    obtain ⟨σ', R', h1, h2⟩ := lc30 (xs := xs) (L := L) (rec := rec) (i := nI j) h X1 X2 X3 X4 X5 X6
    exact ⟨σ', R', h1, (sw_get0 (by decide)).trans h2⟩
  by_cases c31 : q = 31
  · subst c31
    obtain ⟨σ', R', h1, h2⟩ := lc31 (xs := xs) (L := L) (rec := rec) (i := nI j) h X1 X2 X3 X4 X5 X6
    exact ⟨σ', R', h1, (sw_get0 (by decide)).trans h2⟩
  by_cases c32 : q = 32
  · subst c32
    obtain ⟨σ', R', h1, h2⟩ := lc32 (xs := xs) (L := L) (rec := rec) (i := nI j) h X1 X2 X3 X4 X5 X6
    exact ⟨σ', R', h1, (sw_get0 (by decide)).trans h2⟩
  by_cases c33 : q = 33
  · subst c33
    obtain ⟨σ', R', h1, h2⟩ := lc33 (xs := xs) (L := L) (rec := rec) (i := nI j) h X1 X2 X3 X4 X5 X6
    exact ⟨σ', R', h1, (sw_get0 (by decide)).trans h2⟩
  by_cases c34 : q = 34
  · subst c34
    obtain ⟨σ', R', h1, h2⟩ := lc34 (xs := xs) (L := L) (rec := rec) (i := nI j) h X1 X2 X3 X4 X5 X6
    exact ⟨σ', R', h1, (sw_get0 (by decide)).trans h2⟩
  by_cases c35 : q = 35
  · subst c35
    obtain ⟨σ', R', h1, h2⟩ := lc35 (xs := xs) (L := L) (rec := rec) (i := nI j) h X1 X2 X3 X4 X5 X6
    exact ⟨σ', R', h1, (sw_get0 (by decide)).trans h2⟩
  by_cases c36 : q = 36
  · subst c36
    obtain ⟨σ', R', h1, h2⟩ := lc36 (xs := xs) (L := L) (rec := rec) (i := nI j) h X1 X2 X3 X4 X5 X6
    exact ⟨σ', R', h1, (sw_get0 (by decide)).trans h2⟩
  by_cases c37 : q = 37
  · subst c37
    obtain ⟨σ', R', h1, h2⟩ := lc37 (xs := xs) (L := L) (rec := rec) (i := nI j) h X1 X2 X3 X4 X5 X6
    exact ⟨σ', R', h1, (sw_get0 (by decide)).trans h2⟩
  by_cases c38 : q = 38
  · subst c38
    obtain ⟨σ', R', h1, h2⟩ := lc38 (xs := xs) (L := L) (rec := rec) (i := nI j) h X1 X2 X3 X4 X5 X6
    exact ⟨σ', R', h1, (sw_get0 (by decide)).trans h2⟩
  by_cases c39 : q = 39
  · subst c39
    obtain ⟨σ', R', h1, h2⟩ := lc39 (xs := xs) (L := L) (rec := rec) (i := nI j) h X1 X2 X3 X4 X5 X6
    exact ⟨σ', R', h1, (sw_get0 (by decide)).trans h2⟩
  by_cases c40 : q = 40
  · subst c40
    obtain ⟨σ', R', h1, h2⟩ := lc40 (xs := xs) (L := L) (rec := rec) (i := nI j) h X1 X2 X3 X4 X5 X6
    exact ⟨σ', R', h1, (sw_get0 (by decide)).trans h2⟩
  by_cases c41 : q = 41
  · subst c41
    obtain ⟨σ', R', h1, h2⟩ := lc41 (xs := xs) (L := L) (rec := rec) (i := nI j) h X1 X2 X3 X4 X5 X6
    exact ⟨σ', R', h1, (sw_get0 (by decide)).trans h2⟩
  by_cases c42 : q = 42
  · subst c42
    obtain ⟨σ', R', h1, h2⟩ := lc42 (xs := xs) (L := L) (rec := rec) (i := nI j) h X1 X2 X3 X4 X5 X6
    exact ⟨σ', R', h1, (sw_get0 (by decide)).trans h2⟩
  by_cases c43 : q = 43
  · subst c43
    obtain ⟨σ', R', h1, h2⟩ := lc43 (xs := xs) (L := L) (rec := rec) (i := nI j) h X1 X2 X3 X4 X5 X6
    exact ⟨σ', R', h1, (sw_get0 (by decide)).trans h2⟩
  by_cases c44 : q = 44
  · subst c44
    obtain ⟨σ', R', h1, h2⟩ := lc44 (xs := xs) (L := L) (rec := rec) (i := nI j) h X1 X2 X3 X4 X5 X6
    exact ⟨σ', R', h1, (sw_get0 (by decide)).trans h2⟩
  by_cases c45 : q = 45
  · subst c45
    obtain ⟨σ', R', h1, h2⟩ := lc45 (xs := xs) (L := L) (rec := rec) (i := nI j) h X1 X2 X3 X4 X5 X6
    exact ⟨σ', R', h1, (sw_get0 (by decide)).trans h2⟩
  by_cases c46 : q = 46
  · subst c46
    obtain ⟨σ', R', h1, h2⟩ := lc46 (xs := xs) (L := L) (rec := rec) (i := nI j) h X1 X2 X3 X4 X5 X6
    exact ⟨σ', R', h1, (sw_get0 (by decide)).trans h2⟩
  by_cases c47 : q = 47
  · subst c47
    obtain ⟨σ', R', h1, h2⟩ := lc47 (xs := xs) (L := L) (rec := rec) (i := nI j) h X1 X2 X3 X4 X5 X6
    exact ⟨σ', R', h1, (sw_get0 (by decide)).trans h2⟩
  by_cases c48 : q = 48
  · subst c48
    obtain ⟨σ', R', h1, h2⟩ := lc48 (xs := xs) (L := L) (rec := rec) (i := nI j) h X1 X2 X3 X4 X5 X6
    exact ⟨σ', R', h1, (sw_get0 (by decide)).trans h2⟩
  by_cases c49 : q = 49
  · subst c49
    obtain ⟨σ', R', h1, h2⟩ := lc49 (xs := xs) (L := L) (rec := rec) (i := nI j) h X1 X2 X3 X4 X5 X6
    exact ⟨σ', R', h1, (sw_get0 (by decide)).trans h2⟩
  by_cases c50 : q = 50
  · subst c50
    obtain ⟨σ', R', h1, h2⟩ := lc50 (xs := xs) (L := L) (rec := rec) (i := nI j) h X1 X2 X3 X4 X5 X6
    exact ⟨σ', R', h1, (sw_get0 (by decide)).trans h2⟩
  by_cases c51 : q = 51
  · subst c51
    obtain ⟨σ', R', h1, h2⟩ := lc51 (xs := xs) (L := L) (rec := rec) (i := nI j) h X1 X2 X3 X4 X5 X6
    exact ⟨σ', R', h1, (sw_get0 (by decide)).trans h2⟩
  by_cases c52 : q = 52
  · subst c52
    obtain ⟨σ', R', h1, h2⟩ := lc52 (xs := xs) (L := L) (rec := rec) (i := nI j) h X1 X2 X3 X4 X5 X6
    exact ⟨σ', R', h1, (sw_get0 (by decide)).trans h2⟩
  by_cases c53 : q = 53
  · subst c53
    obtain ⟨σ', R', h1, h2⟩ := lc53 (xs := xs) (L := L) (rec := rec) (i := nI j) h X1 X2 X3 X4 X5 X6
    exact ⟨σ', R', h1, (sw_get0 (by decide)).trans h2⟩
  by_cases c54 : q = 54
  · subst c54
    obtain ⟨σ', R', h1, h2⟩ := lc54 (xs := xs) (L := L) (rec := rec) (i := nI j) h X1 X2 X3 X4 X5 X6
    exact ⟨σ', R', h1, (sw_get0 (by decide)).trans h2⟩
  by_cases c55 : q = 55
  · subst c55
    obtain ⟨σ', R', h1, h2⟩ := lc55 (xs := xs) (L := L) (rec := rec) (i := nI j) h X1 X2 X3 X4 X5 X6
    exact ⟨σ', R', h1, (sw_get0 (by decide)).trans h2⟩
  by_cases c56 : q = 56
  · subst c56
    obtain ⟨σ', R', h1, h2⟩ := lc56 (xs := xs) (L := L) (rec := rec) (i := nI j) h X1 X2 X3 X4 X5 X6
    exact ⟨σ', R', h1, (sw_get0 (by decide)).trans h2⟩
  by_cases c57 : q = 57
  · subst c57
    obtain ⟨σ', R', h1, h2⟩ := lc57 (xs := xs) (L := L) (rec := rec) (i := nI j) h X1 X2 X3 X4 X5 X6
    exact ⟨σ', R', h1, (sw_get0 (by decide)).trans h2⟩
  refine ⟨σ, R, h, ?_⟩
  rw [sw_get0 (by omega), List.getElem?_eq_none (by
    show 58 ≤ q
    omega)]
  rfl
end Law2
theorem law_all {xs : Nat → Int32} {L : Nat} (hL : L ≤ 3584) : lp_ (lawS xs L) 513 (σ0, 0) = some 1 := by
  have key : ∀ (f j : Nat) (σ : ST) (R : RT), IV σ R → j ≤ L → L < j + 7 * f → lp_ (lawS xs L) f (σ, nI j) = some 1 := by
    intro f
    induction f with
    | zero => intro j σ R h h1 h2; omega
    | succ f ih =>
      intro j σ R h h1 h2
      show lawS xs L (lp_ (lawS xs L) f) (σ, nI j) = some 1
      by_cases c : j + 7 ≤ L
      · obtain ⟨σ', R', h3, h4⟩ := lawStep (xs := xs) (L := L) (rec := lp_ (lawS xs L) f) h hL c
        rw [h4]
        exact ih (j + 7) σ' R' h3 c (by omega)
      · have lt : nI L - 7 < nI j := by
          by_cases c7 : 7 ≤ L
          · rw [show nI L - 7 = nI (L - 7) from nI_sub (b := 7) c7]
            exact of_eq_true (nlt_t (by omega) (by omega))
          · have sm : ∀ L, L < 7 → ∀ j, j < 7 → nI L - 7 < nI j := by decide +kernel
            exact sm L (by omega) j (by omega)
        exact if_pos lt
  exact key 513 0 σ0 R0 IV0 (Nat.zero_le L) (by omega)

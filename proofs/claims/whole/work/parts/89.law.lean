/-! ===== the law's cases ===== -/
section Law
variable {σ : ST} {R : RT} {xs : Nat → Int32} {L : Nat} {rec : ST × Int32 → Option Int32} {i x1 x2 x3 x4 x5 x6 : Int32}
theorem lc0 (h : IV σ R) (X1 : ldX xs L (i + 1) = some x1) (X2 : ldX xs L (i + 2) = some x2) (X3 : ldX xs L (i + 3) = some x3) (X4 : ldX xs L (i + 4) = some x4) (X5 : ldX xs L (i + 5) = some x5) (X6 : ldX xs L (i + 6) = some x6) : ∃ σ' R', IV σ' R' ∧ lawC0 xs L rec σ i = rec (σ', i + 7) := by
  obtain ⟨v, τ, υ, R', e1, e2, c⟩ := q_feed h x1 x2 x3 x4 x5
  refine ⟨υ, R', c, ?_⟩
  unfold lawC0
  simp only [X1, X2, X3, X4, X5, bd_some, e1, e2, if_true]
theorem lc1 (h : IV σ R) (X1 : ldX xs L (i + 1) = some x1) (X2 : ldX xs L (i + 2) = some x2) (X3 : ldX xs L (i + 3) = some x3) (X4 : ldX xs L (i + 4) = some x4) (X5 : ldX xs L (i + 5) = some x5) (X6 : ldX xs L (i + 6) = some x6) : ∃ σ' R', IV σ' R' ∧ lawC1 xs L rec σ i = rec (σ', i + 7) := by
  obtain ⟨v, τ, υ, R', e1, e2, c⟩ := q_text h x1
  refine ⟨υ, R', c, ?_⟩
  unfold lawC1
  simp only [X1, bd_some, e1, e2, if_true]
theorem lc2 (h : IV σ R) (X1 : ldX xs L (i + 1) = some x1) (X2 : ldX xs L (i + 2) = some x2) (X3 : ldX xs L (i + 3) = some x3) (X4 : ldX xs L (i + 4) = some x4) (X5 : ldX xs L (i + 5) = some x5) (X6 : ldX xs L (i + 6) = some x6) : ∃ σ' R', IV σ' R' ∧ lawC2 xs L rec σ i = rec (σ', i + 7) := by
  obtain ⟨v, τ, e1, e2, c⟩ := q_fault h x1
  refine ⟨τ, R, h.core c, ?_⟩
  unfold lawC2
  simp only [X1, bd_some, e1, e2, if_true]
theorem lc6 (h : IV σ R) (X1 : ldX xs L (i + 1) = some x1) (X2 : ldX xs L (i + 2) = some x2) (X3 : ldX xs L (i + 3) = some x3) (X4 : ldX xs L (i + 4) = some x4) (X5 : ldX xs L (i + 5) = some x5) (X6 : ldX xs L (i + 6) = some x6) : ∃ σ' R', IV σ' R' ∧ lawC6 xs L rec σ i = rec (σ', i + 7) := by
  obtain ⟨v, τ, e1, e2, c⟩ := q_of h x1 x2 x3
  refine ⟨τ, R, h.core c, ?_⟩
  unfold lawC6
  simp only [X1, X2, X3, bd_some, e1, e2, if_true]
theorem lc7 (h : IV σ R) (X1 : ldX xs L (i + 1) = some x1) (X2 : ldX xs L (i + 2) = some x2) (X3 : ldX xs L (i + 3) = some x3) (X4 : ldX xs L (i + 4) = some x4) (X5 : ldX xs L (i + 5) = some x5) (X6 : ldX xs L (i + 6) = some x6) : ∃ σ' R', IV σ' R' ∧ lawC7 xs L rec σ i = rec (σ', i + 7) := by
  obtain ⟨v, τ, e1, e2, c⟩ := q_seat h x1 x2
  refine ⟨τ, R, h.core c, ?_⟩
  unfold lawC7
  simp only [X1, X2, bd_some, e1, e2, if_true]
theorem lc8 (h : IV σ R) (X1 : ldX xs L (i + 1) = some x1) (X2 : ldX xs L (i + 2) = some x2) (X3 : ldX xs L (i + 3) = some x3) (X4 : ldX xs L (i + 4) = some x4) (X5 : ldX xs L (i + 5) = some x5) (X6 : ldX xs L (i + 6) = some x6) : ∃ σ' R', IV σ' R' ∧ lawC8 xs L rec σ i = rec (σ', i + 7) := by
  obtain ⟨v, τ, e1, e2, c⟩ := q_role h x1 x2
  refine ⟨τ, R, h.core c, ?_⟩
  unfold lawC8
  simp only [X1, X2, bd_some, e1, e2, if_true]
theorem lc9 (h : IV σ R) (X1 : ldX xs L (i + 1) = some x1) (X2 : ldX xs L (i + 2) = some x2) (X3 : ldX xs L (i + 3) = some x3) (X4 : ldX xs L (i + 4) = some x4) (X5 : ldX xs L (i + 5) = some x5) (X6 : ldX xs L (i + 6) = some x6) : ∃ σ' R', IV σ' R' ∧ lawC9 xs L rec σ i = rec (σ', i + 7) := by
  obtain ⟨v, τ, e1, e2, c⟩ := q_pays h x1 x2 x3
  refine ⟨τ, R, h.core c, ?_⟩
  unfold lawC9
  simp only [X1, X2, X3, bd_some, e1, e2, if_true]
theorem lc10 (h : IV σ R) (X1 : ldX xs L (i + 1) = some x1) (X2 : ldX xs L (i + 2) = some x2) (X3 : ldX xs L (i + 3) = some x3) (X4 : ldX xs L (i + 4) = some x4) (X5 : ldX xs L (i + 5) = some x5) (X6 : ldX xs L (i + 6) = some x6) : ∃ σ' R', IV σ' R' ∧ lawC10 xs L rec σ i = rec (σ', i + 7) := by
  obtain ⟨v, τ, e1, e2, c⟩ := q_paidBy h x1 x2
  refine ⟨τ, R, h.core c, ?_⟩
  unfold lawC10
  simp only [X1, X2, bd_some, e1, e2, if_true]
theorem lc11 (h : IV σ R) (X1 : ldX xs L (i + 1) = some x1) (X2 : ldX xs L (i + 2) = some x2) (X3 : ldX xs L (i + 3) = some x3) (X4 : ldX xs L (i + 4) = some x4) (X5 : ldX xs L (i + 5) = some x5) (X6 : ldX xs L (i + 6) = some x6) : ∃ σ' R', IV σ' R' ∧ lawC11 xs L rec σ i = rec (σ', i + 7) := by
  obtain ⟨v, τ, e1, e2, c⟩ := q_answer h x1 x2
  refine ⟨τ, R, h.core c, ?_⟩
  unfold lawC11
  simp only [X1, X2, bd_some, e1, e2, if_true]
theorem lc12 (h : IV σ R) (X1 : ldX xs L (i + 1) = some x1) (X2 : ldX xs L (i + 2) = some x2) (X3 : ldX xs L (i + 3) = some x3) (X4 : ldX xs L (i + 4) = some x4) (X5 : ldX xs L (i + 5) = some x5) (X6 : ldX xs L (i + 6) = some x6) : ∃ σ' R', IV σ' R' ∧ lawC12 xs L rec σ i = rec (σ', i + 7) := by
  obtain ⟨v, τ, e1, e2, c⟩ := q_ring h x1
  refine ⟨τ, R, h.core c, ?_⟩
  unfold lawC12
  simp only [X1, bd_some, e1, e2, if_true]
theorem lc13 (h : IV σ R) (X1 : ldX xs L (i + 1) = some x1) (X2 : ldX xs L (i + 2) = some x2) (X3 : ldX xs L (i + 3) = some x3) (X4 : ldX xs L (i + 4) = some x4) (X5 : ldX xs L (i + 5) = some x5) (X6 : ldX xs L (i + 6) = some x6) : ∃ σ' R', IV σ' R' ∧ lawC13 xs L rec σ i = rec (σ', i + 7) := by
  obtain ⟨v, τ, e1, e2, c⟩ := q_rings h 
  refine ⟨τ, R, h.core c, ?_⟩
  unfold lawC13
  simp only [bd_some, e1, e2, if_true]
theorem lc14 (h : IV σ R) (X1 : ldX xs L (i + 1) = some x1) (X2 : ldX xs L (i + 2) = some x2) (X3 : ldX xs L (i + 3) = some x3) (X4 : ldX xs L (i + 4) = some x4) (X5 : ldX xs L (i + 5) = some x5) (X6 : ldX xs L (i + 6) = some x6) : ∃ σ' R', IV σ' R' ∧ lawC14 xs L rec σ i = rec (σ', i + 7) := by
  obtain ⟨v, τ, υ, R', e1, e2, c⟩ := q_play h x1 x2 x3
  refine ⟨υ, R', c, ?_⟩
  unfold lawC14
  simp only [X1, X2, X3, bd_some, e1, e2, if_true]
theorem lc15 (h : IV σ R) (X1 : ldX xs L (i + 1) = some x1) (X2 : ldX xs L (i + 2) = some x2) (X3 : ldX xs L (i + 3) = some x3) (X4 : ldX xs L (i + 4) = some x4) (X5 : ldX xs L (i + 5) = some x5) (X6 : ldX xs L (i + 6) = some x6) : ∃ σ' R', IV σ' R' ∧ lawC15 xs L rec σ i = rec (σ', i + 7) := by
  obtain ⟨v, τ, υ, R', e1, e2, c⟩ := q_year h 
  refine ⟨υ, R', c, ?_⟩
  unfold lawC15
  simp only [bd_some, e1, e2, if_true]
theorem lc16 (h : IV σ R) (X1 : ldX xs L (i + 1) = some x1) (X2 : ldX xs L (i + 2) = some x2) (X3 : ldX xs L (i + 3) = some x3) (X4 : ldX xs L (i + 4) = some x4) (X5 : ldX xs L (i + 5) = some x5) (X6 : ldX xs L (i + 6) = some x6) : ∃ σ' R', IV σ' R' ∧ lawC16 xs L rec σ i = rec (σ', i + 7) := by
  obtain ⟨v, τ, υ, R', e1, e2, c⟩ := q_claim h x1 x2
  refine ⟨υ, R', c, ?_⟩
  unfold lawC16
  simp only [X1, X2, bd_some, e1, e2, if_true]
theorem lc17 (h : IV σ R) (X1 : ldX xs L (i + 1) = some x1) (X2 : ldX xs L (i + 2) = some x2) (X3 : ldX xs L (i + 3) = some x3) (X4 : ldX xs L (i + 4) = some x4) (X5 : ldX xs L (i + 5) = some x5) (X6 : ldX xs L (i + 6) = some x6) : ∃ σ' R', IV σ' R' ∧ lawC17 xs L rec σ i = rec (σ', i + 7) := by
  obtain ⟨v, τ, υ, R', e1, e2, c⟩ := q_part h x1
  refine ⟨υ, R', c, ?_⟩
  unfold lawC17
  simp only [X1, bd_some, e1, e2, if_true]
theorem lc18 (h : IV σ R) (X1 : ldX xs L (i + 1) = some x1) (X2 : ldX xs L (i + 2) = some x2) (X3 : ldX xs L (i + 3) = some x3) (X4 : ldX xs L (i + 4) = some x4) (X5 : ldX xs L (i + 5) = some x5) (X6 : ldX xs L (i + 6) = some x6) : ∃ σ' R', IV σ' R' ∧ lawC18 xs L rec σ i = rec (σ', i + 7) := by
  obtain ⟨v, τ, υ, R', e1, e2, c⟩ := q_terms h x1 x2 x3
  refine ⟨υ, R', c, ?_⟩
  unfold lawC18
  simp only [X1, X2, X3, bd_some, e1, e2, if_true]
theorem lc19 (h : IV σ R) (X1 : ldX xs L (i + 1) = some x1) (X2 : ldX xs L (i + 2) = some x2) (X3 : ldX xs L (i + 3) = some x3) (X4 : ldX xs L (i + 4) = some x4) (X5 : ldX xs L (i + 5) = some x5) (X6 : ldX xs L (i + 6) = some x6) : ∃ σ' R', IV σ' R' ∧ lawC19 xs L rec σ i = rec (σ', i + 7) := by
  obtain ⟨v, τ, υ, R', e1, e2, c⟩ := q_partAll h 
  refine ⟨υ, R', c, ?_⟩
  unfold lawC19
  simp only [bd_some, e1, e2, if_true]
theorem lc20 (h : IV σ R) (X1 : ldX xs L (i + 1) = some x1) (X2 : ldX xs L (i + 2) = some x2) (X3 : ldX xs L (i + 3) = some x3) (X4 : ldX xs L (i + 4) = some x4) (X5 : ldX xs L (i + 5) = some x5) (X6 : ldX xs L (i + 6) = some x6) : ∃ σ' R', IV σ' R' ∧ lawC20 xs L rec σ i = rec (σ', i + 7) := by
  obtain ⟨v, τ, υ, R', e1, e2, c⟩ := q_move h x1 x2
  refine ⟨υ, R', c, ?_⟩
  unfold lawC20
  simp only [X1, X2, bd_some, e1, e2, if_true]
theorem lc21 (h : IV σ R) (X1 : ldX xs L (i + 1) = some x1) (X2 : ldX xs L (i + 2) = some x2) (X3 : ldX xs L (i + 3) = some x3) (X4 : ldX xs L (i + 4) = some x4) (X5 : ldX xs L (i + 5) = some x5) (X6 : ldX xs L (i + 6) = some x6) : ∃ σ' R', IV σ' R' ∧ lawC21 xs L rec σ i = rec (σ', i + 7) := by
  obtain ⟨v, τ, υ, R', e1, e2, c⟩ := q_giveBack h x1 x2
  refine ⟨υ, R', c, ?_⟩
  unfold lawC21
  simp only [X1, X2, bd_some, e1, e2, if_true]
theorem lc22 (h : IV σ R) (X1 : ldX xs L (i + 1) = some x1) (X2 : ldX xs L (i + 2) = some x2) (X3 : ldX xs L (i + 3) = some x3) (X4 : ldX xs L (i + 4) = some x4) (X5 : ldX xs L (i + 5) = some x5) (X6 : ldX xs L (i + 6) = some x6) : ∃ σ' R', IV σ' R' ∧ lawC22 xs L rec σ i = rec (σ', i + 7) := by
  obtain ⟨v, τ, υ, R', e1, e2, c⟩ := q_undo h 
  refine ⟨υ, R', c, ?_⟩
  unfold lawC22
  simp only [bd_some, e1, e2, if_true]
theorem lc23 (h : IV σ R) (X1 : ldX xs L (i + 1) = some x1) (X2 : ldX xs L (i + 2) = some x2) (X3 : ldX xs L (i + 3) = some x3) (X4 : ldX xs L (i + 4) = some x4) (X5 : ldX xs L (i + 5) = some x5) (X6 : ldX xs L (i + 6) = some x6) : ∃ σ' R', IV σ' R' ∧ lawC23 xs L rec σ i = rec (σ', i + 7) := by
  obtain ⟨v, τ, e1, e2, c⟩ := q_paid h x1 x2 x3
  refine ⟨τ, R, h.core c, ?_⟩
  unfold lawC23
  simp only [X1, X2, X3, bd_some, e1, e2, if_true]
theorem lc24 (h : IV σ R) (X1 : ldX xs L (i + 1) = some x1) (X2 : ldX xs L (i + 2) = some x2) (X3 : ldX xs L (i + 3) = some x3) (X4 : ldX xs L (i + 4) = some x4) (X5 : ldX xs L (i + 5) = some x5) (X6 : ldX xs L (i + 6) = some x6) : ∃ σ' R', IV σ' R' ∧ lawC24 xs L rec σ i = rec (σ', i + 7) := by
  obtain ⟨v, τ, e1, e2, c⟩ := q_kept h x1 x2 x3 x4
  refine ⟨τ, R, h.core c, ?_⟩
  unfold lawC24
  simp only [X1, X2, X3, X4, bd_some, e1, e2, if_true]
theorem lc25 (h : IV σ R) (X1 : ldX xs L (i + 1) = some x1) (X2 : ldX xs L (i + 2) = some x2) (X3 : ldX xs L (i + 3) = some x3) (X4 : ldX xs L (i + 4) = some x4) (X5 : ldX xs L (i + 5) = some x5) (X6 : ldX xs L (i + 6) = some x6) : ∃ σ' R', IV σ' R' ∧ lawC25 xs L rec σ i = rec (σ', i + 7) := by
  obtain ⟨v, τ, e1, e2, c⟩ := q_lapsed h x1 x2 x3
  refine ⟨τ, R, h.core c, ?_⟩
  unfold lawC25
  simp only [X1, X2, X3, bd_some, e1, e2, if_true]
theorem lc26 (h : IV σ R) (X1 : ldX xs L (i + 1) = some x1) (X2 : ldX xs L (i + 2) = some x2) (X3 : ldX xs L (i + 3) = some x3) (X4 : ldX xs L (i + 4) = some x4) (X5 : ldX xs L (i + 5) = some x5) (X6 : ldX xs L (i + 6) = some x6) : ∃ σ' R', IV σ' R' ∧ lawC26 xs L rec σ i = rec (σ', i + 7) := by
  obtain ⟨v, τ, e1, e2, c⟩ := q_lapses h x1 x2
  refine ⟨τ, R, h.core c, ?_⟩
  unfold lawC26
  simp only [X1, X2, bd_some, e1, e2, if_true]
theorem lc27 (h : IV σ R) (X1 : ldX xs L (i + 1) = some x1) (X2 : ldX xs L (i + 2) = some x2) (X3 : ldX xs L (i + 3) = some x3) (X4 : ldX xs L (i + 4) = some x4) (X5 : ldX xs L (i + 5) = some x5) (X6 : ldX xs L (i + 6) = some x6) : ∃ σ' R', IV σ' R' ∧ lawC27 xs L rec σ i = rec (σ', i + 7) := by
  obtain ⟨v, τ, υ, R', e1, e2, c⟩ := (q_share h x1 x2 x3 x4).a h
  refine ⟨υ, R', c, ?_⟩
  unfold lawC27
  simp only [X1, X2, X3, X4, bd_some, e1, e2, if_true]
theorem lc28 (h : IV σ R) (X1 : ldX xs L (i + 1) = some x1) (X2 : ldX xs L (i + 2) = some x2) (X3 : ldX xs L (i + 3) = some x3) (X4 : ldX xs L (i + 4) = some x4) (X5 : ldX xs L (i + 5) = some x5) (X6 : ldX xs L (i + 6) = some x6) : ∃ σ' R', IV σ' R' ∧ lawC28 xs L rec σ i = rec (σ', i + 7) := by
  obtain ⟨v, τ, υ, R', e1, e2, c⟩ := (q_wouldPlay h x1 x2 x3 x4).a h
  refine ⟨υ, R', c, ?_⟩
  unfold lawC28
  simp only [X1, X2, X3, X4, bd_some, e1, e2, if_true]
theorem lc29 (h : IV σ R) (X1 : ldX xs L (i + 1) = some x1) (X2 : ldX xs L (i + 2) = some x2) (X3 : ldX xs L (i + 3) = some x3) (X4 : ldX xs L (i + 4) = some x4) (X5 : ldX xs L (i + 5) = some x5) (X6 : ldX xs L (i + 6) = some x6) : ∃ σ' R', IV σ' R' ∧ lawC29 xs L rec σ i = rec (σ', i + 7) := by
  obtain ⟨v, τ, e1, e2, c⟩ := q_wouldClaim h x1 x2
  refine ⟨τ, R, h.core c, ?_⟩
  unfold lawC29
  simp only [X1, X2, bd_some, e1, e2, if_true]
theorem lc30 (h : IV σ R) (X1 : ldX xs L (i + 1) = some x1) (X2 : ldX xs L (i + 2) = some x2) (X3 : ldX xs L (i + 3) = some x3) (X4 : ldX xs L (i + 4) = some x4) (X5 : ldX xs L (i + 5) = some x5) (X6 : ldX xs L (i + 6) = some x6) : ∃ σ' R', IV σ' R' ∧ lawC30 xs L rec σ i = rec (σ', i + 7) := by
  obtain ⟨v, τ, e1, e2, c⟩ := q_bestClaim h x1 x2
  refine ⟨τ, R, h.core c, ?_⟩
  unfold lawC30
  simp only [X1, X2, bd_some, e1, e2, if_true]
theorem lc31 (h : IV σ R) (X1 : ldX xs L (i + 1) = some x1) (X2 : ldX xs L (i + 2) = some x2) (X3 : ldX xs L (i + 3) = some x3) (X4 : ldX xs L (i + 4) = some x4) (X5 : ldX xs L (i + 5) = some x5) (X6 : ldX xs L (i + 6) = some x6) : ∃ σ' R', IV σ' R' ∧ lawC31 xs L rec σ i = rec (σ', i + 7) := by
  obtain ⟨v, τ, e1, e2, c⟩ := q_claimant h x1 x2
  refine ⟨τ, R, h.core c, ?_⟩
  unfold lawC31
  simp only [X1, X2, bd_some, e1, e2, if_true]
theorem lc32 (h : IV σ R) (X1 : ldX xs L (i + 1) = some x1) (X2 : ldX xs L (i + 2) = some x2) (X3 : ldX xs L (i + 3) = some x3) (X4 : ldX xs L (i + 4) = some x4) (X5 : ldX xs L (i + 5) = some x5) (X6 : ldX xs L (i + 6) = some x6) : ∃ σ' R', IV σ' R' ∧ lawC32 xs L rec σ i = rec (σ', i + 7) := by
  obtain ⟨v, τ, υ, R', e1, e2, c⟩ := (q_wouldPart h x1 x2).a h
  refine ⟨υ, R', c, ?_⟩
  unfold lawC32
  simp only [X1, X2, bd_some, e1, e2, if_true]
theorem lc33 (h : IV σ R) (X1 : ldX xs L (i + 1) = some x1) (X2 : ldX xs L (i + 2) = some x2) (X3 : ldX xs L (i + 3) = some x3) (X4 : ldX xs L (i + 4) = some x4) (X5 : ldX xs L (i + 5) = some x5) (X6 : ldX xs L (i + 6) = some x6) : ∃ σ' R', IV σ' R' ∧ lawC33 xs L rec σ i = rec (σ', i + 7) := by
  obtain ⟨v, τ, υ, R', e1, e2, c⟩ := (q_gain h x1 x2 x3 x4 x5 x6).a h
  refine ⟨υ, R', c, ?_⟩
  unfold lawC33
  simp only [X1, X2, X3, X4, X5, X6, bd_some, e1, e2, if_true]
theorem lc34 (h : IV σ R) (X1 : ldX xs L (i + 1) = some x1) (X2 : ldX xs L (i + 2) = some x2) (X3 : ldX xs L (i + 3) = some x3) (X4 : ldX xs L (i + 4) = some x4) (X5 : ldX xs L (i + 5) = some x5) (X6 : ldX xs L (i + 6) = some x6) : ∃ σ' R', IV σ' R' ∧ lawC34 xs L rec σ i = rec (σ', i + 7) := by
  obtain ⟨v, τ, υ, R', e1, e2, c⟩ := (q_pairs h x1 x2 x3 x4).a h
  refine ⟨υ, R', c, ?_⟩
  unfold lawC34
  simp only [X1, X2, X3, X4, bd_some, e1, e2, if_true]
theorem lc35 (h : IV σ R) (X1 : ldX xs L (i + 1) = some x1) (X2 : ldX xs L (i + 2) = some x2) (X3 : ldX xs L (i + 3) = some x3) (X4 : ldX xs L (i + 4) = some x4) (X5 : ldX xs L (i + 5) = some x5) (X6 : ldX xs L (i + 6) = some x6) : ∃ σ' R', IV σ' R' ∧ lawC35 xs L rec σ i = rec (σ', i + 7) := by
  obtain ⟨v, τ, e1, e2, c⟩ := q_most h x1 x2
  refine ⟨τ, R, h.core c, ?_⟩
  unfold lawC35
  simp only [X1, X2, bd_some, e1, e2, if_true]
theorem lc36 (h : IV σ R) (X1 : ldX xs L (i + 1) = some x1) (X2 : ldX xs L (i + 2) = some x2) (X3 : ldX xs L (i + 3) = some x3) (X4 : ldX xs L (i + 4) = some x4) (X5 : ldX xs L (i + 5) = some x5) (X6 : ldX xs L (i + 6) = some x6) : ∃ σ' R', IV σ' R' ∧ lawC36 xs L rec σ i = rec (σ', i + 7) := by
  obtain ⟨v, τ, e1, e2, c⟩ := q_ranked h x1
  refine ⟨τ, R, h.core c, ?_⟩
  unfold lawC36
  simp only [X1, bd_some, e1, e2, if_true]
theorem lc38 (h : IV σ R) (X1 : ldX xs L (i + 1) = some x1) (X2 : ldX xs L (i + 2) = some x2) (X3 : ldX xs L (i + 3) = some x3) (X4 : ldX xs L (i + 4) = some x4) (X5 : ldX xs L (i + 5) = some x5) (X6 : ldX xs L (i + 6) = some x6) : ∃ σ' R', IV σ' R' ∧ lawC38 xs L rec σ i = rec (σ', i + 7) := by
  obtain ⟨v, τ, e1, e2, c⟩ := q_idle h 
  refine ⟨τ, R, h.core c, ?_⟩
  unfold lawC38
  simp only [bd_some, e1, e2, if_true]
theorem lc39 (h : IV σ R) (X1 : ldX xs L (i + 1) = some x1) (X2 : ldX xs L (i + 2) = some x2) (X3 : ldX xs L (i + 3) = some x3) (X4 : ldX xs L (i + 4) = some x4) (X5 : ldX xs L (i + 5) = some x5) (X6 : ldX xs L (i + 6) = some x6) : ∃ σ' R', IV σ' R' ∧ lawC39 xs L rec σ i = rec (σ', i + 7) := by
  obtain ⟨v, τ, e1, e2, c⟩ := q_nextLapse h x1
  refine ⟨τ, R, h.core c, ?_⟩
  unfold lawC39
  simp only [X1, bd_some, e1, e2, if_true]
theorem lc40 (h : IV σ R) (X1 : ldX xs L (i + 1) = some x1) (X2 : ldX xs L (i + 2) = some x2) (X3 : ldX xs L (i + 3) = some x3) (X4 : ldX xs L (i + 4) = some x4) (X5 : ldX xs L (i + 5) = some x5) (X6 : ldX xs L (i + 6) = some x6) : ∃ σ' R', IV σ' R' ∧ lawC40 xs L rec σ i = rec (σ', i + 7) := by
  obtain ⟨v, τ, υ, R', e1, e2, c⟩ := (q_bestLand h x1 x2 x3 x4).a h
  refine ⟨υ, R', c, ?_⟩
  unfold lawC40
  simp only [X1, X2, X3, X4, bd_some, e1, e2, if_true]
theorem lc41 (h : IV σ R) (X1 : ldX xs L (i + 1) = some x1) (X2 : ldX xs L (i + 2) = some x2) (X3 : ldX xs L (i + 3) = some x3) (X4 : ldX xs L (i + 4) = some x4) (X5 : ldX xs L (i + 5) = some x5) (X6 : ldX xs L (i + 6) = some x6) : ∃ σ' R', IV σ' R' ∧ lawC41 xs L rec σ i = rec (σ', i + 7) := by
  obtain ⟨v, τ, e1, e2, c⟩ := q_net h x1
  refine ⟨τ, R, h.core c, ?_⟩
  unfold lawC41
  simp only [X1, bd_some, e1, e2, if_true]
theorem lc42 (h : IV σ R) (X1 : ldX xs L (i + 1) = some x1) (X2 : ldX xs L (i + 2) = some x2) (X3 : ldX xs L (i + 3) = some x3) (X4 : ldX xs L (i + 4) = some x4) (X5 : ldX xs L (i + 5) = some x5) (X6 : ldX xs L (i + 6) = some x6) : ∃ σ' R', IV σ' R' ∧ lawC42 xs L rec σ i = rec (σ', i + 7) := by
  obtain ⟨v, τ, e1, e2, c⟩ := q_extreme h x1
  refine ⟨τ, R, h.core c, ?_⟩
  unfold lawC42
  simp only [X1, bd_some, e1, e2, if_true]
theorem lc43 (h : IV σ R) (X1 : ldX xs L (i + 1) = some x1) (X2 : ldX xs L (i + 2) = some x2) (X3 : ldX xs L (i + 3) = some x3) (X4 : ldX xs L (i + 4) = some x4) (X5 : ldX xs L (i + 5) = some x5) (X6 : ldX xs L (i + 6) = some x6) : ∃ σ' R', IV σ' R' ∧ lawC43 xs L rec σ i = rec (σ', i + 7) := by
  obtain ⟨v, τ, υ, R', e1, e2, c⟩ := (q_round h x1 x2).a h
  refine ⟨υ, R', c, ?_⟩
  unfold lawC43
  simp only [X1, X2, bd_some, e1, e2, if_true]
theorem lc44 (h : IV σ R) (X1 : ldX xs L (i + 1) = some x1) (X2 : ldX xs L (i + 2) = some x2) (X3 : ldX xs L (i + 3) = some x3) (X4 : ldX xs L (i + 4) = some x4) (X5 : ldX xs L (i + 5) = some x5) (X6 : ldX xs L (i + 6) = some x6) : ∃ σ' R', IV σ' R' ∧ lawC44 xs L rec σ i = rec (σ', i + 7) := by
  obtain ⟨v, τ, υ, R', e1, e2, c⟩ := (q_bestTerms h x1 x2).a h
  refine ⟨υ, R', c, ?_⟩
  unfold lawC44
  simp only [X1, X2, bd_some, e1, e2, if_true]
theorem lc45 (h : IV σ R) (X1 : ldX xs L (i + 1) = some x1) (X2 : ldX xs L (i + 2) = some x2) (X3 : ldX xs L (i + 3) = some x3) (X4 : ldX xs L (i + 4) = some x4) (X5 : ldX xs L (i + 5) = some x5) (X6 : ldX xs L (i + 6) = some x6) : ∃ σ' R', IV σ' R' ∧ lawC45 xs L rec σ i = rec (σ', i + 7) := by
  obtain ⟨v, τ, υ, R', e1, e2, c⟩ := (q_unknown h x1).a h
  refine ⟨υ, R', c, ?_⟩
  unfold lawC45
  simp only [X1, bd_some, e1, e2, if_true]
theorem lc46 (h : IV σ R) (X1 : ldX xs L (i + 1) = some x1) (X2 : ldX xs L (i + 2) = some x2) (X3 : ldX xs L (i + 3) = some x3) (X4 : ldX xs L (i + 4) = some x4) (X5 : ldX xs L (i + 5) = some x5) (X6 : ldX xs L (i + 6) = some x6) : ∃ σ' R', IV σ' R' ∧ lawC46 xs L rec σ i = rec (σ', i + 7) := by
  obtain ⟨v, τ, e1, e2, c⟩ := q_statement h x1 x2 x3
  refine ⟨τ, R, h.core c, ?_⟩
  unfold lawC46
  simp only [X1, X2, X3, bd_some, e1, e2, if_true]
theorem lc47 (h : IV σ R) (X1 : ldX xs L (i + 1) = some x1) (X2 : ldX xs L (i + 2) = some x2) (X3 : ldX xs L (i + 3) = some x3) (X4 : ldX xs L (i + 4) = some x4) (X5 : ldX xs L (i + 5) = some x5) (X6 : ldX xs L (i + 6) = some x6) : ∃ σ' R', IV σ' R' ∧ lawC47 xs L rec σ i = rec (σ', i + 7) := by
  obtain ⟨v, τ, υ, R', e1, e2, c⟩ := (q_moveGain h x1 x2).a h
  refine ⟨υ, R', c, ?_⟩
  unfold lawC47
  simp only [X1, X2, bd_some, e1, e2, if_true]
theorem lc48 (h : IV σ R) (X1 : ldX xs L (i + 1) = some x1) (X2 : ldX xs L (i + 2) = some x2) (X3 : ldX xs L (i + 3) = some x3) (X4 : ldX xs L (i + 4) = some x4) (X5 : ldX xs L (i + 5) = some x5) (X6 : ldX xs L (i + 6) = some x6) : ∃ σ' R', IV σ' R' ∧ lawC48 xs L rec σ i = rec (σ', i + 7) := by
  obtain ⟨v, τ, υ, R', e1, e2, c⟩ := (q_bestHome h x1 x2).a h
  refine ⟨υ, R', c, ?_⟩
  unfold lawC48
  simp only [X1, X2, bd_some, e1, e2, if_true]
theorem lc49 (h : IV σ R) (X1 : ldX xs L (i + 1) = some x1) (X2 : ldX xs L (i + 2) = some x2) (X3 : ldX xs L (i + 3) = some x3) (X4 : ldX xs L (i + 4) = some x4) (X5 : ldX xs L (i + 5) = some x5) (X6 : ldX xs L (i + 6) = some x6) : ∃ σ' R', IV σ' R' ∧ lawC49 xs L rec σ i = rec (σ', i + 7) := by
  obtain ⟨v, τ, e1, e2, c⟩ := q_answers h x1
  refine ⟨τ, R, h.core c, ?_⟩
  unfold lawC49
  simp only [X1, bd_some, e1, e2, if_true]
theorem lc50 (h : IV σ R) (X1 : ldX xs L (i + 1) = some x1) (X2 : ldX xs L (i + 2) = some x2) (X3 : ldX xs L (i + 3) = some x3) (X4 : ldX xs L (i + 4) = some x4) (X5 : ldX xs L (i + 5) = some x5) (X6 : ldX xs L (i + 6) = some x6) : ∃ σ' R', IV σ' R' ∧ lawC50 xs L rec σ i = rec (σ', i + 7) := by
  obtain ⟨v, τ, e1, e2, c⟩ := q_poorest h x1 x2
  refine ⟨τ, R, h.core c, ?_⟩
  unfold lawC50
  simp only [X1, X2, bd_some, e1, e2, if_true]
theorem lc51 (h : IV σ R) (X1 : ldX xs L (i + 1) = some x1) (X2 : ldX xs L (i + 2) = some x2) (X3 : ldX xs L (i + 3) = some x3) (X4 : ldX xs L (i + 4) = some x4) (X5 : ldX xs L (i + 5) = some x5) (X6 : ldX xs L (i + 6) = some x6) : ∃ σ' R', IV σ' R' ∧ lawC51 xs L rec σ i = rec (σ', i + 7) := by
  obtain ⟨v, τ, e1, e2, c⟩ := q_openSeats h x1
  refine ⟨τ, R, h.core c, ?_⟩
  unfold lawC51
  simp only [X1, bd_some, e1, e2, if_true]
theorem lc52 (h : IV σ R) (X1 : ldX xs L (i + 1) = some x1) (X2 : ldX xs L (i + 2) = some x2) (X3 : ldX xs L (i + 3) = some x3) (X4 : ldX xs L (i + 4) = some x4) (X5 : ldX xs L (i + 5) = some x5) (X6 : ldX xs L (i + 6) = some x6) : ∃ σ' R', IV σ' R' ∧ lawC52 xs L rec σ i = rec (σ', i + 7) := by
  obtain ⟨v, τ, e1, e2, c⟩ := q_late h x1
  refine ⟨τ, R, h.core c, ?_⟩
  unfold lawC52
  simp only [X1, bd_some, e1, e2, if_true]
theorem lc53 (h : IV σ R) (X1 : ldX xs L (i + 1) = some x1) (X2 : ldX xs L (i + 2) = some x2) (X3 : ldX xs L (i + 3) = some x3) (X4 : ldX xs L (i + 4) = some x4) (X5 : ldX xs L (i + 5) = some x5) (X6 : ldX xs L (i + 6) = some x6) : ∃ σ' R', IV σ' R' ∧ lawC53 xs L rec σ i = rec (σ', i + 7) := by
  obtain ⟨v, τ, υ, R', e1, e2, c⟩ := (q_split h x1 x2 x3 x4).a h
  refine ⟨υ, R', c, ?_⟩
  unfold lawC53
  simp only [X1, X2, X3, X4, bd_some, e1, e2, if_true]
theorem lc54 (h : IV σ R) (X1 : ldX xs L (i + 1) = some x1) (X2 : ldX xs L (i + 2) = some x2) (X3 : ldX xs L (i + 3) = some x3) (X4 : ldX xs L (i + 4) = some x4) (X5 : ldX xs L (i + 5) = some x5) (X6 : ldX xs L (i + 6) = some x6) : ∃ σ' R', IV σ' R' ∧ lawC54 xs L rec σ i = rec (σ', i + 7) := by
  obtain ⟨v, τ, e1, e2, c⟩ := q_dearest h x1
  refine ⟨τ, R, h.core c, ?_⟩
  unfold lawC54
  simp only [X1, bd_some, e1, e2, if_true]
theorem lc55 (h : IV σ R) (X1 : ldX xs L (i + 1) = some x1) (X2 : ldX xs L (i + 2) = some x2) (X3 : ldX xs L (i + 3) = some x3) (X4 : ldX xs L (i + 4) = some x4) (X5 : ldX xs L (i + 5) = some x5) (X6 : ldX xs L (i + 6) = some x6) : ∃ σ' R', IV σ' R' ∧ lawC55 xs L rec σ i = rec (σ', i + 7) := by
  obtain ⟨v, τ, υ, R', e1, e2, c⟩ := (q_reached h x1 x2).a h
  refine ⟨υ, R', c, ?_⟩
  unfold lawC55
  simp only [X1, X2, bd_some, e1, e2, if_true]
theorem lc56 (h : IV σ R) (X1 : ldX xs L (i + 1) = some x1) (X2 : ldX xs L (i + 2) = some x2) (X3 : ldX xs L (i + 3) = some x3) (X4 : ldX xs L (i + 4) = some x4) (X5 : ldX xs L (i + 5) = some x5) (X6 : ldX xs L (i + 6) = some x6) : ∃ σ' R', IV σ' R' ∧ lawC56 xs L rec σ i = rec (σ', i + 7) := by
  obtain ⟨v, τ, e1, e2, c⟩ := q_money h x1
  refine ⟨τ, R, h.core c, ?_⟩
  unfold lawC56
  simp only [X1, bd_some, e1, e2, if_true]
theorem lc57 (h : IV σ R) (X1 : ldX xs L (i + 1) = some x1) (X2 : ldX xs L (i + 2) = some x2) (X3 : ldX xs L (i + 3) = some x3) (X4 : ldX xs L (i + 4) = some x4) (X5 : ldX xs L (i + 5) = some x5) (X6 : ldX xs L (i + 6) = some x6) : ∃ σ' R', IV σ' R' ∧ lawC57 xs L rec σ i = rec (σ', i + 7) := by
  obtain ⟨v, τ, e1, e2, c⟩ := q_count h x1
  refine ⟨τ, R, h.core c, ?_⟩
  unfold lawC57
  simp only [X1, bd_some, e1, e2, if_true]
end Law

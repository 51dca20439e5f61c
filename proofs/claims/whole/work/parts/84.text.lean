/-! ===== text: what stays when it has a fault ===== -/
def kp (r k i : Nat) : Bool := cor k i && (!(dk k && decide (i = r)) && !([463, 464, 652, 842, 865, 866, 21, 28].contains k))
section Text
variable {σ τ υ : ST} {R : RT} {ν : NU} {r i : Nat}
theorem BR.key (hb : BR σ i R ν) (h : ∀ k, (k ≤ 7 ∨ (24 ≤ k ∧ k ≤ 27) ∨ k = 209) → τ.1 k i = σ.1 k i) : BR τ i R ν := by
  unfold BR WR at hb ⊢
  rw [h 24 (by decide), h 25 (by decide), h 26 (by decide), h 27 (by decide), h 0 (by decide), h 1 (by decide), h 2 (by decide), h 3 (by decide), h 4 (by decide), h 5 (by decide), h 6 (by decide), h 7 (by decide), h 209 (by decide)]
  exact hb
theorem kpq_b {k : Nat} (hi : i ≤ 12) (h : k ≤ 7 ∨ (24 ≤ k ∧ k ≤ 27) ∨ k = 209) : kp r k i = true := by
  have h1 : cor k i = true := by
    unfold cor
    rcases h with h | h | h
    · simp [h]
    · simp [h, hi]
    · subst h; simp
  have h2 : dk k = false := by
    unfold dk
    simp only [Bool.or_eq_false_iff, decide_eq_false_iff_not]
    omega
  have h3 : ([463, 464, 652, 842, 865, 866, 21, 28].contains k) = false := by
    simp only [List.contains_cons, List.contains_nil, Bool.or_false, Bool.or_eq_false_iff, beq_eq_false_iff_ne]
    omega
  unfold kp
  rw [h1, h2, h3]
  rfl
theorem IV_keep (h : IV σ R) (hr : r = σ.2.2 1) (e2 : υ.2.2 = σ.2.2) (key : ∀ k i, kp r k i = true → υ.1 k i = σ.1 k i) (tp : TP υ) : IV υ R := by
  obtain ⟨h1, h2, h3, h4, h5, h6, ⟨c, t, g1, g2, g3, g4, g5, g6⟩, h8⟩ := h
  have e34 : υ.1 34 0 = σ.1 34 0 := key 34 0 rfl
  have ep : ∀ m, pst υ m = pst σ m := fun m => by unfold pst; rw [key 35 0 rfl]
  have hne : ¬ σ.2.2 0 = r := by rw [hr]; exact h3.2.2
  have kq : ∀ k, cor k (σ.2.2 0) = true → ([463, 464, 652, 842, 865, 866, 21, 28].contains k) = false → υ.1 k (σ.2.2 0) = σ.1 k (σ.2.2 0) := fun k q1 q2 => key k _ (by
    unfold kp
    rw [q1, q2, decide_eq_false hne, Bool.and_false]
    rfl)
  refine ⟨h1, ?_, ?_, ?_, ?_, ?_, ⟨c, t, g1, g2, ?_, ?_, ?_, fun j hj => ?_⟩, tp⟩
  · unfold MR at h2 ⊢
    rw [key 850 0 rfl, key 851 0 rfl, key 852 0 rfl, key 853 0 rfl, key 848 0 rfl, key 849 0 rfl, key 29 0 rfl, key 32 0 rfl, key 33 0 rfl, key 30 0 rfl, key 31 0 rfl]
    exact h2
  · unfold QO at h3 ⊢
    rw [e2]
    exact h3
  · rw [e2]
    unfold CR at h4 ⊢
    rw [kq 529 rfl rfl, kq 530 rfl rfl, kq 531 rfl rfl, kq 528 rfl rfl, kq 532 rfl rfl, kq 533 rfl rfl, kq 13 rfl rfl, kq 17 rfl rfl, kq 18 rfl rfl, kq 19 rfl rfl, kq 20 rfl rfl]
    exact h4
  · rw [e34]
    exact h5.key (fun k hk => key k 0 (kpq_b (by decide) hk))
  · rw [e34]
    exact h6
  · rw [key 330 0 rfl]; exact g3
  · rw [key 856 0 rfl]; exact g4
  · rw [key 329 0 rfl]; exact g5
  · rw [ep]
    obtain ⟨w1, w2⟩ := g6 j hj
    exact ⟨w1.key (fun k hk => key k _ (kpq_b (by omega) hk)), w2⟩
theorem ca_kp {k i : Nat} (h : kp r k i = true) : ca r k i = false := by
  unfold kp at h
  simp only [Bool.and_eq_true, Bool.not_eq_true', Bool.and_eq_false_iff, decide_eq_false_iff_not] at h
  obtain ⟨h1, h2, h3⟩ := h
  have h3' : k ≠ 463 ∧ k ≠ 464 ∧ k ≠ 652 := by
    simp only [List.contains_cons, List.contains_nil, Bool.or_false, Bool.or_eq_false_iff, beq_eq_false_iff_ne] at h3
    omega
  have h4 : k ≠ 460 ∧ k ≠ 461 ∧ k ≠ 462 ∧ k ≠ 22 ∧ k ≠ 23 ∧ k ≠ 653 ∧ k ≠ 654 := by
    refine ⟨?_, ?_, ?_, ?_, ?_, ?_, ?_⟩ <;> (rintro rfl; exact absurd h1 (by unfold cor; simp))
  unfold ca cb cc f23
  simp only [Bool.or_eq_false_iff, Bool.and_eq_false_iff, decide_eq_false_iff_not]
  refine ⟨⟨by omega, ?_, by omega⟩, by omega, by omega⟩
  rcases h2 with h2 | h2
  · exact Or.inl h2
  · exact Or.inr h2
theorem ma_kp {k i : Nat} (h : kp r k i = true) : ma k i = false ∧ k ≠ 840 ∧ k ≠ 842 ∧ k ≠ 865 ∧ k ≠ 866 := by
  unfold kp at h
  simp only [Bool.and_eq_true, Bool.not_eq_true', Bool.and_eq_false_iff, decide_eq_false_iff_not] at h
  obtain ⟨h1, h2, h3⟩ := h
  have h3' : k ≠ 842 ∧ k ≠ 865 ∧ k ≠ 866 := by
    simp only [List.contains_cons, List.contains_nil, Bool.or_false, Bool.or_eq_false_iff, beq_eq_false_iff_ne] at h3
    omega
  have h5 : ¬ (36 ≤ k ∧ k ≤ 46) ∧ ¬ (857 ≤ k ∧ k ≤ 864) ∧ ¬ (867 ≤ k ∧ k ≤ 874) ∧ k ≠ 840 := by
    unfold cor at h1
    simp only [Bool.or_eq_true, Bool.and_eq_true, decide_eq_true_eq, List.contains_cons, List.contains_nil, Bool.or_false, beq_iff_eq] at h1
    omega
  refine ⟨?_, h5.2.2.2, h3'⟩
  unfold ma mb
  simp only [Bool.or_eq_false_iff, decide_eq_false_iff_not]
  omega
end Text

/-! ===== the start ===== -/
theorem opF_eq : ∀ (n j : Nat), opF (fun _ => 0) n j = if 2604 ≤ j ∧ j < 2604 + n then -nI 1 else nI 0
  | 0, j => by
    rw [if_neg (by omega)]
    rfl
  | n + 1, j => by
    show upd (opF (fun _ => 0) n) (2604 + n) (-1) j = _
    rw [upd_at, opF_eq n j]
    by_cases c : j = 2604 + n
    · rw [if_pos c, if_pos (show 2604 ≤ j ∧ j < 2604 + (n + 1) by omega)]
      rfl
    · rw [if_neg c]
      by_cases c2 : 2604 ≤ j ∧ j < 2604 + n
      · rw [if_pos c2, if_pos (show 2604 ≤ j ∧ j < 2604 + (n + 1) by omega)]
      · rw [if_neg c2, if_neg (show ¬ (2604 ≤ j ∧ j < 2604 + (n + 1)) by omega)]
def R0 : RT := mkR 0 0 0 0 60 3 (fun _ => 0) (fun _ => 0) (fun _ => 0) (fun _ => 0) (fun _ => 0)
theorem IV0 : IV σ0 R0 := by
  have hν : ∀ j, j < 2689 → σ0.1 34 0 j = txP (fun _ => 0) (fun _ => 0) (fun _ => 0) 0 0 j := fun j hj => by
    show opF (fun _ => 0) 40 j = _
    rw [opF_eq]
    unfold txP txL tx0
    rw [if_neg (show ¬ (2672 ≤ j ∧ j < 2672 + 0) by omega), if_neg (show ¬ (2660 ≤ j ∧ j < 2660 + 0) by omega), if_neg (show ¬ (2666 ≤ j ∧ j < 2666 + 0) by omega)]
  have zz : ∀ j, j < 2604 ∨ (2644 ≤ j ∧ j < 2660) ∨ j = 2688 → σ0.1 34 0 j = nI 0 := fun j hj => by
    rw [hν j (by omega)]; exact tx_z hj (by decide) (by decide)
  have n0 : ∀ k, ¬ k < (0 : Nat) := Nat.not_lt_zero
  refine ⟨⟨by decide, by decide, by decide, by decide, by decide, by decide, fun l hl => absurd hl (n0 l), fun s hs => absurd hs (n0 s), fun s k hs => absurd hs (n0 s), fun s k j hs => absurd hs (n0 s), fun h => absurd h (n0 0)⟩, ⟨rfl, rfl, rfl, rfl, rfl, rfl, fun l hl => absurd hl (n0 l), fun s hs => absurd hs (n0 s), fun s hs => absurd hs (n0 s), fun s k hs => absurd hs (n0 s), fun s k hs => absurd hs (n0 s)⟩, ⟨by decide, by decide, by decide⟩, ⟨rfl, rfl, rfl, rfl, rfl, rfl, fun l hl => absurd hl (n0 l), fun s hs => absurd hs (n0 s), fun s hs => absurd hs (n0 s), fun s k hs => absurd hs (n0 s), fun s k hs => absurd hs (n0 s)⟩, ⟨⟨fun l hl => absurd hl (n0 l), fun l hl => absurd hl (n0 l), fun l hl => absurd hl (n0 l), fun j hj => absurd hj (n0 j)⟩, fun l hl => ?_, fun l hl => ?_, fun l hl => ?_, fun l hl => ?_, fun l hl => ?_, fun l hl => ?_, fun l hl => ?_, fun l hl => ?_, ?_⟩, ?_, ⟨0, 0, by decide, by decide, rfl, rfl, rfl, fun j hj => absurd hj (n0 j)⟩, ⟨0, by decide, rfl, rfl, fun j hj => absurd hj (n0 j)⟩, rfl, rfl⟩
  · rw [zz _ (by omega)]; rfl
  · rw [zz _ (by omega)]; rfl
  · rw [zz _ (by omega)]; rfl
  · rw [zz _ (by omega)]; rfl
  · rw [zz _ (by omega)]; rfl
  · rw [zz _ (by omega), zz _ (by omega)]; rfl
  · rw [zz _ (by omega)]; rfl
  · rw [zz _ (by omega)]; rfl
  · rw [zz _ (by omega)]; rfl
  · exact newV (by decide) (by decide) (by decide) (fun s hs => absurd hs (n0 s)) hν (fun l hl => absurd hl (n0 l)) (fun l hl => absurd hl (n0 l))

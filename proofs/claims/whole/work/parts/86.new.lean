/-! ===== a new roll ===== -/
def mkR (L P S ln ld kq : Nat) (F1 F2 F3 F4 F5 : Nat → Nat) : RT
  | 0, 0 => L
  | 0, 1 => P
  | 0, 2 => S
  | 0, 3 => ln
  | 0, 4 => ld
  | 0, 5 => kq
  | 1, j => F1 j
  | 2, j => F2 j
  | 3, j => F3 j
  | 4, j => F4 j
  | 5, j => F5 j
  | _, _ => 0
section New
variable {L P S ln ld kq : Nat} {F1 F2 F3 F4 F5 : Nat → Nat} {ν : NU} {A B C : Nat → Int32}
theorem tx_z {j : Nat} (h : j < 2604 ∨ (2644 ≤ j ∧ j < 2660) ∨ j = 2688) (hL : L ≤ 6) (hP : P ≤ 16) : txP A B C L P j = nI 0 := by
  unfold txP txL tx0
  rw [if_neg (by omega), if_neg (by omega), if_neg (by omega), if_neg (by omega)]
theorem tx_m {j : Nat} (h : j < 40) (hL : L ≤ 6) (hP : P ≤ 16) : txP A B C L P (2604 + j) = -nI 1 := by
  unfold txP txL tx0
  rw [if_neg (by omega), if_neg (by omega), if_neg (by omega), if_pos (by omega)]
theorem tx_A {l : Nat} (h : l < L) (hL : L ≤ 6) : txP A B C L P (2660 + l) = A l := by
  unfold txP txL
  rw [if_neg (by omega), if_pos (by omega), Nat.add_sub_cancel_left]
theorem tx_B {l : Nat} (h : l < L) (hL : L ≤ 6) : txP A B C L P (2666 + l) = B l := by
  unfold txP txL
  rw [if_neg (by omega), if_neg (by omega), if_pos (by omega), Nat.add_sub_cancel_left]
theorem tx_C {p : Nat} (h : p < P) : txP A B C L P (2672 + p) = C p := by
  unfold txP
  rw [if_pos (by omega), Nat.add_sub_cancel_left]
theorem si_0 {f : Nat → Int} : ∀ n, (∀ k, k < n → f k = 0) → fb_si f n = 0
  | 0, _ => rfl
  | n + 1, h => by
    show fb_si f n + f n = 0
    rw [si_0 n (fun k hk => h k (by omega)), h n (by omega)]
    rfl
theorem newV (hL : L ≤ 6) (hP : P ≤ 16) (hS : S ≤ 8) (h3 : ∀ s, s < S → F3 s ≤ 5) (hν : ∀ j, j < 2689 → ν j = txP A B C L P j) (hB : ∀ l, l < L → ∃ v, 1 ≤ v ∧ v ≤ 3 ∧ B l = nI v) (hC : ∀ p, p < P → ∃ v, v < L ∧ C p = nI v) : VO (mkR L P S ln ld kq F1 F2 F3 F4 F5) ν := by
  have z : ∀ j, j < 2604 → ν j = nI 0 := fun j hj => by rw [hν j (by omega)]; exact tx_z (Or.inl hj) hL hP
  have zi : ∀ j, j < 2604 → mI ν j = 0 := fun j hj => by
    show (ν j).toInt = 0
    rw [z j hj]
    rfl
  refine ⟨⟨fun p hp => ?_, fun s t hs ht => Or.inl ?_⟩, ⟨fun p l hp hl _ => ⟨z _ (by omega), z _ (by omega)⟩, fun l hl _ => ⟨z _ (by omega), z _ (by omega)⟩, fun l s t a hl hs ht ha _ => z _ (by omega), fun l s t hl hs ht _ => z _ (by omega)⟩, ⟨fun j hj => by rw [zi j hj]; exact Int.le_refl 0, fun l hl => ⟨?_, ?_, ?_⟩, fun j hj => ?_⟩, ⟨0, by decide, ?_⟩, fun l hl => ?_⟩
  · have hp : p < P := hp
    obtain ⟨v, v1, v2⟩ := hC p hp
    exact ⟨v, v1, by rw [hν _ (by omega), tx_C hp, v2]⟩
  · have hs : s < S := hs
    have ht : t < F3 s := ht
    have := h3 s hs
    rw [Nat.add_assoc, hν _ (by omega)]
    exact tx_m (by omega) hL hP
  · rw [zi _ (by omega)]; decide
  · rw [zi _ (by omega), zi _ (by omega), si_0 16 (fun p hp => zi _ (by omega)), si_0 360 (fun j hj => zi _ (by omega))]
    rfl
  · rw [si_0 40 (fun j hj => zi _ (by omega)), zi _ (by omega)]
    exact Int.le_refl 0
  · rw [zi _ (by omega), zi _ (by omega)]
    exact Int.le_refl 0
  · rw [hν _ (by decide)]
    exact tx_z (Or.inr (Or.inr rfl)) hL hP
  · have hl : l < L := hl
    obtain ⟨v, v1, v2, v3⟩ := hB l hl
    exact ⟨v, v1, v2, by rw [hν _ (by omega), tx_B hl hL, v3]⟩
end New

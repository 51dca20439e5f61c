/-! ===== money moved: the class's rows and the reference's row ===== -/
section Rows
variable {σ τ : ST} {R : RT} {ν μ : NU}
theorem add_sub_add (a b c : Int32) : a + c - (b + c) = a - b := by
  rw [Int32.sub_eq_add_neg, Int32.neg_add, Int32.sub_eq_add_neg, Int32.sub_eq_add_neg, Int32.add_assoc, Int32.add_comm (-b), ← Int32.add_assoc c, Int32.add_right_neg, Int32.zero_add]
theorem sub_add_c (a b c : Int32) : a - b + c = a + c - b := by
  rw [Int32.sub_eq_add_neg, Int32.sub_eq_add_neg, Int32.add_assoc, Int32.add_comm (-b), ← Int32.add_assoc]
theorem BR.r0 {j : Nat} {v : Int32} (b : BR σ 0 R ν) (ho : RO R) (hj : j < 6) : BR (setR σ 0 0 (upd (σ.1 0 0) j v)) 0 R (upd ν (192 + j) v) := by
  have o1 := ho.L
  have o2 := ho.P
  have o3 := ho.S
  obtain ⟨⟨w1, w2, w3, w4⟩, h2, h3, h4, h5, h6, h7, h8, h9, h10⟩ := b
  refine ⟨⟨fun l hl => ?_, fun l hl => ?_, fun l hl => ?_, fun l hl => ?_⟩, fun l hl => ?_, fun l hl => ?_, fun l hl => ?_, fun l hl => ?_, fun l hl => ?_, fun l hl => ?_, fun l hl => ?_, fun l hl => ?_, ?_⟩
  · rw [rd_ne (by decide), upd_ne (by omega)]; exact w1 l hl
  · rw [rd_ne (by decide), upd_ne (by omega)]; exact w2 l hl
  · rw [rd_ne (by decide), upd_ne (by omega)]; exact w3 l hl
  · rw [rd_ne (by decide), upd_ne (by omega)]; exact w4 l hl
  · rw [rd_eq, upd_at, upd_at]
    by_cases c : l = j
    · rw [if_pos c, if_pos (by omega)]
    · rw [if_neg c, if_neg (by omega)]; exact h2 l hl
  · rw [rd_ne (by decide), upd_ne (by omega)]; exact h3 l hl
  · rw [rd_ne (by decide), upd_ne (by omega)]; exact h4 l hl
  · rw [rd_ne (by decide), upd_ne (by omega)]; exact h5 l hl
  · rw [rd_ne (by decide), upd_ne (by omega)]; exact h6 l hl
  · rw [rd_ne (by decide), upd_ne (by omega), upd_ne (by omega)]; exact h7 l hl
  · rw [rd_ne (by decide), upd_ne (by omega)]; exact h8 l hl
  · rw [rd_ne (by decide), upd_ne (by omega)]; exact h9 l hl
  · rw [rd_ne (by decide), upd_ne (by omega)]; exact h10
theorem BR.r1 {j : Nat} {v : Int32} (b : BR σ 0 R ν) (ho : RO R) (hj : j < 6) : BR (setR σ 1 0 (upd (σ.1 1 0) j v)) 0 R (upd ν (198 + j) v) := by
  have o1 := ho.L
  have o2 := ho.P
  have o3 := ho.S
  obtain ⟨⟨w1, w2, w3, w4⟩, h2, h3, h4, h5, h6, h7, h8, h9, h10⟩ := b
  refine ⟨⟨fun l hl => ?_, fun l hl => ?_, fun l hl => ?_, fun l hl => ?_⟩, fun l hl => ?_, fun l hl => ?_, fun l hl => ?_, fun l hl => ?_, fun l hl => ?_, fun l hl => ?_, fun l hl => ?_, fun l hl => ?_, ?_⟩
  · rw [rd_ne (by decide), upd_ne (by omega)]; exact w1 l hl
  · rw [rd_ne (by decide), upd_ne (by omega)]; exact w2 l hl
  · rw [rd_ne (by decide), upd_ne (by omega)]; exact w3 l hl
  · rw [rd_ne (by decide), upd_ne (by omega)]; exact w4 l hl
  · rw [rd_ne (by decide), upd_ne (by omega)]; exact h2 l hl
  · rw [rd_eq, upd_at, upd_at]
    by_cases c : l = j
    · rw [if_pos c, if_pos (by omega)]
    · rw [if_neg c, if_neg (by omega)]; exact h3 l hl
  · rw [rd_ne (by decide), upd_ne (by omega)]; exact h4 l hl
  · rw [rd_ne (by decide), upd_ne (by omega)]; exact h5 l hl
  · rw [rd_ne (by decide), upd_ne (by omega)]; exact h6 l hl
  · rw [rd_ne (by decide), upd_ne (by omega), upd_ne (by omega)]; exact h7 l hl
  · rw [rd_ne (by decide), upd_ne (by omega)]; exact h8 l hl
  · rw [rd_ne (by decide), upd_ne (by omega)]; exact h9 l hl
  · rw [rd_ne (by decide), upd_ne (by omega)]; exact h10
theorem BR.r2 {j : Nat} {v : Int32} (b : BR σ 0 R ν) (ho : RO R) (hj : j < 8) : BR (setR σ 2 0 (upd (σ.1 2 0) j v)) 0 R (upd ν (2652 + j) v) := by
  have o1 := ho.L
  have o2 := ho.P
  have o3 := ho.S
  obtain ⟨⟨w1, w2, w3, w4⟩, h2, h3, h4, h5, h6, h7, h8, h9, h10⟩ := b
  refine ⟨⟨fun l hl => ?_, fun l hl => ?_, fun l hl => ?_, fun l hl => ?_⟩, fun l hl => ?_, fun l hl => ?_, fun l hl => ?_, fun l hl => ?_, fun l hl => ?_, fun l hl => ?_, fun l hl => ?_, fun l hl => ?_, ?_⟩
  · rw [rd_ne (by decide), upd_ne (by omega)]; exact w1 l hl
  · rw [rd_ne (by decide), upd_ne (by omega)]; exact w2 l hl
  · rw [rd_ne (by decide), upd_ne (by omega)]; exact w3 l hl
  · rw [rd_ne (by decide), upd_ne (by omega)]; exact w4 l hl
  · rw [rd_ne (by decide), upd_ne (by omega)]; exact h2 l hl
  · rw [rd_ne (by decide), upd_ne (by omega)]; exact h3 l hl
  · rw [rd_eq, upd_at, upd_at]
    by_cases c : l = j
    · rw [if_pos c, if_pos (by omega)]
    · rw [if_neg c, if_neg (by omega)]; exact h4 l hl
  · rw [rd_ne (by decide), upd_ne (by omega)]; exact h5 l hl
  · rw [rd_ne (by decide), upd_ne (by omega)]; exact h6 l hl
  · rw [rd_ne (by decide), upd_ne (by omega), upd_ne (by omega)]; exact h7 l hl
  · rw [rd_ne (by decide), upd_ne (by omega)]; exact h8 l hl
  · rw [rd_ne (by decide), upd_ne (by omega)]; exact h9 l hl
  · rw [rd_ne (by decide), upd_ne (by omega)]; exact h10
theorem BR.r3 {j : Nat} {v : Int32} (b : BR σ 0 R ν) (ho : RO R) (hj : j < 8) : BR (setR σ 3 0 (upd (σ.1 3 0) j v)) 0 R (upd ν (2644 + j) v) := by
  have o1 := ho.L
  have o2 := ho.P
  have o3 := ho.S
  obtain ⟨⟨w1, w2, w3, w4⟩, h2, h3, h4, h5, h6, h7, h8, h9, h10⟩ := b
  refine ⟨⟨fun l hl => ?_, fun l hl => ?_, fun l hl => ?_, fun l hl => ?_⟩, fun l hl => ?_, fun l hl => ?_, fun l hl => ?_, fun l hl => ?_, fun l hl => ?_, fun l hl => ?_, fun l hl => ?_, fun l hl => ?_, ?_⟩
  · rw [rd_ne (by decide), upd_ne (by omega)]; exact w1 l hl
  · rw [rd_ne (by decide), upd_ne (by omega)]; exact w2 l hl
  · rw [rd_ne (by decide), upd_ne (by omega)]; exact w3 l hl
  · rw [rd_ne (by decide), upd_ne (by omega)]; exact w4 l hl
  · rw [rd_ne (by decide), upd_ne (by omega)]; exact h2 l hl
  · rw [rd_ne (by decide), upd_ne (by omega)]; exact h3 l hl
  · rw [rd_ne (by decide), upd_ne (by omega)]; exact h4 l hl
  · rw [rd_eq, upd_at, upd_at]
    by_cases c : l = j
    · rw [if_pos c, if_pos (by omega)]
    · rw [if_neg c, if_neg (by omega)]; exact h5 l hl
  · rw [rd_ne (by decide), upd_ne (by omega)]; exact h6 l hl
  · rw [rd_ne (by decide), upd_ne (by omega), upd_ne (by omega)]; exact h7 l hl
  · rw [rd_ne (by decide), upd_ne (by omega)]; exact h8 l hl
  · rw [rd_ne (by decide), upd_ne (by omega)]; exact h9 l hl
  · rw [rd_ne (by decide), upd_ne (by omega)]; exact h10
theorem BR.r6 {j : Nat} {v : Int32} (b : BR σ 0 R ν) (ho : RO R) (hj : j < 240) : BR (setR σ 6 0 (upd (σ.1 6 0) j v)) 0 R (upd ν (2364 + j) v) := by
  have o1 := ho.L
  have o2 := ho.P
  have o3 := ho.S
  obtain ⟨⟨w1, w2, w3, w4⟩, h2, h3, h4, h5, h6, h7, h8, h9, h10⟩ := b
  refine ⟨⟨fun l hl => ?_, fun l hl => ?_, fun l hl => ?_, fun l hl => ?_⟩, fun l hl => ?_, fun l hl => ?_, fun l hl => ?_, fun l hl => ?_, fun l hl => ?_, fun l hl => ?_, fun l hl => ?_, fun l hl => ?_, ?_⟩
  · rw [rd_ne (by decide), upd_ne (by omega)]; exact w1 l hl
  · rw [rd_ne (by decide), upd_ne (by omega)]; exact w2 l hl
  · rw [rd_ne (by decide), upd_ne (by omega)]; exact w3 l hl
  · rw [rd_ne (by decide), upd_ne (by omega)]; exact w4 l hl
  · rw [rd_ne (by decide), upd_ne (by omega)]; exact h2 l hl
  · rw [rd_ne (by decide), upd_ne (by omega)]; exact h3 l hl
  · rw [rd_ne (by decide), upd_ne (by omega)]; exact h4 l hl
  · rw [rd_ne (by decide), upd_ne (by omega)]; exact h5 l hl
  · rw [rd_ne (by decide), upd_ne (by omega)]; exact h6 l hl
  · rw [rd_ne (by decide), upd_ne (by omega), upd_ne (by omega)]; exact h7 l hl
  · rw [rd_eq, upd_at, upd_at]
    by_cases c : l = j
    · rw [if_pos c, if_pos (by omega)]
    · rw [if_neg c, if_neg (by omega)]; exact h8 l hl
  · rw [rd_ne (by decide), upd_ne (by omega)]; exact h9 l hl
  · rw [rd_ne (by decide), upd_ne (by omega)]; exact h10
theorem BR.r7 {j : Nat} {v : Int32} (b : BR σ 0 R ν) (ho : RO R) (hj : j < 2160) : BR (setR σ 7 0 (upd (σ.1 7 0) j v)) 0 R (upd ν (204 + j) v) := by
  have o1 := ho.L
  have o2 := ho.P
  have o3 := ho.S
  obtain ⟨⟨w1, w2, w3, w4⟩, h2, h3, h4, h5, h6, h7, h8, h9, h10⟩ := b
  refine ⟨⟨fun l hl => ?_, fun l hl => ?_, fun l hl => ?_, fun l hl => ?_⟩, fun l hl => ?_, fun l hl => ?_, fun l hl => ?_, fun l hl => ?_, fun l hl => ?_, fun l hl => ?_, fun l hl => ?_, fun l hl => ?_, ?_⟩
  · rw [rd_ne (by decide), upd_ne (by omega)]; exact w1 l hl
  · rw [rd_ne (by decide), upd_ne (by omega)]; exact w2 l hl
  · rw [rd_ne (by decide), upd_ne (by omega)]; exact w3 l hl
  · rw [rd_ne (by decide), upd_ne (by omega)]; exact w4 l hl
  · rw [rd_ne (by decide), upd_ne (by omega)]; exact h2 l hl
  · rw [rd_ne (by decide), upd_ne (by omega)]; exact h3 l hl
  · rw [rd_ne (by decide), upd_ne (by omega)]; exact h4 l hl
  · rw [rd_ne (by decide), upd_ne (by omega)]; exact h5 l hl
  · rw [rd_ne (by decide), upd_ne (by omega)]; exact h6 l hl
  · rw [rd_ne (by decide), upd_ne (by omega), upd_ne (by omega)]; exact h7 l hl
  · rw [rd_ne (by decide), upd_ne (by omega)]; exact h8 l hl
  · rw [rd_eq, upd_at, upd_at]
    by_cases c : l = j
    · rw [if_pos c, if_pos (by omega)]
    · rw [if_neg c, if_neg (by omega)]; exact h9 l hl
  · rw [rd_ne (by decide), upd_ne (by omega)]; exact h10
theorem BR.r27 {j : Nat} {v : Int32} (b : BR σ 0 R ν) (ho : RO R) (hj : j < 40) : BR (setR σ 27 0 (upd (σ.1 27 0) j (hol v))) 0 R (upd ν (2604 + j) v) := by
  have o1 := ho.L
  have o2 := ho.P
  have o3 := ho.S
  obtain ⟨⟨w1, w2, w3, w4⟩, h2, h3, h4, h5, h6, h7, h8, h9, h10⟩ := b
  refine ⟨⟨fun l hl => ?_, fun l hl => ?_, fun l hl => ?_, fun l hl => ?_⟩, fun l hl => ?_, fun l hl => ?_, fun l hl => ?_, fun l hl => ?_, fun l hl => ?_, fun l hl => ?_, fun l hl => ?_, fun l hl => ?_, ?_⟩
  · rw [rd_ne (by decide), upd_ne (by omega)]; exact w1 l hl
  · rw [rd_ne (by decide), upd_ne (by omega)]; exact w2 l hl
  · rw [rd_ne (by decide), upd_ne (by omega)]; exact w3 l hl
  · rw [rd_eq, upd_at, upd_at]
    by_cases c : l = j
    · rw [if_pos c, if_pos (by omega)]
    · rw [if_neg c, if_neg (by omega)]; exact w4 l hl
  · rw [rd_ne (by decide), upd_ne (by omega)]; exact h2 l hl
  · rw [rd_ne (by decide), upd_ne (by omega)]; exact h3 l hl
  · rw [rd_ne (by decide), upd_ne (by omega)]; exact h4 l hl
  · rw [rd_ne (by decide), upd_ne (by omega)]; exact h5 l hl
  · rw [rd_ne (by decide), upd_ne (by omega)]; exact h6 l hl
  · rw [rd_ne (by decide), upd_ne (by omega), upd_ne (by omega)]; exact h7 l hl
  · rw [rd_ne (by decide), upd_ne (by omega)]; exact h8 l hl
  · rw [rd_ne (by decide), upd_ne (by omega)]; exact h9 l hl
  · rw [rd_ne (by decide), upd_ne (by omega)]; exact h10
theorem BR.w4 {p l : Nat} {c : Int32} (b : BR σ 0 R ν) (ho : RO R) (hp : p < 16) (hl : l < 6) : BR (setR σ 4 0 (upd (σ.1 4 0) (p * 6 + l) (σ.1 4 0 (p * 6 + l) + c))) 0 R (upd (upd ν (6 * p + l) (ν (6 * p + l) + c)) (96 + 6 * p + l) (ν (96 + 6 * p + l) + c)) := by
  have o1 := ho.L
  have o2 := ho.P
  have o3 := ho.S
  have bw := b.wt hp hl
  have bb := b.bp hp hl
  obtain ⟨⟨w1, w2, w3, w4⟩, h2, h3, h4, h5, h6, h7, h8, h9, h10⟩ := b
  refine ⟨⟨fun k hk => ?_, fun k hk => ?_, fun k hk => ?_, fun k hk => ?_⟩, fun k hk => ?_, fun k hk => ?_, fun k hk => ?_, fun k hk => ?_, fun k hk => ?_, fun k hk => ?_, fun k hk => ?_, fun k hk => ?_, ?_⟩
  · rw [rd_ne (by decide), upd_ne (by omega), upd_ne (by omega)]; exact w1 k hk
  · rw [rd_ne (by decide), upd_ne (by omega), upd_ne (by omega)]; exact w2 k hk
  · rw [rd_ne (by decide), upd_ne (by omega), upd_ne (by omega)]; exact w3 k hk
  · rw [rd_ne (by decide), upd_ne (by omega), upd_ne (by omega)]; exact w4 k hk
  · rw [rd_ne (by decide), upd_ne (by omega), upd_ne (by omega)]; exact h2 k hk
  · rw [rd_ne (by decide), upd_ne (by omega), upd_ne (by omega)]; exact h3 k hk
  · rw [rd_ne (by decide), upd_ne (by omega), upd_ne (by omega)]; exact h4 k hk
  · rw [rd_ne (by decide), upd_ne (by omega), upd_ne (by omega)]; exact h5 k hk
  · rw [rd_eq, upd_at, upd_at]
    by_cases c1 : k = p * 6 + l
    · rw [if_pos c1, if_pos (by omega), bw]
    · rw [if_neg c1, if_neg (by omega), upd_ne (by omega)]; exact h6 k hk
  · rw [rd_ne (by decide), h7 k hk, upd_ne (show k ≠ 96 + 6 * p + l by omega), upd_at, upd_at, upd_ne (show 96 + k ≠ 6 * p + l by omega)]
    by_cases c1 : k = 6 * p + l
    · rw [if_pos c1, if_pos (by omega), c1, show 96 + (6 * p + l) = 96 + 6 * p + l by omega]
      exact (add_sub_add _ _ _).symm
    · rw [if_neg c1, if_neg (by omega)]
  · rw [rd_ne (by decide), upd_ne (by omega), upd_ne (by omega)]; exact h8 k hk
  · rw [rd_ne (by decide), upd_ne (by omega), upd_ne (by omega)]; exact h9 k hk
  · rw [rd_ne (by decide), upd_ne (by omega), upd_ne (by omega)]; exact h10
theorem BR.w5 {p l : Nat} {c : Int32} (b : BR σ 0 R ν) (ho : RO R) (hp : p < 16) (hl : l < 6) : BR (setR σ 5 0 (upd (σ.1 5 0) (p * 6 + l) (σ.1 5 0 (p * 6 + l) + c))) 0 R (upd ν (6 * p + l) (ν (6 * p + l) + c)) := by
  have o1 := ho.L
  have o2 := ho.P
  have o3 := ho.S
  have bw := b.wt hp hl
  have bb := b.bp hp hl
  obtain ⟨⟨w1, w2, w3, w4⟩, h2, h3, h4, h5, h6, h7, h8, h9, h10⟩ := b
  refine ⟨⟨fun k hk => ?_, fun k hk => ?_, fun k hk => ?_, fun k hk => ?_⟩, fun k hk => ?_, fun k hk => ?_, fun k hk => ?_, fun k hk => ?_, fun k hk => ?_, fun k hk => ?_, fun k hk => ?_, fun k hk => ?_, ?_⟩
  · rw [rd_ne (by decide), upd_ne (by omega)]; exact w1 k hk
  · rw [rd_ne (by decide), upd_ne (by omega)]; exact w2 k hk
  · rw [rd_ne (by decide), upd_ne (by omega)]; exact w3 k hk
  · rw [rd_ne (by decide), upd_ne (by omega)]; exact w4 k hk
  · rw [rd_ne (by decide), upd_ne (by omega)]; exact h2 k hk
  · rw [rd_ne (by decide), upd_ne (by omega)]; exact h3 k hk
  · rw [rd_ne (by decide), upd_ne (by omega)]; exact h4 k hk
  · rw [rd_ne (by decide), upd_ne (by omega)]; exact h5 k hk
  · rw [rd_ne (by decide), upd_ne (by omega)]; exact h6 k hk
  · rw [rd_eq, upd_at, upd_at, upd_ne (show 96 + k ≠ 6 * p + l by omega)]
    by_cases c1 : k = p * 6 + l
    · rw [if_pos c1, if_pos (by omega), bb, c1, show 96 + (p * 6 + l) = 96 + 6 * p + l by omega]
      exact sub_add_c _ _ _
    · rw [if_neg c1, if_neg (by omega)]; exact h7 k hk
  · rw [rd_ne (by decide), upd_ne (by omega)]; exact h8 k hk
  · rw [rd_ne (by decide), upd_ne (by omega)]; exact h9 k hk
  · rw [rd_ne (by decide), upd_ne (by omega)]; exact h10
theorem BR.yr1 {v : Int32} (b : BR σ 0 R ν) (ho : RO R) : BR (setF σ 209 0 v) 0 R (upd ν 2688 v) := by
  have o1 := ho.L
  have o2 := ho.P
  have o3 := ho.S
  obtain ⟨⟨w1, w2, w3, w4⟩, h2, h3, h4, h5, h6, h7, h8, h9, h10⟩ := b
  refine ⟨⟨fun l hl => ?_, fun l hl => ?_, fun l hl => ?_, fun l hl => ?_⟩, fun l hl => ?_, fun l hl => ?_, fun l hl => ?_, fun l hl => ?_, fun l hl => ?_, fun l hl => ?_, fun l hl => ?_, fun l hl => ?_, ?_⟩
  · rw [rf_ne (by decide), upd_ne (by omega)]; exact w1 l hl
  · rw [rf_ne (by decide), upd_ne (by omega)]; exact w2 l hl
  · rw [rf_ne (by decide), upd_ne (by omega)]; exact w3 l hl
  · rw [rf_ne (by decide), upd_ne (by omega)]; exact w4 l hl
  · rw [rf_ne (by decide), upd_ne (by omega)]; exact h2 l hl
  · rw [rf_ne (by decide), upd_ne (by omega)]; exact h3 l hl
  · rw [rf_ne (by decide), upd_ne (by omega)]; exact h4 l hl
  · rw [rf_ne (by decide), upd_ne (by omega)]; exact h5 l hl
  · rw [rf_ne (by decide), upd_ne (by omega)]; exact h6 l hl
  · rw [rf_ne (by decide), upd_ne (by omega), upd_ne (by omega)]; exact h7 l hl
  · rw [rf_ne (by decide), upd_ne (by omega)]; exact h8 l hl
  · rw [rf_ne (by decide), upd_ne (by omega)]; exact h9 l hl
  · rw [rf_eq, upd_eq]
end Rows
/-! money's sums -/
def PDS (ν : NU) (l : Nat) : Int := fb_si (fun p => mI ν (6 * p + l)) 16
def KPS (ν : NU) (l : Nat) : Int := fb_si (fun j => mI ν (204 + 360 * l + j)) 360
def LPS (ν : NU) (l : Nat) : Int := fb_si (fun j => mI ν (2364 + 40 * l + j)) 40
/-- money with some on its way: d is out of land l, e of what has lapsed isn't in the box yet -/
def MP (ν : NU) (l : Nat) (d e : Int) : Prop := (∀ j, j < 2604 → 0 ≤ mI ν j) ∧ (∀ k, k < 6 → mI ν (198 + k) ≤ 300000000 ∧ mI ν (198 + k) = PDS ν k + KPS ν k + mI ν (192 + k) + (if k = l then d else 0) ∧ LPS ν k ≤ mI ν (192 + k) + (if k = l then e else 0)) ∧ (∀ j, j < 96 → mI ν (96 + j) ≤ mI ν j)
section Sums
variable {R : RT} {ν μ : NU}
theorem mI_upd (ν : NU) (j : Nat) (v : Int32) (k : Nat) : mI (upd ν j v) k = if k = j then v.toInt else mI ν k := by
  unfold mI
  rw [upd_at]
  split <;> rfl
theorem mI_ne {j k : Nat} {v : Int32} (h : k ≠ j) : mI (upd ν j v) k = mI ν k := by rw [mI_upd, if_neg h]
theorem MP.of (h : MO R ν) (l : Nat) : MP ν l 0 0 := by
  obtain ⟨h1, h2, h3⟩ := h
  refine ⟨h1, fun k hk => ?_, h3⟩
  have := h2 k hk
  unfold PDS KPS LPS
  split <;> omega
theorem MP.mo {l : Nat} {d e : Int} (h : MP ν l d e) (hd : d = 0) (he : e ≤ 0) : MO R ν := by
  obtain ⟨h1, h2, h3⟩ := h
  refine ⟨h1, fun k hk => ?_, h3⟩
  have := h2 k hk
  unfold PDS KPS LPS at this
  split at this <;> omega
theorem MP.at {l l' : Nat} {d e : Int} (h : MP ν l d e) (hd : d = 0) (he : e ≤ 0) : MP ν l' 0 0 := MP.of (R := fun _ _ => 0) (h.mo hd he) l'
theorem PDS_at {p l : Nat} (hp : p < 16) (hl : l < 6) (v : Int32) (k : Nat) (hk : k < 6) : PDS (upd ν (6 * p + l) v) k = PDS ν k + (if k = l then v.toInt - mI ν (6 * p + l) else 0) := by
  unfold PDS
  by_cases e : k = l
  · subst e
    have h1 : (fun q => mI (upd ν (6 * p + k) v) (6 * q + k)) = fun q => if q = p then v.toInt else mI ν (6 * q + k) := funext fun q => by
      rw [mI_upd]
      by_cases c : q = p
      · subst c; simp
      · rw [if_neg (by omega), if_neg c]
    rw [h1, fb_si_upd (fun q => mI ν (6 * q + k)) _ hp, if_pos rfl]
    omega
  · rw [if_neg e, Int.add_zero]
    exact fb_si_cong (fun q hq => by rw [mI_upd, if_neg (by omega)])
theorem PDS_out {j : Nat} (hj : 96 ≤ j) (v : Int32) (k : Nat) (hk : k < 6) : PDS (upd ν j v) k = PDS ν k := fb_si_cong (fun q hq => by rw [mI_upd, if_neg (by omega)])
theorem KPS_at {l i : Nat} (hl : l < 6) (hi : i < 360) (v : Int32) (k : Nat) (hk : k < 6) : KPS (upd ν (204 + 360 * l + i) v) k = KPS ν k + (if k = l then v.toInt - mI ν (204 + 360 * l + i) else 0) := by
  unfold KPS
  by_cases e : k = l
  · subst e
    have h1 : (fun q => mI (upd ν (204 + 360 * k + i) v) (204 + 360 * k + q)) = fun q => if q = i then v.toInt else mI ν (204 + 360 * k + q) := funext fun q => by
      rw [mI_upd]
      by_cases c : q = i
      · subst c; simp
      · rw [if_neg (by omega), if_neg c]
    rw [h1, fb_si_upd (fun q => mI ν (204 + 360 * k + q)) _ hi, if_pos rfl]
    omega
  · rw [if_neg e, Int.add_zero]
    exact fb_si_cong (fun q hq => by rw [mI_upd, if_neg (by omega)])
theorem KPS_out {j : Nat} (hj : j < 204 ∨ 2364 ≤ j) (v : Int32) (k : Nat) (hk : k < 6) : KPS (upd ν j v) k = KPS ν k := fb_si_cong (fun q hq => by rw [mI_upd, if_neg (by omega)])
theorem LPS_at {l i : Nat} (hl : l < 6) (hi : i < 40) (v : Int32) (k : Nat) (hk : k < 6) : LPS (upd ν (2364 + 40 * l + i) v) k = LPS ν k + (if k = l then v.toInt - mI ν (2364 + 40 * l + i) else 0) := by
  unfold LPS
  by_cases e : k = l
  · subst e
    have h1 : (fun q => mI (upd ν (2364 + 40 * k + i) v) (2364 + 40 * k + q)) = fun q => if q = i then v.toInt else mI ν (2364 + 40 * k + q) := funext fun q => by
      rw [mI_upd]
      by_cases c : q = i
      · subst c; simp
      · rw [if_neg (by omega), if_neg c]
    rw [h1, fb_si_upd (fun q => mI ν (2364 + 40 * k + q)) _ hi, if_pos rfl]
    omega
  · rw [if_neg e, Int.add_zero]
    exact fb_si_cong (fun q hq => by rw [mI_upd, if_neg (by omega)])
theorem LPS_out {j : Nat} (hj : j < 2364 ∨ 2604 ≤ j) (v : Int32) (k : Nat) (hk : k < 6) : LPS (upd ν j v) k = LPS ν k := fb_si_cong (fun q hq => by rw [mI_upd, if_neg (by omega)])
/-- beyond money -/
theorem MP.hi {j l : Nat} {v : Int32} {d e : Int} (h : MP ν l d e) (hj : 2604 ≤ j) : MP (upd ν j v) l d e := by
  obtain ⟨h1, h2, h3⟩ := h
  refine ⟨fun i hi => ?_, fun k hk => ?_, fun i hi => ?_⟩
  · rw [mI_upd, if_neg (by omega)]; exact h1 i hi
  · rw [PDS_out (by omega) v k hk, KPS_out (by omega) v k hk, LPS_out (by omega) v k hk, mI_upd, mI_upd, if_neg (by omega), if_neg (by omega)]; exact h2 k hk
  · rw [mI_upd, mI_upd, if_neg (by omega), if_neg (by omega)]; exact h3 i hi
/-- paid and weighed -/
theorem MP.pw {p l : Nat} {x y : Int32} {d e c : Int} (h : MP ν l d e) (hp : p < 16) (hl : l < 6) (hx : x.toInt = mI ν (6 * p + l) + c) (hy : 0 ≤ y.toInt) (hy2 : y.toInt ≤ x.toInt) : MP (upd (upd ν (6 * p + l) x) (96 + 6 * p + l) y) l (d - c) e := by
  obtain ⟨h1, h2, h3⟩ := h
  refine ⟨fun i hi => ?_, fun k hk => ?_, fun i hi => ?_⟩
  · rw [mI_upd, mI_upd]
    have := h1 i hi
    split
    · exact hy
    · split <;> omega
  · rw [PDS_out (by omega) y k hk, PDS_at hp hl x k hk, KPS_out (by omega) y k hk, KPS_out (by omega) x k hk, LPS_out (by omega) y k hk, LPS_out (by omega) x k hk, mI_ne (show 198 + k ≠ 96 + 6 * p + l by omega), mI_ne (show 198 + k ≠ 6 * p + l by omega), mI_ne (show 192 + k ≠ 96 + 6 * p + l by omega), mI_ne (show 192 + k ≠ 6 * p + l by omega)]
    have := h2 k hk
    by_cases c1 : k = l
    · subst c1
      simp only [if_true] at this ⊢
      omega
    · simp only [c1, if_false] at this ⊢
      omega
  · have := h3 i hi
    rw [mI_upd, mI_upd, mI_upd, mI_upd, if_neg (show ¬ 96 + i = 6 * p + l by omega), if_neg (show ¬ i = 96 + 6 * p + l by omega)]
    by_cases c1 : i = 6 * p + l
    · rw [if_pos (by omega), if_pos c1]; exact hy2
    · rw [if_neg (by omega), if_neg c1]; exact this
/-- paid alone -/
theorem MP.pp {p l : Nat} {x : Int32} {d e c : Int} (h : MP ν l d e) (hp : p < 16) (hl : l < 6) (hx : x.toInt = mI ν (6 * p + l) + c) (hc : 0 ≤ c) : MP (upd ν (6 * p + l) x) l (d - c) e := by
  obtain ⟨h1, h2, h3⟩ := h
  refine ⟨fun i hi => ?_, fun k hk => ?_, fun i hi => ?_⟩
  · rw [mI_upd]
    have := h1 i hi
    split
    · rename_i c1
      rw [c1] at this
      omega
    · exact this
  · rw [PDS_at hp hl x k hk, KPS_out (by omega) x k hk, LPS_out (by omega) x k hk, mI_ne (show 198 + k ≠ 6 * p + l by omega), mI_ne (show 192 + k ≠ 6 * p + l by omega)]
    have := h2 k hk
    by_cases c1 : k = l
    · subst c1
      simp only [if_true] at this ⊢
      omega
    · simp only [c1, if_false] at this ⊢
      omega
  · have := h3 i hi
    rw [mI_upd, mI_upd, if_neg (show ¬ 96 + i = 6 * p + l by omega)]
    split
    · rename_i c1
      rw [c1] at this
      rw [c1]
      omega
    · exact this
/-- into or out of the box -/
theorem MP.bx {l : Nat} {x : Int32} {d e c : Int} (h : MP ν l d e) (hl : l < 6) (hx : x.toInt = mI ν (192 + l) + c) (h0 : 0 ≤ x.toInt) : MP (upd ν (192 + l) x) l (d - c) (e - c) := by
  obtain ⟨h1, h2, h3⟩ := h
  refine ⟨fun i hi => ?_, fun k hk => ?_, fun i hi => ?_⟩
  · rw [mI_upd]
    split
    · exact h0
    · exact h1 i hi
  · rw [PDS_out (by omega) x k hk, KPS_out (by omega) x k hk, LPS_out (by omega) x k hk, mI_upd, mI_upd, if_neg (show ¬ 198 + k = 192 + l by omega)]
    have := h2 k hk
    by_cases c1 : k = l
    · subst c1
      simp only [if_true] at this ⊢
      omega
    · rw [if_neg (show ¬ 192 + k = 192 + l by omega)]
      simp only [c1, if_false] at this ⊢
      exact this
  · rw [mI_upd, mI_upd, if_neg (by omega), if_neg (by omega)]; exact h3 i hi
/-- a land's money -/
theorem MP.mn {l : Nat} {x : Int32} {d e c : Int} (h : MP ν l d e) (hl : l < 6) (hx : x.toInt = mI ν (198 + l) + c) (h0 : 0 ≤ x.toInt) (hm : x.toInt ≤ 300000000) : MP (upd ν (198 + l) x) l (d + c) e := by
  obtain ⟨h1, h2, h3⟩ := h
  refine ⟨fun i hi => ?_, fun k hk => ?_, fun i hi => ?_⟩
  · rw [mI_upd]
    split
    · exact h0
    · exact h1 i hi
  · rw [PDS_out (by omega) x k hk, KPS_out (by omega) x k hk, LPS_out (by omega) x k hk, mI_upd, mI_upd, if_neg (show ¬ 192 + k = 198 + l by omega)]
    have := h2 k hk
    by_cases c1 : k = l
    · subst c1
      simp only [if_true] at this ⊢
      omega
    · rw [if_neg (show ¬ 198 + k = 198 + l by omega)]
      simp only [c1, if_false] at this ⊢
      exact this
  · rw [mI_upd, mI_upd, if_neg (by omega), if_neg (by omega)]; exact h3 i hi
/-- kept -/
theorem MP.kp {l i : Nat} {x : Int32} {d e : Int} (h : MP ν l d e) (hl : l < 6) (hi : i < 360) (h0 : 0 ≤ x.toInt) : MP (upd ν (204 + 360 * l + i) x) l (d - (x.toInt - mI ν (204 + 360 * l + i))) e := by
  obtain ⟨h1, h2, h3⟩ := h
  refine ⟨fun j hj => ?_, fun k hk => ?_, fun j hj => ?_⟩
  · rw [mI_upd]
    split
    · exact h0
    · exact h1 j hj
  · rw [PDS_out (by omega) x k hk, KPS_at hl hi x k hk, LPS_out (by omega) x k hk, mI_ne (show 198 + k ≠ 204 + 360 * l + i by omega), mI_ne (show 192 + k ≠ 204 + 360 * l + i by omega)]
    have := h2 k hk
    by_cases c1 : k = l
    · subst c1
      simp only [if_true] at this ⊢
      omega
    · simp only [c1, if_false] at this ⊢
      omega
  · rw [mI_upd, mI_upd, if_neg (by omega), if_neg (by omega)]; exact h3 j hj
/-- lapsed -/
theorem MP.lp {l i : Nat} {x : Int32} {d e : Int} (h : MP ν l d e) (hl : l < 6) (hi : i < 40) (h0 : 0 ≤ x.toInt) : MP (upd ν (2364 + 40 * l + i) x) l d (e + (x.toInt - mI ν (2364 + 40 * l + i))) := by
  obtain ⟨h1, h2, h3⟩ := h
  refine ⟨fun j hj => ?_, fun k hk => ?_, fun j hj => ?_⟩
  · rw [mI_upd]
    split
    · exact h0
    · exact h1 j hj
  · rw [PDS_out (by omega) x k hk, KPS_out (by omega) x k hk, LPS_at hl hi x k hk, mI_ne (show 198 + k ≠ 2364 + 40 * l + i by omega), mI_ne (show 192 + k ≠ 2364 + 40 * l + i by omega)]
    have := h2 k hk
    by_cases c1 : k = l
    · subst c1
      simp only [if_true] at this ⊢
      omega
    · simp only [c1, if_false] at this ⊢
      omega
  · rw [mI_upd, mI_upd, if_neg (by omega), if_neg (by omega)]; exact h3 j hj
end Sums

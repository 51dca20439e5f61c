/-! ===== sets as bits, roles, seats ===== -/
def bset (p : Nat → Bool) : Nat → Nat
  | 0 => 0
  | n + 1 => bset p n + (if p n then 2 ^ n else 0)
theorem bset_succ (p : Nat → Bool) (n : Nat) : bset p (n + 1) = bset p n + (if p n then 2 ^ n else 0) := rfl
theorem bset_lt (p : Nat → Bool) : ∀ n, bset p n < 2 ^ n
  | 0 => Nat.zero_lt_one
  | n + 1 => by
    have := bset_lt p n
    rw [bset_succ, Nat.pow_succ]
    split <;> omega
theorem bset_cong {p q : Nat → Bool} : ∀ {n : Nat}, (∀ k, k < n → p k = q k) → bset p n = bset q n
  | 0, _ => rfl
  | n + 1, h => by rw [bset_succ, bset_succ, bset_cong (n := n) (fun k hk => h k (by omega)), h n (by omega)]
theorem bset_tb (p : Nat → Bool) : ∀ n j, (bset p n).testBit j = (decide (j < n) && p j)
  | 0, j => by simp [bset]
  | n + 1, j => by
    have hl := bset_lt p n
    have ih := bset_tb p n j
    rw [bset_succ]
    by_cases hp : p n = true
    · rw [if_pos hp, Nat.add_comm, ← Nat.mul_one (2 ^ n), Nat.two_pow_add_eq_or_of_lt hl 1, Nat.testBit_or, ih, Nat.mul_one, Nat.testBit_two_pow]
      by_cases e : n = j
      · subst e; simp [hp]
      · have : (j < n + 1) = (j < n) := propext (by omega)
        simp [e, this]
    · rw [if_neg hp, Nat.add_zero, ih]
      by_cases e : n = j
      · subst e; simp [ts_nt hp]
      · have : (j < n + 1) = (j < n) := propext (by omega)
        simp [this]
theorem shl1 : ∀ {k : Nat}, k < 31 → nI 1 <<< (nI k &&& nI 31) = nI (2 ^ k) := by
  intro k hk
  have key : ∀ k, k < 31 → nI 1 <<< (nI k &&& nI 31) = nI (2 ^ k) := by decide +kernel
  exact key k hk
theorem or_set {p : Nat → Bool} {k : Nat} : nI (bset p k) ||| nI (2 ^ k) = nI (bset p k + 2 ^ k) := by
  have hl := bset_lt p k
  rw [fa_or]
  congr 1
  rw [Nat.or_comm, Nat.add_comm]
  have := Nat.two_pow_add_eq_or_of_lt hl 1
  rw [Nat.mul_one] at this
  exact this.symm
theorem or_n0 (a : Int32) : a ||| nI 0 = a := by
  apply b_ext
  intro i hi
  rw [b_or]
  show (bt a i || bt 0 i) = _
  rw [b_0, Bool.or_false]
theorem sI_b01 (p : Nat → Bool) : ∀ n, sI (fun k => b01 (p k)) n = nI (fb_ct p n)
  | 0 => rfl
  | n + 1 => by
    rw [sI_succ, sI_b01 p n, fb_ct_succ]
    unfold b01
    split <;> rw [nI_add]
def bcI (a0 : Int32) : Int32 :=
  let x1 := a0 - ((ushr a0 1) &&& 1431655765)
  let x2 := (x1 &&& 858993459) + ((ushr x1 2) &&& 858993459)
  let x3 := (x2 + (ushr x2 4)) &&& 252645135
  let x4 := x3 + (ushr x3 8)
  let x5 := x4 + (ushr x4 16)
  x5 &&& 63
theorem bcI_eq : ∀ m, m < 32 → bcI (nI m) = nI (m % 2 + m / 2 % 2 + m / 4 % 2 + m / 8 % 2 + m / 16 % 2) := by decide +kernel
theorem Jk_bitCount_eq {σ : ST} {p : Nat → Bool} {n : Nat} (hn : n ≤ 5) : Jk_bitCount σ (nI (bset p n)) = some (sI (fun t => b01 (p t)) n) := by
  have hl := bset_lt p n
  have h5 : (2 : Nat) ^ n ≤ 2 ^ 5 := Nat.pow_le_pow_right (by decide) hn
  rw [sI_b01]
  show some (bcI (nI (bset p n))) = _
  rw [bcI_eq _ (by omega)]
  congr 2
  rcases (show n = 0 ∨ n = 1 ∨ n = 2 ∨ n = 3 ∨ n = 4 ∨ n = 5 by omega) with rfl | rfl | rfl | rfl | rfl | rfl <;> simp only [bset, fb_ct] <;> cases p 0 <;> cases p 1 <;> cases p 2 <;> cases p 3 <;> cases p 4 <;> rfl
theorem neg_lt0 {b : Nat} (hb : 0 < b ∧ b < 2147483648) : (-nI b < nI 0) = True := by
  apply eq_true
  have hb2 : (-nI b).toInt = -(b : Int) := by
    rw [fb_negI (by rw [nI_toInt hb.2]; omega), nI_toInt hb.2]
  rw [fa_lt, hb2, nI_toInt (by decide)]
  omega
theorem neg_ge0 {b : Nat} (hb : 0 < b ∧ b < 2147483648) : (nI 0 ≤ -nI b) = False := by
  apply eq_false
  have hb2 : (-nI b).toInt = -(b : Int) := by
    rw [fb_negI (by rw [nI_toInt hb.2]; omega), nI_toInt hb.2]
  rw [fa_le, hb2, nI_toInt (by decide)]
  omega
theorem nix_ne {x : Int32} {n j : Nat} (hx : x < nI 0 ∨ nI n ≤ x) (hj : j < n) (hn : n < 2147483648) : (x = nI j) = False := by
  apply eq_false
  rintro rfl
  rcases hx with q | q
  · exact of_eq_false (nlt_f (Nat.zero_le _) (by omega)) q
  · exact of_eq_false (nle_f hj hn) q
theorem nix_if {α : Type} {A B : α} {x : Int32} {n : Nat} (hx : x < nI 0 ∨ nI (n + 1) ≤ x) (hn : n < 2147483647) : (if x < nI 0 then A else if x ≤ nI n then B else A) = A := by
  rcases hx with q | q
  · simp only [q, if_true]
  · have : ¬ x ≤ nI n := fun h => of_eq_false (nle_f (show n < n + 1 by omega) (by omega)) (Int32.le_trans q h)
    simp only [this, if_false, ite_self]
section Seats
variable {σ : ST} {R : RT} {ν : NU} {r i : Nat}
theorem roleP_or (ho : RO R) {p s : Nat} (hs : s < R 0 2) : roleP R ν p s = -nI 2 ∨ ∃ a, a < 3 ∧ roleP R ν p s = nI a := by
  unfold roleP
  split
  · rename_i h
    have := ho.m hs h
    exact Or.inr ⟨_, by omega, rfl⟩
  · split
    · exact Or.inr ⟨2, by decide, rfl⟩
    · exact Or.inl rfl
theorem seatP_or {s : Nat} : seatP R ν s = -nI 1 ∨ ∃ t, t < R 3 s ∧ seatP R ν s = nI t ∧ ν (2604 + 5 * s + t) = -nI 1 := by
  unfold seatP
  split
  · rename_i h
    have := fd_yes h
    simp only [own, decide_eq_true_eq] at this
    exact Or.inr ⟨_, h, rfl, this⟩
  · exact Or.inl rfl
def inP (R : RT) (ν : NU) (p s : Nat) : Bool := !decide (roleP R ν p s = -nI 2)
theorem roleP_lt0 (ho : RO R) {p s : Nat} (hs : s < R 0 2) : (roleP R ν p s < nI 0) = (inP R ν p s = false) := by
  unfold inP
  rcases roleP_or (ν := ν) ho (p := p) hs with e | ⟨a, ha, e⟩
  · rw [e, neg_lt0 (by decide)]; simp
  · rw [e, nlt_f (by omega) (by omega)]
    simp [neg_ne (show a < 2147483648 by omega) (show 0 < 2 ∧ 2 < 2147483648 by decide)]
theorem Wo_sessionsOf_eq {p : Nat} (c : CR σ r R) (w : WR σ i R ν) (ho : RO R) (hv : HO R ν) (hp : p < 16) : Wo_sessionsOf σ i r (nI p) = some (sI (fun s => b01 (inP R ν p s)) (R 0 2)) := by
  have o1 := ho.S
  unfold Wo_sessionsOf
  refine lp_run (R 0 2) (by omega) (fun k => (sI (fun s => b01 (inP R ν p s)) k, nI k)) (fun rec k hk => ?_) (fun rec => ?_)
  · simp (disch := omega) only [bd_some, bd_none, lt_eq, lk_eq, fa_lit, nI_add, nI_mul, nI_sub, nle_t, nle_f, nlt_t, nlt_f, neq_t, neq_f, neg_ne, neg_ne', if_true, if_false, ite_true, ite_false, Nat.zero_add, Nat.add_zero, ld0, ld1, ld2, ld3, ld4, ld5, ld6, ld7, ld8, ld9, ld10, ld11, ld12, ld13, ld14, ld15, ld16, ld17, ld18, ld19, ld20, ld21, ld22, ld23, ld24, ld25, ld26, ld27, ld28, ld29, ld30, ld31, ld32, ld33, ld34, ld35, ld36, ld37, ld38, ld39, ld40, ld41, ld42, ld43, ld44, ld45, ld46, ld47, ld48, ld100, ld101, ld102, ld103, ld104, ld105, sI_succ, c.S, Wo_roleIn_eq c w ho hv, roleP_lt0 ho]
    cases inP R ν p k <;> simp [b01, add_n0]
  · simp (disch := omega) only [bd_some, bd_none, lt_eq, lk_eq, fa_lit, nI_add, nI_mul, nI_sub, nle_t, nle_f, nlt_t, nlt_f, neq_t, neq_f, neg_ne, neg_ne', if_true, if_false, ite_true, ite_false, Nat.zero_add, Nat.add_zero, ld0, ld1, ld2, ld3, ld4, ld5, ld6, ld7, ld8, ld9, ld10, ld11, ld12, ld13, ld14, ld15, ld16, ld17, ld18, ld19, ld20, ld21, ld22, ld23, ld24, ld25, ld26, ld27, ld28, ld29, ld30, ld31, ld32, ld33, ld34, ld35, ld36, ld37, ld38, ld39, ld40, ld41, ld42, ld43, ld44, ld45, ld46, ld47, ld48, ld100, ld101, ld102, ld103, ld104, ld105, c.S, Wo_roleIn_eq c w ho hv, roleP_lt0 ho]
theorem Wo_leadsOf_eq {p : Nat} (c : CR σ r R) (w : WR σ i R ν) (ho : RO R) (hv : HO R ν) (hp : p < 16) : Wo_leadsOf σ i r (nI p) = some (sI (fun s => b01 (decide (roleP R ν p s = nI 0))) (R 0 2)) := by
  have o1 := ho.S
  unfold Wo_leadsOf
  refine lp_run (R 0 2) (by omega) (fun k => (sI (fun s => b01 (decide (roleP R ν p s = nI 0))) k, nI k)) (fun rec k hk => ?_) (fun rec => ?_)
  · simp (disch := omega) only [bd_some, bd_none, lt_eq, lk_eq, fa_lit, nI_add, nI_mul, nI_sub, nle_t, nle_f, nlt_t, nlt_f, neq_t, neq_f, neg_ne, neg_ne', if_true, if_false, ite_true, ite_false, Nat.zero_add, Nat.add_zero, ld0, ld1, ld2, ld3, ld4, ld5, ld6, ld7, ld8, ld9, ld10, ld11, ld12, ld13, ld14, ld15, ld16, ld17, ld18, ld19, ld20, ld21, ld22, ld23, ld24, ld25, ld26, ld27, ld28, ld29, ld30, ld31, ld32, ld33, ld34, ld35, ld36, ld37, ld38, ld39, ld40, ld41, ld42, ld43, ld44, ld45, ld46, ld47, ld48, ld100, ld101, ld102, ld103, ld104, ld105, sI_succ, c.S, Wo_roleIn_eq c w ho hv]
    by_cases e : roleP R ν p k = nI 0 <;> simp [b01, e, add_n0]
  · simp (disch := omega) only [bd_some, bd_none, lt_eq, lk_eq, fa_lit, nI_add, nI_mul, nI_sub, nle_t, nle_f, nlt_t, nlt_f, neq_t, neq_f, neg_ne, neg_ne', if_true, if_false, ite_true, ite_false, Nat.zero_add, Nat.add_zero, ld0, ld1, ld2, ld3, ld4, ld5, ld6, ld7, ld8, ld9, ld10, ld11, ld12, ld13, ld14, ld15, ld16, ld17, ld18, ld19, ld20, ld21, ld22, ld23, ld24, ld25, ld26, ld27, ld28, ld29, ld30, ld31, ld32, ld33, ld34, ld35, ld36, ld37, ld38, ld39, ld40, ld41, ld42, ld43, ld44, ld45, ld46, ld47, ld48, ld100, ld101, ld102, ld103, ld104, ld105, c.S, Wo_roleIn_eq c w ho hv]
theorem Wo_openBits_eq {s : Nat} (c : CR σ r R) (w : WR σ i R ν) (ho : RO R) (hv : HO R ν) (hs : s < R 0 2) : Wo_openBits σ i r (nI s) = some (nI (bset (own ν s (-nI 1)) (R 3 s))) := by
  have o3 := ho.S
  have o8 := ho.s hs
  unfold Wo_openBits
  refine lp_run (R 3 s) (by omega) (fun k => (nI (bset (own ν s (-nI 1)) k), nI k)) (fun rec k hk => ?_) (fun rec => ?_)
  · simp (disch := omega) only [bd_some, bd_none, lt_eq, lk_eq, fa_lit, nI_add, nI_mul, nI_sub, nle_t, nle_f, nlt_t, nlt_f, neq_t, neq_f, neg_ne, neg_ne', if_true, if_false, ite_true, ite_false, Nat.zero_add, Nat.add_zero, ld0, ld1, ld2, ld3, ld4, ld5, ld6, ld7, ld8, ld9, ld10, ld11, ld12, ld13, ld14, ld15, ld16, ld17, ld18, ld19, ld20, ld21, ld22, ld23, ld24, ld25, ld26, ld27, ld28, ld29, ld30, ld31, ld32, ld33, ld34, ld35, ld36, ld37, ld38, ld39, ld40, ld41, ld42, ld43, ld44, ld45, ld46, ld47, ld48, ld100, ld101, ld102, ld103, ld104, ld105, c.st hs, w.ho, hol_m2 _ (hv.st ho hs hk), bset_succ, shl1, or_set]
    by_cases e : ν (2604 + 5 * s + k) = -nI 1 <;> simp [own, e]
  · simp (disch := omega) only [bd_some, bd_none, lt_eq, lk_eq, fa_lit, nI_add, nI_mul, nI_sub, nle_t, nle_f, nlt_t, nlt_f, neq_t, neq_f, neg_ne, neg_ne', if_true, if_false, ite_true, ite_false, Nat.zero_add, Nat.add_zero, ld0, ld1, ld2, ld3, ld4, ld5, ld6, ld7, ld8, ld9, ld10, ld11, ld12, ld13, ld14, ld15, ld16, ld17, ld18, ld19, ld20, ld21, ld22, ld23, ld24, ld25, ld26, ld27, ld28, ld29, ld30, ld31, ld32, ld33, ld34, ld35, ld36, ld37, ld38, ld39, ld40, ld41, ld42, ld43, ld44, ld45, ld46, ld47, ld48, ld100, ld101, ld102, ld103, ld104, ld105, c.st hs]
theorem Wo_openInAll_eq (c : CR σ r R) (w : WR σ i R ν) (ho : RO R) (hv : HO R ν) : Wo_openInAll σ i r = some (sI (fun s => openP R ν s) (R 0 2)) := by
  have o1 := ho.S
  unfold Wo_openInAll
  refine lp_run (R 0 2) (by omega) (fun k => (sI (fun s => openP R ν s) k, nI k)) (fun rec k hk => ?_) (fun rec => ?_)
  · simp (disch := omega) only [bd_some, bd_none, lt_eq, lk_eq, fa_lit, nI_add, nI_mul, nI_sub, nle_t, nle_f, nlt_t, nlt_f, neq_t, neq_f, neg_ne, neg_ne', if_true, if_false, ite_true, ite_false, Nat.zero_add, Nat.add_zero, ld0, ld1, ld2, ld3, ld4, ld5, ld6, ld7, ld8, ld9, ld10, ld11, ld12, ld13, ld14, ld15, ld16, ld17, ld18, ld19, ld20, ld21, ld22, ld23, ld24, ld25, ld26, ld27, ld28, ld29, ld30, ld31, ld32, ld33, ld34, ld35, ld36, ld37, ld38, ld39, ld40, ld41, ld42, ld43, ld44, ld45, ld46, ld47, ld48, ld100, ld101, ld102, ld103, ld104, ld105, sI_succ, c.S, Wo_openBits_eq c w ho hv, openP]
    rw [Jk_bitCount_eq (ho.s hk).2.1, bd_some]
  · simp (disch := omega) only [bd_some, bd_none, lt_eq, lk_eq, fa_lit, nI_add, nI_mul, nI_sub, nle_t, nle_f, nlt_t, nlt_f, neq_t, neq_f, neg_ne, neg_ne', if_true, if_false, ite_true, ite_false, Nat.zero_add, Nat.add_zero, ld0, ld1, ld2, ld3, ld4, ld5, ld6, ld7, ld8, ld9, ld10, ld11, ld12, ld13, ld14, ld15, ld16, ld17, ld18, ld19, ld20, ld21, ld22, ld23, ld24, ld25, ld26, ld27, ld28, ld29, ld30, ld31, ld32, ld33, ld34, ld35, ld36, ld37, ld38, ld39, ld40, ld41, ld42, ld43, ld44, ld45, ld46, ld47, ld48, ld100, ld101, ld102, ld103, ld104, ld105, c.S, Wo_openBits_eq c w ho hv, openP]
theorem Wo_answerBits_eq {l : Nat} (c : CR σ r R) (w : WR σ i R ν) (ho : RO R) (hl : l < R 0 0) : Wo_answerBits σ i r (nI l) = some (nI (bset (fun o => decide (l = o) || answ ν l o) (R 0 0))) := by
  have o1 := ho.L
  unfold Wo_answerBits
  refine lp_run (R 0 0) (by omega) (fun k => (nI (bset (fun o => decide (l = o) || answ ν l o) k), nI k)) (fun rec k hk => ?_) (fun rec => ?_)
  · simp (disch := omega) only [bd_some, bd_none, lt_eq, lk_eq, fa_lit, nI_add, nI_mul, nI_sub, nle_t, nle_f, nlt_t, nlt_f, neq_t, neq_f, neg_ne, neg_ne', if_true, if_false, ite_true, ite_false, Nat.zero_add, Nat.add_zero, ld0, ld1, ld2, ld3, ld4, ld5, ld6, ld7, ld8, ld9, ld10, ld11, ld12, ld13, ld14, ld15, ld16, ld17, ld18, ld19, ld20, ld21, ld22, ld23, ld24, ld25, ld26, ld27, ld28, ld29, ld30, ld31, ld32, ld33, ld34, ld35, ld36, ld37, ld38, ld39, ld40, ld41, ld42, ld43, ld44, ld45, ld46, ld47, ld48, ld100, ld101, ld102, ld103, ld104, ld105, c.L, Wo_answerOne_eq w ho, b01_0, bset_succ, shl1, or_set]
    cases (decide (l = k) || answ ν l k) <;> simp
  · simp (disch := omega) only [bd_some, bd_none, lt_eq, lk_eq, fa_lit, nI_add, nI_mul, nI_sub, nle_t, nle_f, nlt_t, nlt_f, neq_t, neq_f, neg_ne, neg_ne', if_true, if_false, ite_true, ite_false, Nat.zero_add, Nat.add_zero, ld0, ld1, ld2, ld3, ld4, ld5, ld6, ld7, ld8, ld9, ld10, ld11, ld12, ld13, ld14, ld15, ld16, ld17, ld18, ld19, ld20, ld21, ld22, ld23, ld24, ld25, ld26, ld27, ld28, ld29, ld30, ld31, ld32, ld33, ld34, ld35, ld36, ld37, ld38, ld39, ld40, ld41, ld42, ld43, ld44, ld45, ld46, ld47, ld48, ld100, ld101, ld102, ld103, ld104, ld105, c.L]
end Seats

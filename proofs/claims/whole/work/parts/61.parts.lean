/-! ===== a box is parted: ranks by rests ===== -/
def ahd (q : Nat → Nat) (o p : Nat) : Bool := decide (q p < q o) || (decide (q o = q p) && decide (o < p))
def rnk (P : Nat) (q : Nat → Nat) (p : Nat) : Nat := fb_ct (fun o => ahd q o p) P
def fk (P : Nat) (q : Nat → Nat) (k p : Nat) : Int := if rnk P q p < k then -1 else (q p : Int)
section Ranks
variable {P : Nat} {q : Nat → Nat}
theorem ahd_irr (o : Nat) : ahd q o o = false := by unfold ahd; simp
theorem ahd_tot {o p : Nat} (h : o ≠ p) : ahd q o p = true ∨ ahd q p o = true := by
  unfold ahd
  simp only [Bool.or_eq_true, Bool.and_eq_true, decide_eq_true_eq]
  omega
theorem ahd_tr {a b c : Nat} (h1 : ahd q a b = true) (h2 : ahd q b c = true) : ahd q a c = true := by
  unfold ahd at *
  simp only [Bool.or_eq_true, Bool.and_eq_true, decide_eq_true_eq] at *
  omega
theorem rnk_lt {o p : Nat} (ho : o < P) (h : ahd q o p = true) : rnk P q o < rnk P q p := ct_lt (fun k _ e => ahd_tr e h) ho (ahd_irr o) h
theorem rnk_inj {o p : Nat} (ho : o < P) (hp : p < P) (h : rnk P q o = rnk P q p) : o = p := by
  by_cases e : o = p
  · exact e
  · rcases ahd_tot (q := q) e with c | c
    · have := rnk_lt ho c; omega
    · have := rnk_lt hp c; omega
theorem rnk_best {k i : Nat} (hc : fb_ct (fun p => decide (rnk P q p < k)) P = k) (hi : i < P) (hk : k < P) (h1 : ∀ j, j < P → fk P q k j ≤ fk P q k i) (h2 : ∀ j, j < i → fk P q k j < fk P q k i) : rnk P q i = k := by
  have hu : ∃ u, u < P ∧ ¬ rnk P q u < k := by
    refine Classical.byContradiction fun hh => ?_
    have : fb_ct (fun p => decide (rnk P q p < k)) P = P := fb_ct_all.mpr (fun p hp => by
      refine decide_eq_true (Classical.byContradiction fun c => hh ⟨p, hp, c⟩))
    omega
  obtain ⟨u, hu1, hu2⟩ := hu
  have hin : ¬ rnk P q i < k := by
    intro c
    have := h1 u hu1
    unfold fk at this
    rw [if_neg hu2, if_pos c] at this
    omega
  have fi : fk P q k i = (q i : Int) := if_neg hin
  have same : ∀ o, o < P → ahd q o i = decide (rnk P q o < k) := by
    intro o ho
    by_cases c : rnk P q o < k
    · rw [decide_eq_true c]
      by_cases e : o = i
      · subst e; exact absurd c hin
      · rcases ahd_tot (q := q) e with d | d
        · exact d
        · have := rnk_lt hi d; omega
    · rw [decide_eq_false c]
      apply ts_nt
      intro d
      have a1 := h1 o ho
      unfold fk at a1
      rw [if_neg c, if_neg hin] at a1
      unfold ahd at d
      simp only [Bool.or_eq_true, Bool.and_eq_true, decide_eq_true_eq] at d
      rcases d with d | ⟨d1, d2⟩
      · omega
      · have a2 := h2 o d2
        unfold fk at a2
        rw [if_neg c, if_neg hin] at a2
        omega
  have : rnk P q i = fb_ct (fun p => decide (rnk P q p < k)) P := fb_ct_cong same
  omega
theorem rnk_ct : ∀ {k : Nat}, k ≤ P → fb_ct (fun p => decide (rnk P q p < k)) P = k
  | 0, _ => fb_ct_zero.mpr (fun p _ => rfl)
  | k + 1, hk => by
    have ih := rnk_ct (k := k) (by omega)
    obtain ⟨i, hi, b1, b2⟩ := fb_best (fk P q k) (n := P) (by omega)
    have ri := rnk_best ih hi (by omega) b1 b2
    have e : (fun p => decide (rnk P q p < k + 1)) = (fun p => decide (rnk P q p < k + 1)) := rfl
    have e2 : fb_ct (fun p => decide (rnk P q p < k + 1)) P = fb_ct (fun p => if p = i then true else decide (rnk P q p < k)) P := fb_ct_cong (fun p hp => by
      by_cases c : p = i
      · subst c
        rw [if_pos rfl]
        exact decide_eq_true (by omega)
      · rw [if_neg c]
        have : rnk P q p ≠ k := fun z => c (rnk_inj (q := q) hp hi (by omega))
        exact decide_eq_decide.mpr (by omega))
    have u := fb_ct_upd (fun p => decide (rnk P q p < k)) true hi
    have u2 : decide (rnk P q i < k) = false := decide_eq_false (by omega)
    simp only [u2, if_true, Bool.false_eq_true, if_false] at u
    omega
theorem am_best {le : Nat → Nat → Bool} {f : Nat → Int} (h : ∀ a b, (le a b = true) = (f a ≤ f b)) : ∀ {n : Nat}, 0 < n → (∀ j, j < n → f j ≤ f (am le n)) ∧ ∀ j, j < am le n → f j < f (am le n)
  | 0, h0 => absurd h0 (Nat.lt_irrefl 0)
  | n + 1, _ => by
    rw [am_succ]
    by_cases e : n = 0
    · subst e
      rw [if_pos rfl]
      exact ⟨fun j hj => by rw [show j = 0 by omega]; exact Int.le_refl _, fun j hj => absurd hj (Nat.not_lt_zero j)⟩
    · rw [if_neg e]
      obtain ⟨i1, i2⟩ := am_best h (n := n) (by omega)
      have hlt := am_lt le (n := n) (by omega)
      by_cases c : le n (am le n) = true
      · rw [if_pos c]
        rw [h] at c
        refine ⟨fun j hj => ?_, i2⟩
        by_cases ej : j = n
        · subst ej; exact c
        · exact i1 j (by omega)
      · rw [if_neg c]
        rw [h] at c
        refine ⟨fun j hj => ?_, fun j hj => ?_⟩
        · by_cases ej : j = n
          · subst ej; exact Int.le_refl _
          · have := i1 j (by omega)
            omega
        · have := i1 j hj
          omega
end Ranks
/-! what each is to have -/
def wN (ν : NU) (l p : Nat) : Nat := (ν (96 + 6 * p + l)).toNatClampNeg
def xN (ν : NU) (l : Nat) : Nat := (ν (192 + l)).toNatClampNeg
def aN (R : RT) (ν : NU) (l : Nat) : Nat := fb_sm (wN ν l) (R 0 1)
def cN (R : RT) (ν : NU) (l p : Nat) : Nat := xN ν l * wN ν l p / aN R ν l
def qN (R : RT) (ν : NU) (l p : Nat) : Nat := xN ν l * wN ν l p % aN R ν l
def lN' (R : RT) (ν : NU) (l : Nat) : Nat := xN ν l - fb_sm (cN R ν l) (R 0 1)
def pN (R : RT) (ν : NU) (l p : Nat) : Nat := cN R ν l p + (if rnk (R 0 1) (qN R ν l) p < lN' R ν l then 1 else 0)
section PartN
variable {σ τ : ST} {R : RT} {ν μ κ : NU} {r : Nat}
theorem nn_not {x : Int32} (h : 0 ≤ x.toInt) : ¬ x < 0 := by
  intro q
  rw [Int32.lt_iff_toInt_lt, show (0 : Int32).toInt = 0 by decide] at q
  omega
theorem nn_nI {x : Int32} (h : 0 ≤ x.toInt) : x = nI x.toNatClampNeg := by
  obtain ⟨j, hj, rfl⟩ := nI_of (x := x) (nn_not h)
  rw [nI_clamp hj]
theorem clamp_int {x : Int32} (h : 0 ≤ x.toInt) : (x.toNatClampNeg : Int) = x.toInt := by
  obtain ⟨j, hj, rfl⟩ := nI_of (x := x) (nn_not h)
  rw [nI_clamp hj, nI_toInt hj]
theorem wN_eq (m : MO R ν) {l p : Nat} (hp : p < 16) (hl : l < 6) : ν (96 + 6 * p + l) = nI (wN ν l p) := nn_nI (m.n0 (by omega))
theorem xN_eq (m : MO R ν) {l : Nat} (hl : l < 6) : ν (192 + l) = nI (xN ν l) := nn_nI (m.n0 (by omega))
theorem xN_int (m : MO R ν) {l : Nat} (hl : l < 6) : (xN ν l : Int) = mI ν (192 + l) := clamp_int (m.n0 (by omega))
theorem xN_le (m : MO R ν) {l : Nat} (hl : l < 6) : xN ν l ≤ 300000000 := by
  have h1 := xN_int m hl
  have h2 := m.land hl
  omega
theorem aN_le (m : MO R ν) (ho : RO R) {l : Nat} (hl : l < 6) : aN R ν l ≤ 300000000 := by
  have o2 := ho.P
  have o3 := ho.S
  have h2 := m.land hl
  have h3 : ((fb_sm (wN ν l) (R 0 1) : Nat) : Int) ≤ fb_si (fun p => mI ν (6 * p + l)) 16 := by
    have e1 := fb_si_nat (wN ν l) (R 0 1)
    have e2 : fb_si (fun p => ((wN ν l p : Nat) : Int)) (R 0 1) ≤ fb_si (fun p => mI ν (6 * p + l)) (R 0 1) := si_le (fun p hp => by
      have a1 : ((wN ν l p : Nat) : Int) = (ν (96 + 6 * p + l)).toInt := clamp_int (m.n0 (by omega))
      have a2 := m.2.2 (6 * p + l) (by omega)
      rw [show 96 + (6 * p + l) = 96 + 6 * p + l by omega] at a2
      have a3 : mI ν (96 + 6 * p + l) = (ν (96 + 6 * p + l)).toInt := rfl
      omega)
    have e3 := si_seg (f := fun p => mI ν (6 * p + l)) (n := 16) (a := 0) (m := R 0 1) (fun k hk => m.1 _ (by omega)) (by omega)
    simp only [Nat.zero_add] at e3
    omega
  unfold aN
  omega
theorem wN_le (ho : RO R) {l p : Nat} (hp : p < R 0 1) : wN ν l p ≤ aN R ν l := by
  have := fb_sm_part (wN ν l) hp
  unfold aN
  omega
theorem xw_lt (m : MO R ν) (ho : RO R) {l p : Nat} (hp : p < R 0 1) (hl : l < 6) : xN ν l * wN ν l p ≤ 90000000000000000 := by
  have h1 := xN_le m hl
  have h2 := aN_le m ho hl
  have h3 := wN_le (ν := ν) (l := l) ho hp
  have := Nat.mul_le_mul h1 (Nat.le_trans h3 h2)
  omega
theorem cN_sum (ho : RO R) {l : Nat} (hW : 0 < aN R ν l) : ∀ {k : Nat}, fb_sm (cN R ν l) k * aN R ν l + fb_sm (qN R ν l) k = xN ν l * fb_sm (wN ν l) k
  | 0 => by
    show 0 * aN R ν l + 0 = xN ν l * 0
    omega
  | k + 1 => by
    have ih := cN_sum ho hW (k := k)
    rw [fb_sm_succ, fb_sm_succ, fb_sm_succ, Nat.add_mul, Nat.mul_add, ← ih]
    have : cN R ν l k * aN R ν l + qN R ν l k = xN ν l * wN ν l k := by
      unfold cN qN
      rw [Nat.mul_comm]
      exact Nat.div_add_mod _ _
    omega
theorem cN_le (ho : RO R) {l k : Nat} (hk : k ≤ R 0 1) (hW : 0 < aN R ν l) : fb_sm (cN R ν l) k ≤ xN ν l := by
  have h1 := cN_sum (ν := ν) ho hW (k := k)
  have h2 : fb_sm (wN ν l) k ≤ aN R ν l := by
    unfold aN
    obtain ⟨d, hd⟩ : ∃ d, R 0 1 = k + d := ⟨R 0 1 - k, by omega⟩
    rw [hd]
    exact fb_sm_mono _ _ _
  have h3 : xN ν l * fb_sm (wN ν l) k ≤ xN ν l * aN R ν l := Nat.mul_le_mul_left _ h2
  have h4 : fb_sm (cN R ν l) k * aN R ν l ≤ xN ν l * aN R ν l := by omega
  exact Nat.le_of_mul_le_mul_right h4 hW
theorem left_le (ho : RO R) {l : Nat} (hW : 0 < aN R ν l) : lN' R ν l ≤ R 0 1 := by
  have h1 := cN_sum (ν := ν) ho hW (k := R 0 1)
  have h2 := cN_le (ν := ν) ho (Nat.le_refl (R 0 1)) hW
  have h3 : fb_sm (qN R ν l) (R 0 1) ≤ R 0 1 * aN R ν l := fb_sm_bound (fun k hk => Nat.le_of_lt (Nat.mod_lt _ hW))
  have h4 : xN ν l * fb_sm (wN ν l) (R 0 1) = xN ν l * aN R ν l := rfl
  have h5 : lN' R ν l * aN R ν l = xN ν l * aN R ν l - fb_sm (cN R ν l) (R 0 1) * aN R ν l := Nat.sub_mul _ _ _
  have h6 : lN' R ν l * aN R ν l ≤ R 0 1 * aN R ν l := by omega
  exact Nat.le_of_mul_le_mul_right h6 hW
theorem pN_sum (ho : RO R) {l : Nat} (hW : 0 < aN R ν l) : fb_sm (pN R ν l) (R 0 1) = xN ν l := by
  have h1 := left_le (ν := ν) ho hW
  have h2 := cN_le (ν := ν) ho (Nat.le_refl (R 0 1)) hW
  have h3 := rnk_ct (P := R 0 1) (q := qN R ν l) h1
  have h4 : fb_sm (pN R ν l) (R 0 1) = fb_sm (cN R ν l) (R 0 1) + fb_sm (fun p => if rnk (R 0 1) (qN R ν l) p < lN' R ν l then 1 else 0) (R 0 1) := fb_sm_add _ _ _
  have h5 : ∀ n, fb_sm (fun p => if rnk (R 0 1) (qN R ν l) p < lN' R ν l then 1 else 0) n = fb_ct (fun p => decide (rnk (R 0 1) (qN R ν l) p < lN' R ν l)) n := by
    intro n
    induction n with
    | zero => rfl
    | succ n ih =>
      rw [fb_sm_succ, fb_ct_succ, ih]
      by_cases c : rnk (R 0 1) (qN R ν l) n < lN' R ν l <;> simp [c]
  rw [h4, h5, h3]
  unfold lN'
  omega
theorem pN_le (ho : RO R) {l p : Nat} (hp : p < R 0 1) (hW : 0 < aN R ν l) : pN R ν l p ≤ xN ν l := by
  have h1 := fb_sm_part (pN R ν l) hp
  have h2 := pN_sum (ν := ν) ho hW
  omega
theorem wsum_eq (m : MO R ν) (ho : RO R) {l : Nat} (hl : l < 6) : sI (fun p => ν (96 + 6 * p + l)) (R 0 1) = nI (aN R ν l) := by
  have o2 := ho.P
  have o3 := ho.S
  unfold aN
  rw [← sI_nI]
  exact sI_cong (fun p hp => wN_eq m (by omega) hl)
end PartN

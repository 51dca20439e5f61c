/-! ===== a year goes by ===== -/
def shN (ν : NU) (B K : Nat) : Nat → NU
  | 0 => ν
  | i + 1 => upd (shN ν B K i) (B + (K - 1 - i)) (shN ν B K i (B + (K - 1 - i) - 1))
def sl0 (l s t : Nat) : Nat := 204 + 9 * (5 * (8 * l + s) + t)
def lp0 (l s t : Nat) : Nat := 2364 + 5 * (8 * l + s) + t
def go1 (ν : NU) (K l s t : Nat) : NU := upd (shN ν (sl0 l s t) K (K - 1)) (sl0 l s t) (nI 0)
def go2 (ν : NU) (K l s t : Nat) : NU := upd (go1 ν K l s t) (lp0 l s t) (go1 ν K l s t (lp0 l s t) + ν (sl0 l s t + (K - 1)))
def goV (ν : NU) (K l s t : Nat) : NU := upd (go2 ν K l s t) (192 + l) (go2 ν K l s t (192 + l) + ν (sl0 l s t + (K - 1)))
section Year
variable {σ τ : ST} {R : RT} {ν μ : NU} {r : Nat}
theorem shN_low (ν : NU) (B K : Nat) : ∀ {i j : Nat}, i ≤ K - 1 → j ≤ B + (K - 1 - i) → shN ν B K i j = ν j
  | 0, j, _, _ => rfl
  | i + 1, j, hi, hj => by
    show upd (shN ν B K i) (B + (K - 1 - i)) _ j = _
    rw [upd_ne (by omega)]
    exact shN_low ν B K (by omega) (by omega)
theorem shN_out (ν : NU) (B K : Nat) : ∀ {i j : Nat}, (j < B ∨ B + K ≤ j) → i ≤ K - 1 → shN ν B K i j = ν j
  | 0, j, _, _ => rfl
  | i + 1, j, hj, hi => by
    show upd (shN ν B K i) (B + (K - 1 - i)) _ j = _
    rw [upd_ne (by omega)]
    exact shN_out ν B K hj (by omega)
theorem shN_z {ν : NU} {B K : Nat} (h : ∀ a, a < K → ν (B + a) = nI 0) : ∀ {i : Nat}, i ≤ K - 1 → shN ν B K i = ν
  | 0, _ => rfl
  | i + 1, hi => by
    show upd (shN ν B K i) (B + (K - 1 - i)) (shN ν B K i (B + (K - 1 - i) - 1)) = ν
    rw [shN_z h (by omega)]
    have e1 := h (K - 1 - i) (by omega)
    have e2 := h (K - 1 - i - 1) (by omega)
    rw [show B + (K - 1 - i) - 1 = B + (K - 1 - i - 1) by omega, e2]
    exact fa_upd_same e1
theorem goV_z {K l s t : Nat} (hK : 1 ≤ K) (h : ∀ a, a < K → ν (sl0 l s t + a) = nI 0) : goV ν K l s t = ν := by
  have e1 : go1 ν K l s t = ν := by
    unfold go1
    rw [shN_z h (Nat.le_refl _)]
    exact fa_upd_same (h 0 (by omega))
  have e2 : go2 ν K l s t = ν := by
    unfold go2
    rw [e1, h (K - 1) (by omega)]
    exact fa_upd_same (add_n0 _).symm
  unfold goV
  rw [e2, h (K - 1) (by omega)]
  exact fa_upd_same (add_n0 _).symm
theorem shN_vo (ho : RO R) (hv : VO R ν) {l s t : Nat} (hl : l < R 0 0) (hs : s < R 0 2) (ht : t < R 3 s) : ∀ {i : Nat}, i ≤ R 0 5 - 1 → VZ R (shN ν (sl0 l s t) (R 0 5) i) ∧ MP (shN ν (sl0 l s t) (R 0 5) i) l (mI ν (sl0 l s t + (R 0 5 - 1)) - mI ν (sl0 l s t + (R 0 5 - 1 - i))) 0
  | 0, _ => ⟨hv.z, by
    have := MP.of (R := R) hv.2.2.1 l
    rw [Nat.sub_zero, Int.sub_self]
    exact this⟩
  | i + 1, hi => by
    obtain ⟨z, M⟩ := shN_vo ho hv hl hs ht (i := i) (by omega)
    have o1 := ho.L
    have o3 := ho.S
    have o5 := ho.kp
    have o8 := ho.s hs
    have u : sl0 l s t = 204 + 9 * (5 * (8 * l + s) + t) := rfl
    have g1 := shN_low ν (sl0 l s t) (R 0 5) (i := i) (j := sl0 l s t + (R 0 5 - 1 - i)) (by omega) (by omega)
    have g2 := shN_low ν (sl0 l s t) (R 0 5) (i := i) (j := sl0 l s t + (R 0 5 - 1 - i) - 1) (by omega) (by omega)
    show VZ R (upd (shN ν (sl0 l s t) (R 0 5) i) (sl0 l s t + (R 0 5 - 1 - i)) (shN ν (sl0 l s t) (R 0 5) i (sl0 l s t + (R 0 5 - 1 - i) - 1))) ∧ MP (upd (shN ν (sl0 l s t) (R 0 5) i) (sl0 l s t + (R 0 5 - 1 - i)) (shN ν (sl0 l s t) (R 0 5) i (sl0 l s t + (R 0 5 - 1 - i) - 1))) l _ 0
    have M1 := M.1 (sl0 l s t + (R 0 5 - 1 - i) - 1) (by omega)
    generalize shN ν (sl0 l s t) (R 0 5) i = κ at *
    refine ⟨z.kp ho (a := R 0 5 - 1 - i) hl hs ht (by omega), ?_⟩
    have e0 : sl0 l s t + (R 0 5 - 1 - i) = 204 + 360 * l + (9 * (5 * s + t) + (R 0 5 - 1 - i)) := by omega
    have := M.kp (x := κ (sl0 l s t + (R 0 5 - 1 - i) - 1)) (i := 9 * (5 * s + t) + (R 0 5 - 1 - i)) (show l < 6 by omega) (by omega) M1
    rw [← e0] at this
    have v1 : mI κ (sl0 l s t + (R 0 5 - 1 - i)) = mI ν (sl0 l s t + (R 0 5 - 1 - i)) := by unfold mI; rw [g1]
    have v2 : (κ (sl0 l s t + (R 0 5 - 1 - i) - 1)).toInt = mI ν (sl0 l s t + (R 0 5 - 1 - (i + 1))) := by
      rw [g2]
      unfold mI
      rw [show sl0 l s t + (R 0 5 - 1 - i) - 1 = sl0 l s t + (R 0 5 - 1 - (i + 1)) by omega]
    rw [v1, v2] at this
    have e2 : mI ν (sl0 l s t + (R 0 5 - 1)) - mI ν (sl0 l s t + (R 0 5 - 1 - i)) - (mI ν (sl0 l s t + (R 0 5 - 1 - (i + 1))) - mI ν (sl0 l s t + (R 0 5 - 1 - i))) = mI ν (sl0 l s t + (R 0 5 - 1)) - mI ν (sl0 l s t + (R 0 5 - 1 - (i + 1))) := by omega
    rw [← e2]; exact this
theorem goV_vo (ho : RO R) (hv : VO R ν) {l s t : Nat} (hl : l < R 0 0) (hs : s < R 0 2) (ht : t < R 3 s) : VO R (goV ν (R 0 5) l s t) := by
  have o1 := ho.L
  have o3 := ho.S
  have o5 := ho.kp
  have o8 := ho.s hs
  have u : sl0 l s t = 204 + 9 * (5 * (8 * l + s) + t) := rfl
  have u2 : lp0 l s t = 2364 + 5 * (8 * l + s) + t := rfl
  obtain ⟨z, M⟩ := shN_vo ho hv hl hs ht (Nat.le_refl (R 0 5 - 1))
  rw [Nat.sub_self, Nat.add_zero] at M
  have g1 := shN_low ν (sl0 l s t) (R 0 5) (i := R 0 5 - 1) (j := sl0 l s t) (by omega) (by omega)
  have gL := shN_out ν (sl0 l s t) (R 0 5) (i := R 0 5 - 1) (j := lp0 l s t) (by omega) (by omega)
  have gB := shN_out ν (sl0 l s t) (R 0 5) (i := R 0 5 - 1) (j := 192 + l) (by omega) (by omega)
  have m := hv.2.2.1
  have ml := m.land (show l < 6 by omega)
  have mL := m.laps (show l < 6 by omega) (show s < 8 by omega) (show t < 5 by omega)
  have gone0 := m.n0 (show sl0 l s t + (R 0 5 - 1) < 2604 by omega)
  have gone1 := (si_part (f := fun j => mI ν (204 + 360 * l + j)) (n := 360) (fun k hk => m.1 _ (by omega))).2 (9 * (5 * s + t) + (R 0 5 - 1)) (by omega)
  have ge : 204 + 360 * l + (9 * (5 * s + t) + (R 0 5 - 1)) = sl0 l s t + (R 0 5 - 1) := by omega
  rw [ge] at gone1
  have gdef : mI ν (sl0 l s t + (R 0 5 - 1)) = (ν (sl0 l s t + (R 0 5 - 1))).toInt := rfl
  unfold goV go2 go1
  generalize shN ν (sl0 l s t) (R 0 5) (R 0 5 - 1) = κ at *
  have z1 := z.kp ho (v := nI 0) (a := 0) hl hs ht (by omega)
  have e0 : sl0 l s t = 204 + 360 * l + 9 * (5 * s + t) := by omega
  have M1 := M.kp (x := nI 0) (i := 9 * (5 * s + t)) (show l < 6 by omega) (by omega) (by decide)
  rw [← e0] at M1
  have v1 : mI κ (sl0 l s t) = mI ν (sl0 l s t) := by unfold mI; rw [g1]
  have n0 : (nI 0).toInt = 0 := by decide
  rw [v1, n0] at M1
  have z1' : VZ R (upd κ (sl0 l s t) (nI 0)) := z1
  have e1 : mI ν (sl0 l s t + (R 0 5 - 1)) - mI ν (sl0 l s t) - (0 - mI ν (sl0 l s t)) = mI ν (sl0 l s t + (R 0 5 - 1)) := by omega
  rw [e1] at M1
  have w1 : upd κ (sl0 l s t) (nI 0) (lp0 l s t) = ν (lp0 l s t) := by rw [upd_ne (by omega), gL]
  have w2 : upd κ (sl0 l s t) (nI 0) (192 + l) = ν (192 + l) := by rw [upd_ne (by omega), gB]
  generalize upd κ (sl0 l s t) (nI 0) = κ1 at *
  have x1 : (ν (lp0 l s t) + ν (sl0 l s t + (R 0 5 - 1))).toInt = (ν (lp0 l s t)).toInt + (ν (sl0 l s t + (R 0 5 - 1))).toInt := by
    rw [fb_addI]
    · rw [u2]; omega
    · rw [u2]; omega
  have e3 : lp0 l s t = 2364 + 40 * l + (5 * s + t) := by omega
  have M2 := M1.lp (x := κ1 (lp0 l s t) + ν (sl0 l s t + (R 0 5 - 1))) (i := 5 * s + t) (show l < 6 by omega) (by omega) (by rw [w1, x1, u2]; omega)
  rw [← e3, w1, x1] at M2
  have v3 : mI κ1 (lp0 l s t) = (ν (lp0 l s t)).toInt := by unfold mI; rw [w1]
  have e4 : (0 : Int) + ((ν (lp0 l s t)).toInt + (ν (sl0 l s t + (R 0 5 - 1))).toInt - mI κ1 (lp0 l s t)) = mI ν (sl0 l s t + (R 0 5 - 1)) := by omega
  rw [e4] at M2
  have z2 := z1'.lp ho (v := ν (lp0 l s t) + ν (sl0 l s t + (R 0 5 - 1))) hl hs ht
  have z2' : VZ R (upd κ1 (lp0 l s t) (ν (lp0 l s t) + ν (sl0 l s t + (R 0 5 - 1)))) := z2
  rw [w1]
  have w3 : upd κ1 (lp0 l s t) (ν (lp0 l s t) + ν (sl0 l s t + (R 0 5 - 1))) (192 + l) = ν (192 + l) := by rw [upd_ne (by omega), w2]
  generalize upd κ1 (lp0 l s t) (ν (lp0 l s t) + ν (sl0 l s t + (R 0 5 - 1))) = κ2 at *
  rw [w3]
  have bdef : mI ν (192 + l) = (ν (192 + l)).toInt := rfl
  have x2 : (ν (192 + l) + ν (sl0 l s t + (R 0 5 - 1))).toInt = mI κ2 (192 + l) + mI ν (sl0 l s t + (R 0 5 - 1)) := by
    have v4 : mI κ2 (192 + l) = (ν (192 + l)).toInt := by unfold mI; rw [w3]
    rw [fb_addI (by omega) (by omega), v4]
    rfl
  have v4 : mI κ2 (192 + l) = (ν (192 + l)).toInt := by unfold mI; rw [w3]
  have M3 := M2.bx (show l < 6 by omega) x2 (by omega)
  exact (z2'.bx ho hl).vo (M3.mo (by omega) (by omega))
/-! slot by slot, land by land -/
def yrV (K l : Nat) (ν : NU) : Nat → NU
  | 0 => ν
  | j + 1 => goV (yrV K l ν j) K l (j / 5) (j % 5)
def gnV (K l : Nat) (ν : NU) (j : Nat) : Int32 := yrV K l ν j (sl0 l (j / 5) (j % 5) + (K - 1))
theorem yrV_vo (ho : RO R) (hv : VO R ν) {l : Nat} (hl : l < R 0 0) : ∀ {j : Nat}, j ≤ 40 → VO R (yrV (R 0 5) l ν j)
  | 0, _ => hv
  | j + 1, hj => by
    have ih := yrV_vo ho hv hl (j := j) (by omega)
    have o1 := ho.L
    have o5 := ho.kp
    show VO R (goV (yrV (R 0 5) l ν j) (R 0 5) l (j / 5) (j % 5))
    by_cases c : j / 5 < R 0 2 ∧ j % 5 < R 3 (j / 5)
    · exact goV_vo ho ih hl c.1 c.2
    · rw [goV_z o5.1 (fun a ha => ih.2.1.2.2.1 l (j / 5) (j % 5) a (by omega) (by omega) (by omega) (by omega) (by omega))]
      exact ih
theorem yr_skip (ho : RO R) (hv : VO R ν) {l j : Nat} (hl : l < R 0 0) (hj : j < 40) (c : R 0 2 ≤ j / 5 ∨ R 3 (j / 5) ≤ j % 5) : yrV (R 0 5) l ν (j + 1) = yrV (R 0 5) l ν j ∧ gnV (R 0 5) l ν j = nI 0 := by
  have ih := yrV_vo ho hv hl (j := j) (by omega)
  have o1 := ho.L
  have o5 := ho.kp
  have z : ∀ a, a < R 0 5 → yrV (R 0 5) l ν j (sl0 l (j / 5) (j % 5) + a) = nI 0 := fun a ha => ih.2.1.2.2.1 l (j / 5) (j % 5) a (by omega) (by omega) (by omega) (by omega) (by omega)
  exact ⟨goV_z o5.1 z, z (R 0 5 - 1) (by omega)⟩
theorem yr_skips (ho : RO R) (hv : VO R ν) {l : Nat} (hl : l < R 0 0) {j : Nat} : ∀ {d : Nat}, j + d ≤ 40 → (∀ i, j ≤ i → i < j + d → R 0 2 ≤ i / 5 ∨ R 3 (i / 5) ≤ i % 5) → yrV (R 0 5) l ν (j + d) = yrV (R 0 5) l ν j ∧ sI (gnV (R 0 5) l ν) (j + d) = sI (gnV (R 0 5) l ν) j
  | 0, _, _ => ⟨rfl, rfl⟩
  | d + 1, hd, h => by
    obtain ⟨i1, i2⟩ := yr_skips ho hv hl (d := d) (by omega) (fun i h1 h2 => h i h1 (by omega))
    obtain ⟨g1, g2⟩ := yr_skip ho hv hl (j := j + d) (by omega) (h (j + d) (by omega) (by omega))
    constructor
    · rw [← Nat.add_assoc, g1, i1]
    · rw [← Nat.add_assoc, sI_succ, i2, g2]
      exact add_n0 _
def yrL (K : Nat) (ν : NU) : Nat → NU × Int32
  | 0 => (ν, nI 0)
  | l + 1 => (yrV K l (yrL K ν l).1 40, (yrL K ν l).2 + sI (gnV K l (yrL K ν l).1) 40)
theorem yrL_vo (ho : RO R) (hv : VO R ν) : ∀ {l : Nat}, l ≤ R 0 0 → VO R (yrL (R 0 5) ν l).1
  | 0, _ => hv
  | l + 1, hl => yrV_vo ho (yrL_vo ho hv (l := l) (by omega)) (by omega) (Nat.le_refl 40)
/-! the class -/
theorem dn1 {a : Nat} (h : 1 ≤ a) : nI a + -nI 1 = nI (a - 1) := by
  rw [← nI_sub h, Int32.sub_eq_add_neg]
theorem Bk_slot_eq {l s t : Nat} (b : BR σ 0 R ν) (ho : RO R) (hl : l < 6) (hs : s < 8) (ht : t < 5) : ∃ τ, Bk_ageSlot σ 0 (nI ((l * 8 + s) * 5 + t)) (nI (R 0 5)) = some (ν (sl0 l s t + (R 0 5 - 1)), τ) ∧ FrK (bk 0) σ τ ∧ BR τ 0 R (go1 ν (R 0 5) l s t) := by
  have o5 := ho.kp
  have u : sl0 l s t = 204 + 9 * (5 * (8 * l + s) + t) := rfl
  have rd7 : ∀ (x : ST) (κ : NU), BR x 0 R κ → ∀ a, a < 9 → x.1 7 0 (((l * 8 + s) * 5 + t) * 9 + a) = κ (sl0 l s t + a) := fun x κ bx a ha => bx.kg hl hs ht ha
  unfold Bk_ageSlot
  rw [lt_eq]
  have e1 : nI ((l * 8 + s) * 5 + t) * 9 = nI (((l * 8 + s) * 5 + t) * 9) := by rw [show (9 : Int32) = nI 9 from rfl, nI_mul]
  have e2 : nI (((l * 8 + s) * 5 + t) * 9) + nI (R 0 5) - 1 = nI (((l * 8 + s) * 5 + t) * 9 + (R 0 5 - 1)) := by
    rw [nI_add, show (1 : Int32) = nI 1 from rfl, nI_sub (by omega)]
    congr 1
    omega
  rw [e1, e2, ld7 (by omega), bd_some, lt_eq, rd7 σ ν b _ (by omega), show (1 : Int32) = nI 1 from rfl, nI_sub (show 1 ≤ R 0 5 by omega)]
  obtain ⟨z, ⟨hz1, hz2, hz3⟩, rec, ez⟩ := lp_invG (β := Int32 × ST) (z0 := (σ, nI (R 0 5 - 1))) (step := fun rec5 (z4 : ST × Int32) => (if z4.2 ≤ 0 then bd_ (stI z4.1 7 0 (nI (((l * 8 + s) * 5 + t) * 9)) 0) (fun s7 => some (ν (sl0 l s t + (R 0 5 - 1)), s7)) else bd_ (ldI z4.1 7 0 ((nI (((l * 8 + s) * 5 + t) * 9) + z4.2) - nI 1)) (fun v8 => bd_ (stI z4.1 7 0 (nI (((l * 8 + s) * 5 + t) * 9) + z4.2) v8) (fun s9 => rec5 (s9, (z4.2 + (-nI 1))))))) (R 0 5 - 1) (by omega) (fun i z => z.2 = nI (R 0 5 - 1 - i) ∧ FrK (bk 0) σ z.1 ∧ BR z.1 0 R (shN ν (sl0 l s t) (R 0 5) i)) ⟨rfl, FrK.rf σ, b⟩ (by
    rintro rec i ⟨x, a⟩ hi ⟨ha, fx, bx⟩
    have ha : a = nI (R 0 5 - 1 - i) := ha
    subst ha
    have fx : FrK (bk 0) σ x := fx
    have bx : BR x 0 R (shN ν (sl0 l s t) (R 0 5) i) := bx
    have bn := bx.r7 (j := ((l * 8 + s) * 5 + t) * 9 + (R 0 5 - 1 - i)) (v := shN ν (sl0 l s t) (R 0 5) i (sl0 l s t + (R 0 5 - 1 - i) - 1)) ho (by omega)
    rw [show 204 + (((l * 8 + s) * 5 + t) * 9 + (R 0 5 - 1 - i)) = sl0 l s t + (R 0 5 - 1 - i) by omega] at bn
    have r7 := rd7 x _ bx (R 0 5 - 1 - i - 1) (by omega)
    rw [show sl0 l s t + (R 0 5 - 1 - i - 1) = sl0 l s t + (R 0 5 - 1 - i) - 1 by omega] at r7
    refine ⟨(setR x 7 0 (upd (x.1 7 0) (((l * 8 + s) * 5 + t) * 9 + (R 0 5 - 1 - i)) (shN ν (sl0 l s t) (R 0 5) i (sl0 l s t + (R 0 5 - 1 - i) - 1))), nI (R 0 5 - 1 - (i + 1))), ⟨rfl, fx.tr (fr_bkR x _ rfl), bn⟩, ?_⟩
    have e3 : nI (((l * 8 + s) * 5 + t) * 9) + nI (R 0 5 - 1 - i) - nI 1 = nI (((l * 8 + s) * 5 + t) * 9 + (R 0 5 - 1 - i - 1)) := by
      rw [nI_add, nI_sub (by omega)]
      congr 1
      omega
    show (if nI (R 0 5 - 1 - i) ≤ 0 then _ else bd_ (ldI x 7 0 (nI (((l * 8 + s) * 5 + t) * 9) + nI (R 0 5 - 1 - i) - nI 1)) (fun v8 => bd_ (stI x 7 0 (nI (((l * 8 + s) * 5 + t) * 9) + nI (R 0 5 - 1 - i)) v8) (fun s9 => rec (s9, nI (R 0 5 - 1 - i) + -nI 1)))) = _
    rw [if_neg (show ¬ nI (R 0 5 - 1 - i) ≤ (0 : Int32) from of_eq_false (nle_f (a := R 0 5 - 1 - i) (b := 0) (by omega) (by omega))), e3, ld7 (by omega), bd_some, r7, nI_add, st7 (by omega), bd_some, dn1 (by omega)]
    rfl)
  obtain ⟨x, a⟩ := z
  have hz1 : a = nI (R 0 5 - 1 - (R 0 5 - 1)) := hz1
  rw [Nat.sub_self] at hz1
  subst hz1
  have fx : FrK (bk 0) σ x := hz2
  have bx : BR x 0 R (shN ν (sl0 l s t) (R 0 5) (R 0 5 - 1)) := hz3
  have bn := bx.r7 (j := ((l * 8 + s) * 5 + t) * 9) (v := nI 0) ho (by omega)
  rw [show 204 + ((l * 8 + s) * 5 + t) * 9 = sl0 l s t by omega] at bn
  refine ⟨setR x 7 0 (upd (x.1 7 0) (((l * 8 + s) * 5 + t) * 9) (nI 0)), ez.trans ?_, fx.tr (fr_bkR x _ rfl), bn⟩
  show (if nI 0 ≤ 0 then bd_ (stI x 7 0 (nI (((l * 8 + s) * 5 + t) * 9)) (nI 0)) _ else _) = _
  rw [if_pos (show nI 0 ≤ 0 by decide), st7 (by omega), bd_some]
end Year

/-! ===== claims ===== -/
def emN (ν : NU) (B : Nat) : Nat → NU
  | 0 => ν
  | a + 1 => upd (emN ν B a) (B + a) (nI 0)
def clB (κ : NU) (p d l s t : Nat) : NU := if pay κ l d 1 then upd (upd (upd κ (6 * p + l) (κ (6 * p + l) + (keptP κ l s t + κ (lp0 l s t)))) (96 + 6 * p + l) (κ (96 + 6 * p + l) + (keptP κ l s t + κ (lp0 l s t)))) (192 + l) (κ (192 + l) - κ (lp0 l s t)) else upd κ (192 + l) (κ (192 + l) + keptP κ l s t)
def clS (κ : NU) (p d l s t : Nat) : NU := upd (emN (clB κ p d l s t) (sl0 l s t) 9) (lp0 l s t) (nI 0)
def clL (ν : NU) (p d s t : Nat) : Nat → NU
  | 0 => ν
  | l + 1 => clS (clL ν p d s t l) p d l s t
section Claim
variable {σ τ : ST} {R : RT} {ν μ κ : NU} {r : Nat}
theorem emN_out (ν : NU) (B : Nat) : ∀ {a j : Nat}, (j < B ∨ B + a ≤ j) → emN ν B a j = ν j
  | 0, j, _ => rfl
  | a + 1, j, h => by
    show upd (emN ν B a) (B + a) (nI 0) j = _
    rw [upd_ne (by omega)]
    exact emN_out ν B (by omega)
theorem emN_comm (ν : NU) (B : Nat) {j : Nat} {v : Int32} : ∀ {a : Nat}, (j < B ∨ B + a ≤ j) → emN (upd ν j v) B a = upd (emN ν B a) j v
  | 0, _ => rfl
  | a + 1, h => by
    show upd (emN (upd ν j v) B a) (B + a) (nI 0) = upd (upd (emN ν B a) (B + a) (nI 0)) j v
    rw [emN_comm ν B (by omega), fa_upd_swap _ (by omega)]
theorem emN_vo (ho : RO R) {l s t : Nat} {d e : Int} (hl : l < R 0 0) (hs : s < R 0 2) (ht : t < R 3 s) (z : VZ R κ) (M : MP κ l d e) : ∀ {a : Nat}, a ≤ 9 → VZ R (emN κ (sl0 l s t) a) ∧ MP (emN κ (sl0 l s t) a) l (d + fb_si (fun i => mI κ (sl0 l s t + i)) a) e
  | 0, _ => ⟨z, by rw [show fb_si (fun i => mI κ (sl0 l s t + i)) 0 = 0 from rfl, Int.add_zero]; exact M⟩
  | a + 1, ha => by
    obtain ⟨z1, M1⟩ := emN_vo ho hl hs ht z M (a := a) (by omega)
    have o1 := ho.L
    have o3 := ho.S
    have o8 := ho.s hs
    have u : sl0 l s t = 204 + 9 * (5 * (8 * l + s) + t) := rfl
    have g := emN_out κ (sl0 l s t) (a := a) (j := sl0 l s t + a) (by omega)
    show VZ R (upd (emN κ (sl0 l s t) a) (sl0 l s t + a) (nI 0)) ∧ MP (upd (emN κ (sl0 l s t) a) (sl0 l s t + a) (nI 0)) l _ e
    generalize emN κ (sl0 l s t) a = θ at *
    constructor
    · by_cases c : a < R 0 5
      · exact z1.kp ho hl hs ht c
      · have z0 := z1.2.1.2.2.1 l s t a (by omega) (by omega) (by omega) (by omega) (by omega)
        rw [fa_upd_same (show θ (sl0 l s t + a) = nI 0 from z0)]
        exact z1
    · have e0 : sl0 l s t + a = 204 + 360 * l + (9 * (5 * s + t) + a) := by omega
      have M2 := M1.kp (x := nI 0) (i := 9 * (5 * s + t) + a) (show l < 6 by omega) (by omega) (by decide)
      rw [← e0] at M2
      have v : mI θ (sl0 l s t + a) = mI κ (sl0 l s t + a) := by unfold mI; rw [g]
      have n0 : (nI 0).toInt = 0 := by decide
      rw [v, n0] at M2
      rw [fb_si_succ]
      have e2 : d + fb_si (fun i => mI κ (sl0 l s t + i)) a - (0 - mI κ (sl0 l s t + a)) = d + (fb_si (fun i => mI κ (sl0 l s t + i)) a + mI κ (sl0 l s t + a)) := by omega
      rw [← e2]; exact M2
theorem clS_vo (ho : RO R) (hv : VO R κ) {p d l s t : Nat} (hp : p < R 0 1) (hl : l < R 0 0) (hs : s < R 0 2) (ht : t < R 3 s) : VO R (clS κ p d l s t) := by
  have o1 := ho.L
  have o2 := ho.P
  have o3 := ho.S
  have o8 := ho.s hs
  have u : sl0 l s t = 204 + 9 * (5 * (8 * l + s) + t) := rfl
  have u2 : lp0 l s t = 2364 + 5 * (8 * l + s) + t := rfl
  have m := hv.2.2.1
  have ml := m.land (show l < 6 by omega)
  have mK := m.kept (show l < 6 by omega) (show s < 8 by omega) (show t < 5 by omega)
  have mL := m.laps (show l < 6 by omega) (show s < 8 by omega) (show t < 5 by omega)
  have mC := m.claim (show l < 6 by omega) (show s < 8 by omega) (show t < 5 by omega)
  have mP := m.paid (show p < 16 by omega) (show l < 6 by omega)
  have p0 := m.n0 (show 6 * p + l < 2604 by omega)
  have w0 := m.n0 (show 96 + 6 * p + l < 2604 by omega)
  have wp := m.2.2 (6 * p + l) (by omega)
  rw [show 96 + (6 * p + l) = 96 + 6 * p + l by omega] at wp
  have wp : (κ (96 + 6 * p + l)).toInt ≤ (κ (6 * p + l)).toInt := wp
  have bdef : mI κ (192 + l) = (κ (192 + l)).toInt := rfl
  rw [← u2] at mL mC
  have sumK : (keptP κ l s t).toInt = fb_si (fun a => mI κ (sl0 l s t + a)) 9 := mK.1
  have M0 := MP.of (R := R) m l
  have key : ∃ (d0 e0 : Int), VZ R (clB κ p d l s t) ∧ MP (clB κ p d l s t) l d0 e0 ∧ d0 = -(keptP κ l s t).toInt ∧ e0 ≤ (κ (lp0 l s t)).toInt := by
    unfold clB
    by_cases c : pay κ l d 1 = true
    · rw [if_pos c]
      generalize hK : keptP κ l s t = Kt at *
      have hx : (κ (6 * p + l) + (Kt + κ (lp0 l s t))).toInt = mI κ (6 * p + l) + (Kt.toInt + (κ (lp0 l s t)).toInt) := by
        rw [fb_addI (by omega) (by omega), mC.1]
        rfl
      have hy : (κ (96 + 6 * p + l) + (Kt + κ (lp0 l s t))).toInt = (κ (96 + 6 * p + l)).toInt + (Kt.toInt + (κ (lp0 l s t)).toInt) := by
        rw [fb_addI (by omega) (by omega), mC.1]
      have pdef : mI κ (6 * p + l) = (κ (6 * p + l)).toInt := rfl
      have M1 := M0.pw (show p < 16 by omega) (show l < 6 by omega) hx (y := κ (96 + 6 * p + l) + (Kt + κ (lp0 l s t))) (by omega) (by omega)
      have z1 := (hv.z.pd ho (v := κ (6 * p + l) + (Kt + κ (lp0 l s t))) hp hl).wt ho (v := κ (96 + 6 * p + l) + (Kt + κ (lp0 l s t))) hp hl
      have e1 : upd (upd κ (6 * p + l) (κ (6 * p + l) + (Kt + κ (lp0 l s t)))) (96 + 6 * p + l) (κ (96 + 6 * p + l) + (Kt + κ (lp0 l s t))) (192 + l) = κ (192 + l) := by rw [upd_ne (by omega), upd_ne (by omega)]
      generalize upd (upd κ (6 * p + l) (κ (6 * p + l) + (Kt + κ (lp0 l s t)))) (96 + 6 * p + l) (κ (96 + 6 * p + l) + (Kt + κ (lp0 l s t))) = θ at *
      have hb : (κ (192 + l) - κ (lp0 l s t)).toInt = mI θ (192 + l) + (-(κ (lp0 l s t)).toInt) := by
        have v : mI θ (192 + l) = (κ (192 + l)).toInt := by unfold mI; rw [e1]
        rw [fb_subI (by omega) (by omega), v]
        omega
      have v : mI θ (192 + l) = (κ (192 + l)).toInt := by unfold mI; rw [e1]
      have M2 := M1.bx (show l < 6 by omega) hb (by omega)
      exact ⟨_, _, z1.bx ho hl, M2, by omega, by omega⟩
    · rw [if_neg c]
      generalize hK : keptP κ l s t = Kt at *
      have hb : (κ (192 + l) + Kt).toInt = mI κ (192 + l) + Kt.toInt := by
        rw [fb_addI (by omega) (by omega)]
        rfl
      have M2 := M0.bx (show l < 6 by omega) hb (by omega)
      exact ⟨_, _, hv.z.bx ho hl, M2, by omega, by omega⟩
  have cell : ∀ j, 204 ≤ j → j < 2604 → clB κ p d l s t j = κ j := by
    intro j h1 h2
    unfold clB
    split
    · rw [upd_ne (by omega), upd_ne (by omega), upd_ne (by omega)]
    · rw [upd_ne (by omega)]
  obtain ⟨d0, e0, z, M, hd, he⟩ := key
  unfold clS
  generalize clB κ p d l s t = θ at *
  obtain ⟨z9, M9⟩ := emN_vo ho hl hs ht z M (Nat.le_refl 9)
  have s9 : fb_si (fun i => mI θ (sl0 l s t + i)) 9 = (keptP κ l s t).toInt := by
    rw [sumK]
    exact fb_si_cong (fun i hi => by unfold mI; rw [cell _ (by omega) (by omega)])
  rw [s9] at M9
  have gl := emN_out θ (sl0 l s t) (a := 9) (j := lp0 l s t) (by omega)
  rw [cell _ (by omega) (by omega)] at gl
  generalize emN θ (sl0 l s t) 9 = θ9 at *
  have e3 : lp0 l s t = 2364 + 40 * l + (5 * s + t) := by omega
  have M10 := M9.lp (x := nI 0) (i := 5 * s + t) (show l < 6 by omega) (by omega) (by decide)
  rw [← e3] at M10
  have v : mI θ9 (lp0 l s t) = (κ (lp0 l s t)).toInt := by unfold mI; rw [gl]
  have n0 : (nI 0).toInt = 0 := by decide
  rw [v, n0] at M10
  exact (z9.lp ho (v := nI 0) hl hs ht).vo (M10.mo (by omega) (by omega))
theorem clS_hi {p d l s t j : Nat} (hp : p < 16) (hl : l < 6) (hs : s < 8) (ht : t < 5) (hj : 2604 ≤ j) : clS κ p d l s t j = κ j := by
  have u : sl0 l s t = 204 + 9 * (5 * (8 * l + s) + t) := rfl
  have u2 : lp0 l s t = 2364 + 5 * (8 * l + s) + t := rfl
  unfold clS
  rw [upd_ne (by omega), emN_out _ _ (by omega)]
  unfold clB
  split
  · rw [upd_ne (by omega), upd_ne (by omega), upd_ne (by omega)]
  · rw [upd_ne (by omega)]
theorem clL_vo (ho : RO R) (hv : VO R ν) {p d s t : Nat} (hp : p < R 0 1) (hs : s < R 0 2) (ht : t < R 3 s) : ∀ {l : Nat}, l ≤ R 0 0 → VO R (clL ν p d s t l) ∧ ∀ j, 2604 ≤ j → clL ν p d s t l j = ν j
  | 0, _ => ⟨hv, fun _ _ => rfl⟩
  | l + 1, hl => by
    obtain ⟨i1, i2⟩ := clL_vo ho hv hp hs ht (l := l) (by omega)
    have o1 := ho.L
    have o2 := ho.P
    have o3 := ho.S
    have o8 := ho.s hs
    exact ⟨clS_vo ho i1 hp (by omega) hs ht, fun j hj => (clS_hi (by omega) (by omega) (by omega) (by omega) hj).trans (i2 j hj)⟩
/-! the class -/
theorem Bk_keepNothing_eq {l s t : Nat} (b : BR σ 0 R κ) (ho : RO R) (hl : l < 6) (hs : s < 8) (ht : t < 5) : ∃ τ, Bk_keepNothing σ 0 (nI ((l * 8 + s) * 5 + t)) = some τ ∧ FrK (bk 0) σ τ ∧ BR τ 0 R (emN κ (sl0 l s t) 9) := by
  have u : sl0 l s t = 204 + 9 * (5 * (8 * l + s) + t) := rfl
  unfold Bk_keepNothing
  obtain ⟨z, ⟨hz1, hz2, hz3⟩, rec, ez⟩ := lp_invG (β := ST) (z0 := (σ, (0 : Int32))) (step := fun rec2 (z1 : ST × Int32) => (if 9 ≤ z1.2 then some z1.1 else bd_ (stI z1.1 7 0 ((nI ((l * 8 + s) * 5 + t) * 9) + z1.2) 0) (fun s4 => rec2 (s4, (z1.2 + 1))))) 9 (by decide) (fun a z => z.2 = nI a ∧ FrK (bk 0) σ z.1 ∧ BR z.1 0 R (emN κ (sl0 l s t) a)) ⟨rfl, FrK.rf σ, b⟩ (by
    rintro rec a ⟨x, c⟩ ha ⟨hc, fx, bx⟩
    have hc : c = nI a := hc
    subst hc
    have fx : FrK (bk 0) σ x := fx
    have bx : BR x 0 R (emN κ (sl0 l s t) a) := bx
    have bn := bx.r7 (j := ((l * 8 + s) * 5 + t) * 9 + a) (v := nI 0) ho (by omega)
    rw [show 204 + (((l * 8 + s) * 5 + t) * 9 + a) = sl0 l s t + a by omega] at bn
    refine ⟨(setR x 7 0 (upd (x.1 7 0) (((l * 8 + s) * 5 + t) * 9 + a) (nI 0)), nI (a + 1)), ⟨rfl, fx.tr (fr_bkR x _ rfl), bn⟩, ?_⟩
    simp (disch := omega) only [bd_some, bd_none, lt_eq, lk_eq, fa_lit, nI_add, nI_mul, nI_sub, nle_t, nle_f, nlt_t, nlt_f, neq_t, neq_f, neg_ne, neg_ne', if_true, if_false, ite_true, ite_false, Nat.zero_add, Nat.add_zero, ld0, ld1, ld2, ld3, ld4, ld5, ld6, ld7, ld8, ld9, ld10, ld11, ld12, ld13, ld14, ld15, ld16, ld17, ld18, ld19, ld20, ld21, ld22, ld23, ld24, ld25, ld26, ld27, ld28, ld29, ld30, ld31, ld32, ld33, ld34, ld35, ld36, ld37, ld38, ld39, ld40, ld41, ld42, ld43, ld44, ld45, ld46, ld47, ld48, ld100, ld101, ld102, ld103, ld104, ld105, st0, st1, st2, st3, st4, st5, st6, st7, st8, st9, st10, st11, st12, st13, st14, st15, st16, st17, st18, st19, st20, st21, st22, st23, st24, st25, st26, st27, st28, st29, st30, st31, st32, st33, st34, st35, st36, st37, st38, st39, st40, st41, st42, st43, st44, st45, st46, st47, st48, st100, st101, st102, st103, st104, st105, gF])
  obtain ⟨x, c⟩ := z
  have hc : c = nI 9 := hz1
  subst hc
  refine ⟨x, ez.trans ?_, hz2, hz3⟩
  simp (disch := omega) only [bd_some, bd_none, lt_eq, lk_eq, fa_lit, nI_add, nI_mul, nI_sub, nle_t, nle_f, nlt_t, nlt_f, neq_t, neq_f, neg_ne, neg_ne', if_true, if_false, ite_true, ite_false, Nat.zero_add, Nat.add_zero, ld0, ld1, ld2, ld3, ld4, ld5, ld6, ld7, ld8, ld9, ld10, ld11, ld12, ld13, ld14, ld15, ld16, ld17, ld18, ld19, ld20, ld21, ld22, ld23, ld24, ld25, ld26, ld27, ld28, ld29, ld30, ld31, ld32, ld33, ld34, ld35, ld36, ld37, ld38, ld39, ld40, ld41, ld42, ld43, ld44, ld45, ld46, ld47, ld48, ld100, ld101, ld102, ld103, ld104, ld105, gF]
theorem Bk_enterClaim_eq {p d s t : Nat} (c : CR σ r R) (b : BR σ 0 R ν) (ho : RO R) (hv : VO R ν) (hp : p < R 0 1) (hd : d < R 0 0) (ed : ν (2672 + p) = nI d) (hs : s < R 0 2) (ht : t < R 3 s) : ∃ τ, Bk_enterClaim σ 0 r (nI p) (nI s) (nI t) = some (worthP R ν d s t, τ) ∧ FrK (bk 0) σ τ ∧ BR τ 0 R (upd (clL ν p d s t (R 0 0)) (2604 + 5 * s + t) (nI p)) := by
  have o1 := ho.L
  have o2 := ho.P
  have o3 := ho.S
  have o8 := ho.s hs
  have cv := fun l (hl : l ≤ R 0 0) => clL_vo (d := d) ho hv hp hs ht hl
  unfold Bk_enterClaim
  rw [Bk_worthOfSeat_eq c b ho hp ed hd (by omega) (by omega), bd_some]
  obtain ⟨z, ⟨hz1, hz2, hz3⟩, rec, ez⟩ := lp_invG (β := Int32 × ST) (z0 := (σ, (0 : Int32))) (step := fun rec3 (z2 : ST × Int32) => (if (gF z2.1 529 r) ≤ z2.2 then bd_ (stI z2.1 27 0 ((nI s * 5) + nI t) (nI p)) (fun s5 => some (worthP R ν d s t, s5)) else bd_ (Rp_slotOf z2.1 z2.2 (nI s) (nI t)) (fun q6 => bd_ (Bk_keptAtSlot z2.1 0 q6) (fun q7 => bd_ (ldI z2.1 26 0 (nI p)) (fun v8 => bd_ (Wo_payable z2.1 0 z2.2 v8 1) (fun q9 => lk_ (fun kk11 => (if q9 = 0 then bd_ (ldI z2.1 0 0 z2.2) (fun v15 => bd_ (stI z2.1 0 0 z2.2 (v15 + q7)) (fun s16 => kk11 s16)) else bd_ (ldI z2.1 4 0 ((nI p * 6) + z2.2)) (fun v17 => bd_ (ldI z2.1 6 0 q6) (fun v18 => bd_ (stI z2.1 4 0 ((nI p * 6) + z2.2) (v17 + (q7 + v18))) (fun s19 => bd_ (ldI s19 0 0 z2.2) (fun v20 => bd_ (ldI s19 6 0 q6) (fun v21 => bd_ (stI s19 0 0 z2.2 (v20 - v21)) (fun s22 => kk11 s22)))))))) (fun (j10 : ST) => bd_ (stI j10 6 0 q6 0) (fun s13 => bd_ (Bk_keepNothing s13 0 q6) (fun q14 => rec3 (q14, (z2.2 + 1))))))))))) (R 0 0) (by omega) (fun l z => z.2 = nI l ∧ FrK (bk 0) σ z.1 ∧ BR z.1 0 R (clL ν p d s t l)) ⟨rfl, FrK.rf σ, b⟩ (by
    rintro rec l ⟨x, a⟩ hl ⟨ha, fx, bx⟩
    have ha : a = nI l := ha
    subst ha
    have fx : FrK (bk 0) σ x := fx
    have bx : BR x 0 R (clL ν p d s t l) := bx
    have cx := c.bb fx
    obtain ⟨vl, hi⟩ := cv l (by omega)
    have ed2 : clL ν p d s t l (2672 + p) = nI d := (hi _ (by omega)).trans ed
    have rn : clL ν p d s t (l + 1) = clS (clL ν p d s t l) p d l s t := rfl
    rw [rn]
    generalize clL ν p d s t l = κ at *
    have u2 : lp0 l s t = 2364 + ((l * 8 + s) * 5 + t) := by unfold lp0; omega
    have u0 : sl0 l s t = 204 + 9 * (5 * (8 * l + s) + t) := rfl
    have v6 : x.1 6 0 ((l * 8 + s) * 5 + t) = κ (lp0 l s t) := by rw [u2]; exact bx.2.2.2.2.2.2.2.1 _ (by omega)
    have fin : ∀ (y : ST), FrK (bk 0) σ y → BR y 0 R (clB κ p d l s t) → ∃ w, FrK (bk 0) σ w ∧ BR w 0 R (clS κ p d l s t) ∧ (bd_ (stI y 6 0 (nI ((l * 8 + s) * 5 + t)) (nI 0)) fun s13 => bd_ (Bk_keepNothing s13 0 (nI ((l * 8 + s) * 5 + t))) fun q14 => rec (q14, nI (l + 1))) = rec (w, nI (l + 1)) := by
      intro y fy bY
      have b6 := bY.r6 (j := (l * 8 + s) * 5 + t) (v := nI 0) ho (by omega)
      rw [← u2] at b6
      obtain ⟨w, ew, fw, bw⟩ := Bk_keepNothing_eq b6 ho (show l < 6 by omega) (show s < 8 by omega) (show t < 5 by omega)
      rw [emN_comm _ _ (by omega)] at bw
      refine ⟨w, (fy.tr (fr_bkR y _ rfl)).tr fw, bw, ?_⟩
      rw [st6 (by omega), bd_some, ew, bd_some]
    have pre : Wo_payable x 0 (nI l) (nI d) (nI 1) = some (b01 (pay κ l d 1)) := Wo_payable_eq bx.W ho hl hd
    by_cases cp : pay κ l d 1 = true
    · have b4 := bx.w4 (p := p) (l := l) (c := keptP κ l s t + κ (lp0 l s t)) ho (by omega) (by omega)
      have e0 : upd (upd κ (6 * p + l) (κ (6 * p + l) + (keptP κ l s t + κ (lp0 l s t)))) (96 + 6 * p + l) (κ (96 + 6 * p + l) + (keptP κ l s t + κ (lp0 l s t))) (192 + l) = κ (192 + l) := by rw [upd_ne (by omega), upd_ne (by omega)]
      have b0 := b4.r0 (j := l) (v := κ (192 + l) - κ (lp0 l s t)) ho (by omega)
      have v0 : x.1 0 0 l = κ (192 + l) := bx.bx (by omega)
      simp only [rd_ne (show (0 : Nat) ≠ 4 by decide)] at b0
      obtain ⟨w, fw, bw, ew⟩ := fin (setR (setR x 4 0 (upd (x.1 4 0) (p * 6 + l) (x.1 4 0 (p * 6 + l) + (keptP κ l s t + κ (lp0 l s t))))) 0 0 (upd (x.1 0 0) l (κ (192 + l) - κ (lp0 l s t)))) ((fx.tr (fr_bkR x _ rfl)).tr (fr_bkR _ _ rfl)) (by unfold clB; rw [if_pos cp]; exact b0)
      refine ⟨(w, nI (l + 1)), ⟨rfl, fw, bw⟩, ?_⟩
      refine Eq.trans ?_ ew
      simp (disch := omega) only [bd_some, bd_none, lt_eq, lk_eq, fa_lit, nI_add, nI_mul, nI_sub, nle_t, nle_f, nlt_t, nlt_f, neq_t, neq_f, neg_ne, neg_ne', if_true, if_false, ite_true, ite_false, Nat.zero_add, Nat.add_zero, ld0, ld1, ld2, ld3, ld4, ld5, ld6, ld7, ld8, ld9, ld10, ld11, ld12, ld13, ld14, ld15, ld16, ld17, ld18, ld19, ld20, ld21, ld22, ld23, ld24, ld25, ld26, ld27, ld28, ld29, ld30, ld31, ld32, ld33, ld34, ld35, ld36, ld37, ld38, ld39, ld40, ld41, ld42, ld43, ld44, ld45, ld46, ld47, ld48, ld100, ld101, ld102, ld103, ld104, ld105, gF, cx.L, Rp_slotOf_eq, Bk_keptAtSlot_eq bx, bx.W.hm hp, ed2, pre, cp, b01_0, v6, st4, st0, rd_ne, v0, Bool.true_eq_false]
    · have cp : pay κ l d 1 = false := ts_nt cp
      have b0 := bx.r0 (j := l) (v := κ (192 + l) + keptP κ l s t) ho (by omega)
      have v0 : x.1 0 0 l = κ (192 + l) := bx.bx (by omega)
      obtain ⟨w, fw, bw, ew⟩ := fin (setR x 0 0 (upd (x.1 0 0) l (κ (192 + l) + keptP κ l s t))) (fx.tr (fr_bkR x _ rfl)) (by unfold clB; rw [if_neg (by rw [cp]; decide)]; exact b0)
      refine ⟨(w, nI (l + 1)), ⟨rfl, fw, bw⟩, ?_⟩
      refine Eq.trans ?_ ew
      simp (disch := omega) only [bd_some, bd_none, lt_eq, lk_eq, fa_lit, nI_add, nI_mul, nI_sub, nle_t, nle_f, nlt_t, nlt_f, neq_t, neq_f, neg_ne, neg_ne', if_true, if_false, ite_true, ite_false, Nat.zero_add, Nat.add_zero, ld0, ld1, ld2, ld3, ld4, ld5, ld6, ld7, ld8, ld9, ld10, ld11, ld12, ld13, ld14, ld15, ld16, ld17, ld18, ld19, ld20, ld21, ld22, ld23, ld24, ld25, ld26, ld27, ld28, ld29, ld30, ld31, ld32, ld33, ld34, ld35, ld36, ld37, ld38, ld39, ld40, ld41, ld42, ld43, ld44, ld45, ld46, ld47, ld48, ld100, ld101, ld102, ld103, ld104, ld105, gF, cx.L, Rp_slotOf_eq, Bk_keptAtSlot_eq bx, bx.W.hm hp, ed2, pre, cp, b01_0, st0, v0])
  obtain ⟨x, a⟩ := z
  have ha : a = nI (R 0 0) := hz1
  subst ha
  have fx : FrK (bk 0) σ x := hz2
  have bx : BR x 0 R (clL ν p d s t (R 0 0)) := hz3
  have bn := bx.r27 (j := s * 5 + t) (v := nI p) ho (by omega)
  rw [hol_n (by omega), show 2604 + (s * 5 + t) = 2604 + 5 * s + t by omega] at bn
  refine ⟨setR x 27 0 (upd (x.1 27 0) (s * 5 + t) (nI p)), ez.trans ?_, fx.tr (fr_bkR x _ rfl), bn⟩
  simp (disch := omega) only [bd_some, bd_none, lt_eq, lk_eq, fa_lit, nI_add, nI_mul, nI_sub, nle_t, nle_f, nlt_t, nlt_f, neq_t, neq_f, neg_ne, neg_ne', if_true, if_false, ite_true, ite_false, Nat.zero_add, Nat.add_zero, ld0, ld1, ld2, ld3, ld4, ld5, ld6, ld7, ld8, ld9, ld10, ld11, ld12, ld13, ld14, ld15, ld16, ld17, ld18, ld19, ld20, ld21, ld22, ld23, ld24, ld25, ld26, ld27, ld28, ld29, ld30, ld31, ld32, ld33, ld34, ld35, ld36, ld37, ld38, ld39, ld40, ld41, ld42, ld43, ld44, ld45, ld46, ld47, ld48, ld100, ld101, ld102, ld103, ld104, ld105, st0, st1, st2, st3, st4, st5, st6, st7, st8, st9, st10, st11, st12, st13, st14, st15, st16, st17, st18, st19, st20, st21, st22, st23, st24, st25, st26, st27, st28, st29, st30, st31, st32, st33, st34, st35, st36, st37, st38, st39, st40, st41, st42, st43, st44, st45, st46, st47, st48, st100, st101, st102, st103, st104, st105, gF, (c.bb fx).L]
/-! the reference -/
theorem Mo_empties_eq {l s t : Nat} (hl : l < 6) (hs : s < 8) (ht : t < 5) : Mo_empties σ (nI l) (nI s) (nI t) = some (setR σ 34 0 (upd (emN (σ.1 34 0) (sl0 l s t) 9) (lp0 l s t) (nI 0))) := by
  have u : sl0 l s t = 204 + 9 * (5 * (8 * l + s) + t) := rfl
  have u2 : lp0 l s t = 2364 + 5 * (8 * l + s) + t := rfl
  have k0 : ∀ x : ST, Mo_keptAt x (nI l) (nI s) (nI t) = some (nI (sl0 l s t)) := fun x => Mo_keptAt_eq l s t
  have k1 : ∀ x : ST, Mo_lapsedAt x (nI l) (nI s) (nI t) = some (nI (lp0 l s t)) := fun x => Mo_lapsedAt_eq l s t
  unfold Mo_empties
  refine lp_runE 9 (by decide) (fun a => (setR σ 34 0 (emN (σ.1 34 0) (sl0 l s t) a), nI a)) (by show (setR σ 34 0 (σ.1 34 0), nI 0) = _; rw [setR_self]; rfl) (fun rec a ha => ?_) (fun rec => ?_)
  · simp (disch := omega) only [bd_some, bd_none, lt_eq, lk_eq, fa_lit, nI_add, nI_mul, nI_sub, nle_t, nle_f, nlt_t, nlt_f, neq_t, neq_f, neg_ne, neg_ne', if_true, if_false, ite_true, ite_false, Nat.zero_add, Nat.add_zero, ld0, ld1, ld2, ld3, ld4, ld5, ld6, ld7, ld8, ld9, ld10, ld11, ld12, ld13, ld14, ld15, ld16, ld17, ld18, ld19, ld20, ld21, ld22, ld23, ld24, ld25, ld26, ld27, ld28, ld29, ld30, ld31, ld32, ld33, ld34, ld35, ld36, ld37, ld38, ld39, ld40, ld41, ld42, ld43, ld44, ld45, ld46, ld47, ld48, ld100, ld101, ld102, ld103, ld104, ld105, st0, st1, st2, st3, st4, st5, st6, st7, st8, st9, st10, st11, st12, st13, st14, st15, st16, st17, st18, st19, st20, st21, st22, st23, st24, st25, st26, st27, st28, st29, st30, st31, st32, st33, st34, st35, st36, st37, st38, st39, st40, st41, st42, st43, st44, st45, st46, st47, st48, st100, st101, st102, st103, st104, st105, gF, k0, rd_eq, setR_setR]
    rfl
  · simp (disch := omega) only [bd_some, bd_none, lt_eq, lk_eq, fa_lit, nI_add, nI_mul, nI_sub, nle_t, nle_f, nlt_t, nlt_f, neq_t, neq_f, neg_ne, neg_ne', if_true, if_false, ite_true, ite_false, Nat.zero_add, Nat.add_zero, ld0, ld1, ld2, ld3, ld4, ld5, ld6, ld7, ld8, ld9, ld10, ld11, ld12, ld13, ld14, ld15, ld16, ld17, ld18, ld19, ld20, ld21, ld22, ld23, ld24, ld25, ld26, ld27, ld28, ld29, ld30, ld31, ld32, ld33, ld34, ld35, ld36, ld37, ld38, ld39, ld40, ld41, ld42, ld43, ld44, ld45, ld46, ld47, ld48, ld100, ld101, ld102, ld103, ld104, ld105, st0, st1, st2, st3, st4, st5, st6, st7, st8, st9, st10, st11, st12, st13, st14, st15, st16, st17, st18, st19, st20, st21, st22, st23, st24, st25, st26, st27, st28, st29, st30, st31, st32, st33, st34, st35, st36, st37, st38, st39, st40, st41, st42, st43, st44, st45, st46, st47, st48, st100, st101, st102, st103, st104, st105, gF, k1, rd_eq, setR_setR]
theorem not_mbr {p s : Nat} (ho : RO R) (hs : s < R 0 2) (h : inP R ν p s = false) : ∀ k, k < R 2 s → R 4 (8 * s + k) ≠ p := by
  intro k hk e
  have h2 : roleP R ν p s = -nI 2 := by rw [roleP_eq]; exact h
  unfold roleP at h2
  have hf : fd (mbr R p s) (R 2 s) < R 2 s := fd_lt.mpr ⟨k, hk, by simp [mbr, e]⟩
  rw [if_pos hf] at h2
  have := ho.m hs hf
  exact absurd h2 (of_eq_false (neg_ne (by omega) (by decide)))
theorem pay_cong {l o a : Nat} (e : ∀ j, 2660 ≤ j → j < 2672 → μ j = ν j) (hl : l < 6) (hq : o < 6) : pay μ l o a = pay ν l o a := by
  unfold pay hrl
  rw [e _ (by omega) (by omega), e _ (by omega) (by omega), e _ (by omega) (by omega), e _ (by omega) (by omega)]
theorem q_claim (h : IV σ R) (x y : Int32) : QA (Rp_claim σ x y) (fun τ => Mo_claim τ x y) := by
  obtain ⟨h1, hc, en⟩ := thr h (nI 0)
  have o1 := h.ro.L
  have o2 := h.ro.P
  have o3 := h.ro.S
  unfold Rp_claim Mo_claim
  rcases at_or (x := x) (n := R 0 1) (by omega) with ⟨p, hp, rfl⟩ | hx
  rotate_left
  · refine QAf (v := -nI 1) h ?_ ?_ <;> simp (disch := omega) only [bd_some, lt_eq, fa_lit, neq_t, neq_f, if_true, if_false, ite_true, ite_false, Rp_isLand_t h, Mo_isLand_t h1.mr h1.ro, Rp_isPlayer_t h, Mo_isPlayer_t h1.mr h1.ro, Rp_isSession_t h, Mo_isSession_t h1.mr h1.ro, Rp_isSeat_t h, Mo_isSeat_t h1.mr h1.ro, Rp_isChoice_t, Mo_isRole_t, h.q0, h.cr.L, h.cr.P, h.cr.S, h.cr.kp, h.cr.ld, h1.mr.L, h1.mr.P, h1.mr.S, h1.mr.kp, h1.mr.ld, en, Rp_claimBar, Mo_whyNoClaim, Rp_isPlayer_f h hx, Mo_isPlayer_f h1.mr hx, neg_ge0, neg_ne, neg_ne']
  rcases at_or (x := y) (n := R 0 2) (by omega) with ⟨s, hs, rfl⟩ | hx
  rotate_left
  · refine QAf (v := -nI 1) h ?_ ?_ <;> simp (disch := omega) only [bd_some, lt_eq, fa_lit, neq_t, neq_f, if_true, if_false, ite_true, ite_false, Rp_isLand_t h, Mo_isLand_t h1.mr h1.ro, Rp_isPlayer_t h, Mo_isPlayer_t h1.mr h1.ro, Rp_isSession_t h, Mo_isSession_t h1.mr h1.ro, Rp_isSeat_t h, Mo_isSeat_t h1.mr h1.ro, Rp_isChoice_t, Mo_isRole_t, h.q0, h.cr.L, h.cr.P, h.cr.S, h.cr.kp, h.cr.ld, h1.mr.L, h1.mr.P, h1.mr.S, h1.mr.kp, h1.mr.ld, en, Rp_claimBar, Mo_whyNoClaim, Rp_isSession_f h hx, Mo_isSession_f h1.mr hx, neg_ge0, neg_ne, neg_ne']
  have bc := Rp_claimBar_eq h hp hs
  have bm := Mo_whyNoClaim_eq h1 hp hs
  rw [en] at bm
  rcases barP_or (R := R) (ν := σ.1 34 0) p s with e | e | e
  rotate_left
  · refine QAf (v := -nI 2) h ?_ ?_ <;> simp (disch := omega) only [bd_some, lt_eq, fa_lit, neq_t, neq_f, if_true, if_false, ite_true, ite_false, bc, bm, e, neg_ge0, neg_ne, neg_ne']
  · refine QAf (v := -nI 3) h ?_ ?_ <;> simp (disch := omega) only [bd_some, lt_eq, fa_lit, neq_t, neq_f, if_true, if_false, ite_true, ite_false, bc, bm, e, neg_ge0, neg_ne, neg_ne']
  obtain ⟨nin, t, ht, es, eo⟩ := barP_0 e
  obtain ⟨d, hd, ed⟩ := h.ho.1 p hp
  have o8 := h.ro.s hs
  have hvn := h.vo
  obtain ⟨σ1, e1, j1, b1⟩ := act h
  have hov := h.ho
  have fo := Wo_firstOpen_eq j1.cr b1.W h.ro hov hs
  generalize hν : σ.1 34 0 = ν at *
  rw [es] at fo
  obtain ⟨σ2, e2, f2, b2⟩ := Bk_enterClaim_eq j1.cr b1 h.ro hvn hp hd ed hs ht
  have j2 := j1.cb (bk_cbd f2)
  have cv := fun l (hl : l ≤ R 0 0) => clL_vo (d := d) h.ro hvn hp hs ht hl
  obtain ⟨τ, e3, k3⟩ := keeps_of j2.t b2.t
  have i2 : MR (setF σ2 840 0 (nI 0)) R := j2.t.2.1
  have n2 : (setF σ2 840 0 (nI 0)).1 34 0 = ν := j2.t.2.2.2.2.2.1
  obtain ⟨vf, hif⟩ := cv (R 0 0) (Nat.le_refl _)
  have vfin : VO R (upd (clL ν p d s t (R 0 0)) (2604 + 5 * s + t) (nI p)) := by
    refine vf.low (fun k hk => upd_ne (by omega)) (upd_ne (by omega)) ⟨fun q hq => ?_, fun s' t' hs' ht' => ?_⟩ (fun l hl => ?_)
    · rw [upd_ne (by omega)]; exact vf.1.1 q hq
    · have o8' := h.ro.s hs'
      rw [upd_at]
      split
      · rename_i q
        have es' : s' = s := by omega
        subst es'
        exact Or.inr ⟨p, hp, rfl, not_mbr h.ro hs nin⟩
      · exact vf.1.2 s' t' hs' ht'
    · rw [upd_ne (by omega)]; exact vf.2.2.2.2 l hl
  refine ⟨worthP R ν d s t, σ2, setR τ 34 0 (upd (clL ν p d s t (R 0 0)) (2604 + 5 * s + t) (nI p)), R, ?_, ?_, k3.fin (fr_rbR τ _) rd_eq vfin⟩
  · simp (disch := omega) only [bd_some, lt_eq, fa_lit, neq_t, neq_f, if_true, if_false, ite_true, ite_false, bc, e, e1, j1.q0, fo, e2]
  · have wm : Mo_whyNoClaim (setF σ2 840 0 (nI 0)) (nI p) (nI s) = some (nI 0) := by
      unfold Mo_whyNoClaim
      have r1 := Mo_roleOf_eq (p := p) i2 h.ro hs (by omega)
      have r2 := Mo_openSeat_eq i2 h.ro hs
      rw [n2] at r1 r2
      rw [es] at r2
      have r3 : roleP R ν p s = -nI 2 := by rw [roleP_eq]; exact nin
      rw [r3] at r1
      simp (disch := omega) only [bd_some, bd_none, lt_eq, lk_eq, fa_lit, nI_add, nI_mul, nI_sub, nle_t, nle_f, nlt_t, nlt_f, neq_t, neq_f, neg_ne, neg_ne', if_true, if_false, ite_true, ite_false, Nat.zero_add, Nat.add_zero, ld0, ld1, ld2, ld3, ld4, ld5, ld6, ld7, ld8, ld9, ld10, ld11, ld12, ld13, ld14, ld15, ld16, ld17, ld18, ld19, ld20, ld21, ld22, ld23, ld24, ld25, ld26, ld27, ld28, ld29, ld30, ld31, ld32, ld33, ld34, ld35, ld36, ld37, ld38, ld39, ld40, ld41, ld42, ld43, ld44, ld45, ld46, ld47, ld48, ld100, ld101, ld102, ld103, ld104, ld105, gF, Mo_isPlayer_t i2 h.ro, Mo_isSession_t i2 h.ro, r1, r2]
    have os := Mo_openSeat_eq k3.mr h.ro hs
    rw [k3.n, es] at os
    have bb := Mo_broughtBy_eq (σ := τ) (p := p) (s := s) (t := t) (d := d) k3.mr h.ro (by omega) (by rw [k3.n]; exact ed) (by omega) (by omega) (by omega)
    rw [k3.n] at bb
    show lt_ (setF σ2 840 0 (nI 0)) _ = _
    rw [lt_eq, wm, bd_some, if_pos (show (0 : Int32) ≤ nI 0 by decide), e3, bd_some, os, bd_some, bb, bd_some]
    have ms : ∀ f, MR (setR τ 34 0 f) R := fun f => k3.mr.s34 f
    refine lp_runE (R 0 0) (by omega) (fun l => (setR τ 34 0 (clL ν p d s t l), nI l)) (by show (setR τ 34 0 ν, nI 0) = _; rw [← k3.n, setR_self]; rfl) (fun rec l hl => ?_) (fun rec => ?_)
    · obtain ⟨vl, hi⟩ := cv l (by omega)
      have ed2 : clL ν p d s t l (2672 + p) = nI d := (hi _ (by omega)).trans ed
      have rn : clL ν p d s t (l + 1) = clS (clL ν p d s t l) p d l s t := rfl
      rw [rn]
      generalize clL ν p d s t l = κ at *
      have k1 : ∀ x : ST, Mo_lapsedAt x (nI l) (nI s) (nI t) = some (nI (lp0 l s t)) := fun x => Mo_lapsedAt_eq l s t
      have u2 : lp0 l s t = 2364 + 5 * (8 * l + s) + t := rfl
      have kk : Mo_keptOf (setR τ 34 0 κ) (nI l) (nI s) (nI t) = some (keptP κ l s t) := by
        have := Mo_keptOf_eq (σ := setR τ 34 0 κ) (l := l) (s := s) (t := t) (by omega) (by omega) (by omega)
        rw [rd_eq] at this
        exact this
      have dp : Mo_doesPay (setR τ 34 0 κ) (nI l) (nI d) (nI 1) = some (b01 (pay κ l d 1)) := by
        have := Mo_doesPay_eq (σ := setR τ 34 0 κ) (l := l) (o := d) (r := 1) (by omega) (by omega)
        rw [rd_eq] at this
        exact this
      have em : ∀ f, Mo_empties (setR τ 34 0 f) (nI l) (nI s) (nI t) = some (setR τ 34 0 (upd (emN f (sl0 l s t) 9) (lp0 l s t) (nI 0))) := fun f => by
        rw [Mo_empties_eq (by omega) (by omega) (by omega), rd_eq, setR_setR]
      unfold clS clB
      by_cases cp : pay κ l d 1 = true
      · have e0 : upd (upd κ (6 * p + l) (κ (6 * p + l) + (keptP κ l s t + κ (lp0 l s t)))) (96 + 6 * p + l) (κ (96 + 6 * p + l) + (keptP κ l s t + κ (lp0 l s t))) (192 + l) = κ (192 + l) := by rw [upd_ne (by omega), upd_ne (by omega)]
        simp (disch := omega) only [bd_some, bd_none, lt_eq, lk_eq, fa_lit, nI_add, nI_mul, nI_sub, nle_t, nle_f, nlt_t, nlt_f, neq_t, neq_f, neg_ne, neg_ne', if_true, if_false, ite_true, ite_false, Nat.zero_add, Nat.add_zero, ld0, ld1, ld2, ld3, ld4, ld5, ld6, ld7, ld8, ld9, ld10, ld11, ld12, ld13, ld14, ld15, ld16, ld17, ld18, ld19, ld20, ld21, ld22, ld23, ld24, ld25, ld26, ld27, ld28, ld29, ld30, ld31, ld32, ld33, ld34, ld35, ld36, ld37, ld38, ld39, ld40, ld41, ld42, ld43, ld44, ld45, ld46, ld47, ld48, ld100, ld101, ld102, ld103, ld104, ld105, st0, st1, st2, st3, st4, st5, st6, st7, st8, st9, st10, st11, st12, st13, st14, st15, st16, st17, st18, st19, st20, st21, st22, st23, st24, st25, st26, st27, st28, st29, st30, st31, st32, st33, st34, st35, st36, st37, st38, st39, st40, st41, st42, st43, st44, st45, st46, st47, st48, st100, st101, st102, st103, st104, st105, gF, (ms _).L, kk, k1, rd_eq, ed2, dp, cp, b01_0, Mo_pays2_eq, setR_setR, em, e0, Bool.true_eq_false]
      · have cp : pay κ l d 1 = false := ts_nt cp
        simp (disch := omega) only [bd_some, bd_none, lt_eq, lk_eq, fa_lit, nI_add, nI_mul, nI_sub, nle_t, nle_f, nlt_t, nlt_f, neq_t, neq_f, neg_ne, neg_ne', if_true, if_false, ite_true, ite_false, Nat.zero_add, Nat.add_zero, ld0, ld1, ld2, ld3, ld4, ld5, ld6, ld7, ld8, ld9, ld10, ld11, ld12, ld13, ld14, ld15, ld16, ld17, ld18, ld19, ld20, ld21, ld22, ld23, ld24, ld25, ld26, ld27, ld28, ld29, ld30, ld31, ld32, ld33, ld34, ld35, ld36, ld37, ld38, ld39, ld40, ld41, ld42, ld43, ld44, ld45, ld46, ld47, ld48, ld100, ld101, ld102, ld103, ld104, ld105, st0, st1, st2, st3, st4, st5, st6, st7, st8, st9, st10, st11, st12, st13, st14, st15, st16, st17, st18, st19, st20, st21, st22, st23, st24, st25, st26, st27, st28, st29, st30, st31, st32, st33, st34, st35, st36, st37, st38, st39, st40, st41, st42, st43, st44, st45, st46, st47, st48, st100, st101, st102, st103, st104, st105, gF, (ms _).L, kk, k1, rd_eq, ed2, dp, cp, b01_0, setR_setR, em, Bool.false_eq_true]
    · simp (disch := omega) only [bd_some, bd_none, lt_eq, lk_eq, fa_lit, nI_add, nI_mul, nI_sub, nle_t, nle_f, nlt_t, nlt_f, neq_t, neq_f, neg_ne, neg_ne', if_true, if_false, ite_true, ite_false, Nat.zero_add, Nat.add_zero, ld0, ld1, ld2, ld3, ld4, ld5, ld6, ld7, ld8, ld9, ld10, ld11, ld12, ld13, ld14, ld15, ld16, ld17, ld18, ld19, ld20, ld21, ld22, ld23, ld24, ld25, ld26, ld27, ld28, ld29, ld30, ld31, ld32, ld33, ld34, ld35, ld36, ld37, ld38, ld39, ld40, ld41, ld42, ld43, ld44, ld45, ld46, ld47, ld48, ld100, ld101, ld102, ld103, ld104, ld105, st0, st1, st2, st3, st4, st5, st6, st7, st8, st9, st10, st11, st12, st13, st14, st15, st16, st17, st18, st19, st20, st21, st22, st23, st24, st25, st26, st27, st28, st29, st30, st31, st32, st33, st34, st35, st36, st37, st38, st39, st40, st41, st42, st43, st44, st45, st46, st47, st48, st100, st101, st102, st103, st104, st105, gF, (ms _).L, rd_eq, setR_setR]
end Claim

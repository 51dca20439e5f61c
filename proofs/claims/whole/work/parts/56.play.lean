/-! ===== play ===== -/
def VZ (R : RT) (ν : NU) : Prop := HO R ν ∧ ZO R ν ∧ (∃ y, y ≤ 9999 ∧ ν 2688 = nI y) ∧ TO R ν
section Vz
variable {σ τ : ST} {R : RT} {ν μ : NU}
theorem VO.z (h : VO R ν) : VZ R ν := ⟨h.1, h.2.1, h.2.2.2.1, h.2.2.2.2⟩
theorem VZ.vo (h : VZ R ν) (m : MO R ν) : VO R ν := ⟨h.1, h.2.1, m, h.2.2.1, h.2.2.2⟩
theorem VZ.lo (h : VZ R ν) (ho : RO R) {j : Nat} {v : Int32} (hj : j < 2604) (z : ZO R (upd ν j v)) : VZ R (upd ν j v) := by
  have o1 := ho.L
  obtain ⟨⟨a1, a2⟩, -, ⟨y, hy, ey⟩, t⟩ := h
  refine ⟨⟨fun p hp => ?_, fun s t hs ht => ?_⟩, z, ⟨y, hy, by rw [upd_ne (by omega)]; exact ey⟩, fun l hl => ?_⟩
  · rw [upd_ne (by omega)]; exact a1 p hp
  · rw [upd_ne (by omega)]; exact a2 s t hs ht
  · rw [upd_ne (by omega)]; exact t l hl
theorem VZ.pd (h : VZ R ν) (ho : RO R) {p l : Nat} {v : Int32} (hp : p < R 0 1) (hl : l < R 0 0) : VZ R (upd ν (6 * p + l) v) := by
  have o1 := ho.L
  have o2 := ho.P
  have o3 := ho.S
  refine h.lo ho (by omega) ?_
  obtain ⟨z1, z2, z3, z4⟩ := h.2.1
  refine ⟨fun p' l' hp' hl' c => ?_, fun l' hl' c => ?_, fun l s t a hl hs ht ha c => ?_, fun l s t hl hs ht c => ?_⟩
  · rw [upd_ne (by omega), upd_ne (by omega)]; exact z1 p' l' hp' hl' c
  · rw [upd_ne (by omega), upd_ne (by omega)]; exact z2 l' hl' c
  · rw [upd_ne (by omega)]; exact z3 l s t a hl hs ht ha c
  · rw [upd_ne (by omega)]; exact z4 l s t hl hs ht c
theorem VZ.wt (h : VZ R ν) (ho : RO R) {p l : Nat} {v : Int32} (hp : p < R 0 1) (hl : l < R 0 0) : VZ R (upd ν (96 + 6 * p + l) v) := by
  have o1 := ho.L
  have o2 := ho.P
  have o3 := ho.S
  refine h.lo ho (by omega) ?_
  obtain ⟨z1, z2, z3, z4⟩ := h.2.1
  refine ⟨fun p' l' hp' hl' c => ?_, fun l' hl' c => ?_, fun l s t a hl hs ht ha c => ?_, fun l s t hl hs ht c => ?_⟩
  · rw [upd_ne (by omega), upd_ne (by omega)]; exact z1 p' l' hp' hl' c
  · rw [upd_ne (by omega), upd_ne (by omega)]; exact z2 l' hl' c
  · rw [upd_ne (by omega)]; exact z3 l s t a hl hs ht ha c
  · rw [upd_ne (by omega)]; exact z4 l s t hl hs ht c
theorem VZ.bx (h : VZ R ν) (ho : RO R) {l : Nat} {v : Int32} (hl : l < R 0 0) : VZ R (upd ν (192 + l) v) := by
  have o1 := ho.L
  refine h.lo ho (by omega) ?_
  obtain ⟨z1, z2, z3, z4⟩ := h.2.1
  refine ⟨fun p' l' hp' hl' c => ?_, fun l' hl' c => ?_, fun l s t a hl hs ht ha c => ?_, fun l s t hl hs ht c => ?_⟩
  · rw [upd_ne (by omega), upd_ne (by omega)]; exact z1 p' l' hp' hl' c
  · rw [upd_ne (by omega), upd_ne (by omega)]; exact z2 l' hl' c
  · rw [upd_ne (by omega)]; exact z3 l s t a hl hs ht ha c
  · rw [upd_ne (by omega)]; exact z4 l s t hl hs ht c
theorem VZ.mn (h : VZ R ν) (ho : RO R) {l : Nat} {v : Int32} (hl : l < R 0 0) : VZ R (upd ν (198 + l) v) := by
  have o1 := ho.L
  refine h.lo ho (by omega) ?_
  obtain ⟨z1, z2, z3, z4⟩ := h.2.1
  refine ⟨fun p' l' hp' hl' c => ?_, fun l' hl' c => ?_, fun l s t a hl hs ht ha c => ?_, fun l s t hl hs ht c => ?_⟩
  · rw [upd_ne (by omega), upd_ne (by omega)]; exact z1 p' l' hp' hl' c
  · rw [upd_ne (by omega), upd_ne (by omega)]; exact z2 l' hl' c
  · rw [upd_ne (by omega)]; exact z3 l s t a hl hs ht ha c
  · rw [upd_ne (by omega)]; exact z4 l s t hl hs ht c
theorem VZ.kp (h : VZ R ν) (ho : RO R) {l s t a : Nat} {v : Int32} (hl : l < R 0 0) (hs : s < R 0 2) (ht : t < R 3 s) (ha : a < R 0 5) : VZ R (upd ν (204 + 9 * (5 * (8 * l + s) + t) + a) v) := by
  have o1 := ho.L
  have o3 := ho.S
  have o5 := ho.kp
  have o8 := ho.s hs
  refine h.lo ho (by omega) ?_
  obtain ⟨z1, z2, z3, z4⟩ := h.2.1
  refine ⟨fun p' l' hp' hl' c => ?_, fun l' hl' c => ?_, fun l' s' t' a' hl' hs' ht' ha' c => ?_, fun l s t hl hs ht c => ?_⟩
  · rw [upd_ne (by omega), upd_ne (by omega)]; exact z1 p' l' hp' hl' c
  · rw [upd_ne (by omega), upd_ne (by omega)]; exact z2 l' hl' c
  · rw [upd_ne]
    · exact z3 l' s' t' a' hl' hs' ht' ha' c
    · intro q
      have e : l' = l ∧ s' = s ∧ t' = t ∧ a' = a := by omega
      obtain ⟨rfl, rfl, rfl, rfl⟩ := e
      omega
  · rw [upd_ne (by omega)]; exact z4 l s t hl hs ht c
theorem VZ.lp (h : VZ R ν) (ho : RO R) {l s t : Nat} {v : Int32} (hl : l < R 0 0) (hs : s < R 0 2) (ht : t < R 3 s) : VZ R (upd ν (2364 + 5 * (8 * l + s) + t) v) := by
  have o1 := ho.L
  have o3 := ho.S
  have o8 := ho.s hs
  refine h.lo ho (by omega) ?_
  obtain ⟨z1, z2, z3, z4⟩ := h.2.1
  refine ⟨fun p' l' hp' hl' c => ?_, fun l' hl' c => ?_, fun l s t a hl hs ht ha c => ?_, fun l' s' t' hl' hs' ht' c => ?_⟩
  · rw [upd_ne (by omega), upd_ne (by omega)]; exact z1 p' l' hp' hl' c
  · rw [upd_ne (by omega), upd_ne (by omega)]; exact z2 l' hl' c
  · rw [upd_ne (by omega)]; exact z3 l s t a hl hs ht ha c
  · rw [upd_ne]
    · exact z4 l' s' t' hl' hs' ht' c
    · intro q
      have e : l' = l ∧ s' = s ∧ t' = t := by omega
      obtain ⟨rfl, rfl, rfl⟩ := e
      omega
/-- copies and sums of a session -/
theorem VZ.cs (h : VZ R ν) (ho : RO R) {j : Nat} {v : Int32} (hj : 2644 ≤ j ∧ j < 2660) : VZ R (upd ν j v) := by
  have o1 := ho.L
  have o2 := ho.P
  have o3 := ho.S
  obtain ⟨⟨a1, a2⟩, ⟨z1, z2, z3, z4⟩, ⟨y, hy, ey⟩, t⟩ := h
  refine ⟨⟨fun p hp => ?_, fun s t hs ht => ?_⟩, ⟨fun p' l' hp' hl' c => ?_, fun l' hl' c => ?_, fun l s t a hl hs ht ha c => ?_, fun l s t hl hs ht c => ?_⟩, ⟨y, hy, by rw [upd_ne (by omega)]; exact ey⟩, fun l hl => ?_⟩
  · rw [upd_ne (by omega)]; exact a1 p hp
  · have o8 := ho.s hs
    rw [upd_ne (by omega)]; exact a2 s t hs ht
  · rw [upd_ne (by omega), upd_ne (by omega)]; exact z1 p' l' hp' hl' c
  · rw [upd_ne (by omega), upd_ne (by omega)]; exact z2 l' hl' c
  · rw [upd_ne (by omega)]; exact z3 l s t a hl hs ht ha c
  · rw [upd_ne (by omega)]; exact z4 l s t hl hs ht c
  · rw [upd_ne (by omega)]; exact t l hl
/-! where a share goes doesn't hang on money -/
theorem wh_cong (ho : RO R) (e : ∀ j, (2604 ≤ j ∧ j < 2644) ∨ (2660 ≤ j ∧ j < 2688) → μ j = ν j) {s k : Nat} (hs : s < R 0 2) (hk : k < hdP R s) : whP R μ s k = whP R ν s k := by
  have o3 := ho.S
  have o8 := ho.s hs
  unfold whP
  split
  · rfl
  · unfold hdP at hk
    rw [e _ (by omega)]
theorem ft_cong (ho : RO R) (hv : HO R ν) (e : ∀ j, (2604 ≤ j ∧ j < 2644) ∨ (2660 ≤ j ∧ j < 2688) → μ j = ν j) {l s k : Nat} (hl : l < R 0 0) (hs : s < R 0 2) (hk : k < hdP R s) : ftP R μ l s k = ftP R ν l s k := by
  have o1 := ho.L
  have o2 := ho.P
  have o3 := ho.S
  unfold ftP
  rw [wh_cong ho e hs hk]
  rcases wh_or ho hv hs hk with q | ⟨p, d, hp, hd, q, ed⟩
  · rw [if_pos q, if_pos q]
    unfold hrl
    rw [e _ (by omega)]
  · have hm1 : hmP ν (nI p) = d := hm_eq (by omega) (by omega) ed
    have hm2 : hmP μ (nI p) = d := hm_eq (by omega) (by omega) (by rw [e _ (by omega)]; exact ed)
    rw [q, hm1, hm2]
    unfold pay hrl
    rw [e _ (by omega), e _ (by omega), e _ (by omega), e _ (by omega)]
theorem ft1_wh {l s k : Nat} (h : ftP R ν l s k = 1) : whP R ν s k = -nI 1 := by
  unfold ftP at h
  split at h
  · assumption
  · split at h <;> cases h
theorem wh_open (ho : RO R) {s k : Nat} (hs : s < R 0 2) (h : whP R ν s k = -nI 1) : R 2 s ≤ k := by
  rcases Nat.lt_or_ge k (R 2 s) with c | c
  · unfold whP at h
    rw [if_pos c] at h
    have := ho.m hs c
    have o2 := ho.P
    have o3 := ho.S
    exact absurd h (of_eq_false (neg_ne (by omega) (by decide)))
  · exact c
def plS (R : RT) (ν : NU) (l s m : Nat) (μ : NU) (k : Nat) : NU := if ftP R ν l s k = 0 then upd (upd μ (6 * (whP R ν s k).toNatClampNeg + l) (μ (6 * (whP R ν s k).toNatClampNeg + l) + nI (shP R s m k))) (96 + 6 * (whP R ν s k).toNatClampNeg + l) (μ (96 + 6 * (whP R ν s k).toNatClampNeg + l) + nI (shP R s m k)) else if ftP R ν l s k = 1 then upd μ (204 + 9 * (5 * (8 * l + s) + (k - R 2 s))) (μ (204 + 9 * (5 * (8 * l + s) + (k - R 2 s))) + nI (shP R s m k)) else upd μ (192 + l) (μ (192 + l) + nI (shP R s m k))
def plV (R : RT) (ν : NU) (l s m : Nat) (μ : NU) : Nat → NU
  | 0 => μ
  | k + 1 => plS R ν l s m (plV R ν l s m μ k) k
theorem pl_p (ho : RO R) (hv : HO R ν) {l s k : Nat} (hs : s < R 0 2) (hk : k < hdP R s) (h : ftP R ν l s k = 0) : ∃ p, p < R 0 1 ∧ whP R ν s k = nI p ∧ (whP R ν s k).toNatClampNeg = p := by
  have o2 := ho.P
  have o3 := ho.S
  rcases wh_or ho hv hs hk with q | ⟨p, d, hp, hd, q, ed⟩
  · exact absurd q (ft0_wh h)
  · exact ⟨p, hp, q, by rw [q, nI_clamp (by omega)]⟩
theorem plS_comm (ho : RO R) (hv : HO R ν) {l s m k j : Nat} {v : Int32} (hl : l < R 0 0) (hs : s < R 0 2) (hk : k < hdP R s) (hj : (198 ≤ j ∧ j < 204) ∨ 2604 ≤ j) : plS R ν l s m (upd μ j v) k = upd (plS R ν l s m μ k) j v ∧ plS R ν l s m μ k j = μ j := by
  have o1 := ho.L
  have o2 := ho.P
  have o3 := ho.S
  have o8 := ho.s hs
  have h13 := hd_le ho hs
  unfold plS
  by_cases c1 : ftP R ν l s k = 0
  · obtain ⟨p, hp, -, ep⟩ := pl_p ho hv hs hk c1
    simp only [c1, if_true, ep]
    rw [upd_ne (f := μ) (by omega), upd_ne (f := μ) (by omega), fa_upd_swap μ (by omega), fa_upd_swap _ (by omega), upd_ne (by omega), upd_ne (by omega)]
    exact ⟨rfl, rfl⟩
  · by_cases c2 : ftP R ν l s k = 1
    · have := wh_open ho hs (ft1_wh c2)
      unfold hdP at hk
      simp only [c1, c2, if_true, if_false, show ¬ (1 : Nat) = 0 by decide]
      rw [upd_ne (f := μ) (by omega), fa_upd_swap μ (by omega), upd_ne (by omega)]
      exact ⟨rfl, rfl⟩
    · simp only [c1, c2, if_false]
      rw [upd_ne (f := μ) (by omega), fa_upd_swap μ (by omega), upd_ne (by omega)]
      exact ⟨rfl, rfl⟩
theorem plV_comm (ho : RO R) (hv : HO R ν) {l s m j : Nat} {v : Int32} (hl : l < R 0 0) (hs : s < R 0 2) (hj : (198 ≤ j ∧ j < 204) ∨ 2604 ≤ j) : ∀ {k : Nat}, k ≤ hdP R s → plV R ν l s m (upd μ j v) k = upd (plV R ν l s m μ k) j v ∧ plV R ν l s m μ k j = μ j
  | 0, _ => ⟨rfl, rfl⟩
  | k + 1, hk => by
    obtain ⟨i1, i2⟩ := plV_comm ho hv (m := m) (v := v) hl hs hj (k := k) (by omega)
    obtain ⟨g1, g2⟩ := plS_comm ho hv (m := m) (v := v) (μ := plV R ν l s m μ k) hl hs (show k < hdP R s by omega) hj
    constructor
    · show plS R ν l s m (plV R ν l s m (upd μ j v) k) k = _
      rw [i1, g1]
      rfl
    · show plS R ν l s m (plV R ν l s m μ k) k j = _
      rw [g2, i2]
/-- each share lands -/
theorem plV_vo (ho : RO R) (hv : HO R ν) {l s m : Nat} (hl : l < R 0 0) (hs : s < R 0 2) (hm : m ≤ 99899001) (h1 : VZ R μ) (h2 : MP μ l m 0) : ∀ {k : Nat}, k ≤ hdP R s → VZ R (plV R ν l s m μ k) ∧ ∃ e : Int, e ≤ 0 ∧ MP (plV R ν l s m μ k) l ((m : Int) - (fb_sm (shP R s m) k : Nat)) e
  | 0, _ => ⟨h1, 0, Int.le_refl 0, by
    have e : (m : Int) - ((fb_sm (shP R s m) 0 : Nat) : Int) = (m : Int) := by show (m : Int) - ((0 : Nat) : Int) = _; omega
    rw [e]; exact h2⟩
  | k + 1, hk => by
    obtain ⟨z, e, he, M⟩ := plV_vo ho hv hl hs hm h1 h2 (k := k) (by omega)
    have o1 := ho.L
    have o2 := ho.P
    have o3 := ho.S
    have o5 := ho.kp
    have o8 := ho.s hs
    have h13 := hd_le ho hs
    have tot := sh_all (m := m) ho hs
    have part := fb_sm_part (shP R s m) (show k < hdP R s by omega)
    rw [tot] at part
    have sk : fb_sm (shP R s m) (k + 1) = fb_sm (shP R s m) k + shP R s m k := rfl
    have hsh : shP R s m k ≤ m := by omega
    generalize fb_sm (shP R s m) k = S at *
    have ci : (nI (shP R s m k)).toInt = (shP R s m k : Int) := nI_toInt (by omega)
    show VZ R (plS R ν l s m (plV R ν l s m μ k) k) ∧ ∃ e : Int, e ≤ 0 ∧ MP (plS R ν l s m (plV R ν l s m μ k) k) l ((m : Int) - (fb_sm (shP R s m) (k + 1) : Nat)) e
    rw [sk]
    generalize plV R ν l s m μ k = κ at *
    obtain ⟨M1, M2, M3⟩ := id M
    have ml := M2 l (by omega)
    simp only [if_true] at ml
    have kn : 0 ≤ KPS κ l := (si_part (fun i hi => M1 _ (by omega))).1
    have xn : 0 ≤ mI κ (192 + l) := M1 _ (by omega)
    unfold plS
    by_cases c1 : ftP R ν l s k = 0
    · obtain ⟨p, hp, -, ep⟩ := pl_p ho hv hs (show k < hdP R s by omega) c1
      simp only [c1, if_true, ep]
      have pn := (si_part (f := fun p => mI κ (6 * p + l)) (n := 16) (fun i hi => M1 _ (by omega))).2 p (by omega)
      have pn0 := M1 (6 * p + l) (by omega)
      have wn0 := M1 (96 + 6 * p + l) (by omega)
      have wp := M3 (6 * p + l) (by omega)
      rw [show 96 + (6 * p + l) = 96 + 6 * p + l by omega] at wp
      have pdef : fb_si (fun p => mI κ (6 * p + l)) 16 = PDS κ l := rfl
      rw [pdef] at pn
      have pn : mI κ (6 * p + l) ≤ PDS κ l := pn
      have x1 : (κ (6 * p + l) + nI (shP R s m k)).toInt = mI κ (6 * p + l) + (shP R s m k : Int) := by
        have : (κ (6 * p + l)).toInt = mI κ (6 * p + l) := rfl
        rw [fb_addI (by omega) (by omega), ci]
        rfl
      have y1 : (κ (96 + 6 * p + l) + nI (shP R s m k)).toInt = mI κ (96 + 6 * p + l) + (shP R s m k : Int) := by
        have : (κ (96 + 6 * p + l)).toInt = mI κ (96 + 6 * p + l) := rfl
        rw [fb_addI (by omega) (by omega), ci]
        rfl
      refine ⟨(z.pd ho hp hl).wt ho hp hl, e, he, ?_⟩
      have := M.pw (c := (shP R s m k : Int)) (show p < 16 by omega) (show l < 6 by omega) x1 (y := κ (96 + 6 * p + l) + nI (shP R s m k)) (by omega) (by omega)
      have e2 : (m : Int) - (S : Int) - (shP R s m k : Int) = (m : Int) - ((S + shP R s m k : Nat) : Int) := by omega
      rw [← e2]; exact this
    · by_cases c2 : ftP R ν l s k = 1
      · have hge := wh_open ho hs (ft1_wh c2)
        have hk2 : k < hdP R s := by omega
        unfold hdP at hk2
        simp only [c1, c2, if_true, if_false, show ¬ (1 : Nat) = 0 by decide]
        have ei : 204 + 9 * (5 * (8 * l + s) + (k - R 2 s)) = 204 + 360 * l + 9 * (5 * s + (k - R 2 s)) := by omega
        have kn1 := (si_part (f := fun j => mI κ (204 + 360 * l + j)) (n := 360) (fun i hi => M1 _ (by omega))).2 (9 * (5 * s + (k - R 2 s))) (by omega)
        have kn1 : mI κ (204 + 360 * l + 9 * (5 * s + (k - R 2 s))) ≤ KPS κ l := kn1
        have kn0 := M1 (204 + 360 * l + 9 * (5 * s + (k - R 2 s))) (by omega)
        have pn : 0 ≤ PDS κ l := (si_part (fun i hi => M1 _ (by omega))).1
        refine ⟨z.kp ho (a := 0) hl hs (show k - R 2 s < R 3 s by omega) (by omega), e, he, ?_⟩
        rw [ei]
        have x1 : (κ (204 + 360 * l + 9 * (5 * s + (k - R 2 s))) + nI (shP R s m k)).toInt = mI κ (204 + 360 * l + 9 * (5 * s + (k - R 2 s))) + (shP R s m k : Int) := by
          have : (κ (204 + 360 * l + 9 * (5 * s + (k - R 2 s)))).toInt = mI κ (204 + 360 * l + 9 * (5 * s + (k - R 2 s))) := rfl
          rw [fb_addI (by omega) (by omega), ci]
          rfl
        have := M.kp (x := κ (204 + 360 * l + 9 * (5 * s + (k - R 2 s))) + nI (shP R s m k)) (show l < 6 by omega) (show 9 * (5 * s + (k - R 2 s)) < 360 by omega) (by omega)
        rw [x1] at this
        have e2 : (m : Int) - (S : Int) - (mI κ (204 + 360 * l + 9 * (5 * s + (k - R 2 s))) + (shP R s m k : Int) - mI κ (204 + 360 * l + 9 * (5 * s + (k - R 2 s)))) = (m : Int) - ((S + shP R s m k : Nat) : Int) := by omega
        rw [← e2]; exact this
      · simp only [c1, c2, if_false]
        have pn : 0 ≤ PDS κ l := (si_part (fun i hi => M1 _ (by omega))).1
        have x1 : (κ (192 + l) + nI (shP R s m k)).toInt = mI κ (192 + l) + (shP R s m k : Int) := by
          have : (κ (192 + l)).toInt = mI κ (192 + l) := rfl
          rw [fb_addI (by omega) (by omega), ci]
          rfl
        refine ⟨z.bx ho hl, e - (shP R s m k : Int), by omega, ?_⟩
        have := M.bx (c := (shP R s m k : Int)) (show l < 6 by omega) x1 (by omega)
        have e2 : (m : Int) - (S : Int) - (shP R s m k : Int) = (m : Int) - ((S + shP R s m k : Nat) : Int) := by omega
        rw [← e2]; exact this
end Vz

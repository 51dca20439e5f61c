/-! ===== loops over states; what is left alone ===== -/
theorem lp_invG {τ β : Type} {step : (τ → Option β) → τ → Option β} {z0 : τ} (n : Nat) (hn : n < 100000) (I : Nat → τ → Prop) (h0 : I 0 z0) (hs : ∀ (rec : τ → Option β) (k : Nat) (z : τ), k < n → I k z → ∃ z', I (k + 1) z' ∧ step rec z = rec z') : ∃ z, I n z ∧ ∃ rec : τ → Option β, lp_ step FU z0 = step rec z := by
  have key : ∀ (d k m : Nat) (z : τ), k + d = n → d < m → I k z → ∃ z', I n z' ∧ ∃ rec : τ → Option β, lp_ step m z = step rec z' := by
    intro d
    induction d with
    | zero =>
      intro k m z hk hm hz
      cases m with
      | zero => omega
      | succ m =>
        have : k = n := by omega
        subst this
        exact ⟨z, hz, lp_ step m, rfl⟩
    | succ d ih =>
      intro k m z hk hm hz
      cases m with
      | zero => omega
      | succ m =>
        obtain ⟨z', hz', e⟩ := hs (lp_ step m) k z (by omega) hz
        obtain ⟨z2, h2, rec2, e2⟩ := ih (k + 1) m z' (by omega) (by omega) hz'
        exact ⟨z2, h2, rec2, (show step (lp_ step m) z = _ from e.trans e2)⟩
  exact key n 0 FU z0 (by omega) (by unfold FU; omega) h0
def FrK (P : Nat → Nat → Bool) (σ τ : ST) : Prop := τ.2.2 = σ.2.2 ∧ ∀ k i, P k i = false → τ.1 k i = σ.1 k i
section Frames
variable {P Q : Nat → Nat → Bool} {σ τ υ : ST} {k i : Nat}
theorem FrK.rf (σ : ST) : FrK P σ σ := ⟨rfl, fun _ _ _ => rfl⟩
theorem FrK.tr (h : FrK P σ τ) (g : FrK P τ υ) : FrK P σ υ := ⟨g.1.trans h.1, fun k i c => (g.2 k i c).trans (h.2 k i c)⟩
theorem FrK.mono (h : FrK P σ τ) (hp : ∀ k i, Q k i = false → P k i = false) : FrK Q σ τ := ⟨h.1, fun k i c => h.2 k i (hp k i c)⟩
theorem FrK.setR (σ : ST) (f : Nat → Int32) (h : P k i = true) : FrK P σ (setR σ k i f) := by
  refine ⟨rfl, fun k' i' c => ?_⟩
  show up3 σ.1 k i _ k' i' = _
  unfold up3
  rw [if_neg]
  rintro ⟨rfl, rfl⟩
  rw [h] at c
  cases c
theorem FrK.setF (σ : ST) (v : Int32) (h : P k i = true) : FrK P σ (setF σ k i v) := FrK.setR σ (fun _ => v) h
theorem FrK.setL (σ : ST) (k i : Nat) (f : Nat → Int64) : FrK P σ (setL σ k i f) := ⟨rfl, fun _ _ _ => rfl⟩
theorem FrK.core (h : FrK P σ τ) (hp : ∀ k i, cor k i = true → P k i = false) : Core σ τ := ⟨h.1, fun k i c => h.2 k i (hp k i c)⟩
theorem rd_ne {f : Nat → Int32} {k' i' : Nat} (h : k' ≠ k) : (setR σ k i f).1 k' i' = σ.1 k' i' := by
  show up3 σ.1 k i _ k' i' = _
  unfold up3
  rw [if_neg (fun q => h q.1)]
theorem rd_nei {f : Nat → Int32} {k' i' : Nat} (h : i' ≠ i) : (setR σ k i f).1 k' i' = σ.1 k' i' := by
  show up3 σ.1 k i _ k' i' = _
  unfold up3
  rw [if_neg (fun q => h q.2)]
theorem rd_eq {f : Nat → Int32} : (setR σ k i f).1 k i = f := by
  show up3 σ.1 k i _ k i = _
  unfold up3
  rw [if_pos ⟨rfl, rfl⟩]
theorem rf_ne {v : Int32} {k' i' : Nat} (h : k' ≠ k) : (setF σ k i v).1 k' i' = σ.1 k' i' := rd_ne (f := fun _ => v) h
theorem rf_eq {v : Int32} {j : Nat} : (setF σ k i v).1 k i j = v := congrFun (rd_eq (σ := σ) (k := k) (i := i) (f := fun _ => v)) j
theorem rl_eq {f : Nat → Int64} {k' i' : Nat} : (setL σ k i f).1 k' i' = σ.1 k' i' := rfl
theorem setR_setR (σ : ST) (f g : Nat → Int32) : setR (setR σ k i f) k i g = setR σ k i g := by
  refine Prod.ext (funext fun a => funext fun b => ?_) rfl
  show up3 (up3 σ.1 k i f) k i g a b = up3 σ.1 k i g a b
  unfold up3
  split <;> rfl
theorem setR_self (σ : ST) (k i : Nat) : setR σ k i (σ.1 k i) = σ := by
  refine Prod.ext (funext fun a => funext fun b => ?_) rfl
  show up3 σ.1 k i _ a b = _
  unfold up3
  split
  · rename_i h; rw [h.1, h.2]
  · rfl
theorem setR_cong (σ : ST) {f g : Nat → Int32} (h : ∀ j, f j = g j) : setR σ k i f = setR σ k i g := by rw [funext h]
theorem upd_eq {f : Nat → Int32} {j : Nat} {x : Int32} : upd f j x j = x := if_pos rfl
theorem upd_ne {f : Nat → Int32} {j j' : Nat} {x : Int32} (h : j' ≠ j) : upd f j x j' = f j' := if_neg h
theorem upd_at (f : Nat → Int32) (j : Nat) (x : Int32) (j' : Nat) : upd f j x j' = if j' = j then x else f j' := rfl
end Frames
theorem Jk_fill_eq {σ : ST} {k i : Nat} {v : Int32} (n : Nat) (hl : lenI k = n) (hn : n < 100000) : Jk_fill σ k i v = some (setR σ k i (fa_fill (fun _ => v) (σ.1 k i) n)) := by
  unfold Jk_fill
  rw [lt_eq, hl, show Nat.toInt32 n = nI n from rfl]
  refine lp_runE n hn (fun j => (setR σ k i (fa_fill (fun _ => v) (σ.1 k i) j), nI j)) (by rw [fa_fill_0, setR_self]; rfl) (fun rec j hj => ?_) (fun rec => ?_)
  · rw [if_neg (fun q => of_eq_false (nle_f hj (by omega)) q), stI_in hl (by omega) hj, bd_some, rd_eq, setR_setR, fa_fill_succ (fun _ => v)]
    simp only [fa_lit, nI_add]
  · rw [if_pos (of_eq_true (nle_t (Nat.le_refl n) (by omega)))]
theorem div_i {a b : Nat} (hb : 0 < b) (ha : a < 2147483648) (hb2 : b < 2147483648) : idv (nI a) (nI b) = some (nI (a / b)) := by
  unfold idv
  rw [if_neg (fun q => by rw [show (0 : Int32) = nI 0 from rfl, nI_eq (by omega) (by omega)] at q; omega), pk_div (by omega) hb (by omega)]
theorem rem_i {a b : Nat} (hb : 0 < b) (ha : a < 2147483648) (hb2 : b < 2147483648) : irm (nI a) (nI b) = some (nI (a % b)) := by
  unfold irm
  rw [if_neg (fun q => by rw [show (0 : Int32) = nI 0 from rfl, nI_eq (by omega) (by omega)] at q; omega), pk_rem (by omega) hb (by omega)]
theorem div_l {a b : Nat} (hb : 0 < b) (ha : a < 9223372036854775808) (hb2 : b < 9223372036854775808) : ldv (lN a) (lN b) = some (lN (a / b)) := by
  unfold ldv
  rw [if_neg (fun q => by rw [show (0 : Int64) = lN 0 from rfl, pk_lEQ (by omega) (by omega)] at q; omega), pk_lDiv (by omega) hb (by omega)]
theorem rem_l {a b : Nat} (hb : 0 < b) (ha : a < 9223372036854775808) (hb2 : b < 9223372036854775808) : lrm (lN a) (lN b) = some (lN (a % b)) := by
  unfold lrm
  rw [if_neg (fun q => by rw [show (0 : Int64) = lN 0 from rfl, pk_lEQ (by omega) (by omega)] at q; omega), pk_lRem (by omega) hb (by omega)]
theorem wid_l {a : Nat} (h : a < 2147483648) : (nI a).toInt64 = lN a := nI_l (by omega)
/-! ===== shares ===== -/
def fsP (R : RT) (s : Nat) : Nat := fb_ct (fun k => decide (R 5 (8 * s + k) = 0)) (R 2 s)
def hdP (R : RT) (s : Nat) : Nat := R 2 s + R 3 s
def rlP (R : RT) (s k : Nat) : Nat := if k < R 2 s then R 5 (8 * s + k) else 1
def fmP (R : RT) (s m : Nat) : Nat := if fsP R s = 0 then 0 else if hdP R s - fsP R s = 0 then m else m * R 0 4 / 100
def ctP (R : RT) (s a k : Nat) : Nat := fb_ct (fun j => decide (rlP R s j = a)) k
def shP (R : RT) (s m k : Nat) : Nat := if rlP R s k = 0 then fmP R s m / fsP R s + (if ctP R s 0 k < fmP R s m % fsP R s then 1 else 0) else (m - fmP R s m) / (hdP R s - fsP R s) + (if ctP R s 1 k < (m - fmP R s m) % (hdP R s - fsP R s) then 1 else 0)
def whP (R : RT) (ν : NU) (s k : Nat) : Int32 := if k < R 2 s then nI (R 4 (8 * s + k)) else ν (2604 + 5 * s + (k - R 2 s))
def hmP (ν : NU) (x : Int32) : Nat := (ν (2672 + x.toNatClampNeg)).toNatClampNeg
def ftP (R : RT) (ν : NU) (l s k : Nat) : Nat := if whP R ν s k = -nI 1 then (if hrl ν l 1 then 1 else 2) else if pay ν l (hmP ν (whP R ν s k)) (rlP R s k) then 0 else 2
section Shares
variable {σ τ : ST} {R : RT} {ν : NU} {r i o : Nat}
theorem rlP_lt (ho : RO R) {s k : Nat} (hs : s < R 0 2) : rlP R s k < 2 := by
  unfold rlP
  split
  · rename_i h
    exact (ho.m hs h).2
  · decide
theorem hd_le (ho : RO R) {s : Nat} (hs : s < R 0 2) : hdP R s ≤ 13 ∧ fsP R s ≤ R 2 s ∧ R 2 s ≤ hdP R s ∧ 1 ≤ hdP R s := by
  have := ho.s hs
  have h2 := fb_ct_le (fun k => decide (R 5 (8 * s + k) = 0)) (R 2 s)
  unfold hdP fsP
  omega
theorem ct0 (s : Nat) : ctP R s 0 (hdP R s) = fsP R s := by
  unfold ctP hdP fsP
  rw [fb_ct_split]
  have h1 : fb_ct (fun j => decide (rlP R s j = 0)) (R 2 s) = fb_ct (fun k => decide (R 5 (8 * s + k) = 0)) (R 2 s) := fb_ct_cong (fun k hk => by unfold rlP; rw [if_pos hk])
  have h2 : fb_ct (fun k => decide (rlP R s (R 2 s + k) = 0)) (R 3 s) = 0 := fb_ct_zero.mpr (fun k hk => by unfold rlP; rw [if_neg (by omega)]; rfl)
  omega
theorem ct1 (ho : RO R) {s : Nat} (hs : s < R 0 2) : ctP R s 1 (hdP R s) = hdP R s - fsP R s := by
  have h1 := ct0 (R := R) s
  have h2 := fb_ct_not (fun j => decide (rlP R s j = 0)) (hdP R s)
  have h3 : fb_ct (fun k => !decide (rlP R s k = 0)) (hdP R s) = ctP R s 1 (hdP R s) := fb_ct_cong (fun k hk => by
    have := rlP_lt (k := k) ho hs
    rcases (show rlP R s k = 0 ∨ rlP R s k = 1 by omega) with e | e <;> simp [e])
  unfold ctP at *
  omega
theorem fm_le (ho : RO R) {s m : Nat} : fmP R s m ≤ m := by
  have := ho.2.2.2.2.1
  unfold fmP
  split
  · omega
  · split
    · omega
    · have h2 : m * R 0 4 ≤ m * 100 := Nat.mul_le_mul_left m this
      omega
theorem wh_or (ho : RO R) (hv : HO R ν) {s k : Nat} (hs : s < R 0 2) (hk : k < hdP R s) : whP R ν s k = -nI 1 ∨ ∃ p d, p < R 0 1 ∧ d < R 0 0 ∧ whP R ν s k = nI p ∧ ν (2672 + p) = nI d := by
  unfold whP
  by_cases e : k < R 2 s
  · rw [if_pos e]
    obtain ⟨d, hd, ed⟩ := hv.1 _ (ho.m hs e).1
    exact Or.inr ⟨_, d, (ho.m hs e).1, hd, rfl, ed⟩
  · rw [if_neg e]
    unfold hdP at hk
    rcases hv.2 s (k - R 2 s) hs (by omega) with q | ⟨p, hp, q, -⟩
    · exact Or.inl q
    · obtain ⟨d, hd, ed⟩ := hv.1 p hp
      exact Or.inr ⟨p, d, hp, hd, q, ed⟩
theorem hm_eq {p d : Nat} (hp : p < 16) (hd : d < 6) (e : ν (2672 + p) = nI d) : hmP ν (nI p) = d := by
  unfold hmP
  rw [nI_clamp (by omega), e, nI_clamp (by omega)]
theorem ft_lt (l s k : Nat) : ftP R ν l s k < 3 := by
  unfold ftP
  split
  · split <;> decide
  · split <;> decide
theorem hol_n {p : Nat} (hp : p < 16) : hol (nI p) = nI p := if_neg (fun q => of_eq_false (neg_ne (by omega) (by decide)) q)
theorem Wo_whoAt_eq {s k : Nat} (c : CR σ r R) (w : WR σ i R ν) (ho : RO R) (hs : s < R 0 2) (hk : k < hdP R s) : Wo_whoAt σ i r (nI s) (nI k) = some (hol (whP R ν s k)) := by
  have o2 := ho.P
  have o3 := ho.S
  have o8 := ho.s hs
  have hh := hd_le ho hs
  unfold Wo_whoAt whP
  by_cases e : k < R 2 s
  · have hm := ho.m hs e
    simp (disch := omega) only [bd_some, bd_none, lt_eq, lk_eq, fa_lit, nI_add, nI_mul, nI_sub, nle_t, nle_f, nlt_t, nlt_f, neq_t, neq_f, neg_ne, neg_ne', if_true, if_false, ite_true, ite_false, Nat.zero_add, Nat.add_zero, ld0, ld1, ld2, ld3, ld4, ld5, ld6, ld7, ld8, ld9, ld10, ld11, ld12, ld13, ld14, ld15, ld16, ld17, ld18, ld19, ld20, ld21, ld22, ld23, ld24, ld25, ld26, ld27, ld28, ld29, ld30, ld31, ld32, ld33, ld34, ld35, ld36, ld37, ld38, ld39, ld40, ld41, ld42, ld43, ld44, ld45, ld46, ld47, ld48, ld100, ld101, ld102, ld103, ld104, ld105, gF, c.mk hs, c.mb' hs e, e, hol_n]
  · obtain ⟨t, rfl⟩ : ∃ t, k = R 2 s + t := ⟨k - R 2 s, by omega⟩
    unfold hdP at hk
    have e2 : s * 5 + (R 2 s + t) - R 2 s = s * 5 + t := by omega
    simp (disch := omega) only [bd_some, bd_none, lt_eq, lk_eq, fa_lit, nI_add, nI_mul, nI_sub, nle_t, nle_f, nlt_t, nlt_f, neq_t, neq_f, neg_ne, neg_ne', if_true, if_false, ite_true, ite_false, Nat.zero_add, Nat.add_zero, ld0, ld1, ld2, ld3, ld4, ld5, ld6, ld7, ld8, ld9, ld10, ld11, ld12, ld13, ld14, ld15, ld16, ld17, ld18, ld19, ld20, ld21, ld22, ld23, ld24, ld25, ld26, ld27, ld28, ld29, ld30, ld31, ld32, ld33, ld34, ld35, ld36, ld37, ld38, ld39, ld40, ld41, ld42, ld43, ld44, ld45, ld46, ld47, ld48, ld100, ld101, ld102, ld103, ld104, ld105, gF, c.mk hs, e, e2, w.ho, Nat.add_sub_cancel_left]
theorem Wo_fateOf_eq {l s k : Nat} (w : WR σ i R ν) (ho : RO R) (hv : HO R ν) (hl : l < R 0 0) (hs : s < R 0 2) (hk : k < hdP R s) : Wo_fateOf σ i (nI l) (hol (whP R ν s k)) (nI (rlP R s k)) = some (nI (ftP R ν l s k)) := by
  have o1 := ho.L
  have o2 := ho.P
  unfold Wo_fateOf ftP
  rcases wh_or ho hv hs hk with e | ⟨p, d, hp, hd, e, ed⟩
  · rw [e, hol_m1]
    simp (disch := omega) only [bd_some, bd_none, lt_eq, lk_eq, fa_lit, nI_add, nI_mul, nI_sub, nle_t, nle_f, nlt_t, nlt_f, neq_t, neq_f, neg_ne, neg_ne', if_true, if_false, ite_true, ite_false, Nat.zero_add, Nat.add_zero, ld0, ld1, ld2, ld3, ld4, ld5, ld6, ld7, ld8, ld9, ld10, ld11, ld12, ld13, ld14, ld15, ld16, ld17, ld18, ld19, ld20, ld21, ld22, ld23, ld24, ld25, ld26, ld27, ld28, ld29, ld30, ld31, ld32, ld33, ld34, ld35, ld36, ld37, ld38, ld39, ld40, ld41, ld42, ld43, ld44, ld45, ld46, ld47, ld48, ld100, ld101, ld102, ld103, ld104, ld105, gF, neg_ge0 (show 0 < 2 ∧ 2 < 2147483648 by decide), Wo_hasRole_eq w ho hl, b01_0]
    cases hrl ν l 1 <;> simp
  · rw [e, hol_n (by omega), hm_eq (by omega) (by omega) ed]
    simp (disch := omega) only [bd_some, bd_none, lt_eq, lk_eq, fa_lit, nI_add, nI_mul, nI_sub, nle_t, nle_f, nlt_t, nlt_f, neq_t, neq_f, neg_ne, neg_ne', if_true, if_false, ite_true, ite_false, Nat.zero_add, Nat.add_zero, ld0, ld1, ld2, ld3, ld4, ld5, ld6, ld7, ld8, ld9, ld10, ld11, ld12, ld13, ld14, ld15, ld16, ld17, ld18, ld19, ld20, ld21, ld22, ld23, ld24, ld25, ld26, ld27, ld28, ld29, ld30, ld31, ld32, ld33, ld34, ld35, ld36, ld37, ld38, ld39, ld40, ld41, ld42, ld43, ld44, ld45, ld46, ld47, ld48, ld100, ld101, ld102, ld103, ld104, ld105, gF, w.hm hp, ed, Wo_payable_eq w ho hl hd, b01_0]
    cases pay ν l d (rlP R s k) <;> simp
theorem Mo_whose_eq {s k : Nat} (h : MR σ R) (ho : RO R) (hs : s < R 0 2) (hk : k < hdP R s) : Mo_whose σ (nI s) (nI k) = some (whP R (σ.1 34 0) s k) := by
  have o2 := ho.P
  have o3 := ho.S
  have o8 := ho.s hs
  have hh := hd_le ho hs
  unfold Mo_whose whP
  by_cases e : k < R 2 s
  · simp (disch := omega) only [bd_some, bd_none, lt_eq, lk_eq, fa_lit, nI_add, nI_mul, nI_sub, nle_t, nle_f, nlt_t, nlt_f, neq_t, neq_f, neg_ne, neg_ne', if_true, if_false, ite_true, ite_false, Nat.zero_add, Nat.add_zero, ld0, ld1, ld2, ld3, ld4, ld5, ld6, ld7, ld8, ld9, ld10, ld11, ld12, ld13, ld14, ld15, ld16, ld17, ld18, ld19, ld20, ld21, ld22, ld23, ld24, ld25, ld26, ld27, ld28, ld29, ld30, ld31, ld32, ld33, ld34, ld35, ld36, ld37, ld38, ld39, ld40, ld41, ld42, ld43, ld44, ld45, ld46, ld47, ld48, ld100, ld101, ld102, ld103, ld104, ld105, gF, h.mk hs, h.mb hs e, e]
  · unfold hdP at hk
    simp (disch := omega) only [bd_some, bd_none, lt_eq, lk_eq, fa_lit, nI_add, nI_mul, nI_sub, nle_t, nle_f, nlt_t, nlt_f, neq_t, neq_f, neg_ne, neg_ne', if_true, if_false, ite_true, ite_false, Nat.zero_add, Nat.add_zero, ld0, ld1, ld2, ld3, ld4, ld5, ld6, ld7, ld8, ld9, ld10, ld11, ld12, ld13, ld14, ld15, ld16, ld17, ld18, ld19, ld20, ld21, ld22, ld23, ld24, ld25, ld26, ld27, ld28, ld29, ld30, ld31, ld32, ld33, ld34, ld35, ld36, ld37, ld38, ld39, ld40, ld41, ld42, ld43, ld44, ld45, ld46, ld47, ld48, ld100, ld101, ld102, ld103, ld104, ld105, gF, h.mk hs, e, Mo_owner_eq]
theorem Mo_where_eq {l s k : Nat} (h : MR σ R) (ho : RO R) (hv : HO R (σ.1 34 0)) (hl : l < R 0 0) (hs : s < R 0 2) (hk : k < hdP R s) : Mo_where σ (nI l) (nI s) (nI k) = some (nI (ftP R (σ.1 34 0) l s k)) := by
  have o1 := ho.L
  have o2 := ho.P
  have hra : Mo_roleAt σ (nI s) (nI k) = some (nI (rlP R s k)) := Mo_roleAt_eq h ho hs hk
  unfold Mo_where ftP
  rcases wh_or ho hv hs hk with e | ⟨p, d, hp, hd, e, ed⟩
  · simp (disch := omega) only [bd_some, bd_none, lt_eq, lk_eq, fa_lit, nI_add, nI_mul, nI_sub, nle_t, nle_f, nlt_t, nlt_f, neq_t, neq_f, neg_ne, neg_ne', if_true, if_false, ite_true, ite_false, Nat.zero_add, Nat.add_zero, ld0, ld1, ld2, ld3, ld4, ld5, ld6, ld7, ld8, ld9, ld10, ld11, ld12, ld13, ld14, ld15, ld16, ld17, ld18, ld19, ld20, ld21, ld22, ld23, ld24, ld25, ld26, ld27, ld28, ld29, ld30, ld31, ld32, ld33, ld34, ld35, ld36, ld37, ld38, ld39, ld40, ld41, ld42, ld43, ld44, ld45, ld46, ld47, ld48, ld100, ld101, ld102, ld103, ld104, ld105, gF, Mo_whose_eq h ho hs hk, e, hrl]
    by_cases e2 : (σ.1 34 0 (2666 + l) >>> (nI 1 &&& nI 31)) &&& nI 1 = nI 1 <;> simp [e2]
  · rw [e, hm_eq (by omega) (by omega) ed]
    simp (disch := omega) only [bd_some, bd_none, lt_eq, lk_eq, fa_lit, nI_add, nI_mul, nI_sub, nle_t, nle_f, nlt_t, nlt_f, neq_t, neq_f, neg_ne, neg_ne', if_true, if_false, ite_true, ite_false, Nat.zero_add, Nat.add_zero, ld0, ld1, ld2, ld3, ld4, ld5, ld6, ld7, ld8, ld9, ld10, ld11, ld12, ld13, ld14, ld15, ld16, ld17, ld18, ld19, ld20, ld21, ld22, ld23, ld24, ld25, ld26, ld27, ld28, ld29, ld30, ld31, ld32, ld33, ld34, ld35, ld36, ld37, ld38, ld39, ld40, ld41, ld42, ld43, ld44, ld45, ld46, ld47, ld48, ld100, ld101, ld102, ld103, ld104, ld105, gF, Mo_whose_eq h ho hs hk, e, ed, hra, Mo_doesPay_eq, b01_0]
    cases pay (σ.1 34 0) l d (rlP R s k) <;> simp
/-! the class lays shares -/
theorem sub_le0 {a b : Nat} (ha : a < 1073741824) (hb : b < 1073741824) : (nI a - nI b ≤ nI 0) = (a ≤ b) := by
  rw [fa_le, pk_sub_toInt ha hb, nI_toInt (by decide)]
  exact propext ⟨fun q => by omega, fun q => by omega⟩
theorem sub_m1 (a b : Nat) : nI a - nI b + -nI 1 = nI a - nI (b + 1) := by
  rw [← nI_add, Int32.sub_eq_add_neg, Int32.sub_eq_add_neg, Int32.neg_add, Int32.add_assoc, Int32.sub_eq_add_neg]
theorem Oc_handOut_eq {s a all am : Nat} (c : CR σ r R) (ho : RO R) (hs : s < R 0 2) (hh : σ.1 396 o 0 = nI (hdP R s)) (ha : all < 1073741824) (hm : am < 14) (hz : am = 0 → ∀ j, j < hdP R s → rlP R s j ≠ a) (ha2 : a < 2) : ∃ f, Oc_handOut σ o r (nI s) (nI a) (nI all) (nI am) = some (setR σ 9 o f) ∧ ∀ j, j < hdP R s → f j = if rlP R s j = a then nI (all / am + (if ctP R s a j < all % am then 1 else 0)) else σ.1 9 o j := by
  have h13 := hd_le ho hs
  by_cases e0 : am = 0
  · refine ⟨σ.1 9 o, ?_, fun j hj => (if_neg (hz e0 j hj)).symm⟩
    unfold Oc_handOut
    rw [setR_self]
    simp (disch := omega) only [bd_some, bd_none, lt_eq, lk_eq, fa_lit, nI_add, nI_mul, nI_sub, nle_t, nle_f, nlt_t, nlt_f, neq_t, neq_f, neg_ne, neg_ne', if_true, if_false, ite_true, ite_false, Nat.zero_add, Nat.add_zero, ld0, ld1, ld2, ld3, ld4, ld5, ld6, ld7, ld8, ld9, ld10, ld11, ld12, ld13, ld14, ld15, ld16, ld17, ld18, ld19, ld20, ld21, ld22, ld23, ld24, ld25, ld26, ld27, ld28, ld29, ld30, ld31, ld32, ld33, ld34, ld35, ld36, ld37, ld38, ld39, ld40, ld41, ld42, ld43, ld44, ld45, ld46, ld47, ld48, ld100, ld101, ld102, ld103, ld104, ld105, gF]
  generalize hrow : (fun (n j : Nat) => if j < n ∧ rlP R s j = a then nI (all / am + (if ctP R s a j < all % am then 1 else 0)) else σ.1 9 o j) = row
  have hr : ∀ n j, row n j = if j < n ∧ rlP R s j = a then nI (all / am + (if ctP R s a j < all % am then 1 else 0)) else σ.1 9 o j := fun n j => by rw [← hrow]
  refine ⟨row (hdP R s), ?_, fun j hj => by rw [hr]; simp [hj]⟩
  have hcr : ∀ f, CR (setR σ 9 o f) r R := fun f => c.core (Core.setR σ f rfl)
  have hlt : all % am < 14 := Nat.lt_trans (Nat.mod_lt _ (by omega)) hm
  unfold Oc_handOut
  simp (disch := omega) only [bd_some, bd_none, lt_eq, lk_eq, fa_lit, nI_add, nI_mul, nI_sub, nle_t, nle_f, nlt_t, nlt_f, neq_t, neq_f, neg_ne, neg_ne', if_true, if_false, ite_true, ite_false, Nat.zero_add, Nat.add_zero, ld0, ld1, ld2, ld3, ld4, ld5, ld6, ld7, ld8, ld9, ld10, ld11, ld12, ld13, ld14, ld15, ld16, ld17, ld18, ld19, ld20, ld21, ld22, ld23, ld24, ld25, ld26, ld27, ld28, ld29, ld30, ld31, ld32, ld33, ld34, ld35, ld36, ld37, ld38, ld39, ld40, ld41, ld42, ld43, ld44, ld45, ld46, ld47, ld48, ld100, ld101, ld102, ld103, ld104, ld105, gF, div_i, rem_i]
  have e1 : (σ, nI (all % am), nI 0) = (setR σ 9 o (row 0), nI (all % am) - nI (ctP R s a 0), nI 0) := by
    rw [show row 0 = σ.1 9 o from funext fun j => by rw [hr, if_neg (fun q => Nat.not_lt_zero _ q.1)], setR_self]
    exact Prod.ext rfl (Prod.ext (Int32.sub_zero _).symm rfl)
  rw [e1]
  refine lp_run (hdP R s) (by omega) (fun k => (setR σ 9 o (row k), nI (all % am) - nI (ctP R s a k), nI k)) (fun rec k hk => ?_) (fun rec => ?_)
  · have hra : Rl_roleAt (setR σ 9 o (row k)) r (nI s) (nI k) = some (nI (rlP R s k)) := Rl_roleAt_eq (hcr _) ho hs hk
    have hlk := fb_ct_le (fun j => decide (rlP R s j = a)) k
    have hlk2 : ctP R s a k ≤ k := hlk
    have hrl := rlP_lt (k := k) ho hs
    have cts : ctP R s a (k + 1) = ctP R s a k + if rlP R s k = a then 1 else 0 := by
      unfold ctP
      rw [fb_ct_succ]
      simp
    simp (disch := omega) only [bd_some, bd_none, lt_eq, lk_eq, fa_lit, nI_add, nI_mul, nI_sub, nle_t, nle_f, nlt_t, nlt_f, neq_t, neq_f, neg_ne, neg_ne', if_true, if_false, ite_true, ite_false, Nat.zero_add, Nat.add_zero, ld0, ld1, ld2, ld3, ld4, ld5, ld6, ld7, ld8, ld9, ld10, ld11, ld12, ld13, ld14, ld15, ld16, ld17, ld18, ld19, ld20, ld21, ld22, ld23, ld24, ld25, ld26, ld27, ld28, ld29, ld30, ld31, ld32, ld33, ld34, ld35, ld36, ld37, ld38, ld39, ld40, ld41, ld42, ld43, ld44, ld45, ld46, ld47, ld48, ld100, ld101, ld102, ld103, ld104, ld105, gF, rd_ne, hh, hra, sub_le0, sub_m1, st9, rd_eq, setR_setR]
    by_cases e : rlP R s k = a
    · have key : ∀ v, v = nI (all / am + (if ctP R s a k < all % am then 1 else 0)) → upd (row k) k v = row (k + 1) := by
        rintro v rfl
        funext j
        rw [upd_at, hr, hr]
        by_cases ej : j = k
        · subst ej; simp [e]
        · have : (j < k + 1) = (j < k) := propext (by omega)
          simp [ej, this]
      rw [cts, if_pos e]
      simp only [neq_i (show rlP R s k < 2147483648 by omega) (show a < 2147483648 by omega), e, if_true]
      by_cases e2 : all % am ≤ ctP R s a k
      · rw [if_pos e2, key _ (by rw [if_neg (by omega), Nat.add_zero])]
      · rw [if_neg e2, ← nI_sub (show ctP R s a k ≤ all % am by omega), sub_m1, key _ (by rw [if_pos (by omega)])]
    · have key : row (k + 1) = row k := by
        funext j
        rw [hr, hr]
        by_cases ej : j = k
        · subst ej; simp [e]
        · have : (j < k + 1) = (j < k) := propext (by omega)
          simp [this]
      rw [cts, if_neg e, key]
      simp only [neq_i (show rlP R s k < 2147483648 by omega) (show a < 2147483648 by omega), e, if_false, Nat.add_zero]
  · simp (disch := omega) only [bd_some, bd_none, lt_eq, lk_eq, fa_lit, nI_add, nI_mul, nI_sub, nle_t, nle_f, nlt_t, nlt_f, neq_t, neq_f, neg_ne, neg_ne', if_true, if_false, ite_true, ite_false, Nat.zero_add, Nat.add_zero, ld0, ld1, ld2, ld3, ld4, ld5, ld6, ld7, ld8, ld9, ld10, ld11, ld12, ld13, ld14, ld15, ld16, ld17, ld18, ld19, ld20, ld21, ld22, ld23, ld24, ld25, ld26, ld27, ld28, ld29, ld30, ld31, ld32, ld33, ld34, ld35, ld36, ld37, ld38, ld39, ld40, ld41, ld42, ld43, ld44, ld45, ld46, ld47, ld48, ld100, ld101, ld102, ld103, ld104, ld105, gF, rd_ne, hh]
def scr (k _i : Nat) : Bool := (decide (9 ≤ k) && decide (k ≤ 12)) || (decide (396 ≤ k) && decide (k ≤ 398))
theorem scr_cor : ∀ k i, cor k i = true → scr k i = false := by
  intro k i c
  cases e : scr k i
  · rfl
  · have h : k = 9 ∨ k = 10 ∨ k = 11 ∨ k = 12 ∨ k = 396 ∨ k = 397 ∨ k = 398 := by
      simp only [scr, Bool.or_eq_true, Bool.and_eq_true, decide_eq_true_eq] at e
      omega
    rcases h with rfl | rfl | rfl | rfl | rfl | rfl | rfl
    · rw [show cor 9 i = false from rfl] at c; cases c
    · rw [show cor 10 i = false from rfl] at c; cases c
    · rw [show cor 11 i = false from rfl] at c; cases c
    · rw [show cor 12 i = false from rfl] at c; cases c
    · rw [show cor 396 i = false from rfl] at c; cases c
    · rw [show cor 397 i = false from rfl] at c; cases c
    · rw [show cor 398 i = false from rfl] at c; cases c
theorem CR.fr (c : CR σ r R) (f : FrK scr σ τ) : CR τ r R := c.core (f.core scr_cor)
theorem WR.fr (w : WR σ i R ν) (f : FrK scr σ τ) : WR τ i R ν := by
  unfold WR at *
  rw [f.2 24 i rfl, f.2 25 i rfl, f.2 26 i rfl, f.2 27 i rfl]
  exact w
theorem Oc_partMoney_eq {s m : Nat} (c : CR σ r R) (ho : RO R) (hs : s < R 0 2) (hh : σ.1 396 o 0 = nI (hdP R s)) (hm : m < 1073741824) : ∃ τ, Oc_partMoney σ o r (nI s) (nI m) = some τ ∧ FrK scr σ τ ∧ τ.1 396 o 0 = nI (hdP R s) ∧ τ.1 397 o 0 = nI (fmP R s m) ∧ τ.1 398 o 0 = nI (m - fmP R s m) ∧ ∀ j, j < hdP R s → τ.1 9 o j = nI (shP R s m j) := by
  have h13 := hd_le ho hs
  have hfm := fm_le (s := s) (m := m) ho
  have hld := ho.2.2.2.2.1
  have hlm : m * R 0 4 ≤ m * 100 := Nat.mul_le_mul_left m hld
  have hlead : Rl_leadsIn σ r (nI s) = some (nI (fsP R s)) := by rw [Rl_leadsIn_eq c ho hs, sI_b01]; rfl
  have step : ∀ K : ST → Option ST, lk_ (fun kk4 => (if nI (fsP R s) = 0 then lt_ (setF σ 397 o 0) (fun s12 => kk4 s12) else (if nI (hdP R s - fsP R s) = 0 then lt_ (setF σ 397 o (nI m)) (fun s11 => kk4 s11) else bd_ (ldv ((Int32.toInt64 (nI m)) * (Int32.toInt64 (gF σ 532 r))) 100) (fun v9 => lt_ (setF σ 397 o (Int64.toInt32 v9)) (fun s10 => kk4 s10))))) K = K (setF σ 397 o (nI (fmP R s m))) := by
    intro K
    unfold fmP
    simp (disch := omega) only [lk_eq, lt_eq, fa_lit, neq_i]
    by_cases e1 : fsP R s = 0
    · simp only [e1, if_true]
    · by_cases e2 : hdP R s - fsP R s = 0
      · simp only [e1, e2, if_true, if_false]
      · simp only [e1, e2, if_false]
        rw [show gF σ 532 r = _ from c.ld, wid_l (by omega), wid_l (by omega), lN_mul, show (100 : Int64) = lN 100 from rfl, div_l (by decide) (by omega) (by decide), bd_some, lN_i]
  unfold Oc_partMoney
  rw [hlead, bd_some, lt_eq, show gF σ 396 o = nI (hdP R s) from hh, nI_sub (by omega), step]
  simp only [lt_eq]
  generalize hs1 : setF (setF σ 397 o (nI (fmP R s m))) 398 o (nI m - gF (setF σ 397 o (nI (fmP R s m))) 397 o) = s1
  have f1 : FrK scr σ s1 := by rw [← hs1]; exact (FrK.setF σ _ rfl).tr (FrK.setF _ _ rfl)
  have a1 : s1.1 396 o 0 = nI (hdP R s) := by rw [← hs1, rf_ne (by decide), rf_ne (by decide), hh]
  have a2 : s1.1 397 o 0 = nI (fmP R s m) := by rw [← hs1, rf_ne (by decide), rf_eq]
  have a3 : s1.1 398 o 0 = nI (m - fmP R s m) := by
    rw [← hs1, rf_eq]
    show nI m - (setF σ 397 o (nI (fmP R s m))).1 397 o 0 = _
    rw [rf_eq, nI_sub hfm]
  obtain ⟨f, e1, hf⟩ := Oc_handOut_eq (a := 0) (all := fmP R s m) (am := fsP R s) (c.fr f1) ho hs a1 (by omega) (by omega) (fun q j hj => by
    have := ct0 (R := R) s
    rw [q] at this
    have := fb_ct_zero.mp this j hj
    simpa using this) (by decide)
  have c2 : CR (setR s1 9 o f) r R := (c.fr f1).fr (FrK.setR s1 f rfl)
  obtain ⟨g, e2, hg⟩ := Oc_handOut_eq (σ := setR s1 9 o f) (a := 1) (all := m - fmP R s m) (am := hdP R s - fsP R s) c2 ho hs (by rw [rd_ne (by decide)]; exact a1) (by omega) (by omega) (fun q j hj => by
    have := ct1 ho hs
    rw [q] at this
    have := fb_ct_zero.mp this j hj
    simpa using this) (by decide)
  refine ⟨setR s1 9 o g, ?_, f1.tr (FrK.setR s1 g rfl), by rw [rd_ne (by decide)]; exact a1, by rw [rd_ne (by decide)]; exact a2, by rw [rd_ne (by decide)]; exact a3, fun j hj => ?_⟩
  · show bd_ (Oc_handOut s1 o r (nI s) (nI 0) (s1.1 397 o 0) (nI (fsP R s))) _ = _
    rw [a2, e1, bd_some]
    show bd_ (Oc_handOut (setR s1 9 o f) o r (nI s) (nI 1) ((setR s1 9 o f).1 398 o 0) (nI (hdP R s - fsP R s))) _ = _
    rw [rd_ne (by decide), a3, e2, bd_some, setR_setR]
  · rw [rd_eq, hg j hj, rd_eq, hf j hj]
    have := rlP_lt (k := j) ho hs
    unfold shP
    rcases (show rlP R s j = 0 ∨ rlP R s j = 1 by omega) with e | e
    · rw [if_neg (by omega), if_pos e, if_pos e]
    · rw [if_pos e, if_neg (show ¬ rlP R s j = 0 by omega)]
def OQ (τ : ST) (o : Nat) (R : RT) (ν : NU) (l s m : Nat) : Prop := τ.1 396 o 0 = nI (hdP R s) ∧ τ.1 397 o 0 = nI (fmP R s m) ∧ τ.1 398 o 0 = nI (m - fmP R s m) ∧ (∀ k, k < hdP R s → τ.1 9 o k = nI (shP R s m k)) ∧ (∀ k, k < hdP R s → τ.1 10 o k = hol (whP R ν s k)) ∧ (∀ k, k < hdP R s → τ.1 11 o k = nI (ftP R ν l s k)) ∧ ∀ f, f < 3 → τ.1 12 o f = sI (fun k => if ftP R ν l s k = f then nI (shP R s m k) else nI 0) (hdP R s)
theorem Oc_think_eq {l s n : Nat} (c : CR σ r R) (w : WR σ i R ν) (ho : RO R) (hv : HO R ν) (hl : l < R 0 0) (hs : s < R 0 2) (hn : n ≤ 99999) : ∃ τ, Oc_think σ o r i (nI l) (nI s) (nI n) = some τ ∧ FrK scr σ τ ∧ OQ τ o R ν l s (n * R 1 l) := by
  have h13 := hd_le ho hs
  have hr := ho.rt hl
  have o1 := ho.L
  have hm : n * R 1 l ≤ 99999 * 999 := Nat.mul_le_mul hn hr.2
  generalize hmm : n * R 1 l = m at hm
  have hhead : Rl_headsIn σ r (nI s) = some (nI (hdP R s)) := Rl_headsIn_eq c ho hs
  unfold Oc_think
  simp (disch := omega) only [bd_some, bd_none, lt_eq, lk_eq, fa_lit, nI_add, nI_mul, nI_sub, nle_t, nle_f, nlt_t, nlt_f, neq_t, neq_f, neg_ne, neg_ne', if_true, if_false, ite_true, ite_false, Nat.zero_add, Nat.add_zero, ld0, ld1, ld2, ld3, ld4, ld5, ld6, ld7, ld8, ld9, ld10, ld11, ld12, ld13, ld14, ld15, ld16, ld17, ld18, ld19, ld20, ld21, ld22, ld23, ld24, ld25, ld26, ld27, ld28, ld29, ld30, ld31, ld32, ld33, ld34, ld35, ld36, ld37, ld38, ld39, ld40, ld41, ld42, ld43, ld44, ld45, ld46, ld47, ld48, ld100, ld101, ld102, ld103, ld104, ld105, gF, hhead, rf_ne, c.rt hl, hmm]
  have f0 : FrK scr σ (setF σ 396 o (nI (hdP R s))) := FrK.setF σ _ rfl
  obtain ⟨t1, e1, f1, a1, a2, a3, a4⟩ := Oc_partMoney_eq (o := o) (c.fr f0) ho hs rf_eq (show m < 1073741824 by omega)
  rw [e1, bd_some, Jk_fill_eq 3 rfl (by decide), bd_some]
  have f2 : FrK scr σ (setR t1 12 o (fa_fill (fun _ => nI 0) (t1.1 12 o) 3)) := (f0.tr f1).tr (FrK.setR _ _ rfl)
  obtain ⟨z, hz, rec, ez⟩ := lp_invG (β := ST) (z0 := (setR t1 12 o (fa_fill (fun _ => nI 0) (t1.1 12 o) 3), nI 0)) (step := fun rec7 (z6 : ST × Int32) => (if (gF z6.1 396 o) ≤ z6.2 then some z6.1 else bd_ (Wo_whoAt z6.1 i r (nI s) z6.2) (fun q9 => bd_ (stI z6.1 10 o z6.2 q9) (fun s10 => bd_ (ldI s10 10 o z6.2) (fun v11 => bd_ (Rl_roleAt s10 r (nI s) z6.2) (fun q12 => bd_ (Wo_fateOf s10 i (nI l) v11 q12) (fun q13 => bd_ (stI s10 11 o z6.2 q13) (fun s14 => bd_ (ldI s14 11 o z6.2) (fun v15 => bd_ (ldI s14 12 o v15) (fun v16 => bd_ (ldI s14 9 o z6.2) (fun v17 => bd_ (stI s14 12 o v15 (v16 + v17)) (fun s18 => rec7 (s18, (z6.2 + nI 1))))))))))))))
    (hdP R s) (by omega) (fun k z => z.2 = nI k ∧ FrK scr σ z.1 ∧ z.1.1 396 o 0 = nI (hdP R s) ∧ z.1.1 397 o 0 = nI (fmP R s m) ∧ z.1.1 398 o 0 = nI (m - fmP R s m) ∧ (∀ j, j < hdP R s → z.1.1 9 o j = nI (shP R s m j)) ∧ (∀ j, j < k → z.1.1 10 o j = hol (whP R ν s j)) ∧ (∀ j, j < k → z.1.1 11 o j = nI (ftP R ν l s j)) ∧ ∀ f, f < 3 → z.1.1 12 o f = sI (fun j => if ftP R ν l s j = f then nI (shP R s m j) else nI 0) k)
    ⟨rfl, f2, by rw [rd_ne (by decide)]; exact a1, by rw [rd_ne (by decide)]; exact a2, by rw [rd_ne (by decide)]; exact a3, fun j hj => by rw [rd_ne (by decide)]; exact a4 j hj, fun j hj => absurd hj (Nat.not_lt_zero j), fun j hj => absurd hj (Nat.not_lt_zero j), fun f hf => by rw [rd_eq, fa_fill_in hf]; rfl⟩
    (by
      rintro rec k ⟨t, x⟩ hk ⟨hx, ft, b1, b2, b3, b4, b5, b6, b7⟩
      have hx : x = nI k := hx
      subst hx
      have ft : FrK scr σ t := ft
      have b1 : t.1 396 o 0 = nI (hdP R s) := b1
      have b4 : ∀ j, j < hdP R s → t.1 9 o j = nI (shP R s m j) := b4
      have ct := c.fr ft
      have wt := w.fr ft
      have hra : ∀ f, Rl_roleAt (setR t 10 o f) r (nI s) (nI k) = some (nI (rlP R s k)) := fun f => Rl_roleAt_eq (ct.fr (FrK.setR t f rfl)) ho hs hk
      have hfa : ∀ f, Wo_fateOf (setR t 10 o f) i (nI l) (hol (whP R ν s k)) (nI (rlP R s k)) = some (nI (ftP R ν l s k)) := fun f => Wo_fateOf_eq (wt.fr (FrK.setR t f rfl)) ho hv hl hs hk
      have hf3 := ft_lt (R := R) (ν := ν) l s k
      refine ⟨(setR (setR (setR t 10 o (upd (t.1 10 o) k (hol (whP R ν s k)))) 11 o (upd (t.1 11 o) k (nI (ftP R ν l s k)))) 12 o (upd (t.1 12 o) (ftP R ν l s k) (t.1 12 o (ftP R ν l s k) + nI (shP R s m k))), nI (k + 1)), ⟨rfl, ((ft.tr (FrK.setR _ _ rfl)).tr (FrK.setR _ _ rfl)).tr (FrK.setR _ _ rfl), ?_, ?_, ?_, ?_, ?_, ?_, ?_⟩, ?_⟩
      · simp (disch := omega) only [rd_ne]; exact b1
      · simp (disch := omega) only [rd_ne]; exact b2
      · simp (disch := omega) only [rd_ne]; exact b3
      · intro j hj; simp (disch := omega) only [rd_ne]; exact b4 j hj
      · intro j hj
        simp (disch := omega) only [rd_ne, rd_eq]
        rw [upd_at]
        split
        · rename_i q; rw [q]
        · exact b5 j (by omega)
      · intro j hj
        simp (disch := omega) only [rd_ne, rd_eq]
        rw [upd_at]
        split
        · rename_i q; rw [q]
        · exact b6 j (by omega)
      · intro f hf
        simp only [rd_eq]
        rw [upd_at, sI_succ]
        split
        · rename_i q; rw [q, if_pos rfl, b7 _ hf3]
        · rename_i q; rw [if_neg (fun e => q e.symm), b7 f hf]; exact (add_n0 _).symm
      · simp (disch := omega) only [bd_some, bd_none, lt_eq, lk_eq, fa_lit, nI_add, nI_mul, nI_sub, nle_t, nle_f, nlt_t, nlt_f, neq_t, neq_f, neg_ne, neg_ne', if_true, if_false, ite_true, ite_false, Nat.zero_add, Nat.add_zero, ld0, ld1, ld2, ld3, ld4, ld5, ld6, ld7, ld8, ld9, ld10, ld11, ld12, ld13, ld14, ld15, ld16, ld17, ld18, ld19, ld20, ld21, ld22, ld23, ld24, ld25, ld26, ld27, ld28, ld29, ld30, ld31, ld32, ld33, ld34, ld35, ld36, ld37, ld38, ld39, ld40, ld41, ld42, ld43, ld44, ld45, ld46, ld47, ld48, ld100, ld101, ld102, ld103, ld104, ld105, st0, st1, st2, st3, st4, st5, st6, st7, st8, st9, st10, st11, st12, st13, st14, st15, st16, st17, st18, st19, st20, st21, st22, st23, st24, st25, st26, st27, st28, st29, st30, st31, st32, st33, st34, st35, st36, st37, st38, st39, st40, st41, st42, st43, st44, st45, st46, st47, st48, st100, st101, st102, st103, st104, st105, gF, b1, Wo_whoAt_eq ct wt ho hs hk, rd_eq, rd_ne, upd_eq, hra, hfa, b4 k hk])
  obtain ⟨t, x⟩ := z
  obtain ⟨hx, ft, b1, b2, b3, b4, b5, b6, b7⟩ := hz
  have hx : x = nI (hdP R s) := hx
  subst hx
  refine ⟨t, ez.trans ?_, ft, b1, b2, b3, b4, b5, b6, b7⟩
  simp (disch := omega) only [bd_some, bd_none, lt_eq, lk_eq, fa_lit, nI_add, nI_mul, nI_sub, nle_t, nle_f, nlt_t, nlt_f, neq_t, neq_f, neg_ne, neg_ne', if_true, if_false, ite_true, ite_false, Nat.zero_add, Nat.add_zero, ld0, ld1, ld2, ld3, ld4, ld5, ld6, ld7, ld8, ld9, ld10, ld11, ld12, ld13, ld14, ld15, ld16, ld17, ld18, ld19, ld20, ld21, ld22, ld23, ld24, ld25, ld26, ld27, ld28, ld29, ld30, ld31, ld32, ld33, ld34, ld35, ld36, ld37, ld38, ld39, ld40, ld41, ld42, ld43, ld44, ld45, ld46, ld47, ld48, ld100, ld101, ld102, ld103, ld104, ld105, gF, show t.1 396 o 0 = nI (hdP R s) from b1]
end Shares

/-! ===== a box is parted: both ===== -/
section Part2
variable {σ τ : ST} {R : RT} {ν μ κ : NU} {r : Nat}
def f8 (k _i : Nat) : Bool := decide (k = 8)
def f48 (k _i : Nat) : Bool := decide (k = 48)
theorem f8_cor : ∀ k i, cor k i = true → f8 k i = false := by
  intro k i c
  cases e : f8 k i
  · rfl
  · simp only [f8, decide_eq_true_eq] at e
    subst e
    rw [show cor 8 i = false from rfl] at c; cases c
theorem f48_cor : ∀ k i, cor k i = true → f48 k i = false := by
  intro k i c
  cases e : f48 k i
  · rfl
  · simp only [f48, decide_eq_true_eq] at e
    subst e
    rw [show cor 48 i = false from rfl] at c; cases c
theorem BR.f8 (b : BR σ 0 R ν) (f : FrK f8 σ τ) : BR τ 0 R ν := b.same (fun k hk => f.2 k 0 (decide_eq_false (fun z => by subst z; cases hk)))
theorem rl_at (f : Nat → Int64) (k : Nat) (x : Int64) (j : Nat) : vp_updL f k x j = if j = k then x else f j := rfl
theorem rdL_eq {k i : Nat} {f : Nat → Int64} : (setL σ k i f).2.1 k i = f := by
  show up3 σ.2.1 k i _ k i = _
  unfold up3
  rw [if_pos ⟨rfl, rfl⟩]
theorem rdL_R {k i : Nat} {f : Nat → Int32} : (setR σ k i f).2.1 = σ.2.1 := rfl
def rlv (R : RT) (ν : NU) (l k p : Nat) : Int64 := if rnk (R 0 1) (qN R ν l) p < k then -1 else lN (qN R ν l p)
theorem rlv_int (m : MO R ν) (ho : RO R) {l k p : Nat} (hl : l < 6) (hW : 0 < aN R ν l) : (rlv R ν l k p).toInt = fk (R 0 1) (qN R ν l) k p := by
  have h1 : qN R ν l p < aN R ν l := Nat.mod_lt _ hW
  have h2 := aN_le m ho hl
  unfold rlv fk
  split
  · decide
  · rw [pk_lT (by omega)]
theorem Bs_addCent_eq {l k : Nat} (m : MO R ν) (ho : RO R) (hl : l < 6) (hW : 0 < aN R ν l) (hk : k < R 0 1) (h8 : ∀ j, j < R 0 1 → σ.1 8 0 j = nI (cN R ν l j + if rnk (R 0 1) (qN R ν l) j < k then 1 else 0)) (hL : ∀ j, j < R 0 1 → σ.2.1 100 0 j = rlv R ν l k j) : ∃ τ, Bs_addCent σ (nI (R 0 1)) = some τ ∧ FrK f8 σ τ ∧ (∀ j, j < R 0 1 → τ.1 8 0 j = nI (cN R ν l j + if rnk (R 0 1) (qN R ν l) j < k + 1 then 1 else 0)) ∧ ∀ j, j < R 0 1 → τ.2.1 100 0 j = rlv R ν l (k + 1) j := by
  have o2 := ho.P
  have o3 := ho.S
  generalize hle : (fun a b => decide (fk (R 0 1) (qN R ν l) k a ≤ fk (R 0 1) (qN R ν l) k b)) = le
  have hle2 : ∀ a b, (le a b = true) = (fk (R 0 1) (qN R ν l) k a ≤ fk (R 0 1) (qN R ν l) k b) := fun a b => by rw [← hle]; simp
  have al := am_lt le (show 0 < R 0 1 by omega)
  obtain ⟨b1, b2⟩ := am_best hle2 (show 0 < R 0 1 by omega)
  have rb := rnk_best (rnk_ct (show k ≤ R 0 1 by omega)) al hk b1 b2
  have cmp : ∀ a b, (lg_cmp (rlv R ν l k a) (rlv R ν l k b) ≤ 0) = (le a b = true) := fun a b => by
    rw [hle2]
    refine propext ((lg_cmp_le _ _).trans ?_)
    rw [fa_le64, rlv_int m ho hl hW, rlv_int m ho hl hW]
  refine ⟨setL (setR σ 8 0 (upd (σ.1 8 0) (am le (R 0 1)) (σ.1 8 0 (am le (R 0 1)) + nI 1))) 100 0 (vp_updL (σ.2.1 100 0) (am le (R 0 1)) (-1)), ?_, (FrK.setR σ _ rfl).tr (FrK.setL _ _ _ _), fun j hj => ?_, fun j hj => ?_⟩
  · unfold Bs_addCent
    refine lp_runE (R 0 1 - 1) (by omega) (fun i => (nI (am le (i + 1)), nI (i + 1))) rfl (fun rec i hi => ?_) (fun rec => ?_)
    · have h3 := am_lt le (show 0 < i + 1 by omega)
      have c1 := cmp (i + 1) (am le (i + 1))
      show (if nI (R 0 1) ≤ nI (i + 1) then _ else bd_ (ldL σ 100 0 (nI (i + 1))) (fun v7 => bd_ (ldL σ 100 0 (nI (am le (i + 1)))) (fun v8 => (if (lg_cmp v7 v8) ≤ 0 then rec (nI (am le (i + 1)), (nI (i + 1) + nI 1)) else rec (nI (i + 1), (nI (i + 1) + nI 1)))))) = _
      rw [if_neg (of_eq_false (nle_f (show i + 1 < R 0 1 by omega) (by omega))), ld100 (by omega), bd_some, ld100 (by omega), bd_some, hL _ (by omega), hL _ (by omega), nI_add, am_succ le (i + 1), if_neg (show ¬ i + 1 = 0 by omega)]
      by_cases c : le (i + 1) (am le (i + 1)) = true
      · rw [if_pos (by rw [c1]; exact c), if_pos c]
      · rw [if_neg (by rw [c1]; exact c), if_neg c]
    · rw [show R 0 1 - 1 + 1 = R 0 1 by omega]
      show (if nI (R 0 1) ≤ nI (R 0 1) then bd_ (ldI σ 8 0 (nI (am le (R 0 1)))) (fun v4 => bd_ (stI σ 8 0 (nI (am le (R 0 1))) (v4 + nI 1)) (fun s5 => bd_ (stL s5 100 0 (nI (am le (R 0 1))) (-1)) (fun s6 => some s6))) else _) = _
      rw [if_pos (of_eq_true (nle_t (Nat.le_refl _) (by omega))), ld8 (by omega), bd_some, st8 (by omega), bd_some, st100 (by omega), bd_some]
      rfl
  · rw [rl_eq, rd_eq, upd_at]
    by_cases c : j = am le (R 0 1)
    · rw [if_pos c, ← c, h8 j hj]
      rw [← c] at rb
      rw [nI_add, if_neg (by omega), if_pos (by omega)]
    · rw [if_neg c, h8 j hj]
      have : rnk (R 0 1) (qN R ν l) j ≠ k := fun z => c (rnk_inj (q := qN R ν l) hj al (by omega))
      by_cases c2 : rnk (R 0 1) (qN R ν l) j < k
      · rw [if_pos c2, if_pos (by omega)]
      · rw [if_neg c2, if_neg (by omega)]
  · rw [rdL_eq, rl_at]
    unfold rlv
    by_cases c : j = am le (R 0 1)
    · rw [if_pos c, if_pos (by rw [c]; omega)]
    · rw [if_neg c, hL j hj]
      unfold rlv
      have : rnk (R 0 1) (qN R ν l) j ≠ k := fun z => c (rnk_inj (q := qN R ν l) hj al (by omega))
      by_cases c2 : rnk (R 0 1) (qN R ν l) j < k
      · rw [if_pos c2, if_pos (by omega)]
      · rw [if_neg c2, if_neg (by omega)]
theorem Bs_reckon_eq {l : Nat} (c : CR σ r R) (b : BR σ 0 R ν) (m : MO R ν) (ho : RO R) (hl : l < 6) (hW : 0 < aN R ν l) : ∃ τ, Bs_reckon σ r 0 (nI l) = some τ ∧ FrK f8 σ τ ∧ ∀ j, j < R 0 1 → τ.1 8 0 j = nI (pN R ν l j) := by
  have o2 := ho.P
  have o3 := ho.S
  have hX := xN_le m hl
  have hA := aN_le m ho hl
  have hL1 := left_le (ν := ν) ho hW
  unfold Bs_reckon
  rw [Jk_fill_eq 16 rfl (by decide), bd_some]
  have f0 : FrK f8 σ (setR σ 8 0 (fa_fill (fun _ => (0 : Int32)) (σ.1 8 0) 16)) := FrK.setR σ _ rfl
  generalize setR σ 8 0 (fa_fill (fun _ => (0 : Int32)) (σ.1 8 0) 16) = σ0 at *
  have c0 := c.core (f0.core f8_cor)
  have b0 := b.f8 f0
  rw [Bk_weightIn_eq c0 b0 ho hl, bd_some, wsum_eq m ho hl, lt_eq, wid_l (by omega), if_pos (show 0 ≤ lg_cmp (lN (aN R ν l)) 1 from (lg_cmp_ge _ _).mpr ((pk_lLE (a := 1) (by decide) (by omega)).mpr (by omega))), ld0 (by omega), bd_some, b0.bx hl, xN_eq m hl]
  obtain ⟨z, ⟨hz1, hz2, hz3, hz4⟩, rec, ez⟩ := lp_invG (β := ST) (z0 := (σ0, nI (xN ν l), (0 : Int32))) (step := fun rec6 (z5 : ST × Int32 × Int32) => (if (gF z5.1 530 r) ≤ z5.2.2 then lp_ (fun rec9 (z8 : ST × Int32) => (if z5.2.1 ≤ z8.2 then some z8.1 else bd_ (Bs_addCent z8.1 (gF z8.1 530 r)) (fun q11 => rec9 (q11, (z8.2 + 1))))) FU (z5.1, 0) else bd_ (ldI z5.1 0 0 (nI l)) (fun v12 => bd_ (ldI z5.1 4 0 ((z5.2.2 * 6) + nI l)) (fun v13 => lt_ (((Int32.toInt64 v12) * (Int32.toInt64 v13))) (fun x14 => bd_ (ldv x14 (lN (aN R ν l))) (fun v15 => bd_ (stI z5.1 8 0 z5.2.2 (Int64.toInt32 v15)) (fun s16 => bd_ (lrm x14 (lN (aN R ν l))) (fun v17 => bd_ (stL s16 100 0 z5.2.2 v17) (fun s18 => bd_ (ldI s18 8 0 z5.2.2) (fun v19 => lt_ ((z5.2.1 - v19)) (fun x20 => rec6 (s18, x20, (z5.2.2 + 1))))))))))))) (R 0 1) (by omega) (fun p z => FrK f8 σ z.1 ∧ z.2 = (nI (xN ν l - fb_sm (cN R ν l) p), nI p) ∧ (∀ j, j < p → z.1.1 8 0 j = nI (cN R ν l j)) ∧ ∀ j, j < p → z.1.2.1 100 0 j = lN (qN R ν l j)) ⟨f0, Prod.ext rfl rfl, fun j hj => absurd hj (Nat.not_lt_zero j), fun j hj => absurd hj (Nat.not_lt_zero j)⟩ (by
    rintro rec p ⟨x, a⟩ hp ⟨fx, ha, h8, hL⟩
    have ha : a = _ := ha
    subst ha
    have fx : FrK f8 σ x := fx
    have h8 : ∀ j, j < p → x.1 8 0 j = nI (cN R ν l j) := h8
    have hL : ∀ j, j < p → x.2.1 100 0 j = lN (qN R ν l j) := hL
    have cx := c.core (fx.core f8_cor)
    have bx := b.f8 fx
    have v4 : x.1 4 0 (p * 6 + l) = nI (wN ν l p) := by rw [bx.wt (by omega) hl, wN_eq m (by omega) hl]
    have v0 : x.1 0 0 l = nI (xN ν l) := by rw [bx.bx hl, xN_eq m hl]
    have hxw := xw_lt m ho hp hl
    have hw := wN_le (ν := ν) (l := l) ho hp
    have s1 := cN_le (ν := ν) ho (show p + 1 ≤ R 0 1 by omega) hW
    rw [fb_sm_succ] at s1
    refine ⟨(setL (setR x 8 0 (upd (x.1 8 0) p (nI (cN R ν l p)))) 100 0 (vp_updL (x.2.1 100 0) p (lN (qN R ν l p))), nI (xN ν l - fb_sm (cN R ν l) (p + 1)), nI (p + 1)), ⟨(fx.tr (FrK.setR x _ rfl)).tr (FrK.setL _ _ _ _), rfl, fun j hj => ?_, fun j hj => ?_⟩, ?_⟩
    · show (setL (setR x 8 0 _) 100 0 _).1 8 0 j = _
      rw [rl_eq, rd_eq, upd_at]
      split
      · rename_i e; rw [e]
      · exact h8 j (by omega)
    · show (setL (setR x 8 0 _) 100 0 _).2.1 100 0 j = _
      rw [rdL_eq, rl_at]
      split
      · rename_i e; rw [e]
      · exact hL j (by omega)
    · have g1 : ldv (lN (xN ν l * wN ν l p)) (lN (aN R ν l)) = some (lN (cN R ν l p)) := div_l hW (by omega) (by omega)
      have g2 : lrm (lN (xN ν l * wN ν l p)) (lN (aN R ν l)) = some (lN (qN R ν l p)) := rem_l hW (by omega) (by omega)
      simp (disch := omega) only [bd_some, bd_none, lt_eq, lk_eq, fa_lit, nI_add, nI_mul, nI_sub, nle_t, nle_f, nlt_t, nlt_f, neq_t, neq_f, neg_ne, neg_ne', if_true, if_false, ite_true, ite_false, Nat.zero_add, Nat.add_zero, ld0, ld1, ld2, ld3, ld4, ld5, ld6, ld7, ld8, ld9, ld10, ld11, ld12, ld13, ld14, ld15, ld16, ld17, ld18, ld19, ld20, ld21, ld22, ld23, ld24, ld25, ld26, ld27, ld28, ld29, ld30, ld31, ld32, ld33, ld34, ld35, ld36, ld37, ld38, ld39, ld40, ld41, ld42, ld43, ld44, ld45, ld46, ld47, ld48, ld100, ld101, ld102, ld103, ld104, ld105, gF, cx.P, v0, v4, wid_l, lN_mul, g1, g2, lN_i, st8, st100, rdL_R, rl_eq, rd_eq, upd_eq, fb_sm_succ, Nat.sub_sub])
  obtain ⟨x, a⟩ := z
  have hz2 : a = _ := hz2
  subst hz2
  have fx : FrK f8 σ x := hz1
  have h8 : ∀ j, j < R 0 1 → x.1 8 0 j = nI (cN R ν l j) := hz3
  have hL : ∀ j, j < R 0 1 → x.2.1 100 0 j = lN (qN R ν l j) := hz4
  have cx := c.core (fx.core f8_cor)
  obtain ⟨z, ⟨hz1, hz2, hz3, hz4⟩, rec2, ez2⟩ := lp_invG (β := ST) (z0 := (x, (0 : Int32))) (step := fun rec9 (z8 : ST × Int32) => (if nI (xN ν l - fb_sm (cN R ν l) (R 0 1)) ≤ z8.2 then some z8.1 else bd_ (Bs_addCent z8.1 (gF z8.1 530 r)) (fun q11 => rec9 (q11, (z8.2 + 1))))) (lN' R ν l) (by omega) (fun k z => FrK f8 σ z.1 ∧ z.2 = nI k ∧ (∀ j, j < R 0 1 → z.1.1 8 0 j = nI (cN R ν l j + if rnk (R 0 1) (qN R ν l) j < k then 1 else 0)) ∧ ∀ j, j < R 0 1 → z.1.2.1 100 0 j = rlv R ν l k j) ⟨fx, rfl, fun j hj => by rw [if_neg (Nat.not_lt_zero _), Nat.add_zero]; exact h8 j hj, fun j hj => by unfold rlv; rw [if_neg (Nat.not_lt_zero _)]; exact hL j hj⟩ (by
    rintro rec k ⟨y, a⟩ hk ⟨fy, ha, g8, gL⟩
    have ha : a = nI k := ha
    subst ha
    have fy : FrK f8 σ y := fy
    have cy := c.core (fy.core f8_cor)
    obtain ⟨w, ew, fw, w8, wL⟩ := Bs_addCent_eq (k := k) m ho hl hW (by omega) g8 gL
    refine ⟨(w, nI (k + 1)), ⟨fy.tr fw, rfl, w8, wL⟩, ?_⟩
    have hk2 : k < xN ν l - fb_sm (cN R ν l) (R 0 1) := hk
    show (if nI (xN ν l - fb_sm (cN R ν l) (R 0 1)) ≤ nI k then _ else bd_ (Bs_addCent y (gF y 530 r)) (fun q11 => rec (q11, nI k + nI 1))) = _
    rw [if_neg (of_eq_false (nle_f hk2 (by omega))), show gF y 530 r = _ from cy.P, ew, bd_some, nI_add])
  obtain ⟨y, a⟩ := z
  have ha : a = nI (lN' R ν l) := hz2
  subst ha
  refine ⟨y, ez.trans ?_, hz1, fun j hj => hz3 j hj⟩
  refine (if_pos (by show x.1 530 r 0 ≤ nI (R 0 1); rw [cx.P]; exact of_eq_true (nle_t (Nat.le_refl _) (by omega)))).trans (ez2.trans ?_)
  show (if nI (lN' R ν l) ≤ nI (lN' R ν l) then _ else _) = _
  rw [if_pos (of_eq_true (nle_t (Nat.le_refl _) (by omega)))]
/-! the reference -/
theorem Mo_allWeights_eq {l : Nat} (h : MR σ R) (m : MO R (σ.1 34 0)) (ho : RO R) (hl : l < 6) : Mo_allWeights σ (nI l) = some (lN (aN R (σ.1 34 0) l)) := by
  have o2 := ho.P
  have o3 := ho.S
  have hA := aN_le m ho hl
  unfold Mo_allWeights aN
  refine lp_runE (R 0 1) (by omega) (fun p => (lN (fb_sm (wN (σ.1 34 0) l) p), nI p)) rfl (fun rec p hp => ?_) (fun rec => ?_)
  · have e1 : Mo_weightIn σ (nI p) (nI l) = some (nI (wN (σ.1 34 0) l p)) := by rw [Mo_weightIn_eq (by omega) hl, wN_eq m (by omega) hl]
    have hw := wN_le (ν := σ.1 34 0) (l := l) ho hp
    simp (disch := omega) only [bd_some, bd_none, lt_eq, lk_eq, fa_lit, nI_add, nI_mul, nI_sub, nle_t, nle_f, nlt_t, nlt_f, neq_t, neq_f, neg_ne, neg_ne', if_true, if_false, ite_true, ite_false, Nat.zero_add, Nat.add_zero, ld0, ld1, ld2, ld3, ld4, ld5, ld6, ld7, ld8, ld9, ld10, ld11, ld12, ld13, ld14, ld15, ld16, ld17, ld18, ld19, ld20, ld21, ld22, ld23, ld24, ld25, ld26, ld27, ld28, ld29, ld30, ld31, ld32, ld33, ld34, ld35, ld36, ld37, ld38, ld39, ld40, ld41, ld42, ld43, ld44, ld45, ld46, ld47, ld48, ld100, ld101, ld102, ld103, ld104, ld105, gF, h.P, e1, wid_l, lN_add, fb_sm_succ]
  · simp (disch := omega) only [bd_some, bd_none, lt_eq, lk_eq, fa_lit, nI_add, nI_mul, nI_sub, nle_t, nle_f, nlt_t, nlt_f, neq_t, neq_f, neg_ne, neg_ne', if_true, if_false, ite_true, ite_false, Nat.zero_add, Nat.add_zero, ld0, ld1, ld2, ld3, ld4, ld5, ld6, ld7, ld8, ld9, ld10, ld11, ld12, ld13, ld14, ld15, ld16, ld17, ld18, ld19, ld20, ld21, ld22, ld23, ld24, ld25, ld26, ld27, ld28, ld29, ld30, ld31, ld32, ld33, ld34, ld35, ld36, ld37, ld38, ld39, ld40, ld41, ld42, ld43, ld44, ld45, ld46, ld47, ld48, ld100, ld101, ld102, ld103, ld104, ld105, gF, h.P]
theorem Mo_laysParts_eq {l : Nat} (h : MR σ R) (m : MO R (σ.1 34 0)) (ho : RO R) (hl : l < 6) (hW : 0 < aN R (σ.1 34 0) l) : ∃ τ, Mo_laysParts σ (nI l) = some τ ∧ FrK f48 σ τ ∧ ∀ j, j < R 0 1 → τ.1 48 0 j = nI (pN R (σ.1 34 0) l j) := by
  have o2 := ho.P
  have o3 := ho.S
  have hX := xN_le m hl
  have hA := aN_le m ho hl
  have hL1 := left_le (ν := σ.1 34 0) ho hW
  have ldx : ldI σ 34 0 (192 + nI l) = some (nI (xN (σ.1 34 0) l)) := by
    simp (disch := omega) only [fa_lit, nI_add, ld34]
    rw [xN_eq m hl]
  unfold Mo_laysParts
  rw [Mo_allWeights_eq h m ho hl, bd_some, ldx, bd_some, lt_eq, wid_l (by omega)]
  generalize hν : σ.1 34 0 = ν at *
  have mo : ∀ x, FrK f48 σ x → MR x R := fun x f => h.core (f.core f48_cor)
  have wi : ∀ x p, FrK f48 σ x → p < R 0 1 → Mo_weightIn x (nI p) (nI l) = some (nI (wN ν l p)) := fun x p f hp => by
    rw [Mo_weightIn_eq (by omega) hl, f.2 34 0 rfl, hν, wN_eq m (by omega) hl]
  have g1 : ∀ p, p < R 0 1 → ldv (lN (xN ν l * wN ν l p)) (lN (aN R ν l)) = some (lN (cN R ν l p)) := fun p hp => by
    have := xw_lt m ho hp hl
    exact div_l hW (by omega) (by omega)
  have g2 : ∀ p, p < R 0 1 → lrm (lN (xN ν l * wN ν l p)) (lN (aN R ν l)) = some (lN (qN R ν l p)) := fun p hp => by
    have := xw_lt m ho hp hl
    exact rem_l hW (by omega) (by omega)
  have ww : ∀ p, p < R 0 1 → wN ν l p < 2147483648 := fun p hp => by
    have := wN_le (ν := ν) (l := l) ho hp
    omega
  have qq : ∀ p, qN R ν l p < 9223372036854775808 := fun p => by
    have : qN R ν l p < aN R ν l := Nat.mod_lt _ hW
    omega
  obtain ⟨z, ⟨hz1, hz2, hz3⟩, rec, ez⟩ := lp_invG (β := ST) (z0 := (σ, lN (xN ν l), (0 : Int32))) (step := fun rec5 (z4 : ST × Int64 × Int32) => (if (gF z4.1 851 0) ≤ z4.2.2 then lp_ (fun rec8 (z7 : ST × Int32) => (if (gF z7.1 851 0) ≤ z7.2 then some z7.1 else bd_ (Mo_weightIn z7.1 z7.2 (nI l)) (fun q10 => bd_ (lrm (lN (xN ν l) * (Int32.toInt64 q10)) (lN (aN R ν l))) (fun v11 => lp_ (fun rec13 (z12 : Int32 × Int32) => (if (gF z7.1 851 0) ≤ z12.2 then bd_ (ldI z7.1 48 0 z7.2) (fun v15 => (if 0 ≤ (lg_cmp (Int32.toInt64 z12.1) z4.2.1) then bd_ (stI z7.1 48 0 z7.2 (v15 + 0)) (fun s16 => rec8 (s16, (z7.2 + 1))) else bd_ (stI z7.1 48 0 z7.2 (v15 + 1)) (fun s17 => rec8 (s17, (z7.2 + 1))))) else bd_ (Mo_weightIn z7.1 z12.2 (nI l)) (fun q18 => bd_ (lrm (lN (xN ν l) * (Int32.toInt64 q18)) (lN (aN R ν l))) (fun v19 => (if 0 < (lg_cmp v19 v11) then lt_ ((z12.1 + 1)) (fun x20 => rec13 (x20, (z12.2 + 1))) else (if (lg_cmp v19 v11) = 0 then (if z7.2 ≤ z12.2 then lt_ ((z12.1 + 0)) (fun x22 => rec13 (x22, (z12.2 + 1))) else lt_ ((z12.1 + 1)) (fun x23 => rec13 (x23, (z12.2 + 1)))) else lt_ ((z12.1 + 0)) (fun x21 => rec13 (x21, (z12.2 + 1))))))))) FU (0, 0))))) FU (z4.1, 0) else bd_ (Mo_weightIn z4.1 z4.2.2 (nI l)) (fun q24 => bd_ (ldv (lN (xN ν l) * (Int32.toInt64 q24)) (lN (aN R ν l))) (fun v25 => bd_ (stI z4.1 48 0 z4.2.2 (Int64.toInt32 v25)) (fun s26 => bd_ (ldI s26 48 0 z4.2.2) (fun v27 => lt_ ((z4.2.1 - (Int32.toInt64 v27))) (fun x28 => rec5 (s26, x28, (z4.2.2 + 1))))))))) (R 0 1) (by omega) (fun p z => FrK f48 σ z.1 ∧ z.2 = (lN (xN ν l - fb_sm (cN R ν l) p), nI p) ∧ ∀ j, j < p → z.1.1 48 0 j = nI (cN R ν l j)) ⟨FrK.rf σ, Prod.ext rfl rfl, fun j hj => absurd hj (Nat.not_lt_zero j)⟩ (by
    rintro rec p ⟨x, a⟩ hp ⟨fx, ha, h8⟩
    have ha : a = _ := ha
    subst ha
    have fx : FrK f48 σ x := fx
    have h8 : ∀ j, j < p → x.1 48 0 j = nI (cN R ν l j) := h8
    have s1 := cN_le (ν := ν) ho (show p + 1 ≤ R 0 1 by omega) hW
    rw [fb_sm_succ] at s1
    have w1 := ww p hp
    refine ⟨(setR x 48 0 (upd (x.1 48 0) p (nI (cN R ν l p))), lN (xN ν l - fb_sm (cN R ν l) (p + 1)), nI (p + 1)), ⟨fx.tr (FrK.setR x _ rfl), rfl, fun j hj => ?_⟩, ?_⟩
    · show (setR x 48 0 _).1 48 0 j = _
      rw [rd_eq, upd_at]
      split
      · rename_i e; rw [e]
      · exact h8 j (by omega)
    · simp (disch := omega) only [bd_some, bd_none, lt_eq, lk_eq, fa_lit, nI_add, nI_mul, nI_sub, nle_t, nle_f, nlt_t, nlt_f, neq_t, neq_f, neg_ne, neg_ne', if_true, if_false, ite_true, ite_false, Nat.zero_add, Nat.add_zero, ld0, ld1, ld2, ld3, ld4, ld5, ld6, ld7, ld8, ld9, ld10, ld11, ld12, ld13, ld14, ld15, ld16, ld17, ld18, ld19, ld20, ld21, ld22, ld23, ld24, ld25, ld26, ld27, ld28, ld29, ld30, ld31, ld32, ld33, ld34, ld35, ld36, ld37, ld38, ld39, ld40, ld41, ld42, ld43, ld44, ld45, ld46, ld47, ld48, ld100, ld101, ld102, ld103, ld104, ld105, gF, (mo x fx).P, wi x p fx hp, wid_l, lN_mul, g1 p hp, lN_i, st48, rd_eq, upd_eq, lN_sub, fb_sm_succ, Nat.sub_sub])
  obtain ⟨x, a⟩ := z
  have hz2 : a = _ := hz2
  subst hz2
  have fx : FrK f48 σ x := hz1
  have h8 : ∀ j, j < R 0 1 → x.1 48 0 j = nI (cN R ν l j) := hz3
  obtain ⟨z, ⟨hz1, hz2, hz3⟩, rec2, ez2⟩ := lp_invG (β := ST) (z0 := (x, (0 : Int32))) (step := fun rec8 (z7 : ST × Int32) => (if (gF z7.1 851 0) ≤ z7.2 then some z7.1 else bd_ (Mo_weightIn z7.1 z7.2 (nI l)) (fun q10 => bd_ (lrm (lN (xN ν l) * (Int32.toInt64 q10)) (lN (aN R ν l))) (fun v11 => lp_ (fun rec13 (z12 : Int32 × Int32) => (if (gF z7.1 851 0) ≤ z12.2 then bd_ (ldI z7.1 48 0 z7.2) (fun v15 => (if 0 ≤ (lg_cmp (Int32.toInt64 z12.1) (lN (xN ν l - fb_sm (cN R ν l) (R 0 1)))) then bd_ (stI z7.1 48 0 z7.2 (v15 + 0)) (fun s16 => rec8 (s16, (z7.2 + 1))) else bd_ (stI z7.1 48 0 z7.2 (v15 + 1)) (fun s17 => rec8 (s17, (z7.2 + 1))))) else bd_ (Mo_weightIn z7.1 z12.2 (nI l)) (fun q18 => bd_ (lrm (lN (xN ν l) * (Int32.toInt64 q18)) (lN (aN R ν l))) (fun v19 => (if 0 < (lg_cmp v19 v11) then lt_ ((z12.1 + 1)) (fun x20 => rec13 (x20, (z12.2 + 1))) else (if (lg_cmp v19 v11) = 0 then (if z7.2 ≤ z12.2 then lt_ ((z12.1 + 0)) (fun x22 => rec13 (x22, (z12.2 + 1))) else lt_ ((z12.1 + 1)) (fun x23 => rec13 (x23, (z12.2 + 1)))) else lt_ ((z12.1 + 0)) (fun x21 => rec13 (x21, (z12.2 + 1))))))))) FU (0, 0))))) (R 0 1) (by omega) (fun p z => FrK f48 σ z.1 ∧ z.2 = nI p ∧ (∀ j, j < R 0 1 → z.1.1 48 0 j = nI (if j < p then pN R ν l j else cN R ν l j))) ⟨fx, rfl, fun j hj => by rw [if_neg (Nat.not_lt_zero _)]; exact h8 j hj⟩ (by
    rintro rec p ⟨y, a⟩ hp ⟨fy, ha, g8⟩
    have ha : a = nI p := ha
    subst ha
    have fy : FrK f48 σ y := fy
    have g8 : ∀ j, j < R 0 1 → y.1 48 0 j = nI (if j < p then pN R ν l j else cN R ν l j) := g8
    have my := mo y fy
    have w1 := ww p hp
    have v48 : y.1 48 0 p = nI (cN R ν l p) := by rw [g8 p hp, if_neg (Nat.lt_irrefl p)]
    have rle : rnk (R 0 1) (qN R ν l) p ≤ R 0 1 := fb_ct_le _ _
    refine ⟨(setR y 48 0 (upd (y.1 48 0) p (nI (pN R ν l p))), nI (p + 1)), ⟨fy.tr (FrK.setR y _ rfl), rfl, fun j hj => ?_⟩, ?_⟩
    · show (setR y 48 0 _).1 48 0 j = _
      rw [rd_eq, upd_at]
      by_cases e : j = p
      · rw [if_pos e, if_pos (by omega), e]
      · rw [if_neg e, g8 j hj]
        by_cases e2 : j < p
        · rw [if_pos e2, if_pos (by omega)]
        · rw [if_neg e2, if_neg (by omega)]
    · refine (if_neg (ngt my.P hp (by omega))).trans ?_
      show bd_ (Mo_weightIn y (nI p) (nI l)) _ = _
      rw [wi y p fy hp, bd_some, wid_l w1, lN_mul, g2 p hp, bd_some]
      refine lp_runE (R 0 1) (by omega) (fun o => (nI (fb_ct (fun o => ahd (qN R ν l) o p) o), nI o)) rfl (fun rec3 o hq => ?_) (fun rec3 => ?_)
      · have w2 := ww o hq
        have q1 := qq o
        have q2 := qq p
        refine (if_neg (ngt my.P hq (by omega))).trans ?_
        show bd_ (Mo_weightIn y (nI o) (nI l)) _ = _
        rw [wi y o fy hq, bd_some, wid_l w2, lN_mul, g2 o hq, bd_some]
        have a1 : (0 < lg_cmp (lN (qN R ν l o)) (lN (qN R ν l p))) = (qN R ν l p < qN R ν l o) := propext ((lg_cmp_gt _ _).trans (pk_lLT (by omega) (by omega)))
        have a2 : (lg_cmp (lN (qN R ν l o)) (lN (qN R ν l p)) = 0) = (qN R ν l o = qN R ν l p) := propext ((lg_cmp_eq _ _).trans (pk_lEQ (by omega) (by omega)))
        have a3 : (nI p ≤ nI o) = ¬ o < p := by rw [nle_i (by omega) (by omega)]; exact propext Nat.not_lt.symm
        rw [fb_ct_succ]
        unfold ahd
        by_cases c1 : qN R ν l p < qN R ν l o
        · rw [if_pos (by rw [a1]; exact c1)]
          simp only [c1, decide_true, Bool.true_or, if_true]
          rw [lt_eq, show (1 : Int32) = nI 1 from rfl, nI_add, nI_add]
        · rw [if_neg (by rw [a1]; exact c1)]
          by_cases c2 : qN R ν l o = qN R ν l p
          · rw [if_pos (by rw [a2]; exact c2)]
            by_cases c3 : o < p
            · rw [if_neg (by rw [a3]; exact fun z => z c3)]
              simp only [c1, c2, c3, decide_true, decide_false, Bool.false_or, Bool.and_self, Bool.or_true, if_true]
              rw [lt_eq, show (1 : Int32) = nI 1 from rfl, nI_add, nI_add]
            · rw [if_pos (by rw [a3]; exact c3)]
              simp only [c1, c2, c3, decide_true, decide_false, Bool.false_or, Bool.and_false, Nat.lt_irrefl, if_false, Bool.false_eq_true]
              rw [lt_eq, show (1 : Int32) = nI 1 from rfl, show (0 : Int32) = nI 0 from rfl, nI_add, nI_add]
          · rw [if_neg (by rw [a2]; exact c2)]
            simp only [c1, c2, decide_false, Bool.false_or, Bool.false_and, if_false, Bool.false_eq_true]
            rw [lt_eq, show (1 : Int32) = nI 1 from rfl, show (0 : Int32) = nI 0 from rfl, nI_add, nI_add]
      · show (if gF y 851 0 ≤ nI (R 0 1) then bd_ (ldI y 48 0 (nI p)) (fun v15 => (if 0 ≤ (lg_cmp (Int32.toInt64 (nI (rnk (R 0 1) (qN R ν l) p))) (lN (xN ν l - fb_sm (cN R ν l) (R 0 1)))) then bd_ (stI y 48 0 (nI p) (v15 + nI 0)) (fun s16 => rec (s16, (nI p + nI 1))) else bd_ (stI y 48 0 (nI p) (v15 + nI 1)) (fun s17 => rec (s17, (nI p + nI 1))))) else _) = _
        rw [if_pos (by show y.1 851 0 0 ≤ nI (R 0 1); rw [my.P]; exact of_eq_true (nle_t (Nat.le_refl _) (by omega))), ld48 (by omega), bd_some, v48, wid_l (by omega)]
        have a4 : (0 ≤ lg_cmp (lN (rnk (R 0 1) (qN R ν l) p)) (lN (xN ν l - fb_sm (cN R ν l) (R 0 1)))) = (lN' R ν l ≤ rnk (R 0 1) (qN R ν l) p) := propext ((lg_cmp_ge _ _).trans (pk_lLE (by omega) (by omega)))
        unfold pN
        by_cases c1 : rnk (R 0 1) (qN R ν l) p < lN' R ν l
        · rw [if_neg (by rw [a4]; omega), if_pos c1, nI_add, st48 (by omega), bd_some, nI_add]
        · rw [if_pos (by rw [a4]; omega), if_neg c1, nI_add, st48 (by omega), bd_some, nI_add])
  obtain ⟨y, a⟩ := z
  have ha : a = nI (R 0 1) := hz2
  subst ha
  have fy : FrK f48 σ y := hz1
  refine ⟨y, ez.trans ?_, fy, fun j hj => ?_⟩
  · refine (if_pos (by show x.1 851 0 0 ≤ nI (R 0 1); rw [(mo x fx).P]; exact of_eq_true (nle_t (Nat.le_refl _) (by omega)))).trans (ez2.trans ?_)
    refine (if_pos (by show y.1 851 0 0 ≤ nI (R 0 1); rw [(mo y fy).P]; exact of_eq_true (nle_t (Nat.le_refl _) (by omega)))).trans ?_
    rfl
  · have := hz3 j hj
    rw [if_pos hj] at this
    exact this
end Part2

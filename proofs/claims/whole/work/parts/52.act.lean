/-! ===== acts: what is remembered ===== -/
def bk (a k i : Nat) : Bool := (decide (k ≤ 7) || ((decide (24 ≤ k) && decide (k ≤ 27)) || decide (k = 209))) && decide (i = a)
section Cong
variable {σ τ : ST} {R : RT} {ν μ : NU} {r i o : Nat}
theorem WR.cong (h : WR σ i R ν) (ho : RO R) (e : ∀ k, k < 2689 → ν k = μ k) : WR σ i R μ := by
  have o1 := ho.L
  have o2 := ho.P
  have o3 := ho.S
  exact ⟨fun l hl => (h.1 l hl).trans (e _ (by omega)), fun l hl => (h.2.1 l hl).trans (e _ (by omega)), fun p hp => (h.2.2.1 p hp).trans (e _ (by omega)), fun j hj => by rw [h.2.2.2 j hj, e _ (by omega)]⟩
theorem BR.cong (h : BR σ i R ν) (ho : RO R) (e : ∀ k, k < 2689 → ν k = μ k) : BR σ i R μ := by
  obtain ⟨h1, h2, h3, h4, h5, h6, h7, h8, h9, h10⟩ := h
  exact ⟨h1.cong ho e, fun l hl => (h2 l hl).trans (e _ (by omega)), fun l hl => (h3 l hl).trans (e _ (by omega)), fun l hl => (h4 l hl).trans (e _ (by omega)), fun l hl => (h5 l hl).trans (e _ (by omega)), fun l hl => (h6 l hl).trans (e _ (by omega)), fun l hl => by rw [h7 l hl, e _ (by omega), e _ (by omega)], fun l hl => (h8 l hl).trans (e _ (by omega)), fun l hl => (h9 l hl).trans (e _ (by omega)), h10.trans (e _ (by omega))⟩
theorem HO.cong (h : HO R ν) (ho : RO R) (e : ∀ k, k < 2689 → ν k = μ k) : HO R μ := by
  have o2 := ho.P
  have o3 := ho.S
  refine ⟨fun p hp => ?_, fun s t hs ht => ?_⟩
  · rw [← e _ (by omega)]
    exact h.1 p hp
  · have o8 := ho.s hs
    rw [← e _ (by omega)]
    exact h.2 s t hs ht
theorem ZO.cong (h : ZO R ν) (e : ∀ k, k < 2689 → ν k = μ k) : ZO R μ := by
  obtain ⟨h1, h2, h3, h4⟩ := h
  refine ⟨fun p l hp hl c => ?_, fun l hl c => ?_, fun l s t a hl hs ht ha c => ?_, fun l s t hl hs ht c => ?_⟩
  · rw [← e _ (by omega), ← e _ (by omega)]
    exact h1 p l hp hl c
  · rw [← e _ (by omega), ← e _ (by omega)]
    exact h2 l hl c
  · rw [← e _ (by omega)]
    exact h3 l s t a hl hs ht ha c
  · rw [← e _ (by omega)]
    exact h4 l s t hl hs ht c
theorem MO.cong (h : MO R ν) (e : ∀ k, k < 2689 → ν k = μ k) : MO R μ := by
  have em : ∀ k, k < 2689 → mI μ k = mI ν k := fun k hk => by unfold mI; rw [e k hk]
  obtain ⟨h1, h2, h3⟩ := h
  refine ⟨fun j hj => ?_, fun l hl => ?_, fun j hj => ?_⟩
  · rw [em _ (by omega)]
    exact h1 j hj
  · rw [em _ (by omega), em _ (by omega), fb_si_cong (f := fun p => mI μ (6 * p + l)) (g := fun p => mI ν (6 * p + l)) (fun k hk => em _ (by omega)), fb_si_cong (f := fun j => mI μ (204 + 360 * l + j)) (g := fun j => mI ν (204 + 360 * l + j)) (fun k hk => em _ (by omega)), fb_si_cong (f := fun j => mI μ (2364 + 40 * l + j)) (g := fun j => mI ν (2364 + 40 * l + j)) (fun k hk => em _ (by omega))]
    exact h2 l hl
  · rw [em _ (by omega), em _ (by omega)]
    exact h3 j hj
theorem VO.cong (h : VO R ν) (ho : RO R) (e : ∀ k, k < 2689 → ν k = μ k) : VO R μ := by
  have o1 := ho.L
  obtain ⟨h1, h2, h3, ⟨y, hy, ey⟩, h5⟩ := h
  exact ⟨h1.cong ho e, h2.cong e, h3.cong e, ⟨y, hy, (e _ (by omega)).symm.trans ey⟩, fun l hl => by
    obtain ⟨a, a1, a2, ea⟩ := h5 l hl
    exact ⟨a, a1, a2, (e _ (by omega)).symm.trans ea⟩⟩
theorem Bk_copyFrom_eq {a b : Nat} (hab : b ≠ a) : ∃ τ, Bk_copyFrom σ a b = some τ ∧ FrK (bk a) σ τ ∧ ∀ R ν, RO R → BR σ b R ν → BR τ a R ν := by
  obtain ⟨q, e, f, g1, g2, g3, g4⟩ := Wo_copyFrom_eq (σ := σ) hab
  unfold Bk_copyFrom
  rw [e, bd_some]
  simp only [fa_lit, cp0, cp1, cp2, cp3, cp4, cp5, cp6, cp7, bd_some, lt_eq]
  have w : ∀ k, k ≤ 7 → bk a k a = true := fun k h1 => by unfold bk; simp [h1]
  have f0 : FrK (bk a) σ q := f.mono (fun k i h => by
    unfold bk at h
    unfold wok
    simp only [Bool.and_eq_false_iff, Bool.or_eq_false_iff, decide_eq_false_iff_not] at h ⊢
    rcases h with ⟨-, h, -⟩ | h
    · rcases h with h | h
      · exact Or.inl h
      · exact Or.inr (Or.inl h)
    · exact Or.inr (Or.inr h))
  refine ⟨_, rfl, ?_, ?_⟩
  · exact ((((((((f0.tr (FrK.setR _ _ (w 0 (by decide)))).tr (FrK.setR _ _ (w 1 (by decide)))).tr (FrK.setR _ _ (w 2 (by decide)))).tr (FrK.setR _ _ (w 3 (by decide)))).tr (FrK.setR _ _ (w 4 (by decide)))).tr (FrK.setR _ _ (w 5 (by decide)))).tr (FrK.setR _ _ (w 6 (by decide)))).tr (FrK.setR _ _ (w 7 (by decide)))).tr (FrK.setF _ _ (by unfold bk; simp))
  · intro R ν ho h
    have n0 : ∀ k, k ≤ 7 ∨ k = 209 → q.1 k b = σ.1 k b := fun k hk => f.2 k b (by
      unfold wok
      simp only [Bool.and_eq_false_iff, decide_eq_false_iff_not]
      omega)
    obtain ⟨h1, h2, h3, h4, h5, h6, h7, h8, h9, h10⟩ := h
    refine ⟨h1.cp ho (fun j hj => ?_) (fun j hj => ?_) (fun j hj => ?_) (fun j hj => ?_), fun l hl => ?_, fun l hl => ?_, fun l hl => ?_, fun l hl => ?_, fun l hl => ?_, fun l hl => ?_, fun l hl => ?_, fun l hl => ?_, ?_⟩
    · simp (disch := omega) only [rf_ne, rd_ne]
      exact g1 j hj
    · simp (disch := omega) only [rf_ne, rd_ne]
      exact g2 j hj
    · simp (disch := omega) only [rf_ne, rd_ne]
      exact g3 j hj
    · simp (disch := omega) only [rf_ne, rd_ne]
      exact g4 j hj
    · simp (disch := omega) only [rf_ne, rd_ne, rd_eq, cpy_in, n0]
      exact h2 l hl
    · simp (disch := omega) only [rf_ne, rd_ne, rd_eq, cpy_in, n0]
      exact h3 l hl
    · simp (disch := omega) only [rf_ne, rd_ne, rd_eq, cpy_in, n0]
      exact h4 l hl
    · simp (disch := omega) only [rf_ne, rd_ne, rd_eq, cpy_in, n0]
      exact h5 l hl
    · simp (disch := omega) only [rf_ne, rd_ne, rd_eq, cpy_in, n0]
      exact h6 l hl
    · simp (disch := omega) only [rf_ne, rd_ne, rd_eq, cpy_in, n0]
      exact h7 l hl
    · simp (disch := omega) only [rf_ne, rd_ne, rd_eq, cpy_in, n0]
      exact h8 l hl
    · simp (disch := omega) only [rf_ne, rd_ne, rd_eq, cpy_in, n0]
      exact h9 l hl
    · rw [rf_eq]
      simp (disch := omega) only [gF, rd_ne, n0]
      exact h10
/-! the reference's row is kept -/
def rkp (k i : Nat) : Bool := (decide (k = 35) || decide (k = 856)) && decide (i = 0)
theorem Mo_keeps_eq {c : Nat} (hc : c ≤ 12) (h : σ.1 856 0 0 = nI c) : ∃ τ, Mo_keeps σ = some τ ∧ FrK rkp σ τ ∧ τ.1 856 0 0 = nI (if c = 12 then 12 else c + 1) ∧ (∀ k, k < 2689 → pst τ (if c = 12 then 11 else c) k = σ.1 34 0 k) ∧ ∀ m k, k < 2689 → m < (if c = 12 then 11 else c) → pst τ m k = pst σ (if c = 12 then m + 1 else m) k := by
  have copy : ∀ (s : ST) (u : Nat), u < 12 → s.1 856 0 0 = nI u → s.1 34 0 = σ.1 34 0 → lp_ (fun rec5 (z4 : ST × Int32) => (if 2689 ≤ z4.2 then lt_ (setF z4.1 856 0 ((gF z4.1 856 0) + 1)) (fun s7 => some s7) else bd_ (ldI z4.1 34 0 z4.2) (fun v8 => bd_ (stI z4.1 35 0 ((2689 * (gF z4.1 856 0)) + z4.2) v8) (fun s9 => rec5 (s9, (z4.2 + 1)))))) FU (s, 0) = some (setF (setR s 35 0 (fb_put (s.1 35 0) (s.1 34 0) (2689 * u) 2689)) 856 0 (nI (u + 1))) := by
    intro s u hu e1 e2
    refine lp_runE 2689 (by decide) (fun k => (setR s 35 0 (fb_put (s.1 35 0) (s.1 34 0) (2689 * u) k), nI k)) (by rw [fb_put_0, setR_self]; rfl) (fun rec k hk => ?_) (fun rec => ?_)
    · simp (disch := omega) only [bd_some, bd_none, lt_eq, lk_eq, fa_lit, nI_add, nI_mul, nI_sub, nle_t, nle_f, nlt_t, nlt_f, neq_t, neq_f, neg_ne, neg_ne', if_true, if_false, ite_true, ite_false, Nat.zero_add, Nat.add_zero, ld0, ld1, ld2, ld3, ld4, ld5, ld6, ld7, ld8, ld9, ld10, ld11, ld12, ld13, ld14, ld15, ld16, ld17, ld18, ld19, ld20, ld21, ld22, ld23, ld24, ld25, ld26, ld27, ld28, ld29, ld30, ld31, ld32, ld33, ld34, ld35, ld36, ld37, ld38, ld39, ld40, ld41, ld42, ld43, ld44, ld45, ld46, ld47, ld48, ld100, ld101, ld102, ld103, ld104, ld105, gF, rd_ne, e1, st35, rd_eq, setR_setR, fb_put_succ]
    · simp (disch := omega) only [bd_some, bd_none, lt_eq, lk_eq, fa_lit, nI_add, nI_mul, nI_sub, nle_t, nle_f, nlt_t, nlt_f, neq_t, neq_f, neg_ne, neg_ne', if_true, if_false, ite_true, ite_false, Nat.zero_add, Nat.add_zero, ld0, ld1, ld2, ld3, ld4, ld5, ld6, ld7, ld8, ld9, ld10, ld11, ld12, ld13, ld14, ld15, ld16, ld17, ld18, ld19, ld20, ld21, ld22, ld23, ld24, ld25, ld26, ld27, ld28, ld29, ld30, ld31, ld32, ld33, ld34, ld35, ld36, ld37, ld38, ld39, ld40, ld41, ld42, ld43, ld44, ld45, ld46, ld47, ld48, ld100, ld101, ld102, ld103, ld104, ld105, gF, rd_ne, e1]
  unfold Mo_keeps
  rw [lk_eq]
  by_cases e : c = 12
  · subst e
    rw [if_pos (show gF σ 856 0 = 12 from h)]
    have shift : lp_ (fun rec11 (z10 : ST × Int32) => (if 32268 ≤ z10.2 then lt_ (setF z10.1 856 0 ((gF z10.1 856 0) - 1)) (fun s13 => (fun (j1 : ST) => lp_ (fun rec5 (z4 : ST × Int32) => (if 2689 ≤ z4.2 then lt_ (setF z4.1 856 0 ((gF z4.1 856 0) + 1)) (fun s7 => some s7) else bd_ (ldI z4.1 34 0 z4.2) (fun v8 => bd_ (stI z4.1 35 0 ((2689 * (gF z4.1 856 0)) + z4.2) v8) (fun s9 => rec5 (s9, (z4.2 + 1)))))) FU (j1, 0)) s13) else bd_ (ldI z10.1 35 0 z10.2) (fun v14 => bd_ (stI z10.1 35 0 (z10.2 - 2689) v14) (fun s15 => rec11 (s15, (z10.2 + 1)))))) FU (σ, 2689) = some (setF (setR (setF (setR σ 35 0 (fa_fill (fun j => σ.1 35 0 (2689 + j)) (σ.1 35 0) 29579)) 856 0 (nI 11)) 35 0 (fb_put ((setF (setR σ 35 0 (fa_fill (fun j => σ.1 35 0 (2689 + j)) (σ.1 35 0) 29579)) 856 0 (nI 11)).1 35 0) ((setF (setR σ 35 0 (fa_fill (fun j => σ.1 35 0 (2689 + j)) (σ.1 35 0) 29579)) 856 0 (nI 11)).1 34 0) (2689 * 11) 2689)) 856 0 (nI (11 + 1))) := by
      refine lp_runE 29579 (by decide) (fun k => (setR σ 35 0 (fa_fill (fun j => σ.1 35 0 (2689 + j)) (σ.1 35 0) k), nI (2689 + k))) (by rw [fa_fill_0, setR_self]; rfl) (fun rec k hk => ?_) (fun rec => ?_)
      · have e3 : fa_fill (fun j => σ.1 35 0 (2689 + j)) (σ.1 35 0) k (2689 + k) = σ.1 35 0 (2689 + k) := fa_fill_out (by omega)
        have e4 := fa_fill_succ (fun j => σ.1 35 0 (2689 + j)) (σ.1 35 0) k
        simp (disch := omega) only [bd_some, bd_none, lt_eq, lk_eq, fa_lit, nI_add, nI_mul, nI_sub, nle_t, nle_f, nlt_t, nlt_f, neq_t, neq_f, neg_ne, neg_ne', if_true, if_false, ite_true, ite_false, Nat.zero_add, Nat.add_zero, ld0, ld1, ld2, ld3, ld4, ld5, ld6, ld7, ld8, ld9, ld10, ld11, ld12, ld13, ld14, ld15, ld16, ld17, ld18, ld19, ld20, ld21, ld22, ld23, ld24, ld25, ld26, ld27, ld28, ld29, ld30, ld31, ld32, ld33, ld34, ld35, ld36, ld37, ld38, ld39, ld40, ld41, ld42, ld43, ld44, ld45, ld46, ld47, ld48, ld100, ld101, ld102, ld103, ld104, ld105, gF, rd_eq, e3, st35, setR_setR, Nat.add_sub_cancel_left, e4]
        rfl
      · rw [if_pos (show (32268 : Int32) ≤ nI (2689 + 29579) by decide), lt_eq]
        have e5 : setF (setR σ 35 0 (fa_fill (fun j => σ.1 35 0 (2689 + j)) (σ.1 35 0) 29579)) 856 0 (gF (setR σ 35 0 (fa_fill (fun j => σ.1 35 0 (2689 + j)) (σ.1 35 0) 29579)) 856 0 - 1) = setF (setR σ 35 0 (fa_fill (fun j => σ.1 35 0 (2689 + j)) (σ.1 35 0) 29579)) 856 0 (nI 11) := by
          congr 1
          show (setR σ 35 0 _).1 856 0 0 - 1 = _
          rw [rd_ne (by decide), h]
          decide
        rw [e5]
        exact copy _ 11 (by decide) rf_eq (by rw [rf_ne (by decide), rd_ne (by decide)])
    refine ⟨_, shift, ((FrK.setR _ _ rfl).tr (FrK.setF _ _ rfl)).tr ((FrK.setR _ _ rfl).tr (FrK.setF _ _ rfl)), by rw [rf_eq]; rfl, fun k hk => ?_, fun m k hk hm => ?_⟩
    · unfold pst
      simp (disch := omega) only [if_true, rf_ne, rd_ne, rd_eq]
      rw [fb_put_in (by omega) (by omega), Nat.add_sub_cancel_left]
    · simp only [if_true] at hm
      unfold pst
      simp (disch := omega) only [if_true, rf_ne, rd_ne, rd_eq]
      rw [fb_put_out (by omega), fa_fill_in (by omega)]
      exact congrArg _ (by omega)
  · rw [if_neg (show ¬ gF σ 856 0 = 12 from fun q => e (by
      have q : σ.1 856 0 0 = nI 12 := q
      rw [h] at q
      exact (nI_eq (by omega) (by decide)).mp q))]
    refine ⟨_, copy σ c (by omega) h rfl, (FrK.setR _ _ rfl).tr (FrK.setF _ _ rfl), by rw [rf_eq, if_neg e], fun k hk => ?_, fun m k hk hm => ?_⟩
    · unfold pst
      simp (disch := omega) only [if_neg e, rf_ne, rd_ne, rd_eq]
      rw [fb_put_in (by omega) (by omega), Nat.add_sub_cancel_left]
    · rw [if_neg e] at hm
      unfold pst
      simp (disch := omega) only [if_neg e, rf_ne, rd_ne, rd_eq]
      rw [fb_put_out (by omega)]
end Cong

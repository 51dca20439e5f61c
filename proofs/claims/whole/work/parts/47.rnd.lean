/-! ===== a round: both sides; other worlds ===== -/
section Rnd
variable {σ τ : ST} {R : RT} {ν : NU} {r i o : Nat}
theorem rt1000 (ho : RO R) {l : Nat} (hl : l < R 0 0) : 1000 * R 1 l < 1073741824 := by
  have := ho.rt hl
  omega
theorem ngt {x : Int32} {a k : Nat} (h : x = nI a) (hk : k < a) (ha : a < 2147483648) : ¬ x ≤ nI k := by rw [h]; exact of_eq_false (nle_f hk ha)
/-- a loop over lands and sessions that adds: the class -/
theorem Rn_two {g : Nat → Nat → Int32} {F : ST → Option Int32} (c : CR σ r R) (w : WR σ i R ν) (ho : RO R) (hv : HO R ν) (hF : ∀ τ l s, CR τ r R → WR τ i R ν → l < R 0 0 → s < R 0 2 → OQ τ 1 R ν l s (1000 * R 1 l) → F τ = some (g l s)) : ∃ τ, lp_ (fun rec2 (z1 : ST × Int32 × Int32) => (if (gF z1.1 529 r) ≤ z1.2.2 then some (z1.2.1, z1.1) else lp_ (fun rec5 (z4 : ST × Int32 × Int32) => (if (gF z4.1 531 r) ≤ z4.2.2 then rec2 (z4.1, z4.2.1, (z1.2.2 + 1)) else bd_ (Oc_think z4.1 1 r i z1.2.2 z4.2.2 1000) (fun q7 => bd_ (F q7) (fun q8 => lt_ ((z4.2.1 + q8)) (fun x9 => rec5 (q7, x9, (z4.2.2 + 1))))))) FU (z1.1, z1.2.1, 0))) FU (σ, 0, 0) = some (sI (fun l => sI (fun s => g l s) (R 0 2)) (R 0 0), τ) ∧ FrK scr σ τ := by
  have o1 := ho.L
  have o3 := ho.S
  obtain ⟨z, ⟨hz1, hz2, hz3⟩, rec, ez⟩ := lp_invG (β := Int32 × ST) (z0 := (σ, (0 : Int32), (0 : Int32))) (step := fun rec2 (z1 : ST × Int32 × Int32) => (if (gF z1.1 529 r) ≤ z1.2.2 then some (z1.2.1, z1.1) else lp_ (fun rec5 (z4 : ST × Int32 × Int32) => (if (gF z4.1 531 r) ≤ z4.2.2 then rec2 (z4.1, z4.2.1, (z1.2.2 + 1)) else bd_ (Oc_think z4.1 1 r i z1.2.2 z4.2.2 1000) (fun q7 => bd_ (F q7) (fun q8 => lt_ ((z4.2.1 + q8)) (fun x9 => rec5 (q7, x9, (z4.2.2 + 1))))))) FU (z1.1, z1.2.1, 0))) (R 0 0) (by omega) (fun l z => FrK scr σ z.1 ∧ z.2.1 = sI (fun l => sI (fun s => g l s) (R 0 2)) l ∧ z.2.2 = nI l) ⟨FrK.rf σ, rfl, rfl⟩ (by
      rintro rec l ⟨t, a, b⟩ hl ⟨f1, h2, h3⟩
      have h2 : a = sI (fun l => sI (fun s => g l s) (R 0 2)) l := h2
      have h3 : b = nI l := h3
      subst h2; subst h3
      have f1 : FrK scr σ t := f1
      have ct := c.fr f1
      obtain ⟨z, ⟨hz1, hz2, hz3⟩, rec2, ez⟩ := lp_invG (β := Int32 × ST) (z0 := (t, sI (fun l => sI (fun s => g l s) (R 0 2)) l, (0 : Int32))) (step := fun rec5 (z4 : ST × Int32 × Int32) => (if (gF z4.1 531 r) ≤ z4.2.2 then rec (z4.1, z4.2.1, (nI l + 1)) else bd_ (Oc_think z4.1 1 r i (nI l) z4.2.2 1000) (fun q7 => bd_ (F q7) (fun q8 => lt_ ((z4.2.1 + q8)) (fun x9 => rec5 (q7, x9, (z4.2.2 + 1))))))) (R 0 2) (by omega) (fun s z => FrK scr σ z.1 ∧ z.2.1 = sI (fun l => sI (fun s => g l s) (R 0 2)) l + sI (fun s => g l s) s ∧ z.2.2 = nI s) ⟨f1, (add_n0 _).symm, rfl⟩ (by
          rintro rec2 s ⟨t2, a2, b2⟩ hs ⟨f2, k2, k3⟩
          have k2 : a2 = sI (fun l => sI (fun s => g l s) (R 0 2)) l + sI (fun s => g l s) s := k2
          have k3 : b2 = nI s := k3
          subst k2; subst k3
          have f2 : FrK scr σ t2 := f2
          obtain ⟨t3, e3, f3, q3⟩ := Oc_think_eq (o := 1) (n := 1000) (c.fr f2) (w.fr f2) ho hv hl hs (by decide)
          have e4 := hF t3 l s ((c.fr f2).fr f3) ((w.fr f2).fr f3) hl hs q3
          refine ⟨(t3, sI (fun l => sI (fun s => g l s) (R 0 2)) l + sI (fun s => g l s) s + g l s, nI (s + 1)), ⟨f2.tr f3, ?_, rfl⟩, ?_⟩
          · show _ = _ + sI _ (s + 1)
            rw [sI_succ, Int32.add_assoc]
          · simp (disch := omega) only [bd_some, bd_none, lt_eq, lk_eq, fa_lit, nI_add, nI_mul, nI_sub, nle_t, nle_f, nlt_t, nlt_f, neq_t, neq_f, neg_ne, neg_ne', if_true, if_false, ite_true, ite_false, Nat.zero_add, Nat.add_zero, ld0, ld1, ld2, ld3, ld4, ld5, ld6, ld7, ld8, ld9, ld10, ld11, ld12, ld13, ld14, ld15, ld16, ld17, ld18, ld19, ld20, ld21, ld22, ld23, ld24, ld25, ld26, ld27, ld28, ld29, ld30, ld31, ld32, ld33, ld34, ld35, ld36, ld37, ld38, ld39, ld40, ld41, ld42, ld43, ld44, ld45, ld46, ld47, ld48, ld100, ld101, ld102, ld103, ld104, ld105, gF, (c.fr f2).S, e3, e4])
      obtain ⟨t2, a2, b2⟩ := z
      have hz2 : a2 = _ := hz2
      have hz3 : b2 = nI (R 0 2) := hz3
      subst hz2; subst hz3
      have hz1 : FrK scr σ t2 := hz1
      refine ⟨(t2, sI (fun l => sI (fun s => g l s) (R 0 2)) l + sI (fun s => g l s) (R 0 2), nI (l + 1)), ⟨hz1, rfl, rfl⟩, ?_⟩
      refine (if_neg (ngt ct.L hl (by omega))).trans (ez.trans ?_)
      simp (disch := omega) only [bd_some, bd_none, lt_eq, lk_eq, fa_lit, nI_add, nI_mul, nI_sub, nle_t, nle_f, nlt_t, nlt_f, neq_t, neq_f, neg_ne, neg_ne', if_true, if_false, ite_true, ite_false, Nat.zero_add, Nat.add_zero, ld0, ld1, ld2, ld3, ld4, ld5, ld6, ld7, ld8, ld9, ld10, ld11, ld12, ld13, ld14, ld15, ld16, ld17, ld18, ld19, ld20, ld21, ld22, ld23, ld24, ld25, ld26, ld27, ld28, ld29, ld30, ld31, ld32, ld33, ld34, ld35, ld36, ld37, ld38, ld39, ld40, ld41, ld42, ld43, ld44, ld45, ld46, ld47, ld48, ld100, ld101, ld102, ld103, ld104, ld105, gF, (c.fr hz1).S])
  obtain ⟨t, a, b⟩ := z
  have hz2 : a = _ := hz2
  have hz3 : b = nI (R 0 0) := hz3
  subst hz2; subst hz3
  have hz1 : FrK scr σ t := hz1
  refine ⟨t, ez.trans ?_, hz1⟩
  simp (disch := omega) only [bd_some, bd_none, lt_eq, lk_eq, fa_lit, nI_add, nI_mul, nI_sub, nle_t, nle_f, nlt_t, nlt_f, neq_t, neq_f, neg_ne, neg_ne', if_true, if_false, ite_true, ite_false, Nat.zero_add, Nat.add_zero, ld0, ld1, ld2, ld3, ld4, ld5, ld6, ld7, ld8, ld9, ld10, ld11, ld12, ld13, ld14, ld15, ld16, ld17, ld18, ld19, ld20, ld21, ld22, ld23, ld24, ld25, ld26, ld27, ld28, ld29, ld30, ld31, ld32, ld33, ld34, ld35, ld36, ld37, ld38, ld39, ld40, ld41, ld42, ld43, ld44, ld45, ld46, ld47, ld48, ld100, ld101, ld102, ld103, ld104, ld105, gF, (c.fr hz1).L]
theorem Rn_toPlayersOf_eq {h : Nat} (c : CR σ r R) (w : WR σ i R ν) (ho : RO R) (hv : HO R ν) (hh : h < 6) : ∃ τ, Rn_toPlayersOf σ r i (nI h) = some (toP R ν h, τ) ∧ FrK scr σ τ := Rn_two (g := fun l s => homeP R ν l s (1000 * R 1 l) h) (F := fun q => Oc_paidToHome q 1 i (nI h)) c w ho hv (fun τ l s ct wt hl hs q => Oc_paidToHome_eq wt ho hv hs hh q)
theorem Rn_toPlayer_eq {p : Nat} (c : CR σ r R) (w : WR σ i R ν) (ho : RO R) (hv : HO R ν) (hp : p < 16) : ∃ τ, Rn_toPlayer σ r i (nI p) = some (rndP R ν p, τ) ∧ FrK scr σ τ := Rn_two (g := fun l s => oneP R ν l s (1000 * R 1 l) p) (F := fun q => Oc_paidToOne q 1 (nI p)) c w ho hv (fun τ l s ct wt hl hs q => Oc_paidToOne_eq ho hs hp q)
theorem Rn_ofOpenSeats_eq {f : Nat} (c : CR σ r R) (w : WR σ i R ν) (ho : RO R) (hv : HO R ν) (hf : f < 3) : ∃ τ, Rn_ofOpenSeats σ r i (nI f) = some (unkP R ν f, τ) ∧ FrK scr σ τ := Rn_two (g := fun l s => opnP R ν l s (1000 * R 1 l) f) (F := fun q => Oc_openMoney q 1 (nI f)) c w ho hv (fun τ l s ct wt hl hs q => Oc_openMoney_eq ho hv hs hf q)
theorem Rn_inLand_eq {l f : Nat} (c : CR σ r R) (w : WR σ i R ν) (ho : RO R) (hv : HO R ν) (hl : l < R 0 0) (hf : f < 3) : ∃ τ, Rn_inLand σ r i (nI l) (nI f) = some (inlP R ν l f, τ) ∧ FrK scr σ τ := by
  have o3 := ho.S
  unfold Rn_inLand
  obtain ⟨z, ⟨hz1, hz2, hz3⟩, rec, ez⟩ := lp_invG (β := Int32 × ST) (z0 := (σ, (0 : Int32), (0 : Int32))) (step := fun rec2 (z1 : ST × Int32 × Int32) => (if (gF z1.1 531 r) ≤ z1.2.2 then some (z1.2.1, z1.1) else bd_ (Oc_think z1.1 1 r i (nI l) z1.2.2 1000) (fun q4 => bd_ (ldI q4 12 1 (nI f)) (fun v5 => lt_ ((z1.2.1 + v5)) (fun x6 => rec2 (q4, x6, (z1.2.2 + 1))))))) (R 0 2) (by omega) (fun s z => FrK scr σ z.1 ∧ z.2.1 = sI (fun s => sumFP R ν l s (1000 * R 1 l) f) s ∧ z.2.2 = nI s) ⟨FrK.rf σ, rfl, rfl⟩ (by
      rintro rec2 s ⟨t2, a2, b2⟩ hs ⟨f2, k2, k3⟩
      have k2 : a2 = _ := k2
      have k3 : b2 = nI s := k3
      subst k2; subst k3
      have f2 : FrK scr σ t2 := f2
      obtain ⟨t3, e3, f3, q3⟩ := Oc_think_eq (o := 1) (n := 1000) (c.fr f2) (w.fr f2) ho hv hl hs (by decide)
      have e4 : t3.1 12 1 f = sumFP R ν l s (1000 * R 1 l) f := q3.2.2.2.2.2.2 f hf
      refine ⟨(t3, sI (fun s => sumFP R ν l s (1000 * R 1 l) f) s + sumFP R ν l s (1000 * R 1 l) f, nI (s + 1)), ⟨f2.tr f3, rfl, rfl⟩, ?_⟩
      simp (disch := omega) only [bd_some, bd_none, lt_eq, lk_eq, fa_lit, nI_add, nI_mul, nI_sub, nle_t, nle_f, nlt_t, nlt_f, neq_t, neq_f, neg_ne, neg_ne', if_true, if_false, ite_true, ite_false, Nat.zero_add, Nat.add_zero, ld0, ld1, ld2, ld3, ld4, ld5, ld6, ld7, ld8, ld9, ld10, ld11, ld12, ld13, ld14, ld15, ld16, ld17, ld18, ld19, ld20, ld21, ld22, ld23, ld24, ld25, ld26, ld27, ld28, ld29, ld30, ld31, ld32, ld33, ld34, ld35, ld36, ld37, ld38, ld39, ld40, ld41, ld42, ld43, ld44, ld45, ld46, ld47, ld48, ld100, ld101, ld102, ld103, ld104, ld105, gF, (c.fr f2).S, e3, e4])
  obtain ⟨t, a, b⟩ := z
  have hz2 : a = _ := hz2
  have hz3 : b = nI (R 0 2) := hz3
  subst hz2; subst hz3
  have hz1 : FrK scr σ t := hz1
  refine ⟨t, ez.trans ?_, hz1⟩
  simp (disch := omega) only [bd_some, bd_none, lt_eq, lk_eq, fa_lit, nI_add, nI_mul, nI_sub, nle_t, nle_f, nlt_t, nlt_f, neq_t, neq_f, neg_ne, neg_ne', if_true, if_false, ite_true, ite_false, Nat.zero_add, Nat.add_zero, ld0, ld1, ld2, ld3, ld4, ld5, ld6, ld7, ld8, ld9, ld10, ld11, ld12, ld13, ld14, ld15, ld16, ld17, ld18, ld19, ld20, ld21, ld22, ld23, ld24, ld25, ld26, ld27, ld28, ld29, ld30, ld31, ld32, ld33, ld34, ld35, ld36, ld37, ld38, ld39, ld40, ld41, ld42, ld43, ld44, ld45, ld46, ld47, ld48, ld100, ld101, ld102, ld103, ld104, ld105, gF, (c.fr hz1).S]
  rfl
/-- the same of the reference: what is laid by is the row of shares alone -/
theorem Mo_two {g : Nat → Nat → Int32} {G : (ST × Int32 × Int32 → Option (Int32 × ST)) → Int32 → ST × Int32 × Int32 → Option (Int32 × ST)} (h : MR σ R) (ho : RO R) (hG : ∀ rec t l s a, FrK r47 σ t → l < R 0 0 → s < R 0 2 → ∃ t', FrK r47 σ t' ∧ G rec (nI l) (t, a, nI s) = rec (t', a + g l s, nI (s + 1))) (fin : ST → Int32 → Option (Int32 × ST)) : ∃ τ, FrK r47 σ τ ∧ lp_ (fun rec2 (z1 : ST × Int32 × Int32) => (if (gF z1.1 850 0) ≤ z1.2.2 then fin z1.1 z1.2.1 else lp_ (fun rec5 (z4 : ST × Int32 × Int32) => (if (gF z4.1 852 0) ≤ z4.2.2 then rec2 (z4.1, z4.2.1, (z1.2.2 + 1)) else G rec5 z1.2.2 z4)) FU (z1.1, z1.2.1, 0))) FU (σ, 0, 0) = fin τ (sI (fun l => sI (fun s => g l s) (R 0 2)) (R 0 0)) := by
  have o1 := ho.L
  have o3 := ho.S
  obtain ⟨z, ⟨hz1, hz2, hz3⟩, rec, ez⟩ := lp_invG (β := Int32 × ST) (z0 := (σ, (0 : Int32), (0 : Int32))) (step := fun rec2 (z1 : ST × Int32 × Int32) => (if (gF z1.1 850 0) ≤ z1.2.2 then fin z1.1 z1.2.1 else lp_ (fun rec5 (z4 : ST × Int32 × Int32) => (if (gF z4.1 852 0) ≤ z4.2.2 then rec2 (z4.1, z4.2.1, (z1.2.2 + 1)) else G rec5 z1.2.2 z4)) FU (z1.1, z1.2.1, 0))) (R 0 0) (by omega) (fun l z => FrK r47 σ z.1 ∧ z.2.1 = sI (fun l => sI (fun s => g l s) (R 0 2)) l ∧ z.2.2 = nI l) ⟨FrK.rf σ, rfl, rfl⟩ (by
      rintro rec l ⟨t, a, b⟩ hl ⟨f1, h2, h3⟩
      have h2 : a = sI (fun l => sI (fun s => g l s) (R 0 2)) l := h2
      have h3 : b = nI l := h3
      subst h2; subst h3
      have f1 : FrK r47 σ t := f1
      have ct := h.f47 f1
      obtain ⟨z, ⟨hz1, hz2, hz3⟩, rec2, ez⟩ := lp_invG (β := Int32 × ST) (z0 := (t, sI (fun l => sI (fun s => g l s) (R 0 2)) l, (0 : Int32))) (step := fun rec5 (z4 : ST × Int32 × Int32) => (if (gF z4.1 852 0) ≤ z4.2.2 then rec (z4.1, z4.2.1, (nI l + 1)) else G rec5 (nI l) z4)) (R 0 2) (by omega) (fun s z => FrK r47 σ z.1 ∧ z.2.1 = sI (fun l => sI (fun s => g l s) (R 0 2)) l + sI (fun s => g l s) s ∧ z.2.2 = nI s) ⟨f1, (add_n0 _).symm, rfl⟩ (by
          rintro rec2 s ⟨t2, a2, b2⟩ hs ⟨f2, k2, k3⟩
          have k2 : a2 = sI (fun l => sI (fun s => g l s) (R 0 2)) l + sI (fun s => g l s) s := k2
          have k3 : b2 = nI s := k3
          subst k2; subst k3
          have f2 : FrK r47 σ t2 := f2
          obtain ⟨t3, f3, e3⟩ := hG rec2 t2 l s (sI (fun l => sI (fun s => g l s) (R 0 2)) l + sI (fun s => g l s) s) f2 hl hs
          refine ⟨(t3, sI (fun l => sI (fun s => g l s) (R 0 2)) l + sI (fun s => g l s) s + g l s, nI (s + 1)), ⟨f3, ?_, rfl⟩, ?_⟩
          · show _ = _ + sI _ (s + 1)
            rw [sI_succ, Int32.add_assoc]
          · simp (disch := omega) only [bd_some, bd_none, lt_eq, lk_eq, fa_lit, nI_add, nI_mul, nI_sub, nle_t, nle_f, nlt_t, nlt_f, neq_t, neq_f, neg_ne, neg_ne', if_true, if_false, ite_true, ite_false, Nat.zero_add, Nat.add_zero, ld0, ld1, ld2, ld3, ld4, ld5, ld6, ld7, ld8, ld9, ld10, ld11, ld12, ld13, ld14, ld15, ld16, ld17, ld18, ld19, ld20, ld21, ld22, ld23, ld24, ld25, ld26, ld27, ld28, ld29, ld30, ld31, ld32, ld33, ld34, ld35, ld36, ld37, ld38, ld39, ld40, ld41, ld42, ld43, ld44, ld45, ld46, ld47, ld48, ld100, ld101, ld102, ld103, ld104, ld105, gF, (h.f47 f2).S, e3])
      obtain ⟨t2, a2, b2⟩ := z
      have hz2 : a2 = _ := hz2
      have hz3 : b2 = nI (R 0 2) := hz3
      subst hz2; subst hz3
      have hz1 : FrK r47 σ t2 := hz1
      refine ⟨(t2, sI (fun l => sI (fun s => g l s) (R 0 2)) l + sI (fun s => g l s) (R 0 2), nI (l + 1)), ⟨hz1, rfl, rfl⟩, ?_⟩
      refine (if_neg (ngt ct.L hl (by omega))).trans (ez.trans ?_)
      simp (disch := omega) only [bd_some, bd_none, lt_eq, lk_eq, fa_lit, nI_add, nI_mul, nI_sub, nle_t, nle_f, nlt_t, nlt_f, neq_t, neq_f, neg_ne, neg_ne', if_true, if_false, ite_true, ite_false, Nat.zero_add, Nat.add_zero, ld0, ld1, ld2, ld3, ld4, ld5, ld6, ld7, ld8, ld9, ld10, ld11, ld12, ld13, ld14, ld15, ld16, ld17, ld18, ld19, ld20, ld21, ld22, ld23, ld24, ld25, ld26, ld27, ld28, ld29, ld30, ld31, ld32, ld33, ld34, ld35, ld36, ld37, ld38, ld39, ld40, ld41, ld42, ld43, ld44, ld45, ld46, ld47, ld48, ld100, ld101, ld102, ld103, ld104, ld105, gF, (h.f47 hz1).S])
  obtain ⟨t, a, b⟩ := z
  have hz2 : a = _ := hz2
  have hz3 : b = nI (R 0 0) := hz3
  subst hz2; subst hz3
  have hz1 : FrK r47 σ t := hz1
  refine ⟨t, hz1, ez.trans ?_⟩
  simp (disch := omega) only [bd_some, bd_none, lt_eq, lk_eq, fa_lit, nI_add, nI_mul, nI_sub, nle_t, nle_f, nlt_t, nlt_f, neq_t, neq_f, neg_ne, neg_ne', if_true, if_false, ite_true, ite_false, Nat.zero_add, Nat.add_zero, ld0, ld1, ld2, ld3, ld4, ld5, ld6, ld7, ld8, ld9, ld10, ld11, ld12, ld13, ld14, ld15, ld16, ld17, ld18, ld19, ld20, ld21, ld22, ld23, ld24, ld25, ld26, ld27, ld28, ld29, ld30, ld31, ld32, ld33, ld34, ld35, ld36, ld37, ld38, ld39, ld40, ld41, ld42, ld43, ld44, ld45, ld46, ld47, ld48, ld100, ld101, ld102, ld103, ld104, ld105, gF, (h.f47 hz1).L]
theorem Mo_toPlayersOf_eq {d : Nat} (h : MR σ R) (ho : RO R) (hv : HO R (σ.1 34 0)) (hd : d < 6) : ∃ τ, FrK r47 σ τ ∧ Mo_toPlayersOf σ (nI d) = some (toP R (σ.1 34 0) d, τ) := by
  have o1 := ho.L
  have o2 := ho.P
  refine Mo_two (g := fun l s => homeP R (σ.1 34 0) l s (1000 * R 1 l) d) (G := fun rec5 l z4 => bd_ (ldI z4.1 29 0 l) (fun v7 => bd_ (Mo_laysShares z4.1 z4.2.2 (1000 * v7)) (fun q8 => lp_ (fun rec10 (z9 : Int32 × Int32) => bd_ (Mo_whole q8 z4.2.2) (fun q12 => (if q12 ≤ z9.2 then rec5 (q8, z9.1, (z4.2.2 + 1)) else bd_ (Mo_whose q8 z4.2.2 z9.2) (fun q13 => (if q13 = (-1) then lt_ ((z9.1 + 0)) (fun x14 => rec10 (x14, (z9.2 + 1))) else bd_ (ldI q8 34 0 (2672 + q13)) (fun v15 => (if v15 = (nI d) then bd_ (Mo_where q8 l z4.2.2 z9.2) (fun q17 => (if q17 = 0 then bd_ (ldI q8 47 0 z9.2) (fun v19 => lt_ ((z9.1 + v19)) (fun x20 => rec10 (x20, (z9.2 + 1)))) else lt_ ((z9.1 + 0)) (fun x18 => rec10 (x18, (z9.2 + 1))))) else lt_ ((z9.1 + 0)) (fun x16 => rec10 (x16, (z9.2 + 1)))))))))) FU (z4.2.1, 0)))) h ho (fun rec t l s a ft hl hs => ⟨shS t R s (1000 * R 1 l), ft.tr (shS_fr _ _), ?_⟩) (fun t a => some (a, t))
  have ht := h.f47 ft
  have h2 := ht.f47 (shS_fr (R := R) s (1000 * R 1 l))
  have h13 := hd_le ho hs
  have e34 : (shS t R s (1000 * R 1 l)).1 34 0 = σ.1 34 0 := (shS_34 _ _).trans (ft.2 34 0 rfl)
  have hv2 : HO R ((shS t R s (1000 * R 1 l)).1 34 0) := by rw [e34]; exact hv
  have hw : Mo_whole (shS t R s (1000 * R 1 l)) (nI s) = some (nI (hdP R s)) := Mo_whole_eq h2 ho hs
  simp (disch := omega) only [bd_some, bd_none, lt_eq, lk_eq, fa_lit, nI_add, nI_mul, nI_sub, nle_t, nle_f, nlt_t, nlt_f, neq_t, neq_f, neg_ne, neg_ne', if_true, if_false, ite_true, ite_false, Nat.zero_add, Nat.add_zero, ld0, ld1, ld2, ld3, ld4, ld5, ld6, ld7, ld8, ld9, ld10, ld11, ld12, ld13, ld14, ld15, ld16, ld17, ld18, ld19, ld20, ld21, ld22, ld23, ld24, ld25, ld26, ld27, ld28, ld29, ld30, ld31, ld32, ld33, ld34, ld35, ld36, ld37, ld38, ld39, ld40, ld41, ld42, ld43, ld44, ld45, ld46, ld47, ld48, ld100, ld101, ld102, ld103, ld104, ld105, gF, ht.rt hl, Mo_laysShares_eq ht ho hs (rt1000 ho hl)]
  refine (lp_runE (hdP R s) (by omega) (fun k => (sA a (fun k => if ftP R (σ.1 34 0) l s k = 0 ∧ hmP (σ.1 34 0) (whP R (σ.1 34 0) s k) = d then nI (shP R s (1000 * R 1 l) k) else nI 0) k, nI k)) rfl (fun rec2 k hk => ?_) (fun rec2 => ?_) : _ = rec (shS t R s (1000 * R 1 l), a + homeP R (σ.1 34 0) l s (1000 * R 1 l) d, nI (s + 1)))
  · simp (disch := omega) only [bd_some, bd_none, lt_eq, lk_eq, fa_lit, nI_add, nI_mul, nI_sub, nle_t, nle_f, nlt_t, nlt_f, neq_t, neq_f, neg_ne, neg_ne', if_true, if_false, ite_true, ite_false, Nat.zero_add, Nat.add_zero, ld0, ld1, ld2, ld3, ld4, ld5, ld6, ld7, ld8, ld9, ld10, ld11, ld12, ld13, ld14, ld15, ld16, ld17, ld18, ld19, ld20, ld21, ld22, ld23, ld24, ld25, ld26, ld27, ld28, ld29, ld30, ld31, ld32, ld33, ld34, ld35, ld36, ld37, ld38, ld39, ld40, ld41, ld42, ld43, ld44, ld45, ld46, ld47, ld48, ld100, ld101, ld102, ld103, ld104, ld105, gF, hw, Mo_whose_eq h2 ho hs hk, Mo_where_eq h2 ho hv2 hl hs hk, e34, n_ft0, shS_at hk, sA_succ]
    rcases wh_or ho hv hs hk with e | ⟨p, x, hp, hx, e, ed⟩
    · have e2 : ¬ ftP R (σ.1 34 0) l s k = 0 := fun q => ft0_wh q e
      simp only [e, e2, if_true, false_and, if_false]
    · have e3 := hm_eq (show p < 16 by omega) (show x < 6 by omega) ed
      simp (disch := omega) only [bd_some, bd_none, lt_eq, lk_eq, fa_lit, nI_add, nI_mul, nI_sub, nle_t, nle_f, nlt_t, nlt_f, neq_t, neq_f, neg_ne, neg_ne', if_true, if_false, ite_true, ite_false, Nat.zero_add, Nat.add_zero, ld0, ld1, ld2, ld3, ld4, ld5, ld6, ld7, ld8, ld9, ld10, ld11, ld12, ld13, ld14, ld15, ld16, ld17, ld18, ld19, ld20, ld21, ld22, ld23, ld24, ld25, ld26, ld27, ld28, ld29, ld30, ld31, ld32, ld33, ld34, ld35, ld36, ld37, ld38, ld39, ld40, ld41, ld42, ld43, ld44, ld45, ld46, ld47, ld48, ld100, ld101, ld102, ld103, ld104, ld105, gF, e, e3, e34, ed]
      by_cases e4 : x = d
      · subst e4
        by_cases e5 : ftP R (σ.1 34 0) l s k = 0 <;> simp [e5]
      · have e6 : ¬ nI x = nI d := fun q => e4 ((nI_eq (by omega) (by omega)).mp q)
        simp [e4, e6]
  · simp (disch := omega) only [bd_some, bd_none, lt_eq, lk_eq, fa_lit, nI_add, nI_mul, nI_sub, nle_t, nle_f, nlt_t, nlt_f, neq_t, neq_f, neg_ne, neg_ne', if_true, if_false, ite_true, ite_false, Nat.zero_add, Nat.add_zero, ld0, ld1, ld2, ld3, ld4, ld5, ld6, ld7, ld8, ld9, ld10, ld11, ld12, ld13, ld14, ld15, ld16, ld17, ld18, ld19, ld20, ld21, ld22, ld23, ld24, ld25, ld26, ld27, ld28, ld29, ld30, ld31, ld32, ld33, ld34, ld35, ld36, ld37, ld38, ld39, ld40, ld41, ld42, ld43, ld44, ld45, ld46, ld47, ld48, ld100, ld101, ld102, ld103, ld104, ld105, gF, hw, sA_eq]
    rfl
theorem Mo_unknown_eq {f : Nat} (h : MR σ R) (ho : RO R) (hv : HO R (σ.1 34 0)) (hf : f < 2) : ∃ τ, FrK r47 σ τ ∧ lp_ (fun rec3 (z2 : ST × Int32 × Int32) => (if (gF z2.1 850 0) ≤ z2.2.2 then some (z2.2.1, z2.1) else lp_ (fun rec6 (z5 : ST × Int32 × Int32) => (if (gF z5.1 852 0) ≤ z5.2.2 then rec3 (z5.1, z5.2.1, (z2.2.2 + 1)) else bd_ (ldI z5.1 29 0 z2.2.2) (fun v8 => bd_ (Mo_laysShares z5.1 z5.2.2 (1000 * v8)) (fun q9 => lp_ (fun rec11 (z10 : Int32 × Int32) => bd_ (Mo_whole q9 z5.2.2) (fun q13 => (if q13 ≤ z10.2 then rec6 (q9, z10.1, (z5.2.2 + 1)) else bd_ (Mo_whose q9 z5.2.2 z10.2) (fun q14 => (if q14 = (-1) then bd_ (Mo_where q9 z2.2.2 z5.2.2 z10.2) (fun q16 => (if q16 = (nI f + 1) then bd_ (ldI q9 47 0 z10.2) (fun v18 => lt_ ((z10.1 + v18)) (fun x19 => rec11 (x19, (z10.2 + 1)))) else lt_ ((z10.1 + 0)) (fun x17 => rec11 (x17, (z10.2 + 1))))) else lt_ ((z10.1 + 0)) (fun x15 => rec11 (x15, (z10.2 + 1)))))))) FU (z5.2.1, 0))))) FU (z2.1, z2.2.1, 0))) FU (σ, 0, 0) = some (unkP R (σ.1 34 0) (f + 1), τ) := by
  have o1 := ho.L
  refine Mo_two (g := fun l s => opnP R (σ.1 34 0) l s (1000 * R 1 l) (f + 1)) (G := fun rec6 l z5 => bd_ (ldI z5.1 29 0 l) (fun v8 => bd_ (Mo_laysShares z5.1 z5.2.2 (1000 * v8)) (fun q9 => lp_ (fun rec11 (z10 : Int32 × Int32) => bd_ (Mo_whole q9 z5.2.2) (fun q13 => (if q13 ≤ z10.2 then rec6 (q9, z10.1, (z5.2.2 + 1)) else bd_ (Mo_whose q9 z5.2.2 z10.2) (fun q14 => (if q14 = (-1) then bd_ (Mo_where q9 l z5.2.2 z10.2) (fun q16 => (if q16 = (nI f + 1) then bd_ (ldI q9 47 0 z10.2) (fun v18 => lt_ ((z10.1 + v18)) (fun x19 => rec11 (x19, (z10.2 + 1)))) else lt_ ((z10.1 + 0)) (fun x17 => rec11 (x17, (z10.2 + 1))))) else lt_ ((z10.1 + 0)) (fun x15 => rec11 (x15, (z10.2 + 1)))))))) FU (z5.2.1, 0)))) h ho (fun rec t l s a ft hl hs => ⟨shS t R s (1000 * R 1 l), ft.tr (shS_fr _ _), ?_⟩) (fun t a => some (a, t))
  have ht := h.f47 ft
  have h2 := ht.f47 (shS_fr (R := R) s (1000 * R 1 l))
  have h13 := hd_le ho hs
  have e34 : (shS t R s (1000 * R 1 l)).1 34 0 = σ.1 34 0 := (shS_34 _ _).trans (ft.2 34 0 rfl)
  have hv2 : HO R ((shS t R s (1000 * R 1 l)).1 34 0) := by rw [e34]; exact hv
  have hw : Mo_whole (shS t R s (1000 * R 1 l)) (nI s) = some (nI (hdP R s)) := Mo_whole_eq h2 ho hs
  simp (disch := omega) only [bd_some, bd_none, lt_eq, lk_eq, fa_lit, nI_add, nI_mul, nI_sub, nle_t, nle_f, nlt_t, nlt_f, neq_t, neq_f, neg_ne, neg_ne', if_true, if_false, ite_true, ite_false, Nat.zero_add, Nat.add_zero, ld0, ld1, ld2, ld3, ld4, ld5, ld6, ld7, ld8, ld9, ld10, ld11, ld12, ld13, ld14, ld15, ld16, ld17, ld18, ld19, ld20, ld21, ld22, ld23, ld24, ld25, ld26, ld27, ld28, ld29, ld30, ld31, ld32, ld33, ld34, ld35, ld36, ld37, ld38, ld39, ld40, ld41, ld42, ld43, ld44, ld45, ld46, ld47, ld48, ld100, ld101, ld102, ld103, ld104, ld105, gF, ht.rt hl, Mo_laysShares_eq ht ho hs (rt1000 ho hl)]
  refine (lp_runE (hdP R s) (by omega) (fun k => (sA a (fun k => if whP R (σ.1 34 0) s k = -nI 1 ∧ ftP R (σ.1 34 0) l s k = f + 1 then nI (shP R s (1000 * R 1 l) k) else nI 0) k, nI k)) rfl (fun rec2 k hk => ?_) (fun rec2 => ?_) : _ = rec (shS t R s (1000 * R 1 l), a + opnP R (σ.1 34 0) l s (1000 * R 1 l) (f + 1), nI (s + 1)))
  · simp (disch := omega) only [bd_some, bd_none, lt_eq, lk_eq, fa_lit, nI_add, nI_mul, nI_sub, nle_t, nle_f, nlt_t, nlt_f, neq_t, neq_f, neg_ne, neg_ne', if_true, if_false, ite_true, ite_false, Nat.zero_add, Nat.add_zero, ld0, ld1, ld2, ld3, ld4, ld5, ld6, ld7, ld8, ld9, ld10, ld11, ld12, ld13, ld14, ld15, ld16, ld17, ld18, ld19, ld20, ld21, ld22, ld23, ld24, ld25, ld26, ld27, ld28, ld29, ld30, ld31, ld32, ld33, ld34, ld35, ld36, ld37, ld38, ld39, ld40, ld41, ld42, ld43, ld44, ld45, ld46, ld47, ld48, ld100, ld101, ld102, ld103, ld104, ld105, gF, hw, Mo_whose_eq h2 ho hs hk, Mo_where_eq h2 ho hv2 hl hs hk, e34, n_ft, shS_at hk, sA_succ]
    by_cases e : whP R (σ.1 34 0) s k = -nI 1 <;> by_cases e2 : ftP R (σ.1 34 0) l s k = f + 1 <;> simp [e, e2]
  · simp (disch := omega) only [bd_some, bd_none, lt_eq, lk_eq, fa_lit, nI_add, nI_mul, nI_sub, nle_t, nle_f, nlt_t, nlt_f, neq_t, neq_f, neg_ne, neg_ne', if_true, if_false, ite_true, ite_false, Nat.zero_add, Nat.add_zero, ld0, ld1, ld2, ld3, ld4, ld5, ld6, ld7, ld8, ld9, ld10, ld11, ld12, ld13, ld14, ld15, ld16, ld17, ld18, ld19, ld20, ld21, ld22, ld23, ld24, ld25, ld26, ld27, ld28, ld29, ld30, ld31, ld32, ld33, ld34, ld35, ld36, ld37, ld38, ld39, ld40, ld41, ld42, ld43, ld44, ld45, ld46, ld47, ld48, ld100, ld101, ld102, ld103, ld104, ld105, gF, hw, sA_eq]
    rfl
/-! other worlds -/
end Rnd

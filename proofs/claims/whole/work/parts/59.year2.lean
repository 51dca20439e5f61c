/-! ===== a year: both ===== -/
section Year2
variable {σ τ : ST} {R : RT} {ν μ : NU} {r : Nat}
theorem Bk_passYear_eq (c : CR σ r R) (b : BR σ 0 R ν) (ho : RO R) : ∃ τ, Bk_passYear σ 0 r = some ((yrL (R 0 5) (upd ν 2688 (ν 2688 + nI 1)) (R 0 0)).2, τ) ∧ FrK (bk 0) σ τ ∧ BR τ 0 R (yrL (R 0 5) (upd ν 2688 (ν 2688 + nI 1)) (R 0 0)).1 := by
  have o1 := ho.L
  have o5 := ho.kp
  unfold Bk_passYear
  rw [lt_eq]
  have y0 : gF σ 209 0 + 1 = ν 2688 + nI 1 := by rw [show gF σ 209 0 = _ from b.yr]; rfl
  rw [y0]
  have b1 := b.yr1 (v := ν 2688 + nI 1) ho
  have f1 : FrK (bk 0) σ (setF σ 209 0 (ν 2688 + nI 1)) := FrK.setF σ _ rfl
  generalize upd ν 2688 (ν 2688 + nI 1) = ν1 at *
  obtain ⟨z, ⟨hz1, hz2, hz3⟩, rec, ez⟩ := lp_invG (β := Int32 × ST) (z0 := (setF σ 209 0 (ν 2688 + nI 1), (0 : Int32), (0 : Int32))) (step := fun rec3 (z2 : ST × Int32 × Int32) => (if (gF z2.1 529 r) ≤ z2.2.2 then some (z2.2.1, z2.1) else bd_ (Rp_slotOf z2.1 z2.2.2 0 0) (fun q5 => lp_ (fun rec7 (z6 : ST × Int32 × Int32) => bd_ (Rp_slotOf z6.1 (z2.2.2 + 1) 0 0) (fun q9 => (if q9 ≤ z6.2.2 then rec3 (z6.1, z6.2.1, (z2.2.2 + 1)) else bd_ (Bk_ageSlot z6.1 0 z6.2.2 (gF z6.1 533 r)) (fun q10 => bd_ (ldI q10.2 6 0 z6.2.2) (fun v11 => bd_ (stI q10.2 6 0 z6.2.2 (v11 + q10.1)) (fun s12 => bd_ (ldI s12 0 0 z2.2.2) (fun v13 => bd_ (stI s12 0 0 z2.2.2 (v13 + q10.1)) (fun s14 => lt_ ((z6.2.1 + q10.1)) (fun x15 => rec7 (s14, x15, (z6.2.2 + 1))))))))))) FU (z2.1, z2.2.1, q5)))) (R 0 0) (by omega) (fun l z => FrK (bk 0) σ z.1 ∧ BR z.1 0 R (yrL (R 0 5) ν1 l).1 ∧ z.2 = ((yrL (R 0 5) ν1 l).2, nI l)) ⟨f1, b1, rfl⟩ (by
    rintro rec l ⟨x, a⟩ hl ⟨fx, bx, ha⟩
    have ha : a = _ := ha
    subst ha
    have fx : FrK (bk 0) σ x := fx
    have bx : BR x 0 R (yrL (R 0 5) ν1 l).1 := bx
    have cx := c.bb fx
    have s0 : ∀ x : ST, Rp_slotOf x (nI l) 0 0 = some (nI (40 * l)) := fun x => by
      have := Rp_slotOf_eq (σ := x) l 0 0
      rw [show (l * 8 + 0) * 5 + 0 = 40 * l by omega] at this
      exact this
    have s1 : ∀ x : ST, Rp_slotOf x (nI l + 1) 0 0 = some (nI (40 * l + 40)) := fun x => by
      have := Rp_slotOf_eq (σ := x) (l + 1) 0 0
      rw [show ((l + 1) * 8 + 0) * 5 + 0 = 40 * l + 40 by omega] at this
      rw [show nI l + 1 = nI (l + 1) from nI_add l 1]
      exact this
    have s2 : ∀ x : ST, Rp_slotOf x (nI (l + 1)) (nI 0) (nI 0) = some (nI (40 * l + 40)) := fun x => by
      have := Rp_slotOf_eq (σ := x) (l + 1) 0 0
      rw [show ((l + 1) * 8 + 0) * 5 + 0 = 40 * l + 40 by omega] at this
      exact this
    have rn : yrL (R 0 5) ν1 (l + 1) = (yrV (R 0 5) l (yrL (R 0 5) ν1 l).1 40, (yrL (R 0 5) ν1 l).2 + sI (gnV (R 0 5) l (yrL (R 0 5) ν1 l).1) 40) := rfl
    rw [rn]
    generalize (yrL (R 0 5) ν1 l).1 = κ at *
    generalize (yrL (R 0 5) ν1 l).2 = A at *
    obtain ⟨z, ⟨hz1, hz2, hz3⟩, rec2, ez⟩ := lp_invG (β := Int32 × ST) (z0 := (x, A, nI (40 * l))) (step := fun rec7 (z6 : ST × Int32 × Int32) => bd_ (Rp_slotOf z6.1 (nI l + 1) 0 0) (fun q9 => (if q9 ≤ z6.2.2 then rec (z6.1, z6.2.1, (nI l + 1)) else bd_ (Bk_ageSlot z6.1 0 z6.2.2 (gF z6.1 533 r)) (fun q10 => bd_ (ldI q10.2 6 0 z6.2.2) (fun v11 => bd_ (stI q10.2 6 0 z6.2.2 (v11 + q10.1)) (fun s12 => bd_ (ldI s12 0 0 (nI l)) (fun v13 => bd_ (stI s12 0 0 (nI l) (v13 + q10.1)) (fun s14 => lt_ ((z6.2.1 + q10.1)) (fun x15 => rec7 (s14, x15, (z6.2.2 + 1))))))))))) 40 (by decide) (fun j z => FrK (bk 0) σ z.1 ∧ BR z.1 0 R (yrV (R 0 5) l κ j) ∧ z.2 = (A + sI (gnV (R 0 5) l κ) j, nI (40 * l + j))) ⟨fx, bx, Prod.ext (add_n0 A).symm rfl⟩ (by
      rintro rec2 j ⟨y, a⟩ hj ⟨fy, bY, ha⟩
      have ha : a = _ := ha
      subst ha
      have fy : FrK (bk 0) σ y := fy
      have bY : BR y 0 R (yrV (R 0 5) l κ j) := bY
      have cy := c.bb fy
      have yn : yrV (R 0 5) l κ (j + 1) = goV (yrV (R 0 5) l κ j) (R 0 5) l (j / 5) (j % 5) := rfl
      have gn : gnV (R 0 5) l κ j = yrV (R 0 5) l κ j (sl0 l (j / 5) (j % 5) + (R 0 5 - 1)) := rfl
      rw [yn, sI_succ, gn]
      generalize yrV (R 0 5) l κ j = θ at *
      obtain ⟨w, ew, fw, bw⟩ := Bk_slot_eq (l := l) (s := j / 5) (t := j % 5) bY ho (by omega) (by omega) (by omega)
      have ej : (l * 8 + j / 5) * 5 + j % 5 = 40 * l + j := by omega
      rw [ej] at ew
      have u2 : lp0 l (j / 5) (j % 5) = 2364 + (40 * l + j) := by unfold lp0; omega
      have b6 := bw.r6 (j := 40 * l + j) (v := go1 θ (R 0 5) l (j / 5) (j % 5) (lp0 l (j / 5) (j % 5)) + θ (sl0 l (j / 5) (j % 5) + (R 0 5 - 1))) ho (by omega)
      rw [← u2] at b6
      have v6 : w.1 6 0 (40 * l + j) = go1 θ (R 0 5) l (j / 5) (j % 5) (lp0 l (j / 5) (j % 5)) := by rw [u2]; exact bw.2.2.2.2.2.2.2.1 _ (by omega)
      have b0 := b6.r0 (j := l) (v := go2 θ (R 0 5) l (j / 5) (j % 5) (192 + l) + θ (sl0 l (j / 5) (j % 5) + (R 0 5 - 1))) ho (by omega)
      have v0 : w.1 0 0 l = go2 θ (R 0 5) l (j / 5) (j % 5) (192 + l) := by
        have := b6.bx (l := l) (by omega)
        rw [rd_ne (by decide)] at this
        exact this
      simp only [rd_ne (show (0 : Nat) ≠ 6 by decide)] at b0
      refine ⟨(setR (setR w 6 0 (upd (w.1 6 0) (40 * l + j) (go1 θ (R 0 5) l (j / 5) (j % 5) (lp0 l (j / 5) (j % 5)) + θ (sl0 l (j / 5) (j % 5) + (R 0 5 - 1))))) 0 0 (upd (w.1 0 0) l (go2 θ (R 0 5) l (j / 5) (j % 5) (192 + l) + θ (sl0 l (j / 5) (j % 5) + (R 0 5 - 1)))), A + sI (gnV (R 0 5) l κ) j + θ (sl0 l (j / 5) (j % 5) + (R 0 5 - 1)), nI (40 * l + (j + 1))), ⟨((fy.tr fw).tr (fr_bkR _ _ rfl)).tr (fr_bkR _ _ rfl), b0, ?_⟩, ?_⟩
      · rw [Int32.add_assoc]
      · simp (disch := omega) only [bd_some, s2, nle_f, if_false, gF, cy.kp, ew, ld6, v6, st6, ld0, rd_ne, v0, st0, lt_eq, fa_lit, nI_add]
        rfl)
    obtain ⟨y, a⟩ := z
    have hz3 : a = _ := hz3
    subst hz3
    refine ⟨(y, A + sI (gnV (R 0 5) l κ) 40, nI (l + 1)), ⟨hz1, hz2, rfl⟩, ?_⟩
    refine (if_neg (ngt cx.L hl (by omega))).trans ?_
    show bd_ (Rp_slotOf x (nI l) 0 0) _ = _
    rw [s0, bd_some]
    refine ez.trans ?_
    simp (disch := omega) only [bd_some, s2, nle_t, if_true, fa_lit, nI_add])
  obtain ⟨x, a⟩ := z
  have hz3 : a = _ := hz3
  subst hz3
  have fx : FrK (bk 0) σ x := hz1
  refine ⟨x, ez.trans ?_, fx, hz2⟩
  simp (disch := omega) only [gF, (c.bb fx).L, nle_t, if_true]
/-! the reference -/
theorem Mo_goesYear_eq {l s t : Nat} (h : MR σ R) (ho : RO R) (hl : l < 6) (hs : s < 8) (ht : t < 5) : Mo_goesYear σ (nI l) (nI s) (nI t) = some (σ.1 34 0 (sl0 l s t + (R 0 5 - 1)), setR σ 34 0 (goV (σ.1 34 0) (R 0 5) l s t)) := by
  have o5 := ho.kp
  have u : sl0 l s t = 204 + 9 * (5 * (8 * l + s) + t) := rfl
  have u2 : lp0 l s t = 2364 + 5 * (8 * l + s) + t := rfl
  have k0 : ∀ x : ST, Mo_keptAt x (nI l) (nI s) (nI t) = some (nI (sl0 l s t)) := fun x => Mo_keptAt_eq l s t
  have k1 : ∀ x : ST, Mo_lapsedAt x (nI l) (nI s) (nI t) = some (nI (lp0 l s t)) := fun x => Mo_lapsedAt_eq l s t
  have a1 : ldI σ 34 0 (nI (sl0 l s t) + gF σ 849 0 - 1) = some (σ.1 34 0 (sl0 l s t + (R 0 5 - 1))) := by
    rw [show gF σ 849 0 = _ from h.kp, nI_add, show (1 : Int32) = nI 1 from rfl, nI_sub (by omega), ld34 (by omega)]
    exact congrArg some (congrArg _ (by omega))
  have a2 : gF σ 849 0 - 1 = nI (R 0 5 - 1) := by rw [show gF σ 849 0 = _ from h.kp, show (1 : Int32) = nI 1 from rfl, nI_sub (by omega)]
  unfold Mo_goesYear
  rw [k0, bd_some, a1, bd_some, lt_eq, a2]
  generalize hν : σ.1 34 0 = ν
  refine lp_runE (R 0 5 - 1) (by omega) (fun i => (setR σ 34 0 (shN ν (sl0 l s t) (R 0 5) i), nI (R 0 5 - 1 - i))) (by show (setR σ 34 0 ν, nI (R 0 5 - 1)) = _; rw [← hν, setR_self]) (fun rec i hi => ?_) (fun rec => ?_)
  · have e3 : nI (sl0 l s t) + nI (R 0 5 - 1 - i) - 1 = nI (sl0 l s t + (R 0 5 - 1 - i) - 1) := by
      rw [nI_add, show (1 : Int32) = nI 1 from rfl, nI_sub (by omega)]
    show (if nI (R 0 5 - 1 - i) ≤ 0 then _ else bd_ (ldI (setR σ 34 0 (shN ν (sl0 l s t) (R 0 5) i)) 34 0 (nI (sl0 l s t) + nI (R 0 5 - 1 - i) - 1)) (fun v13 => bd_ (stI (setR σ 34 0 (shN ν (sl0 l s t) (R 0 5) i)) 34 0 (nI (sl0 l s t) + nI (R 0 5 - 1 - i)) v13) (fun s14 => rec (s14, (nI (R 0 5 - 1 - i) + (-nI 1)))))) = _
    rw [if_neg (show ¬ nI (R 0 5 - 1 - i) ≤ (0 : Int32) from of_eq_false (nle_f (a := R 0 5 - 1 - i) (b := 0) (by omega) (by omega))), e3, ld34 (by omega), bd_some, rd_eq, nI_add, st34 (by omega), bd_some, rd_eq, setR_setR, dn1 (by omega)]
    rfl
  · rw [Nat.sub_self]
    show (if nI 0 ≤ 0 then bd_ (stI (setR σ 34 0 (shN ν (sl0 l s t) (R 0 5) (R 0 5 - 1))) 34 0 (nI (sl0 l s t)) (nI 0)) _ else _) = _
    rw [if_pos (show nI 0 ≤ 0 by decide), st34 (by omega), bd_some, rd_eq, setR_setR]
    show bd_ (Mo_lapsedAt (setR σ 34 0 (go1 ν (R 0 5) l s t)) (nI l) (nI s) (nI t)) _ = _
    rw [k1, bd_some, ld34 (by omega), bd_some, rd_eq, st34 (by omega), bd_some, rd_eq, setR_setR]
    show bd_ (ldI (setR σ 34 0 (go2 ν (R 0 5) l s t)) 34 0 (nI 192 + nI l)) _ = _
    rw [nI_add, ld34 (by omega), bd_some, rd_eq]
    show bd_ (stI (setR σ 34 0 (go2 ν (R 0 5) l s t)) 34 0 (nI 192 + nI l) _) _ = _
    rw [nI_add, st34 (by omega), bd_some, rd_eq, setR_setR]
    rfl
theorem q_year (h : IV σ R) : QA (Rp_year σ) (fun τ => Mo_year τ) := by
  obtain ⟨h1, hc, en⟩ := thr h (nI 0)
  have o1 := h.ro.L
  have o2 := h.ro.P
  have o3 := h.ro.S
  obtain ⟨y, hy, ey⟩ := h.yr
  have e209 : σ.1 209 0 0 = nI y := h.br.yr.trans ey
  unfold Rp_year Mo_year
  by_cases yl : y = 9999
  · refine QAf (v := -nI 2) h ?_ ?_
    · simp (disch := omega) only [bd_some, lt_eq, fa_lit, neq_t, neq_f, if_true, if_false, ite_true, ite_false, gF, e209, nlt_f]
    · simp (disch := omega) only [bd_some, lt_eq, fa_lit, neq_t, neq_f, if_true, if_false, ite_true, ite_false, ld34, en, ey]
  obtain ⟨σ1, e1, j1, b1⟩ := act h
  obtain ⟨σ2, e2, f2, b2⟩ := Bk_passYear_eq j1.cr b1 h.ro
  have j2 := j1.cb (bk_cbd f2)
  have hvn := h.vo
  generalize hν : σ.1 34 0 = ν at *
  have v1 : VO R (upd ν 2688 (ν 2688 + nI 1)) := by
    obtain ⟨a1, a2, a3, a4, a5⟩ := hvn
    have e5 : ∀ k, k < 2688 → upd ν 2688 (ν 2688 + nI 1) k = ν k := fun k hk => upd_ne (by omega)
    refine ⟨⟨fun p hp => by rw [e5 _ (by omega)]; exact a1.1 p hp, fun s t hs ht => by have := h.ro.s hs; rw [e5 _ (by omega)]; exact a1.2 s t hs ht⟩, ?_, ?_, ⟨y + 1, by omega, by rw [upd_eq, ey, nI_add]⟩, fun l hl => by rw [e5 _ (by omega)]; exact a5 l hl⟩
    · exact ⟨fun p l hp hl c => by rw [e5 _ (by omega), e5 _ (by omega)]; exact a2.1 p l hp hl c, fun l hl c => by rw [e5 _ (by omega), e5 _ (by omega)]; exact a2.2.1 l hl c, fun l s t a hl hs ht ha c => by rw [e5 _ (by omega)]; exact a2.2.2.1 l s t a hl hs ht ha c, fun l s t hl hs ht c => by rw [e5 _ (by omega)]; exact a2.2.2.2 l s t hl hs ht c⟩
    · exact ((MP.of (R := R) a3 0).hi (j := 2688) (v := ν 2688 + nI 1) (by omega)).mo rfl (Int.le_refl 0)
  have vL := fun l (hl : l ≤ R 0 0) => yrL_vo h.ro v1 hl
  obtain ⟨τ, e3, k3⟩ := keeps_of j2.t b2.t
  have i2 : MR (setF σ2 840 0 (nI 0)) R := j2.t.2.1
  have n2 : (setF σ2 840 0 (nI 0)).1 34 0 = ν := j2.t.2.2.2.2.2.1
  generalize hν1 : upd ν 2688 (ν 2688 + nI 1) = ν1 at *
  refine ⟨(yrL (R 0 5) ν1 (R 0 0)).2, σ2, setR τ 34 0 (yrL (R 0 5) ν1 (R 0 0)).1, R, ?_, ?_, k3.fin (fr_rbR τ _) rd_eq (vL _ (Nat.le_refl _))⟩
  · simp (disch := omega) only [bd_some, lt_eq, fa_lit, neq_t, neq_f, if_true, if_false, ite_true, ite_false, gF, e209, nlt_t, e1, j1.q0, e2]
  · have a1 : ldI (setF σ2 840 0 (nI 0)) 34 0 2688 = some (nI y) := by simp (disch := omega) only [fa_lit, ld34, n2, ey]
    have a2 : ldI τ 34 0 2688 = some (ν 2688) := by simp (disch := omega) only [fa_lit, ld34, k3.n]
    have a3 : stI τ 34 0 2688 (ν 2688 + nI 1) = some (setR τ 34 0 ν1) := by simp (disch := omega) only [fa_lit, st34, k3.n, hν1]
    show lt_ (setF σ2 840 0 (nI 0)) _ = _
    rw [lt_eq, a1, bd_some, if_neg (show ¬ nI y = (9999 : Int32) from fun q => yl ((nI_eq (by omega) (by decide)).mp q)), e3, bd_some, a2, bd_some]
    show bd_ (stI τ 34 0 2688 (ν 2688 + nI 1)) _ = _
    rw [a3, bd_some]
    refine lp_runE (R 0 0) (by omega) (fun l => (setR τ 34 0 (yrL (R 0 5) ν1 l).1, (yrL (R 0 5) ν1 l).2, nI l)) rfl (fun rec l hl => ?_) (fun rec => ?_)
    · have vl := vL l (by omega)
      have rn : yrL (R 0 5) ν1 (l + 1) = (yrV (R 0 5) l (yrL (R 0 5) ν1 l).1 40, (yrL (R 0 5) ν1 l).2 + sI (gnV (R 0 5) l (yrL (R 0 5) ν1 l).1) 40) := rfl
      rw [rn]
      generalize (yrL (R 0 5) ν1 l).1 = κ at *
      generalize (yrL (R 0 5) ν1 l).2 = A at *
      have ms : ∀ f, MR (setR τ 34 0 f) R := fun f => k3.mr.s34 f
      refine (if_neg (ngt (ms κ).L hl (by omega))).trans ?_
      refine lp_runE (R 0 2) (by omega) (fun s => (setR τ 34 0 (yrV (R 0 5) l κ (5 * s)), A + sI (gnV (R 0 5) l κ) (5 * s), nI s)) (Prod.ext rfl (Prod.ext (add_n0 A) rfl)) (fun rec2 s hs => ?_) (fun rec2 => ?_)
      · have o8 := h.ro.s hs
        refine (if_neg (ngt (ms _).S hs (by omega))).trans ?_
        refine lp_runE (R 3 s) (by omega) (fun t => (setR τ 34 0 (yrV (R 0 5) l κ (5 * s + t)), A + sI (gnV (R 0 5) l κ) (5 * s + t), nI t)) rfl (fun rec3 t ht => ?_) (fun rec3 => ?_)
        · have e6 := Mo_goesYear_eq (σ := setR τ 34 0 (yrV (R 0 5) l κ (5 * s + t))) (l := l) (s := s) (t := t) (ms _) h.ro (by omega) (by omega) (by omega)
          rw [rd_eq, setR_setR] at e6
          have yn : yrV (R 0 5) l κ (5 * s + (t + 1)) = goV (yrV (R 0 5) l κ (5 * s + t)) (R 0 5) l s t := by
            show goV (yrV (R 0 5) l κ (5 * s + t)) (R 0 5) l ((5 * s + t) / 5) ((5 * s + t) % 5) = _
            rw [show (5 * s + t) / 5 = s by omega, show (5 * s + t) % 5 = t by omega]
          have gn : sI (gnV (R 0 5) l κ) (5 * s + (t + 1)) = sI (gnV (R 0 5) l κ) (5 * s + t) + yrV (R 0 5) l κ (5 * s + t) (sl0 l s t + (R 0 5 - 1)) := by
            rw [← Nat.add_assoc, sI_succ]
            unfold gnV
            rw [show (5 * s + t) / 5 = s by omega, show (5 * s + t) % 5 = t by omega]
          rw [yn, gn]
          simp (disch := omega) only [bd_some, bd_none, lt_eq, lk_eq, fa_lit, nI_add, nI_mul, nI_sub, nle_t, nle_f, nlt_t, nlt_f, neq_t, neq_f, neg_ne, neg_ne', if_true, if_false, ite_true, ite_false, Nat.zero_add, Nat.add_zero, ld0, ld1, ld2, ld3, ld4, ld5, ld6, ld7, ld8, ld9, ld10, ld11, ld12, ld13, ld14, ld15, ld16, ld17, ld18, ld19, ld20, ld21, ld22, ld23, ld24, ld25, ld26, ld27, ld28, ld29, ld30, ld31, ld32, ld33, ld34, ld35, ld36, ld37, ld38, ld39, ld40, ld41, ld42, ld43, ld44, ld45, ld46, ld47, ld48, ld100, ld101, ld102, ld103, ld104, ld105, gF, (ms _).st hs, e6]
          rw [Int32.add_assoc]
        · have sk := yr_skips h.ro vl hl (j := 5 * s + R 3 s) (d := 5 - R 3 s) (by omega) (fun i i1 i2 => Or.inr (by
            have : i / 5 = s := by omega
            rw [this]
            omega))
          rw [show 5 * s + R 3 s + (5 - R 3 s) = 5 * (s + 1) by omega] at sk
          rw [sk.1, sk.2]
          simp (disch := omega) only [bd_some, bd_none, lt_eq, lk_eq, fa_lit, nI_add, nI_mul, nI_sub, nle_t, nle_f, nlt_t, nlt_f, neq_t, neq_f, neg_ne, neg_ne', if_true, if_false, ite_true, ite_false, Nat.zero_add, Nat.add_zero, ld0, ld1, ld2, ld3, ld4, ld5, ld6, ld7, ld8, ld9, ld10, ld11, ld12, ld13, ld14, ld15, ld16, ld17, ld18, ld19, ld20, ld21, ld22, ld23, ld24, ld25, ld26, ld27, ld28, ld29, ld30, ld31, ld32, ld33, ld34, ld35, ld36, ld37, ld38, ld39, ld40, ld41, ld42, ld43, ld44, ld45, ld46, ld47, ld48, ld100, ld101, ld102, ld103, ld104, ld105, gF, (ms _).st hs]
      · have sk := yr_skips h.ro vl hl (j := 5 * R 0 2) (d := 40 - 5 * R 0 2) (by omega) (fun i i1 i2 => Or.inl (by omega))
        rw [show 5 * R 0 2 + (40 - 5 * R 0 2) = 40 by omega] at sk
        rw [sk.1, sk.2]
        simp (disch := omega) only [bd_some, bd_none, lt_eq, lk_eq, fa_lit, nI_add, nI_mul, nI_sub, nle_t, nle_f, nlt_t, nlt_f, neq_t, neq_f, neg_ne, neg_ne', if_true, if_false, ite_true, ite_false, Nat.zero_add, Nat.add_zero, ld0, ld1, ld2, ld3, ld4, ld5, ld6, ld7, ld8, ld9, ld10, ld11, ld12, ld13, ld14, ld15, ld16, ld17, ld18, ld19, ld20, ld21, ld22, ld23, ld24, ld25, ld26, ld27, ld28, ld29, ld30, ld31, ld32, ld33, ld34, ld35, ld36, ld37, ld38, ld39, ld40, ld41, ld42, ld43, ld44, ld45, ld46, ld47, ld48, ld100, ld101, ld102, ld103, ld104, ld105, gF, (ms _).S]
    · have ms : ∀ f, MR (setR τ 34 0 f) R := fun f => k3.mr.s34 f
      simp (disch := omega) only [bd_some, bd_none, lt_eq, lk_eq, fa_lit, nI_add, nI_mul, nI_sub, nle_t, nle_f, nlt_t, nlt_f, neq_t, neq_f, neg_ne, neg_ne', if_true, if_false, ite_true, ite_false, Nat.zero_add, Nat.add_zero, ld0, ld1, ld2, ld3, ld4, ld5, ld6, ld7, ld8, ld9, ld10, ld11, ld12, ld13, ld14, ld15, ld16, ld17, ld18, ld19, ld20, ld21, ld22, ld23, ld24, ld25, ld26, ld27, ld28, ld29, ld30, ld31, ld32, ld33, ld34, ld35, ld36, ld37, ld38, ld39, ld40, ld41, ld42, ld43, ld44, ld45, ld46, ld47, ld48, ld100, ld101, ld102, ld103, ld104, ld105, gF, (ms _).L]
end Year2

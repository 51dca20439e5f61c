/-! ===== players, lead, keep ===== -/
section Line2
variable {a c a' c' : ST} {b : Nat → Nat} {n t r L P S : Nat}
theorem ads (hn : n ≤ 900) (hb2 : ∀ j, b j < 256) (hC : CN c b n) (hX : XM a c b n) (hk : ∀ t, okM a c b n t → kT b n (plT b n t) ≠ 17) : ∃ a' c', Rd_advance a = some a' ∧ Mo_goOn c = some c' ∧ Pr a c a' c' ∧ XM a' c' b n ∧ ∀ t', okM a' c' b n t' → ∃ t0, t' = t0 + 1 ∧ okM a c b n t0 := by
  have tn := (nT_ok b n).1
  rcases hX with ⟨t, h⟩ | h
  · obtain ⟨a', c', e1, e2, pr, ok⟩ := ad_ok hn hb2 hC h (hk t h)
    refine ⟨a', c', e1, e2, pr, Or.inl ⟨_, ok⟩, fun t' ht' => ⟨t, ?_, h⟩⟩
    have := ht'.2.2.2.1
    rw [ok.2.2.2.1] at this
    have := (nI_eq (by have := h.2.2.1; omega) (by have := ht'.2.2.1; omega)).mp this
    omega
  · exact ⟨a, c, (ad_fl h).1, (ad_fl h).2, Pr.rf a c, Or.inr h, fun t ht => absurd h ht.nf⟩
theorem old_fl (h : flM a c) {K L e : Nat} (hL : lenL K = L) (hL2 : L < 1000) (he : e ≤ L) : ∃ v, Rd_oldName a K 0 (nI e) = some (v, a) := by
  obtain ⟨e3, _⟩ := bl_fl h 1
  obtain ⟨f, u, h1, h2, h3, h4, h5, h6, h7⟩ := h
  obtain ⟨w, ew⟩ := find_tot (K := K) hL hL2 he (t := u) (by omega) h7
  unfold Rd_oldName
  rcases isAt_tot (x := 14) h7 h3 with e | e
  · refine ⟨-1, ?_⟩
    rw [e, bd_some]
    simp only [lk_eq, i00, if_true, e3, bd_some]
    rw [if_neg (by decide)]
  · rw [e, bd_some]
    simp only [lk_eq, i10, if_false, ew, bd_some, e3, ite_self]
    exact ⟨_, rfl⟩
theorem oldP (hn : n ≤ 900) (hA : TA a b n) (hX : XM a c b n) (hL : L ≤ 6) (y1 : c.1 867 0 0 = nI L) (hr : RWL (a.2.1 101 0) (c.1 36 0) L) (K : ST → Int32 → Option ST) : ∃ v w a' c', Rd_oldName a 101 0 (nI L) = some (v, a') ∧ (lk_ (fun kk4 => (if (gF c 863 0) = 0 then bd_ (Mo_isOther c) (fun q14 => lk_ (fun kk16 => (if q14 = 0 then kk16 () else bd_ (Mo_named c 36 0 (gF c 867 0)) (fun q19 => (if q19 = (-1) then kk16 () else kk4 c)))) (fun (j15 : Unit) => bd_ (Mo_wrong c 1) (fun q18 => kk4 q18))) else kk4 c)) (fun (j3 : ST) => lk_ (fun kk7 => (if (gF j3 863 0) = 0 then bd_ (Mo_named j3 36 0 (gF j3 867 0)) (fun q13 => kk7 q13) else kk7 0)) (fun (j6 : Int32) => K j3 j6))) = K c' w ∧ Pr a c a' c' ∧ XM a' c' b n ∧ ∀ t, okM a' c' b n t → okM a c b n t ∧ kT b n (plT b n t) ≠ 17 ∧ ∃ u, u < L ∧ v = nI u ∧ w = nI u := by
  have tn := (nT_ok b n).1
  have g67 : gF c 867 0 = nI L := y1
  rcases hX with ⟨t, h⟩ | h
  rotate_left
  · have hf := h
    obtain ⟨v, ev⟩ := old_fl h (K := 101) (L := 6) rfl (by decide) hL
    obtain ⟨f, u, h1, h2, h3, h4, h5, h6, h7⟩ := h
    have g63 : gF c 863 0 = nI f := h5
    refine ⟨v, 0, a, c, ev, ?_, Pr.rf a c, Or.inr hf, fun t ht => absurd hf ht.nf⟩
    simp only [lk_eq, g63, nf0 h1 (by omega), if_false]
  · have ia := isAt_eq hn hA h (x := 14) (by decide)
    have io := isOther_eq h
    obtain ⟨a2, c2, f1, f2, pr2, fl⟩ := bl_ok hn hA h (f := 1) (by decide) (by decide)
    have f1' : Rd_blame a 1 = some a2 := f1
    have f2' : Mo_wrong c 1 = some c2 := f2
    have ia' : Rd_isAt a 14 = _ := ia
    have g63 : gF c 863 0 = nI 0 := h.2.1
    have fl2 := fl
    obtain ⟨f, u', l1, l2, l3, l4, l5, l6, l7⟩ := fl2
    have g632 : gF c2 863 0 = nI f := l5
    by_cases c14 : kT b n (plT b n t) = 14
    rotate_left
    · rw [decide_eq_false c14, b01_f] at ia' io
      refine ⟨-1, 0, a2, c2, ?_, ?_, pr2, Or.inr fl, fun t ht => absurd fl ht.nf⟩
      · unfold Rd_oldName
        rw [ia', bd_some]
        simp only [lk_eq, i00, if_true, f1', bd_some]
        rw [if_neg (by decide)]
      · simp only [lk_eq, g63, i00, if_true, io, bd_some, f2', g632, nf0 l1 (by omega), if_false]
    · rw [decide_eq_true c14, b01_t] at ia' io
      have vl := vT_14 c14
      obtain ⟨p1, p2, p3⟩ := kT_14 c14
      obtain ⟨b1, b2, b3⟩ := hA t h.2.2.1
      have hv := b3 p1 (Or.inl p2)
      have h62 : c.1 862 0 0 = nI (vT b n (plT b n t)) := (h.2.2.2.2.2.2.2.1 c14).2.2
      have t1 := h.2.2.1
      have n1 := find_eq (a := a) (c := c) (K := 101) (k1 := 36) (L := 6) (e := L) (t := t) rfl (by decide) rfl hL hr vl (by omega) h.2.2.2.1 hv h62
      rcases fnd_or (g := c.1 36 0) (u := vT b n (plT b n t)) (e := L) with o | ⟨k, hk, o⟩
      · rw [o] at n1
        refine ⟨-nI 1, 0, a2, c2, ?_, ?_, pr2, Or.inr fl, fun t ht => absurd fl ht.nf⟩
        · unfold Rd_oldName
          rw [ia', bd_some]
          simp only [lk_eq, i10, if_false, n1.1, bd_some, f1']
          rw [if_neg (by decide)]
        · simp only [lk_eq, g63, i00, i10, if_true, io, bd_some, g67, n1.2, im1, f2', g632, nf0 l1 (by omega), if_false]
      · rw [o] at n1
        refine ⟨nI k, nI k, a, c, ?_, ?_, Pr.rf a c, Or.inl ⟨_, h⟩, fun t' ht' => ⟨ht', ?_, k, hk, rfl, rfl⟩⟩
        · unfold Rd_oldName
          rw [ia', bd_some]
          simp only [lk_eq, i10, if_false, n1.1, bd_some]
          rw [if_pos (ge0n k (by omega))]
        · simp only [lk_eq, g63, i00, i10, if_true, io, bd_some, g67, n1.2, nm1 (k := k) (by omega), if_false]
        · have w1 := ht'.2.2.2.1
          rw [h.2.2.2.1] at w1
          have := (nI_eq (by omega) (by have := ht'.2.2.1; omega)).mp w1
          rw [← this, c14]
          decide
theorem players (hn : n ≤ 900) (hb2 : ∀ j, b j < 256) (hA : TA a b n) (hC : CN c b n) (h : okM a c b n t) (hk : kT b n (plT b n t) ≠ 17) (d : D a c r L P S) : LnR r t a c b n (Rd_readPlayer a r) (Mo_readPlayer c) := by
  obtain ⟨d1, d2, d3, d4, d5, d6, d7, d8, d9, d10, d11, d12, d13, d14, d15, d16, d17, d18, d19, d20, d21, d22⟩ := id d
  have x1 : gF a 530 r = nI P := d7
  have x2 : gF c 868 0 = nI P := d8
  rcases Nat.lt_or_ge P 16 with cL | cL
  rotate_left
  · have eL : P = 16 := by omega
    obtain ⟨a1, c1, e1, e2, pr, fl⟩ := bl_ok hn hA h (f := 2) (by decide) (by decide)
    refine ln_fl (a1 := a1) (c1 := c1) ?_ ?_ (cc_cb pr.1) (mc_mb pr.2.2) (hA.pr pr.1 pr.2.1) (hC.pr pr.2.2) fl
    · unfold Rd_readPlayer
      rw [lt_eq, x1, eL, if_neg (by decide)]
      show bd_ (Rd_blame a (nI 2)) _ = _
      rw [e1, bd_some]
    · unfold Mo_readPlayer
      rw [lt_eq, x2, eL, if_pos (by decide)]
      show bd_ (Mo_wrong c (nI 2)) _ = _
      rw [e2, bd_some]
  obtain ⟨v0, a1, a2, c2, e1, e2, e3, f2, l2, g2, X2, I2⟩ := newN (r := r) hn hb2 hA hC h hk d (k1 := 37) (e := P) (by decide) cL (by decide)
  have hA3 : TA (setL a2 102 0 (vp_updL (a2.2.1 102 0) P v0)) b n := (hA.pr f2 l2).w rfl rfl (rL_ne (by decide))
  have hC2 : CN c2 b n := hC.w (g2.2 857 0 rfl) (g2.2 28 0 rfl)
  have y67 : c2.1 867 0 0 = nI L := by rw [g2.2 867 0 rfl]; exact d6
  have y29 : gF (setL a2 102 0 (vp_updL (a2.2.1 102 0) P v0)) 529 r = nI L := by show a2.1 529 r 0 = _; rw [f2.2 529 r rfl]; exact d5
  have hr : RWL ((setL a2 102 0 (vp_updL (a2.2.1 102 0) P v0)).2.1 101 0) (c2.1 36 0) L := by rw [rL_ne (by decide), l2, g2.2 36 0 rfl]; exact d15
  obtain ⟨v1, w1, a4, c4, e4, e5, pr4, X4, I4⟩ := oldP hn hA3 X2 d1 y67 hr (fun j3 j6 => bd_ (stI j3 42 0 (nI P) j6) (fun s9 => bd_ (Mo_goOn s9) (fun q10 => bd_ (Mo_isEnd q10) (fun q11 => lt_ (setF q11.2 868 0 ((gF q11.2 868 0) + 1)) (fun s12 => some s12)))))
  have hA5 : TA (setR a4 16 r (upd (a4.1 16 r) P v1)) b n := (hA3.pr pr4.1 pr4.2.1).w (rd_ne (by decide)) (rd_ne (by decide)) rfl
  have hC5 : CN (setR c4 42 0 (upd (c4.1 42 0) P w1)) b n := (hC2.pr pr4.2.2).w (rd_ne (by decide)) (rd_ne (by decide))
  have k5 : ∀ k, 858 ≤ k → k ≤ 864 → (setR c4 42 0 (upd (c4.1 42 0) P w1)).1 k 0 = c4.1 k 0 := fun k h1 h2 => rd_ne (by omega)
  have X5 : XM (setR a4 16 r (upd (a4.1 16 r) P v1)) (setR c4 42 0 (upd (c4.1 42 0) P w1)) b n := XM_w (rd_ne (by decide)) (rd_ne (by decide)) (rd_ne (by decide)) k5 X4
  obtain ⟨a6, c6, e6, e7, pr6, X6, I6⟩ := ads hn hb2 hC5 X5 (fun t' ht' => (I4 t' ((okM_w (rd_ne (by decide)) (rd_ne (by decide)) k5).mp ht')).2.1)
  have hA10 : TA (setF a6 530 r (nI (P + 1))) b n := (hA5.pr pr6.1 pr6.2.1).w (rf_ne (by decide)) (rf_ne (by decide)) rfl
  have X9 : XM (setF a6 530 r (nI (P + 1))) c6 b n := XM_w (rf_ne (by decide)) (rf_ne (by decide)) (rf_ne (by decide)) (fun k _ _ => rfl) X6
  obtain ⟨w4, c10, e10, g10, K10⟩ := endL hn hb2 hA10 X9
  have hC10 : CN c10 b n := (hC5.pr pr6.2.2).pr g10
  have hC11 : CN (setF c10 868 0 (nI (P + 1))) b n := hC10.w (rf_ne (by decide)) (rf_ne (by decide))
  obtain ⟨v4, a12, c13, e12, e13, f12, l12, g12, X12, I12⟩ := K10 (setF c10 868 0 (nI (P + 1))) (fun k h1 h2 => rf_ne (by omega)) hC11
  have z1 : a6.1 530 r 0 = nI P := by rw [pr6.1.2 530 r rfl, rd_ne (by decide), pr4.1.2 530 r rfl, rl_eq, f2.2 530 r rfl]; exact d7
  have z2 : c10.1 868 0 0 = nI P := by rw [g10.2 868 0 rfl, pr6.2.2.2 868 0 rfl, rd_ne (by decide), pr4.2.2.2 868 0 rfl, g2.2 868 0 rfl]; exact d8
  refine ⟨_, _, v4, a12, c13, ?_, ?_, e12, e13, ?_, ?_, hA10.pr f12 l12, hC11.pr g12, X12, fun t' ht' => ?_⟩
  · unfold Rd_readPlayer
    have y1 : gF a6 530 r + 1 = nI (P + 1) := by
      show a6.1 530 r 0 + 1 = _
      rw [z1]
      exact nI_add _ _
    rw [lt_eq, x1, if_pos (show nI P < (16 : Int32) from of_eq_true (nlt_t (b := 16) cL (by decide))), e1, bd_some, e2, bd_some]
    show bd_ (stL a2 102 0 (nI P) v0) _ = _
    rw [st102 cL, bd_some, y29, e4, bd_some]
    show bd_ (stI a4 16 r (nI P) v1) _ = _
    rw [st16 cL, bd_some, e6, bd_some, lt_eq, y1]
  · unfold Mo_readPlayer
    have y1 : gF c10 868 0 + 1 = nI (P + 1) := by
      show c10.1 868 0 0 + 1 = _
      rw [z2]
      exact nI_add _ _
    rw [lt_eq, x2, if_neg (show ¬ nI P = (16 : Int32) from of_eq_false (neq_f (b := 16) (by omega) (by omega) (by decide))), e3, bd_some]
    refine e5.trans ?_
    show bd_ (stI c4 42 0 (nI P) w1) _ = _
    rw [st42 cL, bd_some, e7, bd_some, e10, bd_some, lt_eq]
    show some (setF c10 868 0 (gF c10 868 0 + 1)) = _
    rw [y1]
  · exact ((((((cc_cb f2).tr (FrK.setL a2 _ _ _)).tr (cc_cb pr4.1)).tr (FrK.setR a4 _ (cbk rfl))).tr (cc_cb pr6.1)).tr (FrK.setF a6 _ (cbk rfl))).tr (cc_cb f12)
  · have g2' : FrK mb c c2 := g2.mono (fun k i hk => by
      unfold mb at hk
      unfold mk1 mc
      simp only [Bool.or_eq_false_iff, decide_eq_false_iff_not] at hk ⊢
      omega)
    exact (((((g2'.tr (mc_mb pr4.2.2)).tr (FrK.setR c4 _ rfl)).tr (mc_mb pr6.2.2)).tr (mc_mb g10)).tr (FrK.setF c10 _ rfl)).tr (mc_mb g12)
  · obtain ⟨t9, q1, ok9⟩ := I12 t' ht'
    obtain ⟨t5, q3, ok5⟩ := I6 t9 ((okM_w (rf_ne (by decide)) (rf_ne (by decide)) (fun k _ _ => rfl)).mp ok9)
    obtain ⟨ok3, q6, u1, b4, rfl, rfl⟩ := I4 t5 ((okM_w (rd_ne (by decide)) (rd_ne (by decide)) k5).mp ok5)
    obtain ⟨q7, u0, b5, rfl, q8⟩ := I2 t5 ok3
    refine ⟨by omega, ⟨L, P + 1, S, ?_⟩, ?_, ?_⟩
    · have hlong : a12.2.1 = (setL a2 102 0 (vp_updL (a2.2.1 102 0) P (lN u0))).2.1 := l12.trans (pr6.2.1.trans pr4.2.1)
      unfold D
      have c5 := pr6.1
      have c7 := pr4.1
      have m5 := pr6.2.2
      have m7 := pr4.2.2
      simp (disch := decide) only [hlong, rL_eq, rL_ne, f12.2 13 r rfl, f12.2 14 r rfl, f12.2 15 r rfl, f12.2 16 r rfl, f12.2 17 r rfl, f12.2 18 r rfl, f12.2 19 r rfl, f12.2 20 r rfl, f12.2 529 r rfl, f12.2 530 r rfl, f12.2 531 r rfl, f12.2 532 r rfl, f12.2 533 r rfl, f12.2 461 0 rfl, f12.2 462 0 rfl, c5.2 13 r rfl, c5.2 14 r rfl, c5.2 15 r rfl, c5.2 16 r rfl, c5.2 17 r rfl, c5.2 18 r rfl, c5.2 19 r rfl, c5.2 20 r rfl, c5.2 529 r rfl, c5.2 530 r rfl, c5.2 531 r rfl, c5.2 532 r rfl, c5.2 533 r rfl, c5.2 461 0 rfl, c5.2 462 0 rfl, c7.2 13 r rfl, c7.2 14 r rfl, c7.2 15 r rfl, c7.2 16 r rfl, c7.2 17 r rfl, c7.2 18 r rfl, c7.2 19 r rfl, c7.2 20 r rfl, c7.2 529 r rfl, c7.2 530 r rfl, c7.2 531 r rfl, c7.2 532 r rfl, c7.2 533 r rfl, c7.2 461 0 rfl, c7.2 462 0 rfl, f2.2 13 r rfl, f2.2 14 r rfl, f2.2 15 r rfl, f2.2 16 r rfl, f2.2 17 r rfl, f2.2 18 r rfl, f2.2 19 r rfl, f2.2 20 r rfl, f2.2 529 r rfl, f2.2 530 r rfl, f2.2 531 r rfl, f2.2 532 r rfl, f2.2 533 r rfl, f2.2 461 0 rfl, f2.2 462 0 rfl, g12.2 36 0 rfl, g12.2 37 0 rfl, g12.2 38 0 rfl, g12.2 39 0 rfl, g12.2 40 0 rfl, g12.2 41 0 rfl, g12.2 42 0 rfl, g12.2 43 0 rfl, g12.2 44 0 rfl, g12.2 45 0 rfl, g12.2 46 0 rfl, g12.2 867 0 rfl, g12.2 868 0 rfl, g12.2 869 0 rfl, g12.2 871 0 rfl, g12.2 872 0 rfl, g12.2 873 0 rfl, g12.2 874 0 rfl, g10.2 36 0 rfl, g10.2 37 0 rfl, g10.2 38 0 rfl, g10.2 39 0 rfl, g10.2 40 0 rfl, g10.2 41 0 rfl, g10.2 42 0 rfl, g10.2 43 0 rfl, g10.2 44 0 rfl, g10.2 45 0 rfl, g10.2 46 0 rfl, g10.2 867 0 rfl, g10.2 868 0 rfl, g10.2 869 0 rfl, g10.2 871 0 rfl, g10.2 872 0 rfl, g10.2 873 0 rfl, g10.2 874 0 rfl, m5.2 36 0 rfl, m5.2 37 0 rfl, m5.2 38 0 rfl, m5.2 39 0 rfl, m5.2 40 0 rfl, m5.2 41 0 rfl, m5.2 42 0 rfl, m5.2 43 0 rfl, m5.2 44 0 rfl, m5.2 45 0 rfl, m5.2 46 0 rfl, m5.2 867 0 rfl, m5.2 868 0 rfl, m5.2 869 0 rfl, m5.2 871 0 rfl, m5.2 872 0 rfl, m5.2 873 0 rfl, m5.2 874 0 rfl, m7.2 36 0 rfl, m7.2 37 0 rfl, m7.2 38 0 rfl, m7.2 39 0 rfl, m7.2 40 0 rfl, m7.2 41 0 rfl, m7.2 42 0 rfl, m7.2 43 0 rfl, m7.2 44 0 rfl, m7.2 45 0 rfl, m7.2 46 0 rfl, m7.2 867 0 rfl, m7.2 868 0 rfl, m7.2 869 0 rfl, m7.2 871 0 rfl, m7.2 872 0 rfl, m7.2 873 0 rfl, m7.2 874 0 rfl, g2.2 36 0 rfl, g2.2 38 0 rfl, g2.2 39 0 rfl, g2.2 40 0 rfl, g2.2 41 0 rfl, g2.2 42 0 rfl, g2.2 43 0 rfl, g2.2 44 0 rfl, g2.2 45 0 rfl, g2.2 46 0 rfl, g2.2 867 0 rfl, g2.2 868 0 rfl, g2.2 869 0 rfl, g2.2 871 0 rfl, g2.2 872 0 rfl, g2.2 873 0 rfl, g2.2 874 0 rfl, q8, rf_eq, rf_ne, rd_eq, rd_ne, rl_eq, l2]
      refine ⟨d1, by omega, d3, fun _ => by omega, d5, d6, trivial, trivial, d9, d10, d11, d12, d13, d14, d15, d16.push b5, d17, d18, d19, d20, d21.push b4, fun s hs => ?_⟩
      obtain ⟨m, h', m1, m2, m3, m4, m6, m8, m9, m10, m11⟩ := d22 s hs
      refine ⟨m, h', m1, m2, m3, m4, m6, m8, m9, fun j hj => ?_, m11⟩
      obtain ⟨v, w, h1, h2⟩ := m10 j hj
      exact ⟨v, w, Nat.lt_succ_of_lt h1, h2⟩
    · rw [f12.2 528 r rfl, rf_ne (by decide), pr6.1.2 528 r rfl, rd_ne (by decide), pr4.1.2 528 r rfl, rl_eq, f2.2 528 r rfl]
    · rw [g12.2 870 0 rfl, rf_ne (by decide), g10.2 870 0 rfl, pr6.2.2.2 870 0 rfl, rd_ne (by decide), pr4.2.2.2 870 0 rfl, g2.2 870 0 rfl]
theorem rfx {σ : ST} {k i : Nat} {v : Int32} : (setF σ k i v).1 k i = fun _ => v := rd_eq (f := fun _ => v)
theorem num_fl (h : flM a c) (x y : Int32) : Mo_number c x y = some (nI 0, c) := by
  obtain ⟨_, e2⟩ := ad_fl h
  obtain ⟨f, u, h1, h2, h3, h4, h5, h6, h7⟩ := h
  unfold Mo_number
  simp (disch := omega) only [bd_some, bd_none, lt_eq, lk_eq, fa_lit, nI_add, nI_mul, nI_sub, nle_t, nle_f, nlt_t, nlt_f, neq_t, neq_f, neg_ne, neg_ne', if_true, if_false, ite_true, ite_false, Nat.zero_add, Nat.add_zero, ld0, ld1, ld2, ld3, ld4, ld5, ld6, ld7, ld8, ld9, ld10, ld11, ld12, ld13, ld14, ld15, ld16, ld17, ld18, ld19, ld20, ld21, ld22, ld23, ld24, ld25, ld26, ld27, ld28, ld29, ld30, ld31, ld32, ld33, ld34, ld35, ld36, ld37, ld38, ld39, ld40, ld41, ld42, ld43, ld44, ld45, ld46, ld47, ld48, ld100, ld101, ld102, ld103, ld104, ld105, gF, h5, e2]
theorem end_fl (h : flM a c) : Mo_isEnd c = some (nI 0, c) := by
  obtain ⟨f, u, h1, h2, h3, h4, h5, h6, h7⟩ := h
  unfold Mo_isEnd
  simp (disch := omega) only [bd_some, bd_none, lt_eq, lk_eq, fa_lit, nI_add, nI_mul, nI_sub, nle_t, nle_f, nlt_t, nlt_f, neq_t, neq_f, neg_ne, neg_ne', if_true, if_false, ite_true, ite_false, Nat.zero_add, Nat.add_zero, ld0, ld1, ld2, ld3, ld4, ld5, ld6, ld7, ld8, ld9, ld10, ld11, ld12, ld13, ld14, ld15, ld16, ld17, ld18, ld19, ld20, ld21, ld22, ld23, ld24, ld25, ld26, ld27, ld28, ld29, ld30, ld31, ld32, ld33, ld34, ld35, ld36, ld37, ld38, ld39, ld40, ld41, ld42, ld43, ld44, ld45, ld46, ld47, ld48, ld100, ld101, ld102, ld103, ld104, ld105, gF, h5]
theorem leads (hn : n ≤ 900) (hb2 : ∀ j, b j < 256) (hA : TA a b n) (hC : CN c b n) (h : okM a c b n t) (hk : kT b n (plT b n t) ≠ 17) (d : D a c r L P S) : LnR r t a c b n (Rd_readLead a r) (Mo_readLead c) := by
  obtain ⟨d1, d2, d3, d4, d5, d6, d7, d8, d9, d10, d11, d12, d13, d14, d15, d16, d17, d18, d19, d20, d21, d22⟩ := id d
  obtain ⟨u, hu, y1, y2⟩ := d13 0 (by decide)
  have x1 : gF a 461 0 = nI u := y1
  have x2 : gF c 873 0 = nI u := y2
  by_cases cu : u = 0
  rotate_left
  · obtain ⟨a1, c1, e1, e2, pr, fl⟩ := bl_ok hn hA h (f := 3) (by decide) (by decide)
    have flw : flM a1 (setF c1 873 0 1) := (flM_w rfl rfl rfl (fun k h1 h2 => rf_ne (by omega))).mpr fl
    have flw2 : flM a1 (setF (setF c1 873 0 1) 871 0 (nI 0)) := (flM_w rfl rfl rfl (fun k h1 h2 => rf_ne (by omega))).mpr flw
    refine ln_fl (a1 := a1) (c1 := setF (setF c1 873 0 1) 871 0 (nI 0)) ?_ ?_ (cc_cb pr.1) (((mc_mb pr.2.2).tr (FrK.setF c1 _ rfl)).tr (FrK.setF _ _ rfl)) (hA.pr pr.1 pr.2.1) ((hC.pr pr.2.2).w ((rf_ne (by decide)).trans (rf_ne (by decide))) ((rf_ne (by decide)).trans (rf_ne (by decide)))) flw2
    · unfold Rd_readLead
      rw [x1, if_neg (show ¬ nI u = (0 : Int32) from of_eq_false (neq_f (b := 0) cu (by omega) (by decide)))]
      show bd_ (Rd_blame a (nI 3)) _ = _
      rw [e1, bd_some]
    · unfold Mo_readLead
      rw [lk_eq, x2, if_neg (show ¬ nI u = (0 : Int32) from of_eq_false (neq_f (b := 0) cu (by omega) (by decide)))]
      show bd_ (Mo_wrong c (nI 3)) _ = _
      simp only [e2, bd_some, lt_eq, (ad_fl flw).2, num_fl flw, end_fl flw2]
  subst cu
  have ok1 : okM (setF a 461 0 1) (setF c 873 0 1) b n t := (okM_w (rf_ne (by decide)) (rf_ne (by decide)) (fun k h1 h2 => rf_ne (by omega))).mpr h
  have hA1 : TA (setF a 461 0 1) b n := hA.w (rf_ne (by decide)) (rf_ne (by decide)) rfl
  have hC1 : CN (setF c 873 0 1) b n := hC.w (rf_ne (by decide)) (rf_ne (by decide))
  obtain ⟨a2, c2, e1, e2, pr2, ok2⟩ := ad_ok hn hb2 hC1 ok1 hk
  obtain ⟨v, w, a3, c3, e3, e4, pr3, X3, I3⟩ := nums hn hb2 (hA1.pr pr2.1 pr2.2.1) (hC1.pr pr2.2.2) (Or.inl ⟨_, ok2⟩) (lo := 0) (hi := 100) (by decide) (by decide)
  have k4 : ∀ k, 858 ≤ k → k ≤ 864 → (setF c3 871 0 w).1 k 0 = c3.1 k 0 := fun k h1 h2 => rf_ne (by omega)
  have hA4 : TA (setF a3 532 r v) b n := ((hA1.pr pr2.1 pr2.2.1).pr pr3.1 pr3.2.1).w (rf_ne (by decide)) (rf_ne (by decide)) rfl
  have hC4 : CN (setF c3 871 0 w) b n := ((hC1.pr pr2.2.2).pr pr3.2.2).w (rf_ne (by decide)) (rf_ne (by decide))
  have X4 : XM (setF a3 532 r v) (setF c3 871 0 w) b n := XM_w (rf_ne (by decide)) (rf_ne (by decide)) (rf_ne (by decide)) k4 X3
  obtain ⟨w4, c10, e10, g10, K10⟩ := endL hn hb2 hA4 X4
  obtain ⟨v4, a12, c13, e12, e13, f12, l12, g12, X12, I12⟩ := K10 c10 (fun k h1 h2 => rfl) (hC4.pr g10)
  refine ⟨setF a3 532 r v, c10, v4, a12, c13, ?_, ?_, e12, e13, ?_, ?_, hA4.pr f12 l12, (hC4.pr g10).pr g12, X12, fun t' ht' => ?_⟩
  · unfold Rd_readLead
    have e3' : Rd_numberIn a2 0 100 = some (v, a3) := e3
    rw [x1, if_pos (show nI 0 = (0 : Int32) from rfl), lt_eq, e1, bd_some, e3', bd_some, lt_eq]
  · unfold Mo_readLead
    have e4' : Mo_number c2 0 100 = some (w, c3) := e4
    rw [lk_eq, x2, if_pos (show nI 0 = (0 : Int32) from rfl)]
    simp only [lt_eq, e2, bd_some, e4', e10]
  · exact ((((FrK.setF a _ (by unfold cb; simp)).tr (cc_cb pr2.1)).tr (cc_cb pr3.1)).tr (FrK.setF a3 _ (cbk rfl))).tr (cc_cb f12)
  · exact (((((FrK.setF c _ rfl).tr (mc_mb pr2.2.2)).tr (mc_mb pr3.2.2)).tr (FrK.setF c3 _ rfl)).tr (mc_mb g10)).tr (mc_mb g12)
  · obtain ⟨t9, q1, ok9⟩ := I12 t' ht'
    obtain ⟨t7, u3, q2, ok7, b1, b2, rfl, rfl⟩ := I3 t9 ((okM_w (rf_ne (by decide)) (rf_ne (by decide)) k4).mp ok9)
    have w1 := ok7.2.2.2.1
    rw [ok2.2.2.2.1] at w1
    have tn := (nT_ok b n).1
    have w2 := (nI_eq (by have := ok2.2.2.1; omega) (by have := ok7.2.2.1; omega)).mp w1
    refine ⟨by omega, ⟨L, P, S, ?_⟩, ?_, ?_⟩
    · have hlong : a12.2.1 = a.2.1 := l12.trans (pr3.2.1.trans pr2.2.1)
      unfold D
      have c5 := pr3.1
      have c7 := pr2.1
      have m5 := pr3.2.2
      have m7 := pr2.2.2
      simp (disch := decide) only [hlong, f12.2 13 r rfl, f12.2 14 r rfl, f12.2 15 r rfl, f12.2 16 r rfl, f12.2 17 r rfl, f12.2 18 r rfl, f12.2 19 r rfl, f12.2 20 r rfl, f12.2 529 r rfl, f12.2 530 r rfl, f12.2 531 r rfl, f12.2 532 r rfl, f12.2 533 r rfl, f12.2 461 0 rfl, f12.2 462 0 rfl, c5.2 13 r rfl, c5.2 14 r rfl, c5.2 15 r rfl, c5.2 16 r rfl, c5.2 17 r rfl, c5.2 18 r rfl, c5.2 19 r rfl, c5.2 20 r rfl, c5.2 529 r rfl, c5.2 530 r rfl, c5.2 531 r rfl, c5.2 532 r rfl, c5.2 533 r rfl, c5.2 461 0 rfl, c5.2 462 0 rfl, c7.2 13 r rfl, c7.2 14 r rfl, c7.2 15 r rfl, c7.2 16 r rfl, c7.2 17 r rfl, c7.2 18 r rfl, c7.2 19 r rfl, c7.2 20 r rfl, c7.2 529 r rfl, c7.2 530 r rfl, c7.2 531 r rfl, c7.2 532 r rfl, c7.2 533 r rfl, c7.2 461 0 rfl, c7.2 462 0 rfl, g12.2 36 0 rfl, g12.2 37 0 rfl, g12.2 38 0 rfl, g12.2 39 0 rfl, g12.2 40 0 rfl, g12.2 41 0 rfl, g12.2 42 0 rfl, g12.2 43 0 rfl, g12.2 44 0 rfl, g12.2 45 0 rfl, g12.2 46 0 rfl, g12.2 867 0 rfl, g12.2 868 0 rfl, g12.2 869 0 rfl, g12.2 871 0 rfl, g12.2 872 0 rfl, g12.2 873 0 rfl, g12.2 874 0 rfl, g10.2 36 0 rfl, g10.2 37 0 rfl, g10.2 38 0 rfl, g10.2 39 0 rfl, g10.2 40 0 rfl, g10.2 41 0 rfl, g10.2 42 0 rfl, g10.2 43 0 rfl, g10.2 44 0 rfl, g10.2 45 0 rfl, g10.2 46 0 rfl, g10.2 867 0 rfl, g10.2 868 0 rfl, g10.2 869 0 rfl, g10.2 871 0 rfl, g10.2 872 0 rfl, g10.2 873 0 rfl, g10.2 874 0 rfl, m5.2 36 0 rfl, m5.2 37 0 rfl, m5.2 38 0 rfl, m5.2 39 0 rfl, m5.2 40 0 rfl, m5.2 41 0 rfl, m5.2 42 0 rfl, m5.2 43 0 rfl, m5.2 44 0 rfl, m5.2 45 0 rfl, m5.2 46 0 rfl, m5.2 867 0 rfl, m5.2 868 0 rfl, m5.2 869 0 rfl, m5.2 871 0 rfl, m5.2 872 0 rfl, m5.2 873 0 rfl, m5.2 874 0 rfl, m7.2 36 0 rfl, m7.2 37 0 rfl, m7.2 38 0 rfl, m7.2 39 0 rfl, m7.2 40 0 rfl, m7.2 41 0 rfl, m7.2 42 0 rfl, m7.2 43 0 rfl, m7.2 44 0 rfl, m7.2 45 0 rfl, m7.2 46 0 rfl, m7.2 867 0 rfl, m7.2 868 0 rfl, m7.2 869 0 rfl, m7.2 871 0 rfl, m7.2 872 0 rfl, m7.2 873 0 rfl, m7.2 874 0 rfl, rf_ne, rfx]
      exact ⟨d1, d2, d3, d4, d5, d6, d7, d8, d9, d10, fun _ _ => ⟨u3, b2, rfl, rfl⟩, d12, fun _ _ => ⟨1, Nat.le_refl 1, rfl, rfl⟩, d14, d15, d16, d17, d18, d19, d20, d21, d22⟩
    · rw [f12.2 528 r rfl, rf_ne (by decide), pr3.1.2 528 r rfl, pr2.1.2 528 r rfl, rf_ne (by decide)]
    · rw [g12.2 870 0 rfl, g10.2 870 0 rfl, rf_ne (by decide), pr3.2.2.2 870 0 rfl, pr2.2.2.2 870 0 rfl, rf_ne (by decide)]
theorem keeps (hn : n ≤ 900) (hb2 : ∀ j, b j < 256) (hA : TA a b n) (hC : CN c b n) (h : okM a c b n t) (hk : kT b n (plT b n t) ≠ 17) (d : D a c r L P S) : LnR r t a c b n (Rd_readKeep a r) (Mo_readKeep c) := by
  obtain ⟨d1, d2, d3, d4, d5, d6, d7, d8, d9, d10, d11, d12, d13, d14, d15, d16, d17, d18, d19, d20, d21, d22⟩ := id d
  obtain ⟨u, hu, y1, y2⟩ := d14 0 (by decide)
  have x1 : gF a 462 0 = nI u := y1
  have x2 : gF c 874 0 = nI u := y2
  by_cases cu : u = 0
  rotate_left
  · obtain ⟨a1, c1, e1, e2, pr, fl⟩ := bl_ok hn hA h (f := 3) (by decide) (by decide)
    have flw : flM a1 (setF c1 874 0 1) := (flM_w rfl rfl rfl (fun k h1 h2 => rf_ne (by omega))).mpr fl
    have flw2 : flM a1 (setF (setF c1 874 0 1) 872 0 (nI 0)) := (flM_w rfl rfl rfl (fun k h1 h2 => rf_ne (by omega))).mpr flw
    refine ln_fl (a1 := a1) (c1 := setF (setF c1 874 0 1) 872 0 (nI 0)) ?_ ?_ (cc_cb pr.1) (((mc_mb pr.2.2).tr (FrK.setF c1 _ rfl)).tr (FrK.setF _ _ rfl)) (hA.pr pr.1 pr.2.1) ((hC.pr pr.2.2).w ((rf_ne (by decide)).trans (rf_ne (by decide))) ((rf_ne (by decide)).trans (rf_ne (by decide)))) flw2
    · unfold Rd_readKeep
      rw [x1, if_neg (show ¬ nI u = (0 : Int32) from of_eq_false (neq_f (b := 0) cu (by omega) (by decide)))]
      show bd_ (Rd_blame a (nI 3)) _ = _
      rw [e1, bd_some]
    · unfold Mo_readKeep
      rw [lk_eq, x2, if_neg (show ¬ nI u = (0 : Int32) from of_eq_false (neq_f (b := 0) cu (by omega) (by decide)))]
      show bd_ (Mo_wrong c (nI 3)) _ = _
      simp only [e2, bd_some, lt_eq, (ad_fl flw).2, num_fl flw, end_fl flw2]
  subst cu
  have ok1 : okM (setF a 462 0 1) (setF c 874 0 1) b n t := (okM_w (rf_ne (by decide)) (rf_ne (by decide)) (fun k h1 h2 => rf_ne (by omega))).mpr h
  have hA1 : TA (setF a 462 0 1) b n := hA.w (rf_ne (by decide)) (rf_ne (by decide)) rfl
  have hC1 : CN (setF c 874 0 1) b n := hC.w (rf_ne (by decide)) (rf_ne (by decide))
  obtain ⟨a2, c2, e1, e2, pr2, ok2⟩ := ad_ok hn hb2 hC1 ok1 hk
  obtain ⟨v, w, a3, c3, e3, e4, pr3, X3, I3⟩ := nums hn hb2 (hA1.pr pr2.1 pr2.2.1) (hC1.pr pr2.2.2) (Or.inl ⟨_, ok2⟩) (lo := 1) (hi := 9) (by decide) (by decide)
  have k4 : ∀ k, 858 ≤ k → k ≤ 864 → (setF c3 872 0 w).1 k 0 = c3.1 k 0 := fun k h1 h2 => rf_ne (by omega)
  have hA4 : TA (setF a3 533 r v) b n := ((hA1.pr pr2.1 pr2.2.1).pr pr3.1 pr3.2.1).w (rf_ne (by decide)) (rf_ne (by decide)) rfl
  have hC4 : CN (setF c3 872 0 w) b n := ((hC1.pr pr2.2.2).pr pr3.2.2).w (rf_ne (by decide)) (rf_ne (by decide))
  have X4 : XM (setF a3 533 r v) (setF c3 872 0 w) b n := XM_w (rf_ne (by decide)) (rf_ne (by decide)) (rf_ne (by decide)) k4 X3
  obtain ⟨w4, c10, e10, g10, K10⟩ := endL hn hb2 hA4 X4
  obtain ⟨v4, a12, c13, e12, e13, f12, l12, g12, X12, I12⟩ := K10 c10 (fun k h1 h2 => rfl) (hC4.pr g10)
  refine ⟨setF a3 533 r v, c10, v4, a12, c13, ?_, ?_, e12, e13, ?_, ?_, hA4.pr f12 l12, (hC4.pr g10).pr g12, X12, fun t' ht' => ?_⟩
  · unfold Rd_readKeep
    have e3' : Rd_numberIn a2 1 9 = some (v, a3) := e3
    rw [x1, if_pos (show nI 0 = (0 : Int32) from rfl), lt_eq, e1, bd_some, e3', bd_some, lt_eq]
  · unfold Mo_readKeep
    have e4' : Mo_number c2 1 9 = some (w, c3) := e4
    rw [lk_eq, x2, if_pos (show nI 0 = (0 : Int32) from rfl)]
    simp only [lt_eq, e2, bd_some, e4', e10]
  · exact ((((FrK.setF a _ (by unfold cb; simp)).tr (cc_cb pr2.1)).tr (cc_cb pr3.1)).tr (FrK.setF a3 _ (cbk rfl))).tr (cc_cb f12)
  · exact (((((FrK.setF c _ rfl).tr (mc_mb pr2.2.2)).tr (mc_mb pr3.2.2)).tr (FrK.setF c3 _ rfl)).tr (mc_mb g10)).tr (mc_mb g12)
  · obtain ⟨t9, q1, ok9⟩ := I12 t' ht'
    obtain ⟨t7, u3, q2, ok7, b1, b2, rfl, rfl⟩ := I3 t9 ((okM_w (rf_ne (by decide)) (rf_ne (by decide)) k4).mp ok9)
    have w1 := ok7.2.2.2.1
    rw [ok2.2.2.2.1] at w1
    have tn := (nT_ok b n).1
    have w2 := (nI_eq (by have := ok2.2.2.1; omega) (by have := ok7.2.2.1; omega)).mp w1
    refine ⟨by omega, ⟨L, P, S, ?_⟩, ?_, ?_⟩
    · have hlong : a12.2.1 = a.2.1 := l12.trans (pr3.2.1.trans pr2.2.1)
      unfold D
      have c5 := pr3.1
      have c7 := pr2.1
      have m5 := pr3.2.2
      have m7 := pr2.2.2
      simp (disch := decide) only [hlong, f12.2 13 r rfl, f12.2 14 r rfl, f12.2 15 r rfl, f12.2 16 r rfl, f12.2 17 r rfl, f12.2 18 r rfl, f12.2 19 r rfl, f12.2 20 r rfl, f12.2 529 r rfl, f12.2 530 r rfl, f12.2 531 r rfl, f12.2 532 r rfl, f12.2 533 r rfl, f12.2 461 0 rfl, f12.2 462 0 rfl, c5.2 13 r rfl, c5.2 14 r rfl, c5.2 15 r rfl, c5.2 16 r rfl, c5.2 17 r rfl, c5.2 18 r rfl, c5.2 19 r rfl, c5.2 20 r rfl, c5.2 529 r rfl, c5.2 530 r rfl, c5.2 531 r rfl, c5.2 532 r rfl, c5.2 533 r rfl, c5.2 461 0 rfl, c5.2 462 0 rfl, c7.2 13 r rfl, c7.2 14 r rfl, c7.2 15 r rfl, c7.2 16 r rfl, c7.2 17 r rfl, c7.2 18 r rfl, c7.2 19 r rfl, c7.2 20 r rfl, c7.2 529 r rfl, c7.2 530 r rfl, c7.2 531 r rfl, c7.2 532 r rfl, c7.2 533 r rfl, c7.2 461 0 rfl, c7.2 462 0 rfl, g12.2 36 0 rfl, g12.2 37 0 rfl, g12.2 38 0 rfl, g12.2 39 0 rfl, g12.2 40 0 rfl, g12.2 41 0 rfl, g12.2 42 0 rfl, g12.2 43 0 rfl, g12.2 44 0 rfl, g12.2 45 0 rfl, g12.2 46 0 rfl, g12.2 867 0 rfl, g12.2 868 0 rfl, g12.2 869 0 rfl, g12.2 871 0 rfl, g12.2 872 0 rfl, g12.2 873 0 rfl, g12.2 874 0 rfl, g10.2 36 0 rfl, g10.2 37 0 rfl, g10.2 38 0 rfl, g10.2 39 0 rfl, g10.2 40 0 rfl, g10.2 41 0 rfl, g10.2 42 0 rfl, g10.2 43 0 rfl, g10.2 44 0 rfl, g10.2 45 0 rfl, g10.2 46 0 rfl, g10.2 867 0 rfl, g10.2 868 0 rfl, g10.2 869 0 rfl, g10.2 871 0 rfl, g10.2 872 0 rfl, g10.2 873 0 rfl, g10.2 874 0 rfl, m5.2 36 0 rfl, m5.2 37 0 rfl, m5.2 38 0 rfl, m5.2 39 0 rfl, m5.2 40 0 rfl, m5.2 41 0 rfl, m5.2 42 0 rfl, m5.2 43 0 rfl, m5.2 44 0 rfl, m5.2 45 0 rfl, m5.2 46 0 rfl, m5.2 867 0 rfl, m5.2 868 0 rfl, m5.2 869 0 rfl, m5.2 871 0 rfl, m5.2 872 0 rfl, m5.2 873 0 rfl, m5.2 874 0 rfl, m7.2 36 0 rfl, m7.2 37 0 rfl, m7.2 38 0 rfl, m7.2 39 0 rfl, m7.2 40 0 rfl, m7.2 41 0 rfl, m7.2 42 0 rfl, m7.2 43 0 rfl, m7.2 44 0 rfl, m7.2 45 0 rfl, m7.2 46 0 rfl, m7.2 867 0 rfl, m7.2 868 0 rfl, m7.2 869 0 rfl, m7.2 871 0 rfl, m7.2 872 0 rfl, m7.2 873 0 rfl, m7.2 874 0 rfl, rf_ne, rfx]
      exact ⟨d1, d2, d3, d4, d5, d6, d7, d8, d9, d10, d11, fun _ _ => ⟨u3, ⟨b1, b2⟩, rfl, rfl⟩, d13, fun _ _ => ⟨1, Nat.le_refl 1, rfl, rfl⟩, d15, d16, d17, d18, d19, d20, d21, d22⟩
    · rw [f12.2 528 r rfl, rf_ne (by decide), pr3.1.2 528 r rfl, pr2.1.2 528 r rfl, rf_ne (by decide)]
    · rw [g12.2 870 0 rfl, g10.2 870 0 rfl, rf_ne (by decide), pr3.2.2.2 870 0 rfl, pr2.2.2.2 870 0 rfl, rf_ne (by decide)]
end Line2

/-! ===== sessions; a line ===== -/
section Ses3
variable {a c a' c' : ST} {b : Nat → Nat} {n t r L P S m : Nat}
theorem cl_cb {a a' : ST} (h : FrK (cl r) a a') : FrK (cb r) a a' := h.mono (fun k i hk => by
  unfold cb dk at hk
  unfold cl
  simp only [Bool.or_eq_false_iff, Bool.and_eq_false_iff, decide_eq_false_iff_not] at hk ⊢
  refine ⟨hk.1, ?_⟩
  rcases hk.2.1 with q | q
  · left; omega
  · right; exact q)
theorem c18_cb {a a' : ST} (h : FrK (c18 r) a a') : FrK (cb r) a a' := h.mono (fun k i hk => by
  unfold cb dk at hk
  unfold c18
  simp only [Bool.or_eq_false_iff, Bool.and_eq_false_iff, decide_eq_false_iff_not] at hk ⊢
  refine ⟨hk.1, ?_⟩
  rcases hk.2.1 with q | q
  · left; omega
  · right; exact q)
theorem ml_mb {c c' : ST} (h : FrK ml c c') : FrK mb c c' := h.mono (fun k i hk => by
  unfold mb at hk
  unfold ml mc
  simp only [Bool.or_eq_false_iff, decide_eq_false_iff_not] at hk ⊢
  omega)
theorem m46_mb {c c' : ST} (h : FrK m46 c c') : FrK mb c c' := h.mono (fun k i hk => by
  unfold mb at hk
  unfold m46 mc
  simp only [Bool.or_eq_false_iff, decide_eq_false_iff_not] at hk ⊢
  omega)
theorem sessions (hn : n ≤ 900) (hb2 : ∀ j, b j < 256) (hA : TA a b n) (hC : CN c b n) (h : okM a c b n t) (hk : kT b n (plT b n t) ≠ 17) (d : D a c r L P S) : LnR r t a c b n (Rd_readSession a r) (Mo_readSession c) := by
  obtain ⟨d1, d2, d3, d4, d5, d6, d7, d8, d9, d10, d11, d12, d13, d14, d15, d16, d17, d18, d19, d20, d21, d22⟩ := id d
  have x1 : gF a 531 r = nI S := d9
  have x2 : gF c 869 0 = nI S := d10
  rcases Nat.lt_or_ge S 8 with cL | cL
  rotate_left
  · have eL : S = 8 := by omega
    obtain ⟨a1, c1, e1, e2, pr, fl⟩ := bl_ok hn hA h (f := 2) (by decide) (by decide)
    refine ln_fl (a1 := a1) (c1 := c1) ?_ ?_ (cc_cb pr.1) (mc_mb pr.2.2) (hA.pr pr.1 pr.2.1) (hC.pr pr.2.2) fl
    · unfold Rd_readSession
      rw [lt_eq, x1, eL, if_neg (by decide)]
      show bd_ (Rd_blame a (nI 2)) _ = _
      rw [e1, bd_some]
    · unfold Mo_readSession
      rw [lt_eq, x2, eL, if_pos (by decide)]
      show bd_ (Mo_wrong c (nI 2)) _ = _
      rw [e2, bd_some]
  obtain ⟨v0, a1, a2, c2, e1, e2, e3, f2, l2, g2, X2, I2⟩ := newN (r := r) hn hb2 hA hC h hk d (k1 := 38) (e := S) (by decide) cL (by decide)
  have ha5 : ∃ a5, a5 = setR (setR (setL a2 103 0 (vp_updL (a2.2.1 103 0) S v0)) 17 r (upd (a2.1 17 r) S 0)) 18 r (upd (a2.1 18 r) S 0) := ⟨_, rfl⟩
  obtain ⟨a5, ha5⟩ := ha5
  have hc5 : ∃ c5, c5 = setR (setR c2 45 0 (upd (c2.1 45 0) S 0)) 46 0 (upd (c2.1 46 0) S 0) := ⟨_, rfl⟩
  obtain ⟨c5, hc5⟩ := hc5
  have k60 : ∀ k i, k ≠ 17 → k ≠ 18 → a5.1 k i = a2.1 k i := fun k i q1 q2 => by rw [ha5, rd_ne q2, rd_ne q1, rl_eq]
  have j60 : ∀ k i, k ≠ 45 → k ≠ 46 → c5.1 k i = c2.1 k i := fun k i q1 q2 => by rw [hc5, rd_ne q2, rd_ne q1]
  have z17 : a5.1 17 r = upd (a.1 17 r) S 0 := by rw [ha5, rd_ne (by decide), rd_eq, f2.2 17 r rfl]
  have z18 : a5.1 18 r = upd (a.1 18 r) S 0 := by rw [ha5, rd_eq, f2.2 18 r rfl]
  have z45 : c5.1 45 0 = upd (c.1 45 0) S 0 := by rw [hc5, rd_ne (by decide), rd_eq, g2.2 45 0 rfl]
  have z46 : c5.1 46 0 = upd (c.1 46 0) S 0 := by rw [hc5, rd_eq, g2.2 46 0 rfl]
  have l5 : a5.2.1 = (setL a2 103 0 (vp_updL (a2.2.1 103 0) S v0)).2.1 := by rw [ha5]; rfl
  have fr5 : FrK (cb r) a a5 := by
    rw [ha5]
    exact (((cc_cb f2).tr (FrK.setL a2 _ _ _)).tr (FrK.setR _ _ (cbk rfl))).tr (FrK.setR _ _ (cbk rfl))
  have g2' : FrK mb c c2 := g2.mono (fun k i hk => by
    unfold mb at hk
    unfold mk1 mc
    simp only [Bool.or_eq_false_iff, decide_eq_false_iff_not] at hk ⊢
    omega)
  have gr5 : FrK mb c c5 := by
    rw [hc5]
    exact (g2'.tr (FrK.setR c2 _ rfl)).tr (FrK.setR _ _ rfl)
  have hA5 : TA a5 b n := (hA.pr f2 l2).w (k60 22 0 (by decide) (by decide)) (k60 23 0 (by decide) (by decide)) (by rw [l5, rL_ne (by decide)])
  have hC5 : CN c5 b n := hC.w ((j60 857 0 (by decide) (by decide)).trans (g2.2 857 0 rfl)) ((j60 28 0 (by decide) (by decide)).trans (g2.2 28 0 rfl))
  have okE : ∀ t', okM a5 c5 b n t' ↔ okM a2 c2 b n t' := fun t' => okM_w (k60 460 0 (by decide) (by decide)) (k60 463 0 (by decide) (by decide)) (fun k h1 h2 => j60 k 0 (by omega) (by omega)) (k60 464 0 (by decide) (by decide))
  have X5 : XM a5 c5 b n := XM_w (k60 460 0 (by decide) (by decide)) (k60 463 0 (by decide) (by decide)) (k60 464 0 (by decide) (by decide)) (fun k h1 h2 => j60 k 0 (by omega) (by omega)) X2
  have z19 : a5.1 19 r = a.1 19 r := (k60 19 r (by decide) (by decide)).trans (f2.2 19 r rfl)
  have z20 : a5.1 20 r = a.1 20 r := (k60 20 r (by decide) (by decide)).trans (f2.2 20 r rfl)
  have z43 : c5.1 43 0 = c.1 43 0 := (j60 43 0 (by decide) (by decide)).trans (g2.2 43 0 rfl)
  have z44 : c5.1 44 0 = c.1 44 0 := (j60 44 0 (by decide) (by decide)).trans (g2.2 44 0 rfl)
  have si0 : SIn a5 c5 r S P 0 := by
    unfold SIn
    rw [z17, z18, z19, z20, z43, z44, z45, z46]
    refine ⟨fun s hs => ?_, by decide, upd_eq, upd_eq, fun j hj => absurd hj (Nat.not_lt_zero j), fun i j hj => absurd hj (Nat.not_lt_zero j)⟩
    obtain ⟨m, h', m1, m2, m3, m4, m6, m8, m9, m10⟩ := d22 s hs
    refine ⟨m, h', m1, m2, m3, ?_, ?_, ?_, ?_, m10⟩
    · rw [upd_ne (by omega)]; exact m4
    · rw [upd_ne (by omega)]; exact m6
    · rw [upd_ne (by omega)]; exact m8
    · rw [upd_ne (by omega)]; exact m9
  obtain ⟨aE, cE, w1, w2, w3, w4, w5, w6, w7⟩ := memLoop (r := r) hn hb2 cL d2 9 0 a5 c5 rfl hA5 hC5 (by rw [k60 530 r (by decide) (by decide), f2.2 530 r rfl]; exact d7) (by rw [j60 868 0 (by decide) (by decide), g2.2 868 0 rfl]; exact d8) (by rw [l5, rL_ne (by decide), l2, j60 37 0 (by decide) (by decide), g2.2 37 0 rfl]; exact d16) X5 (fun _ _ => si0)
  have hAE := hA5.cl w3 w4
  have hCE := hC5.ml w5
  have y18 : aE.1 18 r = a5.1 18 r := w3.2 18 r (clf rfl rfl)
  have y46 : cE.1 46 0 = c5.1 46 0 := w5.2 46 0 rfl
  obtain ⟨aU, cU, u1, u2, u3, u4, u5, u6, u7, u8, u9⟩ := unks (r := r) (S := S) hn hb2 cL hAE hCE w6 (by rw [y18, z18, upd_eq]; rfl) (by rw [y46, z46, upd_eq]; rfl)
  have hAU : TA aU b n := hAE.w (u3.2 22 0 (c18f rfl rfl)) (u3.2 23 0 (c18f rfl rfl)) (by rw [u4])
  have hCU : CN cU b n := hCE.w (u5.2 857 0 rfl) (u5.2 28 0 rfl)
  obtain ⟨a8, c8, v8, a9, c9, e8, e9, e10, e11, f9, g9, hA9, hC9, X9, I9⟩ := sesEnd (r := r) (S := S) hn hb2 cL hAU hCU u6 (by rw [u3.2 531 r (c18f rfl rfl), w3.2 531 r (clf rfl rfl), k60 531 r (by decide) (by decide), f2.2 531 r rfl]; exact d9) (by rw [u5.2 869 0 rfl, w5.2 869 0 rfl, j60 869 0 (by decide) (by decide), g2.2 869 0 rfl]; exact d10) (fun t' ht' => by
    obtain ⟨⟨h', q1, q2, q3⟩, t0, q4, q5⟩ := u9 t' ht'
    obtain ⟨⟨m, q6⟩, _⟩ := w7 t0 q5
    exact ⟨m, h', q6.2.1, q1, by rw [u3.2 17 r (c18f rfl rfl)]; exact q6.2.2.1, q2, by rw [u5.2 45 0 rfl]; exact q6.2.2.2.1, q3⟩)
  refine ⟨a8, c8, v8, a9, c9, ?_, ?_, e10, e11, ((fr5.tr (cl_cb w3)).tr (c18_cb u3)).tr f9, ((gr5.tr (ml_mb w5)).tr (m46_mb u5)).tr g9, hA9, hC9, X9, fun t' ht' => ?_⟩
  · unfold Rd_readSession
    rw [lt_eq, x1, if_pos (show nI S < (8 : Int32) from of_eq_true (nlt_t (b := 8) cL (by decide))), e1, bd_some, e2, bd_some]
    show bd_ (stL a2 103 0 (nI S) v0) _ = _
    rw [st103 cL, bd_some, st17 cL, bd_some, st18 cL, bd_some, lk_eq, rd_ne (by decide), rl_eq, rl_eq, ← ha5]
    refine (w1 (fun (j7 : ST) => bd_ (Rd_isAt j7 3) (fun q10 => lk_ (fun kk12 => (if q10 = 0 then kk12 j7 else bd_ (Rd_advance j7) (fun q20 => bd_ (Rd_numberIn q20 1 5) (fun q21 => bd_ (stI q21.2 18 r (nI S) q21.1) (fun s22 => kk12 s22))))) (fun (j11 : ST) => sTail j11 r (nI S)))) FU (by decide)).trans ?_
    exact (u1 (fun (j11 : ST) => sTail j11 r (nI S))).trans e8
  · unfold Mo_readSession
    rw [lt_eq, x2, if_neg (show ¬ nI S = (8 : Int32) from of_eq_false (neq_f (b := 8) (by omega) (by omega) (by decide))), e3, bd_some, st45 cL, bd_some, st46 cL, bd_some, rd_ne (by decide), ← hc5]
    refine (w2 (fun (z5 : ST) => lk_ (fun kk10 => (if (gF z5 863 0) = 0 then (if (gF z5 860 0) = 0 then (if (gF z5 861 0) = 3 then bd_ (Mo_goOn z5) (fun q19 => bd_ (Mo_number q19 1 5) (fun q20 => bd_ (stI q20.2 46 0 (nI S) q20.1) (fun s21 => kk10 s21))) else kk10 z5) else kk10 z5) else kk10 z5)) (fun (j9 : ST) => tTail j9 (nI S))) FU (by decide)).trans ?_
    exact (u2 (fun (j9 : ST) => tTail j9 (nI S))).trans e9
  · obtain ⟨t9, q1, okU, ⟨mm, hh, q2a, q2b, q2, q3, q4⟩, c10, fa, la, fb, fc⟩ := I9 t' ht'
    obtain ⟨⟨h', q5, q6, q7⟩, t8, q8, okE'⟩ := u9 t9 okU
    obtain ⟨⟨m, si⟩, t7, q9, ok5⟩ := w7 t8 okE'
    obtain ⟨q10, u0, b5, rfl, q11⟩ := I2 t7 ((okE t7).mp ok5)
    have hm : mm = m := by
      rw [u3.2 17 r (c18f rfl rfl), si.2.2.1] at q3
      have := si.2.1
      exact ((nI_eq (by omega) (by omega)).mp q3).symm
    have hh' : hh = h' := by
      rw [q6] at q4
      exact ((nI_eq (by omega) (by omega)).mp q4).symm
    subst hm hh'
    have cK : ∀ k i, cc k i = false → k ≠ 17 → k ≠ 18 → k ≠ 19 → k ≠ 20 → k ≠ 531 → a9.1 k i = a.1 k i := fun k i r1 r2 r3 r4 r5 r6 => by
      rw [fa.2 k i r1, rf_ne r6, u3.2 k i (c18f r1 (decide_eq_false r3)), w3.2 k i (clf r1 (by rw [decide_eq_false r2, decide_eq_false r4, decide_eq_false r5]; rfl)), k60 k i r2 r3, f2.2 k i r1]
    have mK : ∀ k, mc k 0 = false → (43 ≤ k ∧ k ≤ 46) = False → k ≠ 38 → k ≠ 869 → c9.1 k 0 = c.1 k 0 := fun k r1 r2 r3 r4 => by
      have r2' : ¬ (43 ≤ k ∧ k ≤ 46) := of_eq_false r2
      rw [fc.2 k 0 r1, rf_ne r4, fb.2 k 0 r1, u5.2 k 0 (by unfold m46; rw [r1, decide_eq_false (by omega)]; rfl), w5.2 k 0 (by unfold ml; rw [r1, decide_eq_false (by omega)]; rfl), j60 k 0 (by omega) (by omega), g2.2 k 0 (by unfold mk1; rw [r1, decide_eq_false r3]; rfl)]
    have n17 : a9.1 17 r = aE.1 17 r := by rw [fa.2 17 r rfl, rf_ne (by decide), u3.2 17 r (c18f rfl rfl)]
    have n18 : a9.1 18 r = aU.1 18 r := by rw [fa.2 18 r rfl, rf_ne (by decide)]
    have n19 : a9.1 19 r = aE.1 19 r := by rw [fa.2 19 r rfl, rf_ne (by decide), u3.2 19 r (c18f rfl rfl)]
    have n20 : a9.1 20 r = aE.1 20 r := by rw [fa.2 20 r rfl, rf_ne (by decide), u3.2 20 r (c18f rfl rfl)]
    have n43 : c9.1 43 0 = cE.1 43 0 := by rw [fc.2 43 0 rfl, rf_ne (by decide), fb.2 43 0 rfl, u5.2 43 0 rfl]
    have n44 : c9.1 44 0 = cE.1 44 0 := by rw [fc.2 44 0 rfl, rf_ne (by decide), fb.2 44 0 rfl, u5.2 44 0 rfl]
    have n45 : c9.1 45 0 = cE.1 45 0 := by rw [fc.2 45 0 rfl, rf_ne (by decide), fb.2 45 0 rfl, u5.2 45 0 rfl]
    have n46 : c9.1 46 0 = cU.1 46 0 := by rw [fc.2 46 0 rfl, rf_ne (by decide), fb.2 46 0 rfl]
    have n38 : c9.1 38 0 = upd (c.1 38 0) S (nI u0) := by rw [fc.2 38 0 rfl, rf_ne (by decide), fb.2 38 0 rfl, u5.2 38 0 rfl, w5.2 38 0 rfl, j60 38 0 (by decide) (by decide), q11]
    have n531 : a9.1 531 r 0 = nI (S + 1) := by rw [fa.2 531 r rfl, rf_eq]
    have n869 : c9.1 869 0 0 = nI (S + 1) := by rw [fc.2 869 0 rfl, rf_eq]
    have hlong : a9.2.1 = (setL a2 103 0 (vp_updL (a2.2.1 103 0) S (lN u0))).2.1 := la.trans (u4.trans (w4.trans l5))
    refine ⟨by omega, ⟨L, P, S + 1, ?_⟩, cK 528 r rfl (by decide) (by decide) (by decide) (by decide) (by decide), mK 870 rfl (by simp) (by decide) (by decide)⟩
    unfold D
    rw [cK 529 r rfl (by decide) (by decide) (by decide) (by decide) (by decide), cK 530 r rfl (by decide) (by decide) (by decide) (by decide) (by decide), cK 532 r rfl (by decide) (by decide) (by decide) (by decide) (by decide), cK 533 r rfl (by decide) (by decide) (by decide) (by decide) (by decide), cK 461 0 rfl (by decide) (by decide) (by decide) (by decide) (by decide), cK 462 0 rfl (by decide) (by decide) (by decide) (by decide) (by decide), cK 14 r rfl (by decide) (by decide) (by decide) (by decide) (by decide), cK 15 r rfl (by decide) (by decide) (by decide) (by decide) (by decide), cK 13 r rfl (by decide) (by decide) (by decide) (by decide) (by decide), cK 16 r rfl (by decide) (by decide) (by decide) (by decide) (by decide)]
    rw [mK 867 rfl (by simp) (by decide) (by decide), mK 868 rfl (by simp) (by decide) (by decide), mK 871 rfl (by simp) (by decide) (by decide), mK 872 rfl (by simp) (by decide) (by decide), mK 873 rfl (by simp) (by decide) (by decide), mK 874 rfl (by simp) (by decide) (by decide), mK 36 rfl (by simp) (by decide) (by decide), mK 37 rfl (by simp) (by decide) (by decide), mK 39 rfl (by simp) (by decide) (by decide), mK 40 rfl (by simp) (by decide) (by decide), mK 41 rfl (by simp) (by decide) (by decide), mK 42 rfl (by simp) (by decide) (by decide)]
    rw [n531, n869, n38, hlong, rL_eq, rL_ne (by decide), rL_ne (by decide), l2, n17, n18, n19, n20, n43, n44, n45, n46]
    refine ⟨d1, d2, by omega, d4, d5, d6, d7, d8, rfl, rfl, d11, d12, d13, d14, d15, d16, d17.push b5, d18, d19, d20, d21, fun s hs => ?_⟩
    obtain ⟨s1, s2, s3, s4, s5, s6⟩ := si
    rcases Nat.lt_or_ge s S with cs | cs
    · obtain ⟨m', h', m1, m2, m3, m4, m6, m8, m9, m10⟩ := s1 s cs
      exact ⟨m', h', m1, m2, m3, m4, m6, by rw [u7 s (by omega)]; exact m8, by rw [u8 s (by omega)]; exact m9, m10⟩
    · have es : s = S := by omega
      subst es
      exact ⟨mm, hh, q2a, q2b, q2, s3, s4, q6, q7, s5, s6⟩
end Ses3

/-! ===== a line's end; lines ===== -/
theorem rL_eq {σ : ST} {k i : Nat} {f : Nat → Int64} : (setL σ k i f).2.1 k i = f := by
  show up3 σ.2.1 k i f k i = f
  unfold up3
  simp
theorem rL_ne {σ : ST} {k i k' i' : Nat} {f : Nat → Int64} (h : k' ≠ k) : (setL σ k i f).2.1 k' i' = σ.2.1 k' i' := by
  show up3 σ.2.1 k i f k' i' = _
  unfold up3
  simp [h]
section Line
variable {a c a' c' : ST} {b : Nat → Nat} {n t r L P S : Nat}
theorem endL (hn : n ≤ 900) (hb2 : ∀ j, b j < 256) (hA : TA a b n) (hX : XM a c b n) : ∃ w c1, Mo_isEnd c = some (w, c1) ∧ FrK mc c c1 ∧ ∀ c2, (∀ k, 858 ≤ k → k ≤ 864 → c2.1 k 0 = c1.1 k 0) → CN c2 b n → ∃ v a' c3, Rd_oneOf a 16 16 = some (v, a') ∧ Mo_goOn c2 = some c3 ∧ FrK cc a a' ∧ a'.2.1 = a.2.1 ∧ FrK mc c2 c3 ∧ XM a' c3 b n ∧ ∀ t, okM a' c3 b n t → ∃ t0, t = t0 + 1 ∧ okM a c b n t0 := by
  have tn := (nT_ok b n).1
  rcases hX with ⟨t, h⟩ | h
  rotate_left
  · have hf := h
    obtain ⟨e3, _⟩ := bl_fl h 1
    obtain ⟨e1, _⟩ := ad_fl h
    obtain ⟨f, u, h1, h2, h3, h4, h5, h6, h7⟩ := h
    refine ⟨nI 0, c, ?_, FrK.rf c, fun c2 hc hC => ⟨a.1 22 0 u - nI 16, a, c2, ?_, (ad_fl ((flM_w rfl rfl rfl hc).mpr hf)).2, FrK.rf a, rfl, FrK.rf c2, Or.inr ((flM_w rfl rfl rfl hc).mpr hf), fun t ht => absurd ((flM_w rfl rfl rfl hc).mpr hf) ht.nf⟩⟩
    · unfold Mo_isEnd
      simp (disch := omega) only [bd_some, bd_none, lt_eq, lk_eq, fa_lit, nI_add, nI_mul, nI_sub, nle_t, nle_f, nlt_t, nlt_f, neq_t, neq_f, neg_ne, neg_ne', if_true, if_false, ite_true, ite_false, Nat.zero_add, Nat.add_zero, ld0, ld1, ld2, ld3, ld4, ld5, ld6, ld7, ld8, ld9, ld10, ld11, ld12, ld13, ld14, ld15, ld16, ld17, ld18, ld19, ld20, ld21, ld22, ld23, ld24, ld25, ld26, ld27, ld28, ld29, ld30, ld31, ld32, ld33, ld34, ld35, ld36, ld37, ld38, ld39, ld40, ld41, ld42, ld43, ld44, ld45, ld46, ld47, ld48, ld100, ld101, ld102, ld103, ld104, ld105, gF, h5]
    · unfold Rd_oneOf
      show bd_ (ldI a 22 0 (a.1 460 0 0)) _ = _
      rw [h7, ld22 (by omega), bd_some]
      simp only [lk_eq, e3, bd_some, e1, ite_self]
      rfl
  · have hk := (hA t h.2.2.1).1
    have kl := kT_lt b n (plT b n t)
    have ho := h
    obtain ⟨h1, h2, h3, h4, h5, h6, s1, s2, s3, s4, s5, s6⟩ := h
    by_cases c1 : kT b n (plT b n t) = 16
    · have q1 := s4 c1
      refine ⟨nI 1, c, ?_, FrK.rf c, fun c2 hc hC => ?_⟩
      · unfold Mo_isEnd
        simp (disch := omega) only [bd_some, bd_none, lt_eq, lk_eq, fa_lit, nI_add, nI_mul, nI_sub, nle_t, nle_f, nlt_t, nlt_f, neq_t, neq_f, neg_ne, neg_ne', if_true, if_false, ite_true, ite_false, Nat.zero_add, Nat.add_zero, ld0, ld1, ld2, ld3, ld4, ld5, ld6, ld7, ld8, ld9, ld10, ld11, ld12, ld13, ld14, ld15, ld16, ld17, ld18, ld19, ld20, ld21, ld22, ld23, ld24, ld25, ld26, ld27, ld28, ld29, ld30, ld31, ld32, ld33, ld34, ld35, ld36, ld37, ld38, ld39, ld40, ld41, ld42, ld43, ld44, ld45, ld46, ld47, ld48, ld100, ld101, ld102, ld103, ld104, ld105, gF, h2, q1]
      · obtain ⟨a', c3, e1, e2, pr, ok⟩ := ad_ok hn hb2 hC ((okM_w rfl rfl hc).mpr ho) (by omega)
        refine ⟨nI 0, a', c3, ?_, e2, pr.1, pr.2.1, pr.2.2, Or.inl ⟨_, ok⟩, fun t' ht' => ⟨t, ?_, ho⟩⟩
        · unfold Rd_oneOf
          simp (disch := omega) only [bd_some, bd_none, lt_eq, lk_eq, fa_lit, nI_add, nI_mul, nI_sub, nle_t, nle_f, nlt_t, nlt_f, neq_t, neq_f, neg_ne, neg_ne', if_true, if_false, ite_true, ite_false, Nat.zero_add, Nat.add_zero, ld0, ld1, ld2, ld3, ld4, ld5, ld6, ld7, ld8, ld9, ld10, ld11, ld12, ld13, ld14, ld15, ld16, ld17, ld18, ld19, ld20, ld21, ld22, ld23, ld24, ld25, ld26, ld27, ld28, ld29, ld30, ld31, ld32, ld33, ld34, ld35, ld36, ld37, ld38, ld39, ld40, ld41, ld42, ld43, ld44, ld45, ld46, ld47, ld48, ld100, ld101, ld102, ld103, ld104, ld105, gF, h4, hk, c1, e1]
        · have := ht'.2.2.2.1
          rw [ok.2.2.2.1] at this
          have := (nI_eq (by omega) (by have := ht'.2.2.1; omega)).mp this
          omega
    · obtain ⟨a', c', e1, e2, pr, fl⟩ := bl_ok hn hA ho (f := 1) (by decide) (by decide)
      obtain ⟨g1, g2⟩ := ad_fl fl
      have fl2 := fl
      obtain ⟨f, u, l1, l2, l3, l4, l5, l6, l7⟩ := fl2
      have q1 : ∃ z, z ≠ 2 ∧ z < 5 ∧ c.1 860 0 0 = nI z := by
        rcases (show kT b n (plT b n t) < 14 ∨ kT b n (plT b n t) = 14 ∨ kT b n (plT b n t) = 15 ∨ kT b n (plT b n t) = 17 ∨ kT b n (plT b n t) = 18 by omega) with e | e | e | e | e
        · exact ⟨0, by decide, by decide, (s1 e).1⟩
        · exact ⟨0, by decide, by decide, (s2 e).1⟩
        · exact ⟨1, by decide, by decide, (s3 e).1⟩
        · exact ⟨3, by decide, by decide, s5 e⟩
        · exact ⟨4, by decide, by decide, s6 e⟩
      obtain ⟨z, z1, z2, q1⟩ := q1
      refine ⟨nI 0, c', ?_, pr.2.2, fun c2 hc hC => ?_⟩
      · unfold Mo_isEnd
        simp (disch := omega) only [bd_some, bd_none, lt_eq, lk_eq, fa_lit, nI_add, nI_mul, nI_sub, nle_t, nle_f, nlt_t, nlt_f, neq_t, neq_f, neg_ne, neg_ne', if_true, if_false, ite_true, ite_false, Nat.zero_add, Nat.add_zero, ld0, ld1, ld2, ld3, ld4, ld5, ld6, ld7, ld8, ld9, ld10, ld11, ld12, ld13, ld14, ld15, ld16, ld17, ld18, ld19, ld20, ld21, ld22, ld23, ld24, ld25, ld26, ld27, ld28, ld29, ld30, ld31, ld32, ld33, ld34, ld35, ld36, ld37, ld38, ld39, ld40, ld41, ld42, ld43, ld44, ld45, ld46, ld47, ld48, ld100, ld101, ld102, ld103, ld104, ld105, gF, h2, q1, e2, l5]
      · have fl3 := (flM_w (a := a') (a' := a') rfl rfl rfl hc).mpr fl
        refine ⟨nI (kT b n (plT b n t)) - nI 16, a', c2, ?_, (ad_fl fl3).2, pr.1, pr.2.1, FrK.rf c2, Or.inr fl3, fun t ht => absurd fl3 ht.nf⟩
        unfold Rd_oneOf
        rcases Nat.lt_or_ge (kT b n (plT b n t)) 16 with c2 | c2
        · simp (disch := omega) only [bd_some, lk_eq, fa_lit, gF, h4, ld22, hk, nlt_t, if_true, e1, g1]
        · simp (disch := omega) only [bd_some, lk_eq, fa_lit, gF, h4, ld22, hk, nlt_f, nle_f, if_false, e1, g1]
def LnR (r t : Nat) (a c : ST) (b : Nat → Nat) (n : Nat) (f g : Option ST) : Prop := ∃ a1 c1 v a2 c2, f = some a1 ∧ g = some c1 ∧ Rd_oneOf a1 16 16 = some (v, a2) ∧ Mo_goOn c1 = some c2 ∧ FrK (cb r) a a2 ∧ FrK mb c c2 ∧ TA a2 b n ∧ CN c2 b n ∧ XM a2 c2 b n ∧ ∀ t', okM a2 c2 b n t' → t < t' ∧ (∃ L P S, D a2 c2 r L P S) ∧ a2.1 528 r = a.1 528 r ∧ c2.1 870 0 = c.1 870 0
theorem ln_fl {a1 c1 : ST} {f g : Option ST} (e1 : f = some a1) (e2 : g = some c1) (h1 : FrK (cb r) a a1) (h2 : FrK mb c c1) (hA : TA a1 b n) (hC : CN c1 b n) (h : flM a1 c1) : LnR r t a c b n f g := by
  have hf := h
  obtain ⟨e3, _⟩ := bl_fl h 1
  obtain ⟨e4, e5⟩ := ad_fl h
  obtain ⟨f, u, g1, g2, g3, g4, g5, g6, g7⟩ := h
  refine ⟨a1, c1, a1.1 22 0 u - nI 16, a1, c1, e1, e2, ?_, e5, h1, h2, hA, hC, Or.inr hf, fun t ht => absurd hf ht.nf⟩
  unfold Rd_oneOf
  show bd_ (ldI a1 22 0 (a1.1 460 0 0)) _ = _
  rw [g7, ld22 (by omega), bd_some]
  simp only [lk_eq, e3, bd_some, e4, ite_self]
  rfl
theorem TA.w (h : TA a b n) (h1 : a'.1 22 0 = a.1 22 0) (h2 : a'.1 23 0 = a.1 23 0) (h3 : a'.2.1 104 0 = a.2.1 104 0) : TA a' b n := by
  intro t ht
  have := h t ht
  unfold TK1 at this ⊢
  rw [h1, h2, h3]
  exact this
theorem CN.w (h : CN c b n) (h1 : c'.1 857 0 = c.1 857 0) (h2 : c'.1 28 0 = c.1 28 0) : CN c' b n := by
  unfold CN at h ⊢
  rw [h1, h2]
  exact h
theorem lands (hn : n ≤ 900) (hb2 : ∀ j, b j < 256) (hA : TA a b n) (hC : CN c b n) (h : okM a c b n t) (hk : kT b n (plT b n t) ≠ 17) (d : D a c r L P S) : LnR r t a c b n (Rd_readLand a r) (Mo_readLand c) := by
  obtain ⟨d1, d2, d3, d4, d5, d6, d7, d8, d9, d10, d11, d12, d13, d14, d15, d16, d17, d18, d19, d20, d21, d22⟩ := id d
  have x1 : gF a 529 r = nI L := d5
  have x2 : gF c 867 0 = nI L := d6
  rcases Nat.lt_or_ge L 6 with cL | cL
  rotate_left
  · have eL : L = 6 := by omega
    obtain ⟨a1, c1, e1, e2, pr, fl⟩ := bl_ok hn hA h (f := 2) (by decide) (by decide)
    refine ln_fl (a1 := a1) (c1 := c1) ?_ ?_ (cc_cb pr.1) (mc_mb pr.2.2) (hA.pr pr.1 pr.2.1) (hC.pr pr.2.2) fl
    · unfold Rd_readLand
      rw [lt_eq, x1, eL, if_neg (by decide)]
      show bd_ (Rd_blame a (nI 2)) _ = _
      rw [e1, bd_some]
    · unfold Mo_readLand
      rw [lt_eq, x2, eL, if_pos (by decide)]
      show bd_ (Mo_wrong c (nI 2)) _ = _
      rw [e2, bd_some]
  obtain ⟨v0, a1, a2, c2, e1, e2, e3, f2, l2, g2, X2, I2⟩ := newN (r := r) hn hb2 hA hC h hk d (k1 := 36) (e := L) (by decide) cL (by decide)
  have hA3 : TA (setL a2 101 0 (vp_updL (a2.2.1 101 0) L v0)) b n := (hA.pr f2 l2).w rfl rfl (rL_ne (by decide))
  have hC2 : CN c2 b n := hC.w (g2.2 857 0 rfl) (g2.2 28 0 rfl)
  obtain ⟨v1, w1, a4, c4, e4, e5, pr4, X4, I4⟩ := ones hn hb2 hA3 hC2 X2 (x := 6) (m := 3) (by decide) (by decide)
  have hA5 : TA (setR a4 14 r (upd (a4.1 14 r) L v1)) b n := (hA3.pr pr4.1 pr4.2.1).w (rd_ne (by decide)) (rd_ne (by decide)) rfl
  have hC5 : CN (setR c4 39 0 (upd (c4.1 39 0) L w1)) b n := (hC2.pr pr4.2.2).w (rd_ne (by decide)) (rd_ne (by decide))
  have k5 : ∀ k, 858 ≤ k → k ≤ 864 → (setR c4 39 0 (upd (c4.1 39 0) L w1)).1 k 0 = c4.1 k 0 := fun k h1 h2 => rd_ne (by omega)
  have X5 : XM (setR a4 14 r (upd (a4.1 14 r) L v1)) (setR c4 39 0 (upd (c4.1 39 0) L w1)) b n := XM_w (rd_ne (by decide)) (rd_ne (by decide)) (rd_ne (by decide)) k5 X4
  obtain ⟨v2, w2, a6, c6, e6, e7, pr6, X6, I6⟩ := ones hn hb2 hA5 hC5 X5 (x := 9) (m := 3) (by decide) (by decide)
  generalize hv2 : (if v2 = 0 then 3 else v2) = v2' at *
  generalize hw2 : (if w2 = 0 then 3 else w2) = w2' at *
  have hA7 : TA (setR a6 15 r (upd (a6.1 15 r) L v2')) b n := (hA5.pr pr6.1 pr6.2.1).w (rd_ne (by decide)) (rd_ne (by decide)) rfl
  have hC7 : CN (setR c6 40 0 (upd (c6.1 40 0) L w2')) b n := (hC5.pr pr6.2.2).w (rd_ne (by decide)) (rd_ne (by decide))
  have k7 : ∀ k, 858 ≤ k → k ≤ 864 → (setR c6 40 0 (upd (c6.1 40 0) L w2')).1 k 0 = c6.1 k 0 := fun k h1 h2 => rd_ne (by omega)
  have X7 : XM (setR a6 15 r (upd (a6.1 15 r) L v2')) (setR c6 40 0 (upd (c6.1 40 0) L w2')) b n := XM_w (rd_ne (by decide)) (rd_ne (by decide)) (rd_ne (by decide)) k7 X6
  obtain ⟨v3, w3, a8, c8, e8, e9, pr8, X8, I8⟩ := nums hn hb2 hA7 hC7 X7 (lo := 1) (hi := 999) (by decide) (by decide)
  have k9 : ∀ k, 858 ≤ k → k ≤ 864 → (setR c8 41 0 (upd (c8.1 41 0) L w3)).1 k 0 = c8.1 k 0 := fun k h1 h2 => rd_ne (by omega)
  have hA10 : TA (setF (setR a8 13 r (upd (a8.1 13 r) L v3)) 529 r (nI (L + 1))) b n := (hA7.pr pr8.1 pr8.2.1).w ((rf_ne (by decide)).trans (rd_ne (by decide))) ((rf_ne (by decide)).trans (rd_ne (by decide))) rfl
  have p60 : (setF (setR a8 13 r (upd (a8.1 13 r) L v3)) 529 r (nI (L + 1))).1 460 0 = a8.1 460 0 := (rf_ne (by decide)).trans (rd_ne (by decide))
  have p63 : (setF (setR a8 13 r (upd (a8.1 13 r) L v3)) 529 r (nI (L + 1))).1 463 0 = a8.1 463 0 := (rf_ne (by decide)).trans (rd_ne (by decide))
  have p64 : (setF (setR a8 13 r (upd (a8.1 13 r) L v3)) 529 r (nI (L + 1))).1 464 0 = a8.1 464 0 := (rf_ne (by decide)).trans (rd_ne (by decide))
  have X9 : XM (setF (setR a8 13 r (upd (a8.1 13 r) L v3)) 529 r (nI (L + 1))) (setR c8 41 0 (upd (c8.1 41 0) L w3)) b n := XM_w p60 p63 p64 k9 X8
  obtain ⟨w4, c10, e10, g10, K10⟩ := endL hn hb2 hA10 X9
  have hC10 : CN c10 b n := ((hC7.pr pr8.2.2).w (c' := setR c8 41 0 (upd (c8.1 41 0) L w3)) (rd_ne (by decide)) (rd_ne (by decide))).pr g10
  have hC11 : CN (setF c10 867 0 (nI (L + 1))) b n := hC10.w (rf_ne (by decide)) (rf_ne (by decide))
  obtain ⟨v4, a12, c13, e12, e13, f12, l12, g12, X12, I12⟩ := K10 (setF c10 867 0 (nI (L + 1))) (fun k h1 h2 => rf_ne (by omega)) hC11
  have z1 : a8.1 529 r 0 = nI L := by rw [pr8.1.2 529 r rfl, rd_ne (by decide), pr6.1.2 529 r rfl, rd_ne (by decide), pr4.1.2 529 r rfl, rl_eq, f2.2 529 r rfl]; exact d5
  have z2 : c10.1 867 0 0 = nI L := by rw [g10.2 867 0 rfl, rd_ne (by decide), pr8.2.2.2 867 0 rfl, rd_ne (by decide), pr6.2.2.2 867 0 rfl, rd_ne (by decide), pr4.2.2.2 867 0 rfl, g2.2 867 0 rfl]; exact d6
  refine ⟨_, _, v4, a12, c13, ?_, ?_, e12, e13, ?_, ?_, hA10.pr f12 l12, hC11.pr g12, X12, fun t' ht' => ?_⟩
  · unfold Rd_readLand
    have y1 : gF (setR a8 13 r (upd (a8.1 13 r) L v3)) 529 r + 1 = nI (L + 1) := by
      show (setR a8 13 r _).1 529 r 0 + 1 = _
      rw [rd_ne (by decide), z1]
      exact nI_add _ _
    have e4' : Rd_oneOf (setL a2 101 0 (vp_updL (a2.2.1 101 0) L v0)) 6 8 = some (v1, a4) := e4
    have e6' : Rd_oneOf (setR a4 14 r (upd (a4.1 14 r) L v1)) 9 11 = some (v2, a6) := e6
    have e8' : Rd_numberIn (setR a6 15 r (upd (a6.1 15 r) L v2')) 1 999 = some (v3, a8) := e8
    rw [lt_eq, x1, if_pos (show nI L < (6 : Int32) from of_eq_true (nlt_t (b := 6) cL (by decide))), e1, bd_some, e2, bd_some]
    show bd_ (stL a2 101 0 (nI L) v0) _ = _
    rw [st101 cL, bd_some, e4', bd_some]
    show bd_ (stI a4 14 r (nI L) v1) _ = _
    rw [st14 cL, bd_some, e6', bd_some, lk_eq]
    show (if v2 = 0 then bd_ (stI a6 15 r (nI L) 3) _ else bd_ (stI a6 15 r (nI L) v2) _) = _
    have fin : (bd_ (stI a6 15 r (nI L) v2') (fun s11 => bd_ (Rd_numberIn s11 1 999) (fun q12 => bd_ (stI q12.2 13 r (nI L) q12.1) (fun s13 => lt_ (setF s13 529 r ((gF s13 529 r) + 1)) (fun s14 => some s14))))) = some (setF (setR a8 13 r (upd (a8.1 13 r) L v3)) 529 r (nI (L + 1))) := by
      rw [st15 cL, bd_some, e8', bd_some]
      show bd_ (stI a8 13 r (nI L) v3) _ = _
      rw [st13 cL, bd_some, lt_eq, y1]
    by_cases cz : v2 = 0
    · rw [if_pos cz] at hv2 ⊢
      rw [hv2]
      exact fin
    · rw [if_neg cz] at hv2 ⊢
      rw [hv2]
      exact fin
  · unfold Mo_readLand
    have y1 : gF c10 867 0 + 1 = nI (L + 1) := by
      show c10.1 867 0 0 + 1 = _
      rw [z2]
      exact nI_add _ _
    have e5' : Mo_among c2 6 3 = some (w1, c4) := e5
    have e7' : Mo_among (setR c4 39 0 (upd (c4.1 39 0) L w1)) 9 3 = some (w2, c6) := e7
    have e9' : Mo_number (setR c6 40 0 (upd (c6.1 40 0) L w2')) 1 999 = some (w3, c8) := e9
    rw [lt_eq, x2, if_neg (show ¬ nI L = (6 : Int32) from of_eq_false (neq_f (b := 6) (by omega) (by omega) (by decide))), e3, bd_some, e5', bd_some]
    show bd_ (stI c4 39 0 (nI L) w1) _ = _
    rw [st39 cL, bd_some, e7', bd_some, lk_eq]
    show (if w2 = 0 then bd_ (stI c6 40 0 (nI L) 3) _ else bd_ (stI c6 40 0 (nI L) w2) _) = _
    have fin : (bd_ (stI c6 40 0 (nI L) w2') (fun s9 => bd_ (Mo_number s9 1 999) (fun q10 => bd_ (stI q10.2 41 0 (nI L) q10.1) (fun s11 => bd_ (Mo_isEnd s11) (fun q12 => lt_ (setF q12.2 867 0 ((gF q12.2 867 0) + 1)) (fun s13 => some s13)))))) = some (setF c10 867 0 (nI (L + 1))) := by
      rw [st40 cL, bd_some, e9', bd_some]
      show bd_ (stI c8 41 0 (nI L) w3) _ = _
      rw [st41 cL, bd_some, e10, bd_some, lt_eq]
      show some (setF c10 867 0 (gF c10 867 0 + 1)) = _
      rw [y1]
    by_cases cz : w2 = 0
    · rw [if_pos cz] at hw2 ⊢
      rw [hw2]
      exact fin
    · rw [if_neg cz] at hw2 ⊢
      rw [hw2]
      exact fin
  · exact (((((((((cc_cb f2).tr (FrK.setL a2 _ _ _)).tr (cc_cb pr4.1)).tr (FrK.setR a4 _ (cbk rfl))).tr (cc_cb pr6.1)).tr (FrK.setR a6 _ (cbk rfl))).tr (cc_cb pr8.1)).tr (FrK.setR a8 _ (cbk rfl))).tr (FrK.setF _ _ (cbk rfl))).tr (cc_cb f12)
  · have g2' : FrK mb c c2 := g2.mono (fun k i hk => by
      unfold mb at hk
      unfold mk1 mc
      simp only [Bool.or_eq_false_iff, decide_eq_false_iff_not] at hk ⊢
      omega)
    exact ((((((((g2'.tr (mc_mb pr4.2.2)).tr (FrK.setR c4 _ rfl)).tr (mc_mb pr6.2.2)).tr (FrK.setR c6 _ rfl)).tr (mc_mb pr8.2.2)).tr (FrK.setR c8 _ rfl)).tr (mc_mb g10)).tr (FrK.setF c10 _ rfl)).tr (mc_mb g12)
  · obtain ⟨t9, q1, ok9⟩ := I12 t' ht'
    obtain ⟨t7, u3, q2, ok7, b1, b2, rfl, rfl⟩ := I8 t9 ((okM_w p60 p63 k9).mp ok9)
    obtain ⟨t5, u2, q3, ok5, b3, q4, q5⟩ := I6 t7 ((okM_w (rd_ne (by decide)) (rd_ne (by decide)) k7).mp ok7)
    obtain ⟨t3, u1, q6, ok3, b4, rfl, rfl⟩ := I4 t5 ((okM_w (rd_ne (by decide)) (rd_ne (by decide)) k5).mp ok5)
    obtain ⟨q7, u0, b5, rfl, q8⟩ := I2 t3 ok3
    have hj : ∃ j, (1 ≤ j ∧ j ≤ 3) ∧ v2' = nI j ∧ w2' = nI j := by
      rw [← hv2, ← hw2, q4, q5]
      by_cases c0 : u2 = 0
      · exact ⟨3, by decide, by rw [if_pos (by rw [c0]; rfl)]; rfl, by rw [if_pos (by rw [c0]; rfl)]; rfl⟩
      · have : ¬ nI u2 = (0 : Int32) := of_eq_false (neq_f (b := 0) c0 (by omega) (by decide))
        exact ⟨u2, by omega, if_neg this, if_neg this⟩
    obtain ⟨j, b6, rfl, rfl⟩ := hj
    refine ⟨by omega, ⟨L + 1, P, S, ?_⟩, ?_, ?_⟩
    · have hlong : a12.2.1 = (setL a2 101 0 (vp_updL (a2.2.1 101 0) L (lN u0))).2.1 := l12.trans (pr8.2.1.trans (pr6.2.1.trans pr4.2.1))
      unfold D
      have c1 := f12
      have c3 := pr8.1
      have c5 := pr6.1
      have c7 := pr4.1
      have m1 := g12
      have m3 := pr8.2.2
      have m5 := pr6.2.2
      have m7 := pr4.2.2
      simp (disch := decide) only [hlong, rL_eq, rL_ne, c1.2 13 r rfl, c1.2 14 r rfl, c1.2 15 r rfl, c1.2 16 r rfl, c1.2 17 r rfl, c1.2 18 r rfl, c1.2 19 r rfl, c1.2 20 r rfl, c1.2 529 r rfl, c1.2 530 r rfl, c1.2 531 r rfl, c1.2 532 r rfl, c1.2 533 r rfl, c1.2 461 0 rfl, c1.2 462 0 rfl, c3.2 13 r rfl, c3.2 14 r rfl, c3.2 15 r rfl, c3.2 16 r rfl, c3.2 17 r rfl, c3.2 18 r rfl, c3.2 19 r rfl, c3.2 20 r rfl, c3.2 529 r rfl, c3.2 530 r rfl, c3.2 531 r rfl, c3.2 532 r rfl, c3.2 533 r rfl, c3.2 461 0 rfl, c3.2 462 0 rfl, c5.2 13 r rfl, c5.2 14 r rfl, c5.2 15 r rfl, c5.2 16 r rfl, c5.2 17 r rfl, c5.2 18 r rfl, c5.2 19 r rfl, c5.2 20 r rfl, c5.2 529 r rfl, c5.2 530 r rfl, c5.2 531 r rfl, c5.2 532 r rfl, c5.2 533 r rfl, c5.2 461 0 rfl, c5.2 462 0 rfl, c7.2 13 r rfl, c7.2 14 r rfl, c7.2 15 r rfl, c7.2 16 r rfl, c7.2 17 r rfl, c7.2 18 r rfl, c7.2 19 r rfl, c7.2 20 r rfl, c7.2 529 r rfl, c7.2 530 r rfl, c7.2 531 r rfl, c7.2 532 r rfl, c7.2 533 r rfl, c7.2 461 0 rfl, c7.2 462 0 rfl, f2.2 13 r rfl, f2.2 14 r rfl, f2.2 15 r rfl, f2.2 16 r rfl, f2.2 17 r rfl, f2.2 18 r rfl, f2.2 19 r rfl, f2.2 20 r rfl, f2.2 529 r rfl, f2.2 530 r rfl, f2.2 531 r rfl, f2.2 532 r rfl, f2.2 533 r rfl, f2.2 461 0 rfl, f2.2 462 0 rfl, m1.2 36 0 rfl, m1.2 37 0 rfl, m1.2 38 0 rfl, m1.2 39 0 rfl, m1.2 40 0 rfl, m1.2 41 0 rfl, m1.2 42 0 rfl, m1.2 43 0 rfl, m1.2 44 0 rfl, m1.2 45 0 rfl, m1.2 46 0 rfl, m1.2 867 0 rfl, m1.2 868 0 rfl, m1.2 869 0 rfl, m1.2 871 0 rfl, m1.2 872 0 rfl, m1.2 873 0 rfl, m1.2 874 0 rfl, g10.2 36 0 rfl, g10.2 37 0 rfl, g10.2 38 0 rfl, g10.2 39 0 rfl, g10.2 40 0 rfl, g10.2 41 0 rfl, g10.2 42 0 rfl, g10.2 43 0 rfl, g10.2 44 0 rfl, g10.2 45 0 rfl, g10.2 46 0 rfl, g10.2 867 0 rfl, g10.2 868 0 rfl, g10.2 869 0 rfl, g10.2 871 0 rfl, g10.2 872 0 rfl, g10.2 873 0 rfl, g10.2 874 0 rfl, m3.2 36 0 rfl, m3.2 37 0 rfl, m3.2 38 0 rfl, m3.2 39 0 rfl, m3.2 40 0 rfl, m3.2 41 0 rfl, m3.2 42 0 rfl, m3.2 43 0 rfl, m3.2 44 0 rfl, m3.2 45 0 rfl, m3.2 46 0 rfl, m3.2 867 0 rfl, m3.2 868 0 rfl, m3.2 869 0 rfl, m3.2 871 0 rfl, m3.2 872 0 rfl, m3.2 873 0 rfl, m3.2 874 0 rfl, m5.2 36 0 rfl, m5.2 37 0 rfl, m5.2 38 0 rfl, m5.2 39 0 rfl, m5.2 40 0 rfl, m5.2 41 0 rfl, m5.2 42 0 rfl, m5.2 43 0 rfl, m5.2 44 0 rfl, m5.2 45 0 rfl, m5.2 46 0 rfl, m5.2 867 0 rfl, m5.2 868 0 rfl, m5.2 869 0 rfl, m5.2 871 0 rfl, m5.2 872 0 rfl, m5.2 873 0 rfl, m5.2 874 0 rfl, m7.2 36 0 rfl, m7.2 37 0 rfl, m7.2 38 0 rfl, m7.2 39 0 rfl, m7.2 40 0 rfl, m7.2 41 0 rfl, m7.2 42 0 rfl, m7.2 43 0 rfl, m7.2 44 0 rfl, m7.2 45 0 rfl, m7.2 46 0 rfl, m7.2 867 0 rfl, m7.2 868 0 rfl, m7.2 869 0 rfl, m7.2 871 0 rfl, m7.2 872 0 rfl, m7.2 873 0 rfl, m7.2 874 0 rfl, g2.2 37 0 rfl, g2.2 38 0 rfl, g2.2 39 0 rfl, g2.2 40 0 rfl, g2.2 41 0 rfl, g2.2 42 0 rfl, g2.2 43 0 rfl, g2.2 44 0 rfl, g2.2 45 0 rfl, g2.2 46 0 rfl, g2.2 867 0 rfl, g2.2 868 0 rfl, g2.2 869 0 rfl, g2.2 871 0 rfl, g2.2 872 0 rfl, g2.2 873 0 rfl, g2.2 874 0 rfl, q8, rf_eq, rf_ne, rd_eq, rd_ne, rl_eq, l2]
      exact ⟨by omega, d2, d3, fun _ => by omega, trivial, trivial, d7, d8, d9, d10, d11, d12, d13, d14, d15.push b5, d16, d17, d18.push b4, d19.push b6, d20.push ⟨b1, b2⟩, d21.mono (fun v hv => Nat.lt_succ_of_lt hv), d22⟩
    · rw [f12.2 528 r rfl, rf_ne (by decide), rd_ne (by decide), pr8.1.2 528 r rfl, rd_ne (by decide), pr6.1.2 528 r rfl, rd_ne (by decide), pr4.1.2 528 r rfl, rl_eq, f2.2 528 r rfl]
    · rw [g12.2 870 0 rfl, rf_ne (by decide), g10.2 870 0 rfl, rd_ne (by decide), pr8.2.2.2 870 0 rfl, rd_ne (by decide), pr6.2.2.2 870 0 rfl, rd_ne (by decide), pr4.2.2.2 870 0 rfl, g2.2 870 0 rfl]
end Line

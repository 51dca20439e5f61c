/-! ===== all lines ===== -/
section All
variable {b : Nat → Nat} {n r : Nat}
theorem allLines (hn : n ≤ 900) (hb2 : ∀ j, b j < 256) : ∀ (j i : Nat) (a c : ST), i + j = 900 → TA a b n → CN c b n → XM a c b n → (∀ t, okM a c b n t → i ≤ t ∧ DL r a c t) → ∃ aE cE, (∀ (K : ST → Option (Int32 × ST)) (fu : Nat), j < fu → lp_ (fun rec12 (z11 : ST × Int32) => (if 900 ≤ z11.2 then K z11.1 else (if (gF z11.1 463 0) = 0 then bd_ (Rd_isAt z11.1 17) (fun q14 => (if q14 = 0 then bd_ (Rd_readLine z11.1 r) (fun q15 => rec12 (q15, (z11.2 + 1))) else K z11.1)) else K z11.1))) fu (a, nI i) = K aE) ∧ (∀ (K : ST → Option (Int32 × ST)) (fu : Nat), j < fu → lp_ (fun rec25 (z24 : ST) => (if (gF z24 863 0) = 0 then (if (gF z24 860 0) = 3 then K z24 else bd_ (Mo_readLine z24) (fun q27 => rec25 q27)) else K z24)) fu c = K cE) ∧ FrK (cb r) a aE ∧ FrK mb c cE ∧ XM aE cE b n ∧ ∀ t, okM aE cE b n t → DL r aE cE t := by
  have tn := (nT_ok b n).1
  intro j
  induction j with
  | zero =>
    intro i a c hi hA hC hX hs
    have ei : i = 900 := by omega
    have li : (900 : Int32) ≤ nI i := of_eq_true (nle_t (a := 900) (by omega) (by omega))
    refine ⟨a, c, fun K fu hf => ?_, fun K fu hf => ?_, FrK.rf a, FrK.rf c, hX, fun t ht => (hs t ht).2⟩
    · cases fu with
      | zero => omega
      | succ fu =>
        show (if (900 : Int32) ≤ nI i then K a else _) = _
        rw [if_pos li]
    · cases fu with
      | zero => omega
      | succ fu =>
        rcases hX with ⟨t, h⟩ | fl
        · have q1 := (hs t h).1
          have q2 := h.2.2.1
          have e17 : kT b n (plT b n t) = 17 := kT_17.mpr (by
            rw [show t = nT b n by omega, (nT_ok b n).2.1]
            exact Nat.le_refl _)
          show (if (gF c 863 0) = 0 then (if (gF c 860 0) = 3 then K c else _) else K c) = _
          rw [show gF c 863 0 = _ from h.2.1, if_pos (show nI 0 = (0 : Int32) from rfl), show gF c 860 0 = _ from h.2.2.2.2.2.2.2.2.2.2.1 e17, if_pos (show nI 3 = (3 : Int32) from rfl)]
        · obtain ⟨f, u, h1, h2, h3, h4, h5, h6, h7⟩ := id fl
          show (if (gF c 863 0) = 0 then _ else K c) = _
          rw [show gF c 863 0 = _ from h5, if_neg (of_eq_false (nf0 h1 (by omega)))]
  | succ j ih =>
    intro i a c hi hA hC hX hs
    have li : ¬ (900 : Int32) ≤ nI i := of_eq_false (nle_f (a := 900) (by omega) (by omega))
    rcases hX with ⟨t, h⟩ | fl
    rotate_left
    · obtain ⟨f, u, h1, h2, h3, h4, h5, h6, h7⟩ := id fl
      refine ⟨a, c, fun K fu hf => ?_, fun K fu hf => ?_, FrK.rf a, FrK.rf c, Or.inr fl, fun t ht => absurd fl ht.nf⟩
      · cases fu with
        | zero => omega
        | succ fu =>
          show (if (900 : Int32) ≤ nI i then K a else (if (gF a 463 0) = 0 then _ else K a)) = _
          rw [if_neg li, show gF a 463 0 = _ from h4, if_neg (of_eq_false (nf0 h1 (by omega)))]
      · cases fu with
        | zero => omega
        | succ fu =>
          show (if (gF c 863 0) = 0 then _ else K c) = _
          rw [show gF c 863 0 = _ from h5, if_neg (of_eq_false (nf0 h1 (by omega)))]
    · have ia : Rd_isAt a 17 = _ := isAt_eq hn hA h (x := 17) (by decide)
      have g63 : gF a 463 0 = nI 0 := h.1.1
      have y63 : gF c 863 0 = nI 0 := h.2.1
      obtain ⟨h1, h2, h3, h4, h5, h6, s1, s2, s3, s4, s5, s6⟩ := id h
      by_cases c17 : kT b n (plT b n t) = 17
      · rw [decide_eq_true c17, b01_t] at ia
        refine ⟨a, c, fun K fu hf => ?_, fun K fu hf => ?_, FrK.rf a, FrK.rf c, Or.inl ⟨t, h⟩, fun t ht => (hs t ht).2⟩
        · cases fu with
          | zero => omega
          | succ fu =>
            show (if (900 : Int32) ≤ nI i then K a else (if (gF a 463 0) = 0 then bd_ (Rd_isAt a 17) (fun q14 => (if q14 = 0 then _ else K a)) else K a)) = _
            rw [if_neg li, g63, if_pos (show nI 0 = (0 : Int32) from rfl), ia, bd_some, if_neg (show ¬ nI 1 = (0 : Int32) by decide)]
        · cases fu with
          | zero => omega
          | succ fu =>
            show (if (gF c 863 0) = 0 then (if (gF c 860 0) = 3 then K c else _) else K c) = _
            rw [y63, if_pos (show nI 0 = (0 : Int32) from rfl), show gF c 860 0 = _ from s5 c17, if_pos (show nI 3 = (3 : Int32) from rfl)]
      · rw [decide_eq_false c17, b01_f] at ia
        have kl := kT_lt b n (plT b n t)
        have q60 : ¬ gF c 860 0 = (3 : Int32) := by
          rcases (show kT b n (plT b n t) < 14 ∨ kT b n (plT b n t) = 14 ∨ kT b n (plT b n t) = 15 ∨ kT b n (plT b n t) = 16 ∨ kT b n (plT b n t) = 18 by omega) with e | e | e | e | e
          · rw [show gF c 860 0 = _ from (s1 e).1]; decide
          · rw [show gF c 860 0 = _ from (s2 e).1]; decide
          · rw [show gF c 860 0 = _ from (s3 e).1]; decide
          · rw [show gF c 860 0 = _ from s4 e]; decide
          · rw [show gF c 860 0 = _ from s6 e]; decide
        obtain ⟨a', c', e1, e2, f1, g1, hA', hC', X', I'⟩ := lines (r := r) hn hb2 hA hC h c17 (hs t h).2
        have ti := (hs t h).1
        obtain ⟨aE, cE, w1, w2, w3, w4, w5, w6⟩ := ih (i + 1) a' c' (by omega) hA' hC' X' (fun t' ht' => ⟨by have := (I' t' ht').1; omega, (I' t' ht').2⟩)
        refine ⟨aE, cE, fun K fu hf => ?_, fun K fu hf => ?_, f1.tr w3, g1.tr w4, w5, w6⟩
        · cases fu with
          | zero => omega
          | succ fu =>
            show (if (900 : Int32) ≤ nI i then K a else (if (gF a 463 0) = 0 then bd_ (Rd_isAt a 17) (fun q14 => (if q14 = 0 then bd_ (Rd_readLine a r) (fun q15 => lp_ _ fu (q15, (nI i + nI 1))) else K a)) else K a)) = _
            rw [if_neg li, g63, if_pos (show nI 0 = (0 : Int32) from rfl), ia, bd_some, if_pos (show nI 0 = (0 : Int32) from rfl), e1, bd_some, nI_add]
            exact w1 K fu (by omega)
        · cases fu with
          | zero => omega
          | succ fu =>
            show (if (gF c 863 0) = 0 then (if (gF c 860 0) = 3 then K c else bd_ (Mo_readLine c) (fun q27 => lp_ _ fu q27)) else K c) = _
            rw [y63, if_pos (show nI 0 = (0 : Int32) from rfl), if_neg q60, e2, bd_some]
            exact w2 K fu (by omega)
end All
/-! the text, read on both sides -/
def ca (r k i : Nat) : Bool := cb r k i || f23 k i
def ma (k i : Nat) : Bool := mb k i || decide (k = 857)
theorem f23_ca {r : Nat} {a a' : ST} (h : FrK f23 a a') : FrK (ca r) a a' := h.mono (fun k i hk => by
  unfold ca at hk
  simp only [Bool.or_eq_false_iff] at hk
  exact hk.2)
theorem cb_ca {r : Nat} {a a' : ST} (h : FrK (cb r) a a') : FrK (ca r) a a' := h.mono (fun k i hk => by
  unfold ca at hk
  simp only [Bool.or_eq_false_iff] at hk
  exact hk.1)
theorem mb_ma {c c' : ST} (h : FrK mb c c') : FrK ma c c' := h.mono (fun k i hk => by
  unfold ma at hk
  simp only [Bool.or_eq_false_iff] at hk
  exact hk.1)
section Txt
variable {σ τ : ST} {b : Nat → Nat} {n N r : Nat}
theorem cbs {r k : Nat} (h : k = 461 ∨ k = 462) : cb r k 0 = true := by
  unfold cb
  rcases h with rfl | rfl <;> simp
/-- both readings -/
theorem readBoth (h52 : σ.1 652 0 0 = nI N) (hN : N ≤ 900) (hn : n ≤ N) (hb : BY (σ.1 21 0) b n) (hbt : BY (τ.1 28 0) b n) (hb2 : ∀ j, b j < 256) : ∃ aE cE, Rd_readText σ r (nI n) = (if (gF aE 463 0) = 0 then some (1, aE) else some (0, aE)) ∧ (∀ K : ST → Option (Int32 × ST), lt_ (setF τ 867 0 0) (fun s2 => lt_ (setF s2 868 0 0) (fun s3 => lt_ (setF s3 869 0 0) (fun s4 => lt_ (setF s4 870 0 0) (fun s5 => lt_ (setF s5 871 0 60) (fun s6 => lt_ (setF s6 872 0 3) (fun s7 => lt_ (setF s7 873 0 0) (fun s8 => lt_ (setF s8 874 0 0) (fun s9 => lt_ (setF s9 857 0 (nI n)) (fun s10 => lt_ (setF s10 858 0 0) (fun s11 => lt_ (setF s11 863 0 0) (fun s12 => bd_ (Mo_token s12) (fun q13 => lk_ (fun kk15 => lp_ (fun rec25 (z24 : ST) => (if (gF z24 863 0) = 0 then (if (gF z24 860 0) = 3 then kk15 z24 else bd_ (Mo_readLine z24) (fun q27 => rec25 q27)) else kk15 z24)) FU q13) K)))))))))))) = K cE) ∧ FrK (ca r) σ aE ∧ FrK ma τ cE ∧ aE.1 652 0 0 = nI 0 ∧ ((flM aE cE) ∨ (aE.1 463 0 0 = nI 0 ∧ aE.1 464 0 0 = -nI 1 ∧ cE.1 863 0 0 = nI 0 ∧ DL r aE cE 900)) := by
  have tn := (nT_ok b n).1
  obtain ⟨q1, e1, f1, s1, tk⟩ := Tp_takeTokens_eq h52 hN hn hb hb2
  have ha : ∃ a0, a0 = setF (setF (setF (setF (setF (setF (setF (setF (setF (setF (setF q1 528 r 0) 529 r 0) 530 r 0) 531 r 0) 532 r 60) 533 r 3) 460 0 0) 461 0 0) 462 0 0) 463 0 0) 464 0 (-1) := ⟨_, rfl⟩
  obtain ⟨a0, ha0⟩ := ha
  have fr0 : FrK (cb r) q1 a0 := by
    rw [ha0]
    exact ((((((((((FrK.setF q1 _ (cbk rfl)).tr (FrK.setF _ _ (cbk rfl))).tr (FrK.setF _ _ (cbk rfl))).tr (FrK.setF _ _ (cbk rfl))).tr (FrK.setF _ _ (cbk rfl))).tr (FrK.setF _ _ (cbk rfl))).tr (FrK.setF _ _ rfl)).tr (FrK.setF _ _ (cbs (by decide)))).tr (FrK.setF _ _ (cbs (by decide)))).tr (FrK.setF _ _ rfl)).tr (FrK.setF _ _ rfl)
  have hA0 : TA a0 b n := fun t ht => by
    have := tk t ht
    unfold TK1 at this ⊢
    rw [ha0]
    simp (disch := decide) only [rf_ne]
    exact this
  have hc : ∃ c0, c0 = setF (setF (setF (setF (setF (setF (setF (setF (setF (setF (setF τ 867 0 0) 868 0 0) 869 0 0) 870 0 0) 871 0 60) 872 0 3) 873 0 0) 874 0 0) 857 0 (nI n)) 858 0 0) 863 0 0 := ⟨_, rfl⟩
  obtain ⟨c0, hc0⟩ := hc
  have gr0 : FrK ma τ c0 := by
    rw [hc0]
    exact ((((((((((FrK.setF τ _ rfl).tr (FrK.setF _ _ rfl)).tr (FrK.setF _ _ rfl)).tr (FrK.setF _ _ rfl)).tr (FrK.setF _ _ rfl)).tr (FrK.setF _ _ rfl)).tr (FrK.setF _ _ rfl)).tr (FrK.setF _ _ rfl)).tr (FrK.setF _ _ rfl)).tr (FrK.setF _ _ rfl)).tr (FrK.setF _ _ rfl)
  have c57 : c0.1 857 0 0 = nI n := by rw [hc0]; simp (disch := decide) only [rf_ne, rf_eq]
  have c58 : c0.1 858 0 0 = nI 0 := by rw [hc0]; simp (disch := decide) only [rf_ne, rf_eq]; rfl
  have c63 : c0.1 863 0 0 = nI 0 := by rw [hc0]; simp (disch := decide) only [rf_eq]; rfl
  have hbc : BY (c0.1 28 0) b n := by rw [gr0.2 28 0 rfl]; exact hbt
  obtain ⟨c1, e2, g1, d1, d2, d3⟩ := Mo_token_eq c57 c58 (Nat.zero_le n) (by omega) hbc hb2
  have g1' : FrK mc c0 c1 := g1.mono (fun k i hk => by
    unfold mc at hk
    unfold f58
    simp only [decide_eq_false_iff_not] at hk ⊢
    omega)
  have hC1 : CN c1 b n := CN.pr ⟨c57, hbc⟩ g1'
  have ok0 : okM a0 c1 b n 0 := by
    refine ⟨⟨?_, ?_⟩, ?_, Nat.zero_le _, ?_, d1, d2, d3⟩
    · rw [ha0]; simp (disch := decide) only [rf_ne, rf_eq]; rfl
    · rw [ha0, rf_eq]; rfl
    · rw [g1.2 863 0 rfl]; exact c63
    · rw [ha0]; simp (disch := decide) only [rf_ne, rf_eq]; rfl
  have dl0 : DL r a0 c1 0 := by
    refine ⟨⟨0, 0, 0, ?_⟩, 0, Nat.le_refl 0, ?_, ?_⟩
    · unfold D
      rw [ha0]
      have r0 : ∀ (p : Nat → Prop) (f g : Nat → Int32), RW p f g 0 := fun p f g k hk => absurd hk (Nat.not_lt_zero k)
      have rl0 : ∀ (f : Nat → Int64) (g : Nat → Int32), RWL f g 0 := fun f g k hk => absurd hk (Nat.not_lt_zero k)
      have k67 : c1.1 867 0 = fun _ => 0 := by rw [g1'.2 867 0 rfl, hc0]; simp (disch := decide) only [rf_ne, rfx]
      have k68 : c1.1 868 0 = fun _ => 0 := by rw [g1'.2 868 0 rfl, hc0]; simp (disch := decide) only [rf_ne, rfx]
      have k69 : c1.1 869 0 = fun _ => 0 := by rw [g1'.2 869 0 rfl, hc0]; simp (disch := decide) only [rf_ne, rfx]
      have k71 : c1.1 871 0 = fun _ => 60 := by rw [g1'.2 871 0 rfl, hc0]; simp (disch := decide) only [rf_ne, rfx]
      have k72 : c1.1 872 0 = fun _ => 3 := by rw [g1'.2 872 0 rfl, hc0]; simp (disch := decide) only [rf_ne, rfx]
      have k73 : c1.1 873 0 = fun _ => 0 := by rw [g1'.2 873 0 rfl, hc0]; simp (disch := decide) only [rf_ne, rfx]
      have k74 : c1.1 874 0 = fun _ => 0 := by rw [g1'.2 874 0 rfl, hc0]; simp (disch := decide) only [rf_ne, rfx]
      simp (disch := decide) only [rf_ne, rfx, k67, k68, k69, k71, k72, k73, k74]
      exact ⟨by decide, by decide, by decide, fun h => h, rfl, rfl, rfl, rfl, rfl, rfl, fun _ _ => ⟨60, by decide, rfl, rfl⟩, fun _ _ => ⟨3, by decide, rfl, rfl⟩, fun _ _ => ⟨0, by decide, rfl, rfl⟩, fun _ _ => ⟨0, by decide, rfl, rfl⟩, rl0 _ _, rl0 _ _, rl0 _ _, r0 _ _ _, r0 _ _ _, r0 _ _ _, r0 _ _ _, fun s hs => absurd hs (Nat.not_lt_zero s)⟩
    · rw [ha0]; simp (disch := decide) only [rf_ne, rf_eq]; rfl
    · rw [g1'.2 870 0 rfl, hc0]; simp (disch := decide) only [rf_ne, rf_eq]; rfl
  obtain ⟨aE, cE, w1, w2, w3, w4, w5, w6⟩ := allLines (r := r) (by omega) hb2 900 0 a0 c1 rfl hA0 hC1 (Or.inl ⟨0, ok0⟩) (fun t ht => ⟨Nat.zero_le t, by
    have w1 := ht.2.2.2.1
    rw [ok0.2.2.2.1] at w1
    have w2 := (nI_eq (by decide) (by have := ht.2.2.1; omega)).mp w1
    rw [← w2]
    exact dl0⟩)
  refine ⟨aE, cE, ?_, fun K => ?_, ((f23_ca f1).tr (cb_ca fr0)).tr (cb_ca w3), (gr0.tr (mb_ma (mc_mb g1'))).tr (mb_ma w4), ?_, ?_⟩
  · unfold Rd_readText Rl_clear
    rw [e1, bd_some]
    simp only [lt_eq, bd_some, lk_eq]
    rw [← ha0]
    exact w1 (fun j8 => if (gF j8 463 0) = 0 then some (1, j8) else some (0, j8)) FU (by decide)
  · simp only [lt_eq]
    rw [← hc0, e2, bd_some, lk_eq]
    exact w2 K FU (by decide)
  · rw [w3.2 652 0 (by unfold cb cc dk; simp), fr0.2 652 0 (by unfold cb cc dk; simp)]
    exact s1
  · rcases w5 with ⟨t, h⟩ | fl
    · obtain ⟨z1, ln, z2, z3⟩ := w6 t h
      have := h.2.2.1
      exact Or.inr ⟨h.1.1, h.1.2, h.2.1, z1, ln, by omega, z3⟩
    · exact Or.inl fl
end Txt

/-! ===== a session's members and unknowns ===== -/
section Ses
variable {a c a' c' : ST} {b : Nat → Nat} {n t r L P S m : Nat}
theorem num_flA (h : flM a c) (x y : Int32) : ∃ v, Rd_numberIn a x y = some (v, a) := by
  obtain ⟨e1, e2⟩ := ad_fl h
  obtain ⟨e3, _⟩ := bl_fl h 1
  obtain ⟨e4, _⟩ := bl_fl h 2
  obtain ⟨f, u, h1, h2, h3, h4, h5, h6, h7⟩ := h
  refine ⟨(a.2.1 104 0 u).toInt32, ?_⟩
  unfold Rd_numberIn
  show bd_ (ldL a 104 0 (a.1 460 0 0)) _ = _
  rw [h7, ld104 (by omega), bd_some]
  rcases isAt_tot (x := 15) h7 h3 with e | e
  · rw [e, bd_some, lk_eq, if_pos (show nI 0 = (0 : Int32) from rfl)]
    simp only [e3, bd_some, e1]
  · rw [e, bd_some, lk_eq, if_neg (show ¬ nI 1 = (0 : Int32) by decide), lk_eq]
    simp only [e4, bd_some, e1, ite_self]
theorem TA.cl (h : TA a b n) (f : FrK (cl r) a a') (l : a'.2.1 = a.2.1) : TA a' b n := h.w (f.2 22 0 (clf rfl rfl)) (f.2 23 0 (clf rfl rfl)) (by rw [l])
theorem CN.ml (h : CN c b n) (f : FrK ml c c') : CN c' b n := h.w (f.2 857 0 rfl) (f.2 28 0 rfl)
theorem memLoop (hn : n ≤ 900) (hb2 : ∀ j, b j < 256) (hS : S < 8) (hP : P ≤ 16) : ∀ (j i : Nat) (a c : ST), i + j = 9 → TA a b n → CN c b n → a.1 530 r 0 = nI P → c.1 868 0 0 = nI P → RWL (a.2.1 102 0) (c.1 37 0) P → XM a c b n → (∀ t, okM a c b n t → SIn a c r S P i) → ∃ aE cE, (∀ (K : ST → Option ST) (fu : Nat), j < fu → lp_ (fun rec24 (z23 : ST × Int32) => (if 8 < z23.2 then K z23.1 else (if (gF z23.1 463 0) = 0 then bd_ (Rd_isAt z23.1 14) (fun q26 => (if q26 = 0 then K z23.1 else bd_ (Rd_readMember z23.1 r (nI S)) (fun q27 => rec24 (q27, (z23.2 + 1))))) else K z23.1))) fu (a, nI i) = K aE) ∧ (∀ (K : ST → Option ST) (fu : Nat), j < fu → lp_ (fun rec6 (z5 : ST) => bd_ (Mo_isOther z5) (fun q8 => (if q8 = 0 then K z5 else bd_ (Mo_readOne z5 (nI S)) (fun q22 => rec6 q22)))) fu c = K cE) ∧ FrK (cl r) a aE ∧ aE.2.1 = a.2.1 ∧ FrK ml c cE ∧ XM aE cE b n ∧ ∀ t, okM aE cE b n t → (∃ m, SIn aE cE r S P m) ∧ ∃ t0, t0 ≤ t ∧ okM a c b n t0 := by
  intro j
  induction j with
  | zero =>
    intro i a c hi hA hC y1 y2 hr hX hs
    have ei : i = 9 := by omega
    subst ei
    have fl : flM a c := by
      rcases hX with ⟨t, h⟩ | h
      · have := (hs t h).2.1
        omega
      · exact h
    refine ⟨a, c, fun K fu hf => ?_, fun K fu hf => ?_, FrK.rf a, rfl, FrK.rf c, hX, fun t ht => absurd fl ht.nf⟩
    · cases fu with
      | zero => omega
      | succ fu =>
        rfl
    · cases fu with
      | zero => omega
      | succ fu =>
        show bd_ (Mo_isOther c) (fun q8 => (if q8 = 0 then K c else _)) = _
        rw [isOther_fl fl, bd_some, if_pos (show nI 0 = (0 : Int32) from rfl)]
  | succ j ih =>
    intro i a c hi hA hC y1 y2 hr hX hs
    have li : ¬ (8 : Int32) < nI i := of_eq_false (nlt_f (a := 8) (by omega) (by decide))
    rcases hX with ⟨t, h⟩ | fl
    rotate_left
    · obtain ⟨f, u, h1, h2, h3, h4, h5, h6, h7⟩ := id fl
      have g63 : gF a 463 0 = nI f := h4
      refine ⟨a, c, fun K fu hf => ?_, fun K fu hf => ?_, FrK.rf a, rfl, FrK.rf c, Or.inr fl, fun t ht => absurd fl ht.nf⟩
      · cases fu with
        | zero => omega
        | succ fu =>
          show (if (8 : Int32) < nI i then K a else (if (gF a 463 0) = 0 then _ else K a)) = _
          rw [if_neg li, g63, if_neg (of_eq_false (nf0 h1 (by omega)))]
      · cases fu with
        | zero => omega
        | succ fu =>
          show bd_ (Mo_isOther c) (fun q8 => (if q8 = 0 then K c else _)) = _
          rw [isOther_fl fl, bd_some, if_pos (show nI 0 = (0 : Int32) from rfl)]
    · have g63 : gF a 463 0 = nI 0 := h.1.1
      have ia : Rd_isAt a 14 = _ := isAt_eq hn hA h (x := 14) (by decide)
      have io := isOther_eq h
      have si := hs t h
      by_cases c14 : kT b n (plT b n t) = 14
      rotate_left
      · rw [decide_eq_false c14, b01_f] at ia io
        refine ⟨a, c, fun K fu hf => ?_, fun K fu hf => ?_, FrK.rf a, rfl, FrK.rf c, Or.inl ⟨t, h⟩, fun t' ht' => ⟨⟨i, si⟩, t', Nat.le_refl _, ht'⟩⟩
        · cases fu with
          | zero => omega
          | succ fu =>
            show (if (8 : Int32) < nI i then K a else (if (gF a 463 0) = 0 then bd_ (Rd_isAt a 14) (fun q26 => (if q26 = 0 then K a else _)) else K a)) = _
            rw [if_neg li, g63, if_pos (show nI 0 = (0 : Int32) from rfl), ia, bd_some, if_pos (show nI 0 = (0 : Int32) from rfl)]
        · cases fu with
          | zero => omega
          | succ fu =>
            show bd_ (Mo_isOther c) (fun q8 => (if q8 = 0 then K c else _)) = _
            rw [io, bd_some, if_pos (show nI 0 = (0 : Int32) from rfl)]
      · rw [decide_eq_true c14, b01_t] at ia io
        obtain ⟨a', c', e1, e2, f1, l1, g1, X1, I1⟩ := member (r := r) hn hb2 hA hC h c14 hS hP y1 y2 hr si
        obtain ⟨aE, cE, w1, w2, w3, w4, w5, w6, w7⟩ := ih (i + 1) a' c' (by omega) (hA.cl f1 l1) (hC.ml g1) (by rw [f1.2 530 r (clf rfl rfl)]; exact y1) (by rw [g1.2 868 0 rfl]; exact y2) (by rw [l1, g1.2 37 0 rfl]; exact hr) X1 (fun t' ht' => (I1 t' ht').2.2)
        refine ⟨aE, cE, fun K fu hf => ?_, fun K fu hf => ?_, f1.tr w3, w4.trans l1, g1.tr w5, w6, fun t' ht' => ⟨(w7 t' ht').1, t, ?_, h⟩⟩
        · cases fu with
          | zero => omega
          | succ fu =>
            show (if (8 : Int32) < nI i then K a else (if (gF a 463 0) = 0 then bd_ (Rd_isAt a 14) (fun q26 => (if q26 = 0 then K a else bd_ (Rd_readMember a r (nI S)) (fun q27 => lp_ _ fu (q27, (nI i + nI 1))))) else K a)) = _
            rw [if_neg li, g63, if_pos (show nI 0 = (0 : Int32) from rfl), ia, bd_some, if_neg (show ¬ nI 1 = (0 : Int32) by decide), e1, bd_some, nI_add]
            exact w1 K fu (by omega)
        · cases fu with
          | zero => omega
          | succ fu =>
            show bd_ (Mo_isOther c) (fun q8 => (if q8 = 0 then K c else bd_ (Mo_readOne c (nI S)) (fun q22 => lp_ _ fu q22))) = _
            rw [io, bd_some, if_neg (show ¬ nI 1 = (0 : Int32) by decide), e2, bd_some]
            exact w2 K fu (by omega)
        · obtain ⟨t0, q1, q2⟩ := (w7 t' ht').2
          have := (I1 t0 q2).1
          omega
def c18 (r k i : Nat) : Bool := cc k i || (decide (k = 18) && decide (i = r))
def m46 (k i : Nat) : Bool := mc k i || decide (k = 46)
theorem c18k {r : Nat} : c18 r 18 r = true := by unfold c18; simp
theorem c18f {r k i : Nat} (h1 : cc k i = false) (h2 : decide (k = 18) = false) : c18 r k i = false := by
  unfold c18
  rw [h1, h2]
  rfl
theorem cc_c18 {r : Nat} {a a' : ST} (h : FrK cc a a') : FrK (c18 r) a a' := h.mono (fun k i hk => by
  unfold c18 at hk
  simp only [Bool.or_eq_false_iff] at hk
  exact hk.1)
theorem mc_m46 {c c' : ST} (h : FrK mc c c') : FrK m46 c c' := h.mono (fun k i hk => by
  unfold m46 at hk
  simp only [Bool.or_eq_false_iff] at hk
  exact hk.1)
theorem unks (hn : n ≤ 900) (hb2 : ∀ j, b j < 256) (hS : S < 8) (hA : TA a b n) (hC : CN c b n) (hX : XM a c b n) (h18 : a.1 18 r S = nI 0) (h46 : c.1 46 0 S = nI 0) : ∃ aU cU, (∀ K : ST → Option ST, bd_ (Rd_isAt a 3) (fun q10 => lk_ (fun kk12 => (if q10 = 0 then kk12 a else bd_ (Rd_advance a) (fun q20 => bd_ (Rd_numberIn q20 1 5) (fun q21 => bd_ (stI q21.2 18 r (nI S) q21.1) (fun s22 => kk12 s22))))) K) = K aU) ∧ (∀ K : ST → Option ST, lk_ (fun kk10 => (if (gF c 863 0) = 0 then (if (gF c 860 0) = 0 then (if (gF c 861 0) = 3 then bd_ (Mo_goOn c) (fun q19 => bd_ (Mo_number q19 1 5) (fun q20 => bd_ (stI q20.2 46 0 (nI S) q20.1) (fun s21 => kk10 s21))) else kk10 c) else kk10 c) else kk10 c)) K = K cU) ∧ FrK (c18 r) a aU ∧ aU.2.1 = a.2.1 ∧ FrK m46 c cU ∧ XM aU cU b n ∧ (∀ s, s ≠ S → aU.1 18 r s = a.1 18 r s) ∧ (∀ s, s ≠ S → cU.1 46 0 s = c.1 46 0 s) ∧ ∀ t, okM aU cU b n t → (∃ h, h ≤ 5 ∧ aU.1 18 r S = nI h ∧ cU.1 46 0 S = nI h) ∧ ∃ t0, t0 ≤ t ∧ okM a c b n t0 := by
  have tn := (nT_ok b n).1
  rcases hX with ⟨t, h⟩ | fl
  rotate_left
  · obtain ⟨f, u, h1, h2, h3, h4, h5, h6, h7⟩ := id fl
    have g63 : gF c 863 0 = nI f := h5
    have ref : ∀ K : ST → Option ST, lk_ (fun kk10 => (if (gF c 863 0) = 0 then (if (gF c 860 0) = 0 then (if (gF c 861 0) = 3 then bd_ (Mo_goOn c) (fun q19 => bd_ (Mo_number q19 1 5) (fun q20 => bd_ (stI q20.2 46 0 (nI S) q20.1) (fun s21 => kk10 s21))) else kk10 c) else kk10 c) else kk10 c)) K = K c := fun K => by
      rw [lk_eq, g63, if_neg (of_eq_false (nf0 h1 (by omega)))]
    rcases isAt_tot (x := 3) h7 h3 with e | e
    · refine ⟨a, c, fun K => ?_, ref, FrK.rf a, rfl, FrK.rf c, Or.inr fl, fun _ _ => rfl, fun _ _ => rfl, fun t ht => absurd fl ht.nf⟩
      rw [e, bd_some, lk_eq, if_pos (show nI 0 = (0 : Int32) from rfl)]
    · obtain ⟨v, ev⟩ := num_flA fl 1 5
      have fl2 : flM (setR a 18 r (upd (a.1 18 r) S v)) c := (flM_w (rd_ne (by decide)) (rd_ne (by decide)) (rd_ne (by decide)) (fun _ _ _ => rfl)).mpr fl
      refine ⟨setR a 18 r (upd (a.1 18 r) S v), c, fun K => ?_, ref, FrK.setR a _ c18k, rfl, FrK.rf c, Or.inr fl2, fun s hs => by rw [rd_eq, upd_ne hs], fun _ _ => rfl, fun t ht => absurd fl2 ht.nf⟩
      rw [e, bd_some, lk_eq, if_neg (show ¬ nI 1 = (0 : Int32) by decide), (ad_fl fl).1, bd_some, ev, bd_some]
      show bd_ (stI a 18 r (nI S) v) _ = _
      rw [st18 hS, bd_some]
  · have ia : Rd_isAt a 3 = _ := isAt_eq hn hA h (x := 3) (by decide)
    have g63 : gF c 863 0 = nI 0 := h.2.1
    have kl := kT_lt b n (plT b n t)
    obtain ⟨h1, h2, h3, h4, h5, h6, s1, s2, s3, s4, s5, s6⟩ := id h
    by_cases c3 : kT b n (plT b n t) = 3
    · rw [decide_eq_true c3, b01_t] at ia
      obtain ⟨q1, q2⟩ := s1 (by omega)
      rw [c3] at q2
      have g60 : gF c 860 0 = nI 0 := q1
      have g61 : gF c 861 0 = nI 3 := q2
      obtain ⟨a2, c2, e1, e2, pr2, ok2⟩ := ad_ok hn hb2 hC h (by omega)
      obtain ⟨v, w, a3, c3', e3, e4, pr3, X3, I3⟩ := nums hn hb2 (hA.pr pr2.1 pr2.2.1) (hC.pr pr2.2.2) (Or.inl ⟨_, ok2⟩) (lo := 1) (hi := 5) (by decide) (by decide)
      have e3' : Rd_numberIn a2 1 5 = some (v, a3) := e3
      have e4' : Mo_number c2 1 5 = some (w, c3') := e4
      have k4 : ∀ k, 858 ≤ k → k ≤ 864 → (setR c3' 46 0 (upd (c3'.1 46 0) S w)).1 k 0 = c3'.1 k 0 := fun k h1 h2 => rd_ne (by omega)
      refine ⟨setR a3 18 r (upd (a3.1 18 r) S v), setR c3' 46 0 (upd (c3'.1 46 0) S w), fun K => ?_, fun K => ?_, (cc_c18 (pr2.1.tr pr3.1)).tr (FrK.setR a3 _ c18k), pr3.2.1.trans pr2.2.1, (mc_m46 (pr2.2.2.tr pr3.2.2)).tr (FrK.setR c3' _ rfl), XM_w (rd_ne (by decide)) (rd_ne (by decide)) (rd_ne (by decide)) k4 X3, fun s hs => ?_, fun s hs => ?_, fun t' ht' => ?_⟩
      · rw [ia, bd_some, lk_eq, if_neg (show ¬ nI 1 = (0 : Int32) by decide), e1, bd_some, e3', bd_some]
        show bd_ (stI a3 18 r (nI S) v) _ = _
        rw [st18 hS, bd_some]
      · rw [lk_eq, g63, if_pos (show nI 0 = (0 : Int32) from rfl), g60, if_pos (show nI 0 = (0 : Int32) from rfl), g61, if_pos (show nI 3 = (3 : Int32) from rfl), e2, bd_some, e4', bd_some]
        show bd_ (stI c3' 46 0 (nI S) w) _ = _
        rw [st46 hS, bd_some]
      · rw [rd_eq, upd_ne hs, pr3.1.2 18 r rfl, pr2.1.2 18 r rfl]
      · rw [rd_eq, upd_ne hs, pr3.2.2.2 46 0 rfl, pr2.2.2.2 46 0 rfl]
      · obtain ⟨t7, u3, z2, ok7, b1, b2, rfl, rfl⟩ := I3 t' ((okM_w (rd_ne (by decide)) (rd_ne (by decide)) k4).mp ht')
        have w1 := ok7.2.2.2.1
        rw [ok2.2.2.2.1] at w1
        have w2 := (nI_eq (by have := ok2.2.2.1; omega) (by have := ok7.2.2.1; omega)).mp w1
        exact ⟨⟨u3, b2, by rw [rd_eq, upd_eq], by rw [rd_eq, upd_eq]⟩, t, by omega, h⟩
    · rw [decide_eq_false c3, b01_f] at ia
      refine ⟨a, c, fun K => ?_, fun K => ?_, FrK.rf a, rfl, FrK.rf c, Or.inl ⟨t, h⟩, fun _ _ => rfl, fun _ _ => rfl, fun t' ht' => ⟨⟨0, by decide, h18, h46⟩, t', Nat.le_refl _, ht'⟩⟩
      · rw [ia, bd_some, lk_eq, if_pos (show nI 0 = (0 : Int32) from rfl)]
      · rw [lk_eq, g63, if_pos (show nI 0 = (0 : Int32) from rfl)]
        rcases (show kT b n (plT b n t) < 14 ∨ kT b n (plT b n t) = 14 ∨ kT b n (plT b n t) = 15 ∨ kT b n (plT b n t) = 16 ∨ kT b n (plT b n t) = 17 ∨ kT b n (plT b n t) = 18 by omega) with e | e | e | e | e | e
        · have g61 : ¬ gF c 861 0 = (3 : Int32) := by
            rw [show gF c 861 0 = _ from (s1 e).2]
            exact of_eq_false (neq_f (b := 3) c3 (by omega) (by decide))
          rw [if_neg g61, ite_self]
        · have g61 : ¬ gF c 861 0 = (3 : Int32) := by
            rw [show gF c 861 0 = _ from (s2 e).2.1]
            decide
          rw [if_neg g61, ite_self]
        · rw [show gF c 860 0 = _ from (s3 e).1, if_neg (by decide)]
        · rw [show gF c 860 0 = _ from s4 e, if_neg (by decide)]
        · rw [show gF c 860 0 = _ from s5 e, if_neg (by decide)]
        · rw [show gF c 860 0 = _ from s6 e, if_neg (by decide)]
end Ses

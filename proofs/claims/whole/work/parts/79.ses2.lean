/-! ===== a session's line ===== -/
section Ses2
variable {a c a' c' : ST} {b : Nat → Nat} {n t r L P S m : Nat}
theorem isEnd_ok (h : okM a c b n t) (hK : kT b n (plT b n t) = 16) : Mo_isEnd c = some (nI 1, c) := by
  obtain ⟨h1, h2, h3, h4, h5, h6, s1, s2, s3, s4, s5, s6⟩ := h
  have q1 := s4 hK
  unfold Mo_isEnd
  simp (disch := omega) only [bd_some, bd_none, lt_eq, lk_eq, fa_lit, nI_add, nI_mul, nI_sub, nle_t, nle_f, nlt_t, nlt_f, neq_t, neq_f, neg_ne, neg_ne', if_true, if_false, ite_true, ite_false, Nat.zero_add, Nat.add_zero, ld0, ld1, ld2, ld3, ld4, ld5, ld6, ld7, ld8, ld9, ld10, ld11, ld12, ld13, ld14, ld15, ld16, ld17, ld18, ld19, ld20, ld21, ld22, ld23, ld24, ld25, ld26, ld27, ld28, ld29, ld30, ld31, ld32, ld33, ld34, ld35, ld36, ld37, ld38, ld39, ld40, ld41, ld42, ld43, ld44, ld45, ld46, ld47, ld48, ld100, ld101, ld102, ld103, ld104, ld105, gF, h2, q1]
theorem isEnd_no (hn : n ≤ 900) (hA : TA a b n) (h : okM a c b n t) (hK : kT b n (plT b n t) ≠ 16) : ∃ c1, Mo_isEnd c = some (nI 0, c1) := by
  have kl := kT_lt b n (plT b n t)
  obtain ⟨a', c', e1, e2, pr, fl⟩ := bl_ok hn hA h (f := 1) (by decide) (by decide)
  obtain ⟨h1, h2, h3, h4, h5, h6, s1, s2, s3, s4, s5, s6⟩ := h
  obtain ⟨f, u, l1, l2, l3, l4, l5, l6, l7⟩ := fl
  have q1 : ∃ z, z ≠ 2 ∧ z < 5 ∧ c.1 860 0 0 = nI z := by
    rcases (show kT b n (plT b n t) < 14 ∨ kT b n (plT b n t) = 14 ∨ kT b n (plT b n t) = 15 ∨ kT b n (plT b n t) = 17 ∨ kT b n (plT b n t) = 18 by omega) with e | e | e | e | e
    · exact ⟨0, by decide, by decide, (s1 e).1⟩
    · exact ⟨0, by decide, by decide, (s2 e).1⟩
    · exact ⟨1, by decide, by decide, (s3 e).1⟩
    · exact ⟨3, by decide, by decide, s5 e⟩
    · exact ⟨4, by decide, by decide, s6 e⟩
  obtain ⟨z, z1, z2, q1⟩ := q1
  refine ⟨c', ?_⟩
  unfold Mo_isEnd
  simp (disch := omega) only [bd_some, bd_none, lt_eq, lk_eq, fa_lit, nI_add, nI_mul, nI_sub, nle_t, nle_f, nlt_t, nlt_f, neq_t, neq_f, neg_ne, neg_ne', if_true, if_false, ite_true, ite_false, Nat.zero_add, Nat.add_zero, ld0, ld1, ld2, ld3, ld4, ld5, ld6, ld7, ld8, ld9, ld10, ld11, ld12, ld13, ld14, ld15, ld16, ld17, ld18, ld19, ld20, ld21, ld22, ld23, ld24, ld25, ld26, ld27, ld28, ld29, ld30, ld31, ld32, ld33, ld34, ld35, ld36, ld37, ld38, ld39, ld40, ld41, ld42, ld43, ld44, ld45, ld46, ld47, ld48, ld100, ld101, ld102, ld103, ld104, ld105, gF, h2, q1, e2, l5]
def sTail (a : ST) (r : Nat) (x : Int32) : Option ST := bd_ (Rd_isAt a 16) (fun q14 => (if q14 = 0 then lt_ (setF a 531 r ((gF a 531 r) + 1)) (fun s15 => some s15) else bd_ (Rl_headsIn a r x) (fun q16 => (if q16 = 0 then bd_ (Rd_blame a 4) (fun q18 => lt_ (setF q18 531 r ((gF q18 531 r) + 1)) (fun s19 => some s19)) else lt_ (setF a 531 r ((gF a 531 r) + 1)) (fun s17 => some s17)))))
def tTail (c : ST) (x : Int32) : Option ST := bd_ (Mo_isEnd c) (fun q12 => (if q12.1 = 0 then lt_ (setF q12.2 869 0 ((gF q12.2 869 0) + 1)) (fun s13 => some s13) else bd_ (ldI q12.2 45 0 x) (fun v14 => bd_ (ldI q12.2 46 0 x) (fun v15 => (if (v14 + v15) = 0 then bd_ (Mo_wrong q12.2 4) (fun q17 => lt_ (setF q17 869 0 ((gF q17 869 0) + 1)) (fun s18 => some s18)) else lt_ (setF q12.2 869 0 ((gF q12.2 869 0) + 1)) (fun s16 => some s16))))))
/-- the last of a session's line -/
theorem sesEnd (hn : n ≤ 900) (hb2 : ∀ j, b j < 256) (hS : S < 8) (hA : TA a b n) (hC : CN c b n) (hX : XM a c b n) (y1 : a.1 531 r 0 = nI S) (y2 : c.1 869 0 0 = nI S) (hmh : ∀ t, okM a c b n t → ∃ m h, m ≤ 8 ∧ h ≤ 5 ∧ a.1 17 r S = nI m ∧ a.1 18 r S = nI h ∧ c.1 45 0 S = nI m ∧ c.1 46 0 S = nI h) : ∃ a1 c1 v a2 c2, sTail a r (nI S) = some a1 ∧ tTail c (nI S) = some c1 ∧ Rd_oneOf a1 16 16 = some (v, a2) ∧ Mo_goOn c1 = some c2 ∧ FrK (cb r) a a2 ∧ FrK mb c c2 ∧ TA a2 b n ∧ CN c2 b n ∧ XM a2 c2 b n ∧ ∀ t', okM a2 c2 b n t' → ∃ t0, t' = t0 + 1 ∧ okM a c b n t0 ∧ (∃ m h, m ≤ 8 ∧ h ≤ 5 ∧ 1 ≤ m + h ∧ a.1 17 r S = nI m ∧ a.1 18 r S = nI h) ∧ (∃ c10, FrK cc (setF a 531 r (nI (S + 1))) a2 ∧ a2.2.1 = a.2.1 ∧ FrK mc c c10 ∧ FrK mc (setF c10 869 0 (nI (S + 1))) c2) := by
  have tn := (nT_ok b n).1
  have z1 : ∀ a' : ST, FrK cc a a' → gF a' 531 r + 1 = nI (S + 1) := fun a' f => by
    show a'.1 531 r 0 + 1 = _
    rw [f.2 531 r rfl, y1]
    exact nI_add _ _
  have z2 : ∀ c' : ST, FrK mc c c' → gF c' 869 0 + 1 = nI (S + 1) := fun c' f => by
    show c'.1 869 0 0 + 1 = _
    rw [f.2 869 0 rfl, y2]
    exact nI_add _ _
  have kw : ∀ c' : ST, ∀ k, 858 ≤ k → k ≤ 864 → (setF c' 869 0 (nI (S + 1))).1 k 0 = c'.1 k 0 := fun c' k h1 h2 => rf_ne (by omega)
  have hAw : ∀ a' : ST, FrK cc a a' → a'.2.1 = a.2.1 → TA (setF a' 531 r (nI (S + 1))) b n := fun a' f l => (hA.pr f l).w (rf_ne (by decide)) (rf_ne (by decide)) rfl
  have hCw : ∀ c' : ST, FrK mc c c' → CN (setF c' 869 0 (nI (S + 1))) b n := fun c' f => (hC.pr f).w (rf_ne (by decide)) (rf_ne (by decide))
  have flw : ∀ a' c' : ST, flM a' c' → flM (setF a' 531 r (nI (S + 1))) (setF c' 869 0 (nI (S + 1))) := fun a' c' h => (flM_w (rf_ne (by decide)) (rf_ne (by decide)) (rf_ne (by decide)) (kw c')).mpr h
  have flEnd : ∀ a' c' : ST, FrK cc a a' → a'.2.1 = a.2.1 → FrK mc c c' → flM a' c' → sTail a r (nI S) = some (setF a' 531 r (nI (S + 1))) → tTail c (nI S) = some (setF c' 869 0 (nI (S + 1))) → ∃ a1 c1 v a2 c2, sTail a r (nI S) = some a1 ∧ tTail c (nI S) = some c1 ∧ Rd_oneOf a1 16 16 = some (v, a2) ∧ Mo_goOn c1 = some c2 ∧ FrK (cb r) a a2 ∧ FrK mb c c2 ∧ TA a2 b n ∧ CN c2 b n ∧ XM a2 c2 b n ∧ ∀ t', okM a2 c2 b n t' → ∃ t0, t' = t0 + 1 ∧ okM a c b n t0 ∧ (∃ m h, m ≤ 8 ∧ h ≤ 5 ∧ 1 ≤ m + h ∧ a.1 17 r S = nI m ∧ a.1 18 r S = nI h) ∧ (∃ c10, FrK cc (setF a 531 r (nI (S + 1))) a2 ∧ a2.2.1 = a.2.1 ∧ FrK mc c c10 ∧ FrK mc (setF c10 869 0 (nI (S + 1))) c2) := fun a' c' fa la fc fl e1 e2 => by
    have fl2 := flw a' c' fl
    obtain ⟨v, ev⟩ := one_fl fl2 16 16
    exact ⟨_, _, v, _, _, e1, e2, ev, (ad_fl fl2).2, (cc_cb fa).tr (FrK.setF a' _ (cbk rfl)), (mc_mb fc).tr (FrK.setF c' _ rfl), hAw a' fa la, hCw c' fc, Or.inr fl2, fun t' ht' => absurd fl2 ht'.nf⟩
  rcases hX with ⟨t, h⟩ | fl
  rotate_left
  · refine flEnd a c (FrK.rf a) rfl (FrK.rf c) fl ?_ ?_
    · obtain ⟨f, u, h1, h2, h3, h4, h5, h6, h7⟩ := id fl
      unfold sTail
      have hh : Rl_headsIn a r (nI S) = some (a.1 17 r S + a.1 18 r S) := by
        unfold Rl_headsIn
        rw [ld17 hS, bd_some, ld18 hS, bd_some]
      rcases isAt_tot (x := 16) h7 h3 with e | e
      · rw [e, bd_some, if_pos (show nI 0 = (0 : Int32) from rfl), lt_eq, z1 a (FrK.rf a)]
      · rw [e, bd_some, if_neg (show ¬ nI 1 = (0 : Int32) by decide), hh, bd_some, (bl_fl fl 4).1, bd_some, lt_eq, z1 a (FrK.rf a), ite_self]
    · unfold tTail
      rw [end_fl fl, bd_some]
      show (if nI 0 = 0 then lt_ (setF c 869 0 ((gF c 869 0) + 1)) (fun s13 => some s13) else _) = _
      rw [if_pos (show nI 0 = (0 : Int32) from rfl), lt_eq, z2 c (FrK.rf c)]
  · have ia : Rd_isAt a 16 = _ := isAt_eq hn hA h (x := 16) (by decide)
    obtain ⟨m, h', m1, m2, m3, m4, m5, m6⟩ := hmh t h
    have hh : Rl_headsIn a r (nI S) = some (nI (m + h')) := by
      unfold Rl_headsIn
      rw [ld17 hS, bd_some, ld18 hS, bd_some, m3, m4, nI_add]
    have X9 : XM (setF a 531 r (nI (S + 1))) c b n := XM_w (rf_ne (by decide)) (rf_ne (by decide)) (rf_ne (by decide)) (fun _ _ _ => rfl) (Or.inl ⟨t, h⟩)
    obtain ⟨w, c10, e10, g10, K10⟩ := endL hn hb2 (hAw a (FrK.rf a) rfl) X9
    obtain ⟨v4, a12, c13, e12, e13, f12, l12, g12, X12, I12⟩ := K10 (setF c10 869 0 (nI (S + 1))) (kw c10) (hCw c10 g10)
    by_cases c16 : kT b n (plT b n t) = 16
    · rw [decide_eq_true c16, b01_t] at ia
      have ie := isEnd_ok h c16
      by_cases c0 : m + h' = 0
      · obtain ⟨a2, c2, f1, f2, pr2, fl⟩ := bl_ok hn hA h (f := 4) (by decide) (by decide)
        have f1' : Rd_blame a 4 = some a2 := f1
        have f2' : Mo_wrong c 4 = some c2 := f2
        refine flEnd a2 c2 pr2.1 pr2.2.1 pr2.2.2 fl ?_ ?_
        · unfold sTail
          rw [ia, bd_some, if_neg (show ¬ nI 1 = (0 : Int32) by decide), hh, bd_some, c0, if_pos (show nI 0 = (0 : Int32) from rfl), f1', bd_some, lt_eq, z1 a2 pr2.1]
        · unfold tTail
          rw [ie, bd_some]
          show (if nI 1 = 0 then _ else bd_ (ldI c 45 0 (nI S)) (fun v14 => bd_ (ldI c 46 0 (nI S)) (fun v15 => (if (v14 + v15) = 0 then bd_ (Mo_wrong c 4) (fun q17 => lt_ (setF q17 869 0 ((gF q17 869 0) + 1)) (fun s18 => some s18)) else _)))) = _
          rw [if_neg (show ¬ nI 1 = (0 : Int32) by decide), ld45 hS, bd_some, ld46 hS, bd_some, m5, m6, nI_add, c0, if_pos (show nI 0 = (0 : Int32) from rfl), f2', bd_some, lt_eq, z2 c2 pr2.2.2]
      · have ec : c10 = c := by
          rw [ie] at e10
          exact (Prod.mk.inj (Option.some.inj e10)).2.symm
        subst ec
        refine ⟨setF a 531 r (nI (S + 1)), setF c10 869 0 (nI (S + 1)), v4, a12, c13, ?_, ?_, e12, e13, (FrK.setF a _ (cbk rfl)).tr (cc_cb f12), (FrK.setF c10 _ rfl).tr (mc_mb g12), (hAw a (FrK.rf a) rfl).pr f12 l12, (hCw c10 g10).pr g12, X12, fun t' ht' => ?_⟩
        · unfold sTail
          rw [ia, bd_some, if_neg (show ¬ nI 1 = (0 : Int32) by decide), hh, bd_some, if_neg (of_eq_false (nf0 (f := m + h') (by omega) (by omega))), lt_eq, z1 a (FrK.rf a)]
        · unfold tTail
          rw [ie, bd_some]
          show (if nI 1 = 0 then _ else bd_ (ldI c10 45 0 (nI S)) (fun v14 => bd_ (ldI c10 46 0 (nI S)) (fun v15 => (if (v14 + v15) = 0 then _ else lt_ (setF c10 869 0 ((gF c10 869 0) + 1)) (fun s16 => some s16))))) = _
          rw [if_neg (show ¬ nI 1 = (0 : Int32) by decide), ld45 hS, bd_some, ld46 hS, bd_some, m5, m6, nI_add, if_neg (of_eq_false (nf0 (f := m + h') (by omega) (by omega))), lt_eq, z2 c10 (FrK.rf c10)]
        · obtain ⟨t9, q1, ok9⟩ := I12 t' ht'
          exact ⟨t9, q1, (okM_w (rf_ne (by decide)) (rf_ne (by decide)) (fun _ _ _ => rfl)).mp ok9, ⟨m, h', m1, m2, by omega, m3, m4⟩, c10, f12, l12, g10, g12⟩
    · rw [decide_eq_false c16, b01_f] at ia
      obtain ⟨c1, ie⟩ := isEnd_no hn hA h c16
      have ew : w = nI 0 := by
        rw [ie] at e10
        exact (Prod.mk.inj (Option.some.inj e10)).1.symm
      subst ew
      refine ⟨setF a 531 r (nI (S + 1)), setF c10 869 0 (nI (S + 1)), v4, a12, c13, ?_, ?_, e12, e13, (FrK.setF a _ (cbk rfl)).tr (cc_cb f12), ((mc_mb g10).tr (FrK.setF c10 _ rfl)).tr (mc_mb g12), (hAw a (FrK.rf a) rfl).pr f12 l12, (hCw c10 g10).pr g12, X12, fun t' ht' => ?_⟩
      · unfold sTail
        rw [ia, bd_some, if_pos (show nI 0 = (0 : Int32) from rfl), lt_eq, z1 a (FrK.rf a)]
      · unfold tTail
        rw [e10, bd_some]
        show (if nI 0 = 0 then lt_ (setF c10 869 0 ((gF c10 869 0) + 1)) (fun s13 => some s13) else _) = _
        rw [if_pos (show nI 0 = (0 : Int32) from rfl), lt_eq, z2 c10 g10]
      · exfalso
        obtain ⟨t9, q1, ok9⟩ := I12 t' ht'
        have ok9' := (okM_w (a := a) (c := c) (rf_ne (by decide)) (rf_ne (by decide)) (fun _ _ _ => rfl)).mp ok9
        have w1 := ok9'.2.2.2.1
        rw [h.2.2.2.1] at w1
        have w2 := (nI_eq (by have := h.2.2.1; omega) (by have := ok9'.2.2.1; omega)).mp w1
        subst w2
        obtain ⟨a', c', e1, e2, pr, fl⟩ := bl_ok hn (hAw a (FrK.rf a) rfl) ok9 (f := 1) (by decide) (by decide)
        have e1' : Rd_blame (setF a 531 r (nI (S + 1))) 1 = some a' := e1
        have hk := (hAw a (FrK.rf a) rfl) t h.2.2.1
        have h4 := ok9.2.2.2.1
        have kl := kT_lt b n (plT b n t)
        have t1 := h.2.2.1
        have : Rd_oneOf (setF a 531 r (nI (S + 1))) 16 16 = some (nI (kT b n (plT b n t)) - nI 16, a') := by
          unfold Rd_oneOf
          rcases Nat.lt_or_ge (kT b n (plT b n t)) 16 with c2 | c2
          · simp (disch := omega) only [bd_some, lk_eq, fa_lit, gF, h4, ld22, hk.1, nlt_t, if_true, e1, (ad_fl fl).1]
          · simp (disch := omega) only [bd_some, lk_eq, fa_lit, gF, h4, ld22, hk.1, nlt_f, nle_f, if_false, e1, (ad_fl fl).1]
        rw [this] at e12
        have ea : a' = a12 := (Prod.mk.inj (Option.some.inj e12)).2
        subst ea
        obtain ⟨f, u, l1, l2, l3, l4, l5, l6, l7⟩ := fl
        rw [ht'.1.1] at l4
        have := (nI_eq (by decide) (by omega)).mp l4
        omega
end Ses2

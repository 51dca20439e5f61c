/-! ===== a line; all lines ===== -/
section Read
variable {a c a' c' : ST} {b : Nat → Nat} {n t r L P S m : Nat}
def DL (r : Nat) (a c : ST) (t : Nat) : Prop := (∃ L P S, D a c r L P S) ∧ ∃ ln, ln ≤ t ∧ a.1 528 r 0 = nI ln ∧ c.1 870 0 0 = nI ln
def LnE (r t : Nat) (a c : ST) (b : Nat → Nat) (n : Nat) (f g : Option ST) : Prop := ∃ a' c', f = some a' ∧ g = some c' ∧ FrK (cb r) a a' ∧ FrK mb c c' ∧ TA a' b n ∧ CN c' b n ∧ XM a' c' b n ∧ ∀ t', okM a' c' b n t' → t < t' ∧ DL r a' c' t'
theorem lineEnd {f g : Option ST} (hn : n ≤ 900) (hd : DL r a c t) (h : LnR r t a c b n f g) : LnE r t a c b n (bd_ f (fun j2 => bd_ (Rd_oneOf j2 16 16) (fun q5 => (if (gF q5.2 463 0) = 0 then lt_ (setF q5.2 528 r ((gF q5.2 528 r) + 1)) (fun s6 => some s6) else some q5.2)))) (bd_ g (fun j4 => bd_ (Mo_goOn j4) (fun q7 => lt_ (setF q7 870 0 ((gF q7 870 0) + 1)) (fun s8 => some s8)))) := by
  obtain ⟨_, ln, hl, y1, y2⟩ := hd
  obtain ⟨a1, c1, v, a2, c2, e1, e2, e3, e4, f2, g2, hA, hC, hX, I⟩ := h
  have kw : ∀ v k, 858 ≤ k → k ≤ 864 → (setF c2 870 0 v).1 k 0 = c2.1 k 0 := fun v k h1 h2 => rf_ne (by omega)
  have er : (bd_ g (fun j4 => bd_ (Mo_goOn j4) (fun q7 => lt_ (setF q7 870 0 ((gF q7 870 0) + 1)) (fun s8 => some s8)))) = some (setF c2 870 0 (gF c2 870 0 + 1)) := by
    rw [e2, bd_some, e4, bd_some, lt_eq]
  rcases hX with ⟨t', h⟩ | fl
  · have g63 : gF a2 463 0 = nI 0 := h.1.1
    obtain ⟨q1, ⟨L, P, S, d⟩, q3, q4⟩ := I t' h
    have z1 : gF a2 528 r + 1 = nI (ln + 1) := by
      show a2.1 528 r 0 + 1 = _
      rw [q3, y1]
      exact nI_add _ _
    have z2 : gF c2 870 0 + 1 = nI (ln + 1) := by
      show c2.1 870 0 0 + 1 = _
      rw [q4, y2]
      exact nI_add _ _
    refine ⟨setF a2 528 r (nI (ln + 1)), setF c2 870 0 (nI (ln + 1)), ?_, by rw [er, z2], f2.tr (FrK.setF a2 _ (cbk rfl)), g2.tr (FrK.setF c2 _ rfl), hA.w (rf_ne (by decide)) (rf_ne (by decide)) rfl, hC.w (rf_ne (by decide)) (rf_ne (by decide)), XM_w (rf_ne (by decide)) (rf_ne (by decide)) (rf_ne (by decide)) (kw _) (Or.inl ⟨t', h⟩), fun t2 ht2 => ?_⟩
    · rw [e1, bd_some, e3, bd_some]
      show (if (gF a2 463 0) = 0 then lt_ (setF a2 528 r ((gF a2 528 r) + 1)) (fun s6 => some s6) else _) = _
      rw [g63, if_pos (show nI 0 = (0 : Int32) from rfl), lt_eq, z1]
    · have ok2 := (okM_w (a := a2) (c := c2) (rf_ne (by decide)) (rf_ne (by decide)) (kw _)).mp ht2
      have q5 := (I t2 ok2).1
      refine ⟨q5, ⟨L, P, S, ?_⟩, ln + 1, by omega, rf_eq, rf_eq⟩
      unfold D at d ⊢
      simp (disch := decide) only [rf_ne]
      exact d
  · obtain ⟨f, u, h1, h2, h3, h4, h5, h6, h7⟩ := id fl
    have g63 : gF a2 463 0 = nI f := h4
    have fl2 : flM a2 (setF c2 870 0 (gF c2 870 0 + 1)) := (flM_w rfl rfl rfl (kw _)).mpr fl
    refine ⟨a2, setF c2 870 0 (gF c2 870 0 + 1), ?_, er, f2, g2.tr (FrK.setF c2 _ rfl), hA, hC.w (rf_ne (by decide)) (rf_ne (by decide)), Or.inr fl2, fun t2 ht2 => absurd fl2 ht2.nf⟩
    rw [e1, bd_some, e3, bd_some]
    show (if (gF a2 463 0) = 0 then _ else some a2) = _
    rw [g63, if_neg (of_eq_false (nf0 h1 (by omega)))]
theorem lines (hn : n ≤ 900) (hb2 : ∀ j, b j < 256) (hA : TA a b n) (hC : CN c b n) (h : okM a c b n t) (hk : kT b n (plT b n t) ≠ 17) (hd : DL r a c t) : LnE r t a c b n (Rd_readLine a r) (Mo_readLine c) := by
  obtain ⟨⟨L, P, S, d⟩, _⟩ := id hd
  have tn := (nT_ok b n).1
  have kl := kT_lt b n (plT b n t)
  have hk2 := (hA t h.2.2.1).1
  obtain ⟨h1, h2, h3, h4, h5, h6, s1, s2, s3, s4, s5, s6⟩ := id h
  have ec : ∀ K, K = kT b n (plT b n t) → Rd_readLine a r = lk_ (fun kk3 => lk_ (fun kk8 => sw_ (nI K) 0 [bd_ (Rd_readLand a r) (fun q11 => kk3 q11), bd_ (Rd_readPlayer a r) (fun q12 => kk3 q12), bd_ (Rd_readSession a r) (fun q13 => kk3 q13), kk8 (), bd_ (Rd_readLead a r) (fun q14 => kk3 q14), bd_ (Rd_readKeep a r) (fun q15 => kk3 q15)] (kk8 ())) (fun (j7 : Unit) => bd_ (Rd_blame a 1) (fun q10 => kk3 q10))) (fun (j2 : ST) => bd_ (Rd_oneOf j2 16 16) (fun q5 => (if (gF q5.2 463 0) = 0 then lt_ (setF q5.2 528 r ((gF q5.2 528 r) + 1)) (fun s6 => some s6) else some q5.2))) := fun K hK => by
    unfold Rd_readLine
    rw [show gF a 460 0 = nI t from h4, ld22 (by omega), bd_some, hk2, hK]
  have er : ∀ x : Int32, (if (gF c 860 0) = 0 then gF c 861 0 else (-1)) = x → Mo_readLine c = lk_ (fun kk5 => (if x = 0 then bd_ (Mo_readLand c) (fun q14 => kk5 q14) else (if x = 1 then bd_ (Mo_readPlayer c) (fun q13 => kk5 q13) else (if x = 2 then bd_ (Mo_readSession c) (fun q12 => kk5 q12) else (if x = 4 then bd_ (Mo_readLead c) (fun q11 => kk5 q11) else (if x = 5 then bd_ (Mo_readKeep c) (fun q10 => kk5 q10) else bd_ (Mo_wrong c 1) (fun q9 => kk5 q9))))))) (fun (j4 : ST) => bd_ (Mo_goOn j4) (fun q7 => lt_ (setF q7 870 0 ((gF q7 870 0) + 1)) (fun s8 => some s8))) := fun x hx => by
    unfold Mo_readLine
    rw [lk_eq, ← hx]
    by_cases q : gF c 860 0 = 0
    · rw [if_pos q, if_pos q]
    · rw [if_neg q, if_neg q]
  have e60 : ∀ K, K < 14 → kT b n (plT b n t) = K → (if (gF c 860 0) = 0 then gF c 861 0 else (-1)) = nI K := fun K hK e => by
    obtain ⟨q1, q2⟩ := s1 (by omega)
    rw [show gF c 860 0 = _ from q1, show gF c 861 0 = _ from q2, if_pos (show nI 0 = (0 : Int32) from rfl), e]
  rcases (show kT b n (plT b n t) = 0 ∨ kT b n (plT b n t) = 1 ∨ kT b n (plT b n t) = 2 ∨ kT b n (plT b n t) = 4 ∨ kT b n (plT b n t) = 5 ∨ (kT b n (plT b n t) = 3 ∨ 6 ≤ kT b n (plT b n t)) by omega) with e | e | e | e | e | e
  · have := lineEnd hn hd (lands (r := r) hn hb2 hA hC h hk d)
    rw [ec 0 e.symm, er (nI 0) (e60 0 (by decide) e)]
    exact this
  · have := lineEnd hn hd (players (r := r) hn hb2 hA hC h hk d)
    rw [ec 1 e.symm, er (nI 1) (e60 1 (by decide) e)]
    exact this
  · have := lineEnd hn hd (sessions (r := r) hn hb2 hA hC h hk d)
    rw [ec 2 e.symm, er (nI 2) (e60 2 (by decide) e)]
    exact this
  · have := lineEnd hn hd (leads (r := r) hn hb2 hA hC h hk d)
    rw [ec 4 e.symm, er (nI 4) (e60 4 (by decide) e)]
    exact this
  · have := lineEnd hn hd (keeps (r := r) hn hb2 hA hC h hk d)
    rw [ec 5 e.symm, er (nI 5) (e60 5 (by decide) e)]
    exact this
  · obtain ⟨a1, c1, e1, e2, pr, fl⟩ := bl_ok hn hA h (f := 1) (by decide) (by decide)
    have e1' : Rd_blame a 1 = some a1 := e1
    have e2' : Mo_wrong c 1 = some c1 := e2
    have := lineEnd (f := some a1) (g := some c1) hn hd (ln_fl (t := t) rfl rfl (cc_cb pr.1) (mc_mb pr.2.2) (hA.pr pr.1 pr.2.1) (hC.pr pr.2.2) fl)
    have hx : ∃ x : Int32, (if (gF c 860 0) = 0 then gF c 861 0 else (-1)) = x ∧ x ≠ 0 ∧ x ≠ 1 ∧ x ≠ 2 ∧ x ≠ 4 ∧ x ≠ 5 := by
      rcases (show kT b n (plT b n t) < 14 ∨ kT b n (plT b n t) = 14 ∨ kT b n (plT b n t) = 15 ∨ kT b n (plT b n t) = 16 ∨ kT b n (plT b n t) = 18 by omega) with q | q | q | q | q
      · exact ⟨_, e60 _ q rfl, of_eq_false (neq_f (b := 0) (by omega) (by omega) (by decide)), of_eq_false (neq_f (b := 1) (by omega) (by omega) (by decide)), of_eq_false (neq_f (b := 2) (by omega) (by omega) (by decide)), of_eq_false (neq_f (b := 4) (by omega) (by omega) (by decide)), of_eq_false (neq_f (b := 5) (by omega) (by omega) (by decide))⟩
      · refine ⟨-1, ?_, by decide, by decide, by decide, by decide, by decide⟩
        rw [show gF c 861 0 = _ from (s2 q).2.1]
        exact ite_self _
      · refine ⟨-1, ?_, by decide, by decide, by decide, by decide, by decide⟩
        rw [show gF c 860 0 = _ from (s3 q).1, if_neg (by decide)]
      · refine ⟨-1, ?_, by decide, by decide, by decide, by decide, by decide⟩
        rw [show gF c 860 0 = _ from s4 q, if_neg (by decide)]
      · refine ⟨-1, ?_, by decide, by decide, by decide, by decide, by decide⟩
        rw [show gF c 860 0 = _ from s6 q, if_neg (by decide)]
    obtain ⟨x, x0, x1, x2, x3, x4, x5⟩ := hx
    rw [er x x0, lk_eq, if_neg x1, if_neg x2, if_neg x3, if_neg x4, if_neg x5, e2', ec _ rfl, lk_eq, lk_eq]
    have esw : ∀ (A B C E F G : Option ST), sw_ (nI (kT b n (plT b n t))) 0 [A, B, C, G, E, F] G = G := fun A B C E F G => by
      rw [sw_get0 (by omega)]
      rcases e with e | e
      · rw [e]; rfl
      · rw [List.getElem?_eq_none (by simpa using e)]; rfl
    rw [esw, e1']
    exact this
end Read

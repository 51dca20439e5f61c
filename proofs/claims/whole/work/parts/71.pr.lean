/-! ===== reading in lockstep: the class state a, the reference state c ===== -/
def cc (k _i : Nat) : Bool := decide (k = 460 ∨ k = 463 ∨ k = 464)
def mc (k _i : Nat) : Bool := decide (858 ≤ k ∧ k ≤ 864)
def TA (a : ST) (b : Nat → Nat) (n : Nat) : Prop := ∀ t, t ≤ nT b n → TK1 a b n t
def TCm (c : ST) (b : Nat → Nat) (n t : Nat) : Prop := c.1 858 0 0 = nI (atT b n (t + 1)) ∧ c.1 859 0 0 = nI (plT b n t) ∧ SR c (kT b n (plT b n t)) (vT b n (plT b n t))
def CN (c : ST) (b : Nat → Nat) (n : Nat) : Prop := c.1 857 0 0 = nI n ∧ BY (c.1 28 0) b n
def okM (a c : ST) (b : Nat → Nat) (n t : Nat) : Prop := (a.1 463 0 0 = nI 0 ∧ a.1 464 0 0 = -nI 1) ∧ c.1 863 0 0 = nI 0 ∧ t ≤ nT b n ∧ a.1 460 0 0 = nI t ∧ TCm c b n t
def flM (a c : ST) : Prop := ∃ f t, 0 < f ∧ f < 5 ∧ t ≤ 900 ∧ a.1 463 0 0 = nI f ∧ c.1 863 0 0 = nI f ∧ a.1 464 0 0 = c.1 864 0 0 ∧ a.1 460 0 0 = nI t
def XM (a c : ST) (b : Nat → Nat) (n : Nat) : Prop := (∃ t, okM a c b n t) ∨ flM a c
/-- one step of reading -/
def Pr (a c a' c' : ST) : Prop := FrK cc a a' ∧ a'.2.1 = a.2.1 ∧ FrK mc c c'
section Prim
variable {a c a' c' : ST} {b : Nat → Nat} {n t : Nat}
theorem Pr.rf (a c : ST) : Pr a c a c := ⟨FrK.rf a, rfl, FrK.rf c⟩
theorem Pr.tr {a'' c'' : ST} (h : Pr a c a' c') (g : Pr a' c' a'' c'') : Pr a c a'' c'' := ⟨h.1.tr g.1, g.2.1.trans h.2.1, h.2.2.tr g.2.2⟩
theorem TA.pr (h : TA a b n) (p1 : FrK cc a a') (p2 : a'.2.1 = a.2.1) : TA a' b n := by
  intro t ht
  have := h t ht
  unfold TK1 at this ⊢
  rw [p1.2 22 0 rfl, p1.2 23 0 rfl, p2]
  exact this
theorem CN.pr (h : CN c b n) (p : FrK mc c c') : CN c' b n := by
  unfold CN at h ⊢
  rw [p.2 857 0 rfl, p.2 28 0 rfl]
  exact h
theorem okM.nf (h : okM a c b n t) : ¬ flM a c := by
  rintro ⟨f, u, h1, h2, h3, h4, _⟩
  rw [h.1.1] at h4
  have := (nI_eq (by decide) (by omega)).mp h4
  omega
theorem kT_lt (b : Nat → Nat) (n q : Nat) : kT b n q < 19 := by
  have := wkv_ne (v := vT b n q) (len := enT b n q - q)
  unfold kT
  split
  · split
    · omega
    · split
      · omega
      · split <;> omega
  · omega
theorem kT_nT (hk : kT b n (plT b n t) ≠ 17) (ht : t ≤ nT b n) : t < nT b n := by
  rcases Nat.lt_or_ge t (nT b n) with h | h
  · exact h
  · exfalso
    have e : t = nT b n := by omega
    exact hk (kT_17.mpr (by rw [e, (nT_ok b n).2.1]; exact Nat.le_refl _))
theorem ad_fl (h : flM a c) : Rd_advance a = some a ∧ Mo_goOn c = some c := by
  obtain ⟨f, u, h1, h2, h3, h4, h5, h6, h7⟩ := h
  unfold Rd_advance Mo_goOn
  constructor
  · simp (disch := omega) only [bd_some, bd_none, lt_eq, lk_eq, fa_lit, nI_add, nI_mul, nI_sub, nle_t, nle_f, nlt_t, nlt_f, neq_t, neq_f, neg_ne, neg_ne', if_true, if_false, ite_true, ite_false, Nat.zero_add, Nat.add_zero, ld0, ld1, ld2, ld3, ld4, ld5, ld6, ld7, ld8, ld9, ld10, ld11, ld12, ld13, ld14, ld15, ld16, ld17, ld18, ld19, ld20, ld21, ld22, ld23, ld24, ld25, ld26, ld27, ld28, ld29, ld30, ld31, ld32, ld33, ld34, ld35, ld36, ld37, ld38, ld39, ld40, ld41, ld42, ld43, ld44, ld45, ld46, ld47, ld48, ld100, ld101, ld102, ld103, ld104, ld105, gF, h4]
  · simp (disch := omega) only [bd_some, bd_none, lt_eq, lk_eq, fa_lit, nI_add, nI_mul, nI_sub, nle_t, nle_f, nlt_t, nlt_f, neq_t, neq_f, neg_ne, neg_ne', if_true, if_false, ite_true, ite_false, Nat.zero_add, Nat.add_zero, ld0, ld1, ld2, ld3, ld4, ld5, ld6, ld7, ld8, ld9, ld10, ld11, ld12, ld13, ld14, ld15, ld16, ld17, ld18, ld19, ld20, ld21, ld22, ld23, ld24, ld25, ld26, ld27, ld28, ld29, ld30, ld31, ld32, ld33, ld34, ld35, ld36, ld37, ld38, ld39, ld40, ld41, ld42, ld43, ld44, ld45, ld46, ld47, ld48, ld100, ld101, ld102, ld103, ld104, ld105, gF, h5]
theorem bl_fl (h : flM a c) (x : Int32) : Rd_blame a x = some a ∧ Mo_wrong c x = some c := by
  obtain ⟨f, u, h1, h2, h3, h4, h5, h6, h7⟩ := h
  unfold Rd_blame Mo_wrong
  constructor
  · simp (disch := omega) only [bd_some, bd_none, lt_eq, lk_eq, fa_lit, nI_add, nI_mul, nI_sub, nle_t, nle_f, nlt_t, nlt_f, neq_t, neq_f, neg_ne, neg_ne', if_true, if_false, ite_true, ite_false, Nat.zero_add, Nat.add_zero, ld0, ld1, ld2, ld3, ld4, ld5, ld6, ld7, ld8, ld9, ld10, ld11, ld12, ld13, ld14, ld15, ld16, ld17, ld18, ld19, ld20, ld21, ld22, ld23, ld24, ld25, ld26, ld27, ld28, ld29, ld30, ld31, ld32, ld33, ld34, ld35, ld36, ld37, ld38, ld39, ld40, ld41, ld42, ld43, ld44, ld45, ld46, ld47, ld48, ld100, ld101, ld102, ld103, ld104, ld105, gF, h4]
  · simp (disch := omega) only [bd_some, bd_none, lt_eq, lk_eq, fa_lit, nI_add, nI_mul, nI_sub, nle_t, nle_f, nlt_t, nlt_f, neq_t, neq_f, neg_ne, neg_ne', if_true, if_false, ite_true, ite_false, Nat.zero_add, Nat.add_zero, ld0, ld1, ld2, ld3, ld4, ld5, ld6, ld7, ld8, ld9, ld10, ld11, ld12, ld13, ld14, ld15, ld16, ld17, ld18, ld19, ld20, ld21, ld22, ld23, ld24, ld25, ld26, ld27, ld28, ld29, ld30, ld31, ld32, ld33, ld34, ld35, ld36, ld37, ld38, ld39, ld40, ld41, ld42, ld43, ld44, ld45, ld46, ld47, ld48, ld100, ld101, ld102, ld103, ld104, ld105, gF, h5]
theorem ad_ok (hn : n ≤ 900) (hb2 : ∀ j, b j < 256) (hc : CN c b n) (h : okM a c b n t) (hk : kT b n (plT b n t) ≠ 17) : ∃ a' c', Rd_advance a = some a' ∧ Mo_goOn c = some c' ∧ Pr a c a' c' ∧ okM a' c' b n (t + 1) := by
  obtain ⟨h1, h2, h3, h4, h5, h6, h7⟩ := h
  have tl := kT_nT hk h3
  have tn := (nT_ok b n).1
  obtain ⟨d, ed, fd', d1, d2, d3⟩ := Mo_token_eq hc.1 h5 (atT_le b n (t + 1)) hn hc.2 hb2
  refine ⟨setF a 460 0 (nI (t + 1)), d, ?_, ?_, ⟨FrK.setF a _ rfl, rfl, fd'.mono (fun k i hk => ?_)⟩, ?_, ?_, ?_, ?_, d1, d2, d3⟩
  · unfold Rd_advance
    simp (disch := omega) only [bd_some, bd_none, lt_eq, lk_eq, fa_lit, nI_add, nI_mul, nI_sub, nle_t, nle_f, nlt_t, nlt_f, neq_t, neq_f, neg_ne, neg_ne', if_true, if_false, ite_true, ite_false, Nat.zero_add, Nat.add_zero, ld0, ld1, ld2, ld3, ld4, ld5, ld6, ld7, ld8, ld9, ld10, ld11, ld12, ld13, ld14, ld15, ld16, ld17, ld18, ld19, ld20, ld21, ld22, ld23, ld24, ld25, ld26, ld27, ld28, ld29, ld30, ld31, ld32, ld33, ld34, ld35, ld36, ld37, ld38, ld39, ld40, ld41, ld42, ld43, ld44, ld45, ld46, ld47, ld48, ld100, ld101, ld102, ld103, ld104, ld105, gF, h1, h4]
  · unfold Mo_goOn
    simp (disch := omega) only [bd_some, bd_none, lt_eq, lk_eq, fa_lit, nI_add, nI_mul, nI_sub, nle_t, nle_f, nlt_t, nlt_f, neq_t, neq_f, neg_ne, neg_ne', if_true, if_false, ite_true, ite_false, Nat.zero_add, Nat.add_zero, ld0, ld1, ld2, ld3, ld4, ld5, ld6, ld7, ld8, ld9, ld10, ld11, ld12, ld13, ld14, ld15, ld16, ld17, ld18, ld19, ld20, ld21, ld22, ld23, ld24, ld25, ld26, ld27, ld28, ld29, ld30, ld31, ld32, ld33, ld34, ld35, ld36, ld37, ld38, ld39, ld40, ld41, ld42, ld43, ld44, ld45, ld46, ld47, ld48, ld100, ld101, ld102, ld103, ld104, ld105, gF, h2, ed]
  · unfold mc at hk
    unfold f58
    simp only [decide_eq_false_iff_not] at hk ⊢
    omega
  · exact ⟨by rw [rf_ne (by decide)]; exact h1.1, by rw [rf_ne (by decide)]; exact h1.2⟩
  · rw [fd'.2 863 0 rfl]; exact h2
  · omega
  · exact rf_eq
theorem bl_ok (hn : n ≤ 900) (hA : TA a b n) (h : okM a c b n t) {f : Nat} (hf : 0 < f) (hf2 : f < 5) : ∃ a' c', Rd_blame a (nI f) = some a' ∧ Mo_wrong c (nI f) = some c' ∧ Pr a c a' c' ∧ flM a' c' := by
  obtain ⟨h1, h2, h3, h4, h5, h6, h7⟩ := h
  have tn := (nT_ok b n).1
  have p1 := (hA t h3).2.1
  refine ⟨setF (setF a 463 0 (nI f)) 464 0 (nI (plT b n t)), setF (setF c 863 0 (nI f)) 864 0 (nI (plT b n t)), ?_, ?_, ⟨(FrK.setF a _ rfl).tr (FrK.setF _ _ rfl), rfl, (FrK.setF c _ rfl).tr (FrK.setF _ _ rfl)⟩, f, t, hf, hf2, by omega, ?_, ?_, ?_, ?_⟩
  · unfold Rd_blame
    simp (disch := omega) only [bd_some, bd_none, lt_eq, lk_eq, fa_lit, nI_add, nI_mul, nI_sub, nle_t, nle_f, nlt_t, nlt_f, neq_t, neq_f, neg_ne, neg_ne', if_true, if_false, ite_true, ite_false, Nat.zero_add, Nat.add_zero, ld0, ld1, ld2, ld3, ld4, ld5, ld6, ld7, ld8, ld9, ld10, ld11, ld12, ld13, ld14, ld15, ld16, ld17, ld18, ld19, ld20, ld21, ld22, ld23, ld24, ld25, ld26, ld27, ld28, ld29, ld30, ld31, ld32, ld33, ld34, ld35, ld36, ld37, ld38, ld39, ld40, ld41, ld42, ld43, ld44, ld45, ld46, ld47, ld48, ld100, ld101, ld102, ld103, ld104, ld105, gF, h1, rf_ne, h4, p1]
  · unfold Mo_wrong
    simp (disch := omega) only [bd_some, bd_none, lt_eq, lk_eq, fa_lit, nI_add, nI_mul, nI_sub, nle_t, nle_f, nlt_t, nlt_f, neq_t, neq_f, neg_ne, neg_ne', if_true, if_false, ite_true, ite_false, Nat.zero_add, Nat.add_zero, ld0, ld1, ld2, ld3, ld4, ld5, ld6, ld7, ld8, ld9, ld10, ld11, ld12, ld13, ld14, ld15, ld16, ld17, ld18, ld19, ld20, ld21, ld22, ld23, ld24, ld25, ld26, ld27, ld28, ld29, ld30, ld31, ld32, ld33, ld34, ld35, ld36, ld37, ld38, ld39, ld40, ld41, ld42, ld43, ld44, ld45, ld46, ld47, ld48, ld100, ld101, ld102, ld103, ld104, ld105, gF, h2, rf_ne, h6]
  · rw [rf_ne (by decide), rf_eq]
  · rw [rf_ne (by decide), rf_eq]
  · rw [rf_eq, rf_eq]
  · rw [rf_ne (by decide), rf_ne (by decide)]; exact h4
theorem ones (hn : n ≤ 900) (hb2 : ∀ j, b j < 256) (hA : TA a b n) (hC : CN c b n) (hX : XM a c b n) {x m : Nat} (hm : 1 ≤ m) (hx : x + m ≤ 14) : ∃ v w a' c', Rd_oneOf a (nI x) (nI (x + m - 1)) = some (v, a') ∧ Mo_among c (nI x) (nI m) = some (w, c') ∧ Pr a c a' c' ∧ XM a' c' b n ∧ ∀ t, okM a' c' b n t → ∃ t0 u, t = t0 + 1 ∧ okM a c b n t0 ∧ u < m ∧ v = nI u ∧ w = nI u := by
  have tn := (nT_ok b n).1
  rcases hX with ⟨t, h⟩ | h
  rotate_left
  · have hf := h
    obtain ⟨e1, e2⟩ := ad_fl h
    obtain ⟨e3, _⟩ := bl_fl h 1
    obtain ⟨f, u, h1, h2, h3, h4, h5, h6, h7⟩ := h
    refine ⟨a.1 22 0 u - nI x, nI 0, a, c, ?_, ?_, Pr.rf a c, Or.inr hf, fun t ht => absurd hf ht.nf⟩
    · unfold Rd_oneOf
      show bd_ (ldI a 22 0 (a.1 460 0 0)) _ = _
      rw [h7, ld22 (by omega), bd_some]
      simp only [lk_eq, e3, bd_some, e1, ite_self]
    · unfold Mo_among
      simp (disch := omega) only [bd_some, bd_none, lt_eq, lk_eq, fa_lit, nI_add, nI_mul, nI_sub, nle_t, nle_f, nlt_t, nlt_f, neq_t, neq_f, neg_ne, neg_ne', if_true, if_false, ite_true, ite_false, Nat.zero_add, Nat.add_zero, ld0, ld1, ld2, ld3, ld4, ld5, ld6, ld7, ld8, ld9, ld10, ld11, ld12, ld13, ld14, ld15, ld16, ld17, ld18, ld19, ld20, ld21, ld22, ld23, ld24, ld25, ld26, ld27, ld28, ld29, ld30, ld31, ld32, ld33, ld34, ld35, ld36, ld37, ld38, ld39, ld40, ld41, ld42, ld43, ld44, ld45, ld46, ld47, ld48, ld100, ld101, ld102, ld103, ld104, ld105, gF, h5, e2]
  · have hk := (hA t h.2.2.1).1
    have kl := kT_lt b n (plT b n t)
    have ho := h
    obtain ⟨h1, h2, h3, h4, h5, h6, s1, s2, s3, s4, s5, s6⟩ := h
    generalize hK : kT b n (plT b n t) = K at *
    by_cases c1 : x ≤ K ∧ K < x + m
    · obtain ⟨a', c', e1, e2, pr, ok⟩ := ad_ok hn hb2 hC ho (by omega)
      obtain ⟨q1, q2⟩ := s1 (by omega)
      refine ⟨nI (K - x), nI (K - x), a', c', ?_, ?_, pr, Or.inl ⟨_, ok⟩, fun t' ht' => ⟨t, K - x, ?_, ho, by omega, rfl, rfl⟩⟩
      · unfold Rd_oneOf
        simp (disch := omega) only [bd_some, bd_none, lt_eq, lk_eq, fa_lit, nI_add, nI_mul, nI_sub, nle_t, nle_f, nlt_t, nlt_f, neq_t, neq_f, neg_ne, neg_ne', if_true, if_false, ite_true, ite_false, Nat.zero_add, Nat.add_zero, ld0, ld1, ld2, ld3, ld4, ld5, ld6, ld7, ld8, ld9, ld10, ld11, ld12, ld13, ld14, ld15, ld16, ld17, ld18, ld19, ld20, ld21, ld22, ld23, ld24, ld25, ld26, ld27, ld28, ld29, ld30, ld31, ld32, ld33, ld34, ld35, ld36, ld37, ld38, ld39, ld40, ld41, ld42, ld43, ld44, ld45, ld46, ld47, ld48, ld100, ld101, ld102, ld103, ld104, ld105, gF, h4, hk, e1]
      · unfold Mo_among
        simp (disch := omega) only [bd_some, bd_none, lt_eq, lk_eq, fa_lit, nI_add, nI_mul, nI_sub, nle_t, nle_f, nlt_t, nlt_f, neq_t, neq_f, neg_ne, neg_ne', if_true, if_false, ite_true, ite_false, Nat.zero_add, Nat.add_zero, ld0, ld1, ld2, ld3, ld4, ld5, ld6, ld7, ld8, ld9, ld10, ld11, ld12, ld13, ld14, ld15, ld16, ld17, ld18, ld19, ld20, ld21, ld22, ld23, ld24, ld25, ld26, ld27, ld28, ld29, ld30, ld31, ld32, ld33, ld34, ld35, ld36, ld37, ld38, ld39, ld40, ld41, ld42, ld43, ld44, ld45, ld46, ld47, ld48, ld100, ld101, ld102, ld103, ld104, ld105, gF, h2, q1, q2, e2]
      · have := ht'.2.2.2.1
        rw [ok.2.2.2.1] at this
        have := (nI_eq (by omega) (by have := ht'.2.2.1; omega)).mp this
        omega
    · obtain ⟨a', c', e1, e2, pr, fl⟩ := bl_ok hn hA ho (f := 1) (by decide) (by decide)
      obtain ⟨g1, g2⟩ := ad_fl fl
      have fl2 := fl
      obtain ⟨f, u, l1, l2, l3, l4, l5, l6, l7⟩ := fl2
      refine ⟨nI K - nI x, nI 0, a', c', ?_, ?_, pr, Or.inr fl, fun t ht => absurd fl ht.nf⟩
      · unfold Rd_oneOf
        rcases Nat.lt_or_ge K x with c2 | c2
        · simp (disch := omega) only [bd_some, lk_eq, fa_lit, gF, h4, ld22, hk, nlt_t, if_true, e1, g1]
        · simp (disch := omega) only [bd_some, lk_eq, fa_lit, gF, h4, ld22, hk, nlt_f, nle_f, if_false, e1, g1]
      · unfold Mo_among
        rcases Nat.lt_or_ge K 14 with c2 | c2
        · obtain ⟨q1, q2⟩ := s1 c2
          rcases Nat.lt_or_ge K x with c3 | c3
          · simp (disch := omega) only [bd_some, bd_none, lt_eq, lk_eq, fa_lit, nI_add, nI_mul, nI_sub, nle_t, nle_f, nlt_t, nlt_f, neq_t, neq_f, neg_ne, neg_ne', if_true, if_false, ite_true, ite_false, Nat.zero_add, Nat.add_zero, ld0, ld1, ld2, ld3, ld4, ld5, ld6, ld7, ld8, ld9, ld10, ld11, ld12, ld13, ld14, ld15, ld16, ld17, ld18, ld19, ld20, ld21, ld22, ld23, ld24, ld25, ld26, ld27, ld28, ld29, ld30, ld31, ld32, ld33, ld34, ld35, ld36, ld37, ld38, ld39, ld40, ld41, ld42, ld43, ld44, ld45, ld46, ld47, ld48, ld100, ld101, ld102, ld103, ld104, ld105, gF, h2, q1, q2, e2, l5, g2]
          · simp (disch := omega) only [bd_some, bd_none, lt_eq, lk_eq, fa_lit, nI_add, nI_mul, nI_sub, nle_t, nle_f, nlt_t, nlt_f, neq_t, neq_f, neg_ne, neg_ne', if_true, if_false, ite_true, ite_false, Nat.zero_add, Nat.add_zero, ld0, ld1, ld2, ld3, ld4, ld5, ld6, ld7, ld8, ld9, ld10, ld11, ld12, ld13, ld14, ld15, ld16, ld17, ld18, ld19, ld20, ld21, ld22, ld23, ld24, ld25, ld26, ld27, ld28, ld29, ld30, ld31, ld32, ld33, ld34, ld35, ld36, ld37, ld38, ld39, ld40, ld41, ld42, ld43, ld44, ld45, ld46, ld47, ld48, ld100, ld101, ld102, ld103, ld104, ld105, gF, h2, q1, q2, e2, l5, g2]
        · have q1 : (c.1 860 0 0 = nI 0 ∧ c.1 861 0 0 = -nI 1) ∨ ∃ z, 0 < z ∧ z < 5 ∧ c.1 860 0 0 = nI z := by
            rcases (show K = 14 ∨ K = 15 ∨ K = 16 ∨ K = 17 ∨ K = 18 by omega) with e | e | e | e | e
            · exact Or.inl ⟨(s2 e).1, (s2 e).2.1⟩
            · exact Or.inr ⟨1, by decide, by decide, (s3 e).1⟩
            · exact Or.inr ⟨2, by decide, by decide, s4 e⟩
            · exact Or.inr ⟨3, by decide, by decide, s5 e⟩
            · exact Or.inr ⟨4, by decide, by decide, s6 e⟩
          rcases q1 with ⟨q1, q2⟩ | ⟨z, z1, z2, q1⟩
          · have q3 : (-nI 1 < nI x) = True := eq_true (Int32.lt_of_lt_of_le (of_eq_true (neg_lt0 (b := 1) (by decide))) (of_eq_true (nle_t (Nat.zero_le x) (by omega))))
            simp (disch := omega) only [bd_some, bd_none, lt_eq, lk_eq, fa_lit, nI_add, nI_mul, nI_sub, nle_t, nle_f, nlt_t, nlt_f, neq_t, neq_f, neg_ne, neg_ne', if_true, if_false, ite_true, ite_false, Nat.zero_add, Nat.add_zero, ld0, ld1, ld2, ld3, ld4, ld5, ld6, ld7, ld8, ld9, ld10, ld11, ld12, ld13, ld14, ld15, ld16, ld17, ld18, ld19, ld20, ld21, ld22, ld23, ld24, ld25, ld26, ld27, ld28, ld29, ld30, ld31, ld32, ld33, ld34, ld35, ld36, ld37, ld38, ld39, ld40, ld41, ld42, ld43, ld44, ld45, ld46, ld47, ld48, ld100, ld101, ld102, ld103, ld104, ld105, gF, h2, q1, q2, q3, e2, l5, g2]
          · simp (disch := omega) only [bd_some, bd_none, lt_eq, lk_eq, fa_lit, nI_add, nI_mul, nI_sub, nle_t, nle_f, nlt_t, nlt_f, neq_t, neq_f, neg_ne, neg_ne', if_true, if_false, ite_true, ite_false, Nat.zero_add, Nat.add_zero, ld0, ld1, ld2, ld3, ld4, ld5, ld6, ld7, ld8, ld9, ld10, ld11, ld12, ld13, ld14, ld15, ld16, ld17, ld18, ld19, ld20, ld21, ld22, ld23, ld24, ld25, ld26, ld27, ld28, ld29, ld30, ld31, ld32, ld33, ld34, ld35, ld36, ld37, ld38, ld39, ld40, ld41, ld42, ld43, ld44, ld45, ld46, ld47, ld48, ld100, ld101, ld102, ld103, ld104, ld105, gF, h2, q1, e2, l5, g2]
end Prim

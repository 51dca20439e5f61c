/-! ===== numbers and names ===== -/
theorem kT_15 {b : Nat → Nat} {n q : Nat} (h : kT b n q = 15) : q < n ∧ ¬ isLb (b q) = true ∧ isDb (b q) = true := by
  have := wkv_ne (v := vT b n q) (len := enT b n q - q)
  unfold kT at h
  by_cases c : q < n
  · rw [if_pos c] at h
    by_cases c1 : isLb (b q) = true
    · rw [if_pos c1] at h
      exfalso
      unfold wkv at h
      split at h
      · rename_i h2
        have := (wc_tab _ h2).2.2.1
        omega
      · split at h <;> omega
    · rw [if_neg c1] at h
      by_cases c2 : isDb (b q) = true
      · exact ⟨c, c1, c2⟩
      · rw [if_neg c2] at h
        split at h <;> omega
  · rw [if_neg c] at h; omega
theorem kT_14 {b : Nat → Nat} {n q : Nat} (h : kT b n q = 14) : q < n ∧ isLb (b q) = true ∧ enT b n q - q ≤ 6 := by
  unfold kT at h
  by_cases c : q < n
  · rw [if_pos c] at h
    by_cases c1 : isLb (b q) = true
    · rw [if_pos c1] at h
      refine ⟨c, c1, ?_⟩
      unfold wkv at h
      split at h
      · rename_i h2
        have h3 := fd_yes h2
        unfold hitW at h3
        simp only [Bool.and_eq_true, decide_eq_true_eq] at h3
        have := ((wc_tab _ h2).2.2.2 h3.1).2
        omega
      · split at h <;> omega
    · rw [if_neg c1] at h
      split at h
      · omega
      · split at h <;> omega
  · rw [if_neg c] at h; omega
theorem vT_15 {b : Nat → Nat} {n q : Nat} (hb2 : ∀ j, b j < 256) (h : kT b n q = 15) : vT b n q < 1000256 := by
  obtain ⟨h1, h2, h3⟩ := kT_15 h
  unfold vT
  rw [if_neg h2]
  exact nvN_lt _ (fun m => hb2 _) _
theorem vT_14 {b : Nat → Nat} {n q : Nat} (h : kT b n q = 14) : vT b n q < 1073741824 := by
  obtain ⟨h1, h2, h3⟩ := kT_14 h
  have en := enT_L h1 h2
  have r1 : q ≤ rnE isLb b n q := rnE_ge
  unfold vT
  rw [if_pos h2]
  rw [en] at h3 ⊢
  have a1 : m8 (rnE isLb b n q - q) = rnE isLb b n q - q := by unfold m8; rw [if_pos (by omega)]
  rw [a1]
  have := pkL_lt (b := b) (n := n) (q := q) (m := rnE isLb b n q - q) (by omega)
  exact Nat.lt_of_lt_of_le this (Nat.le_trans (Nat.pow_le_pow_right (by decide) h3) (by decide))
section Prim2
variable {a c a' c' : ST} {b : Nat → Nat} {n t : Nat}
theorem isAt_eq (hn : n ≤ 900) (hA : TA a b n) (h : okM a c b n t) {x : Nat} (hx : x < 19) : Rd_isAt a (nI x) = some (b01 (decide (kT b n (plT b n t) = x))) := by
  have hk := (hA t h.2.2.1).1
  have kl := kT_lt b n (plT b n t)
  have tn := (nT_ok b n).1
  have t1 := h.2.2.1
  have h4 := h.2.2.2.1
  unfold Rd_isAt
  show bd_ (ldI a 22 0 (a.1 460 0 0)) _ = _
  rw [h4, ld22 (by omega), bd_some, hk]
  by_cases c : kT b n (plT b n t) = x
  · rw [if_pos (by rw [c]), decide_eq_true c]; rfl
  · rw [if_neg (of_eq_false (neq_f c (by omega) (by omega))), decide_eq_false c]; rfl
theorem isAt_tot {x : Int32} {u : Nat} (h : a.1 460 0 0 = nI u) (hu : u ≤ 900) : Rd_isAt a x = some (nI 0) ∨ Rd_isAt a x = some (nI 1) := by
  unfold Rd_isAt
  show bd_ (ldI a 22 0 (a.1 460 0 0)) _ = _ ∨ bd_ (ldI a 22 0 (a.1 460 0 0)) _ = _
  rw [h, ld22 (by omega), bd_some]
  split
  · exact Or.inr rfl
  · exact Or.inl rfl
theorem nums (hn : n ≤ 900) (hb2 : ∀ j, b j < 256) (hA : TA a b n) (hC : CN c b n) (hX : XM a c b n) {lo hi : Nat} (hl : lo ≤ hi) (hh : hi < 1000) : ∃ v w a' c', Rd_numberIn a (nI lo) (nI hi) = some (v, a') ∧ Mo_number c (nI lo) (nI hi) = some (w, c') ∧ Pr a c a' c' ∧ XM a' c' b n ∧ ∀ t, okM a' c' b n t → ∃ t0 u, t = t0 + 1 ∧ okM a c b n t0 ∧ lo ≤ u ∧ u ≤ hi ∧ v = nI u ∧ w = nI u := by
  have tn := (nT_ok b n).1
  rcases hX with ⟨t, h⟩ | h
  rotate_left
  · have hf := h
    obtain ⟨e1, e2⟩ := ad_fl h
    obtain ⟨e3, _⟩ := bl_fl h 1
    obtain ⟨e4, _⟩ := bl_fl h 2
    obtain ⟨f, u, h1, h2, h3, h4, h5, h6, h7⟩ := h
    refine ⟨(a.2.1 104 0 u).toInt32, nI 0, a, c, ?_, ?_, Pr.rf a c, Or.inr hf, fun t ht => absurd hf ht.nf⟩
    · unfold Rd_numberIn
      show bd_ (ldL a 104 0 (a.1 460 0 0)) _ = _
      rw [h7, ld104 (by omega), bd_some]
      rcases isAt_tot (x := 15) h7 h3 with e | e
      · rw [e, bd_some, lk_eq, if_pos (show nI 0 = (0 : Int32) from rfl)]
        simp only [e3, bd_some, e1]
      · rw [e, bd_some, lk_eq, if_neg (show ¬ nI 1 = (0 : Int32) by decide), lk_eq]
        simp only [e4, bd_some, e1, ite_self]
    · unfold Mo_number
      simp (disch := omega) only [bd_some, bd_none, lt_eq, lk_eq, fa_lit, nI_add, nI_mul, nI_sub, nle_t, nle_f, nlt_t, nlt_f, neq_t, neq_f, neg_ne, neg_ne', if_true, if_false, ite_true, ite_false, Nat.zero_add, Nat.add_zero, ld0, ld1, ld2, ld3, ld4, ld5, ld6, ld7, ld8, ld9, ld10, ld11, ld12, ld13, ld14, ld15, ld16, ld17, ld18, ld19, ld20, ld21, ld22, ld23, ld24, ld25, ld26, ld27, ld28, ld29, ld30, ld31, ld32, ld33, ld34, ld35, ld36, ld37, ld38, ld39, ld40, ld41, ld42, ld43, ld44, ld45, ld46, ld47, ld48, ld100, ld101, ld102, ld103, ld104, ld105, gF, h5, e2]
  · have ia := isAt_eq hn hA h (x := 15) (by decide)
    obtain ⟨hk, hp, hv⟩ := hA t h.2.2.1
    have kl := kT_lt b n (plT b n t)
    have ho := h
    obtain ⟨h1, h2, h3, h4, h5, h6, s1, s2, s3, s4, s5, s6⟩ := h
    by_cases c1 : kT b n (plT b n t) = 15
    · rw [decide_eq_true c1, b01_t] at ia
      obtain ⟨q1, q2⟩ := s3 c1
      have hvl := vT_15 hb2 c1
      obtain ⟨p1, p2, p3⟩ := kT_15 c1
      have hv2 := hv p1 (Or.inr p3)
      generalize vT b n (plT b n t) = V at *
      have m1 : (lg_cmp (lN V) (nI lo).toInt64 < 0) = (V < lo) := propext (by rw [wid_l (by omega)]; exact (lg_cmp_lt _ _).trans (pk_lLT (by omega) (by omega)))
      have m2 : (lg_cmp (lN V) (nI hi).toInt64 ≤ 0) = (V ≤ hi) := propext (by rw [wid_l (by omega)]; exact (lg_cmp_le _ _).trans (pk_lLE (by omega) (by omega)))
      by_cases c2 : lo ≤ V ∧ V ≤ hi
      · obtain ⟨a', c', e1, e2, pr, ok⟩ := ad_ok hn hb2 hC ho (by omega)
        refine ⟨(lN V).toInt32, nI V, a', c', ?_, ?_, pr, Or.inl ⟨_, ok⟩, fun t' ht' => ⟨t, V, ?_, ho, c2.1, c2.2, ?_, rfl⟩⟩
        · unfold Rd_numberIn
          show bd_ (ldL a 104 0 (a.1 460 0 0)) _ = _
          rw [h4, ld104 (by omega), bd_some, hv2]
          show bd_ (Rd_isAt a (nI 15)) _ = _
          rw [ia, bd_some, lk_eq, if_neg (show ¬ nI 1 = (0 : Int32) by decide), lk_eq, if_neg (of_eq_false (m1.trans (eq_false (by omega)))), if_pos (of_eq_true (m2.trans (eq_true c2.2)))]
          simp only [e1, bd_some]
        · unfold Mo_number
          simp (disch := omega) only [bd_some, bd_none, lt_eq, lk_eq, fa_lit, nI_add, nI_mul, nI_sub, nle_t, nle_f, nlt_t, nlt_f, neq_t, neq_f, neg_ne, neg_ne', if_true, if_false, ite_true, ite_false, Nat.zero_add, Nat.add_zero, ld0, ld1, ld2, ld3, ld4, ld5, ld6, ld7, ld8, ld9, ld10, ld11, ld12, ld13, ld14, ld15, ld16, ld17, ld18, ld19, ld20, ld21, ld22, ld23, ld24, ld25, ld26, ld27, ld28, ld29, ld30, ld31, ld32, ld33, ld34, ld35, ld36, ld37, ld38, ld39, ld40, ld41, ld42, ld43, ld44, ld45, ld46, ld47, ld48, ld100, ld101, ld102, ld103, ld104, ld105, gF, h2, q1, q2, e2]
        · have := ht'.2.2.2.1
          rw [ok.2.2.2.1] at this
          have := (nI_eq (by omega) (by have := ht'.2.2.1; omega)).mp this
          omega
        · exact lN_i V
      · obtain ⟨a', c', e1, e2, pr, fl⟩ := bl_ok hn hA ho (f := 2) (by decide) (by decide)
        obtain ⟨g1, g2⟩ := ad_fl fl
        have fl2 := fl
        obtain ⟨f, u, l1, l2, l3, l4, l5, l6, l7⟩ := fl2
        refine ⟨(lN V).toInt32, nI 0, a', c', ?_, ?_, pr, Or.inr fl, fun t ht => absurd fl ht.nf⟩
        · unfold Rd_numberIn
          show bd_ (ldL a 104 0 (a.1 460 0 0)) _ = _
          rw [h4, ld104 (by omega), bd_some, hv2]
          show bd_ (Rd_isAt a (nI 15)) _ = _
          rw [ia, bd_some, lk_eq, if_neg (show ¬ nI 1 = (0 : Int32) by decide), lk_eq]
          by_cases c3 : V < lo
          · rw [if_pos (of_eq_true (m1.trans (eq_true c3)))]
            show bd_ (Rd_blame a (nI 2)) _ = _
            simp only [e1, bd_some, g1]
          · rw [if_neg (of_eq_false (m1.trans (eq_false c3))), if_neg (of_eq_false (m2.trans (eq_false (by omega))))]
            show bd_ (Rd_blame a (nI 2)) _ = _
            simp only [e1, bd_some, g1]
        · unfold Mo_number
          by_cases c3 : V < lo
          · simp (disch := omega) only [bd_some, bd_none, lt_eq, lk_eq, fa_lit, nI_add, nI_mul, nI_sub, nle_t, nle_f, nlt_t, nlt_f, neq_t, neq_f, neg_ne, neg_ne', if_true, if_false, ite_true, ite_false, Nat.zero_add, Nat.add_zero, ld0, ld1, ld2, ld3, ld4, ld5, ld6, ld7, ld8, ld9, ld10, ld11, ld12, ld13, ld14, ld15, ld16, ld17, ld18, ld19, ld20, ld21, ld22, ld23, ld24, ld25, ld26, ld27, ld28, ld29, ld30, ld31, ld32, ld33, ld34, ld35, ld36, ld37, ld38, ld39, ld40, ld41, ld42, ld43, ld44, ld45, ld46, ld47, ld48, ld100, ld101, ld102, ld103, ld104, ld105, gF, h2, q1, q2, e2, l5, g2]
          · simp (disch := omega) only [bd_some, bd_none, lt_eq, lk_eq, fa_lit, nI_add, nI_mul, nI_sub, nle_t, nle_f, nlt_t, nlt_f, neq_t, neq_f, neg_ne, neg_ne', if_true, if_false, ite_true, ite_false, Nat.zero_add, Nat.add_zero, ld0, ld1, ld2, ld3, ld4, ld5, ld6, ld7, ld8, ld9, ld10, ld11, ld12, ld13, ld14, ld15, ld16, ld17, ld18, ld19, ld20, ld21, ld22, ld23, ld24, ld25, ld26, ld27, ld28, ld29, ld30, ld31, ld32, ld33, ld34, ld35, ld36, ld37, ld38, ld39, ld40, ld41, ld42, ld43, ld44, ld45, ld46, ld47, ld48, ld100, ld101, ld102, ld103, ld104, ld105, gF, h2, q1, q2, e2, l5, g2]
    · rw [decide_eq_false c1, b01_f] at ia
      obtain ⟨a', c', e1, e2, pr, fl⟩ := bl_ok hn hA ho (f := 1) (by decide) (by decide)
      obtain ⟨g1, g2⟩ := ad_fl fl
      have fl2 := fl
      obtain ⟨f, u, l1, l2, l3, l4, l5, l6, l7⟩ := fl2
      have q1 : ∃ z, z ≠ 1 ∧ z < 5 ∧ c.1 860 0 0 = nI z := by
        rcases (show kT b n (plT b n t) < 14 ∨ kT b n (plT b n t) = 14 ∨ kT b n (plT b n t) = 16 ∨ kT b n (plT b n t) = 17 ∨ kT b n (plT b n t) = 18 by omega) with e | e | e | e | e
        · exact ⟨0, by decide, by decide, (s1 e).1⟩
        · exact ⟨0, by decide, by decide, (s2 e).1⟩
        · exact ⟨2, by decide, by decide, s4 e⟩
        · exact ⟨3, by decide, by decide, s5 e⟩
        · exact ⟨4, by decide, by decide, s6 e⟩
      obtain ⟨z, z1, z2, q1⟩ := q1
      refine ⟨(a.2.1 104 0 t).toInt32, nI 0, a', c', ?_, ?_, pr, Or.inr fl, fun t ht => absurd fl ht.nf⟩
      · unfold Rd_numberIn
        show bd_ (ldL a 104 0 (a.1 460 0 0)) _ = _
        rw [h4, ld104 (by omega), bd_some]
        show bd_ (Rd_isAt a (nI 15)) _ = _
        rw [ia, bd_some, lk_eq, if_pos (show nI 0 = (0 : Int32) from rfl)]
        show bd_ (Rd_blame a (nI 1)) _ = _
        simp only [e1, bd_some, g1]
      · unfold Mo_number
        simp (disch := omega) only [bd_some, bd_none, lt_eq, lk_eq, fa_lit, nI_add, nI_mul, nI_sub, nle_t, nle_f, nlt_t, nlt_f, neq_t, neq_f, neg_ne, neg_ne', if_true, if_false, ite_true, ite_false, Nat.zero_add, Nat.add_zero, ld0, ld1, ld2, ld3, ld4, ld5, ld6, ld7, ld8, ld9, ld10, ld11, ld12, ld13, ld14, ld15, ld16, ld17, ld18, ld19, ld20, ld21, ld22, ld23, ld24, ld25, ld26, ld27, ld28, ld29, ld30, ld31, ld32, ld33, ld34, ld35, ld36, ld37, ld38, ld39, ld40, ld41, ld42, ld43, ld44, ld45, ld46, ld47, ld48, ld100, ld101, ld102, ld103, ld104, ld105, gF, h2, q1, e2, l5, g2]
/-! where a name is told -/
def RWL (f : Nat → Int64) (g : Nat → Int32) (e : Nat) : Prop := ∀ k, k < e → ∃ v, v < 1073741824 ∧ f k = lN v ∧ g k = nI v
def fnd (g : Nat → Int32) (u e : Nat) : Int32 := if fd (fun k => decide (g k = nI u)) e < e then nI (fd (fun k => decide (g k = nI u)) e) else -nI 1
theorem find_eq {K k1 L e u : Nat} (hL : lenL K = L) (hL2 : L < 1000) (hI : lenI k1 = L) (he : e ≤ L) (hr : RWL (a.2.1 K 0) (c.1 k1 0) e) (hu : u < 1073741824) (ht : t < 901) (h4 : a.1 460 0 0 = nI t) (hv : a.2.1 104 0 t = lN u) (h62 : c.1 862 0 0 = nI u) : Rd_find a K 0 (nI e) = some (fnd (c.1 k1 0) u e) ∧ Mo_named c k1 0 (nI e) = some (fnd (c.1 k1 0) u e) := by
  have g4 : gF a 460 0 = nI t := h4
  have g62 : gF c 862 0 = nI u := h62
  constructor
  · unfold Rd_find fnd
    refine lp_find e (by omega) (fun k => decide (c.1 k1 0 k = nI u)) (fun k => nI k) (fun rec k hk hq => ?_) (fun rec k hk hq e2 => ?_) (fun rec e2 => ?_)
    · obtain ⟨v, v1, v2, v3⟩ := hr k hk
      simp only [decide_eq_false_iff_not, v3] at hq
      have hq2 : ¬ v = u := fun z => hq (by rw [z])
      show (if nI e ≤ nI k then _ else bd_ (ldL a K 0 (nI k)) (fun v4 => bd_ (ldL a 104 0 (gF a 460 0)) (fun v5 => (if (lg_cmp v4 v5) = 0 then _ else rec (nI k + nI 1))))) = _
      rw [if_neg (of_eq_false (nle_f hk (by omega))), ldL_in hL (by omega) (by omega), bd_some, g4, ld104 ht, bd_some, hv, v2, if_neg (fun z => hq2 ((pk_lEQ (by omega) (by omega)).mp ((lg_cmp_eq _ _).mp z))), nI_add]
    · obtain ⟨v, v1, v2, v3⟩ := hr k hk
      simp only [decide_eq_true_eq, v3] at hq
      have hq2 : v = u := (nI_eq (by omega) (by omega)).mp hq
      rw [← e2, if_pos hk]
      show (if nI e ≤ nI k then _ else bd_ (ldL a K 0 (nI k)) (fun v4 => bd_ (ldL a 104 0 (gF a 460 0)) (fun v5 => (if (lg_cmp v4 v5) = 0 then some (nI k) else _)))) = _
      rw [if_neg (of_eq_false (nle_f hk (by omega))), ldL_in hL (by omega) (by omega), bd_some, g4, ld104 ht, bd_some, hv, v2, hq2, if_pos ((lg_cmp_eq _ _).mpr rfl)]
    · rw [e2, if_neg (Nat.lt_irrefl e)]
      show (if nI e ≤ nI e then some (-nI 1) else _) = _
      rw [if_pos (of_eq_true (nle_t (Nat.le_refl e) (by omega)))]
  · unfold Mo_named fnd
    refine lp_find e (by omega) (fun k => decide (c.1 k1 0 k = nI u)) (fun k => nI k) (fun rec k hk hq => ?_) (fun rec k hk hq e2 => ?_) (fun rec e2 => ?_)
    · simp only [decide_eq_false_iff_not] at hq
      show (if nI e ≤ nI k then _ else bd_ (ldI c k1 0 (nI k)) (fun v4 => (if v4 = (gF c 862 0) then _ else rec (nI k + nI 1)))) = _
      rw [if_neg (of_eq_false (nle_f hk (by omega))), ldI_in hI (by omega) (by omega), bd_some, g62, if_neg hq, nI_add]
    · simp only [decide_eq_true_eq] at hq
      rw [← e2, if_pos hk]
      show (if nI e ≤ nI k then _ else bd_ (ldI c k1 0 (nI k)) (fun v4 => (if v4 = (gF c 862 0) then some (nI k) else _))) = _
      rw [if_neg (of_eq_false (nle_f hk (by omega))), ldI_in hI (by omega) (by omega), bd_some, g62, if_pos hq]
    · rw [e2, if_neg (Nat.lt_irrefl e)]
      show (if nI e ≤ nI e then some (-nI 1) else _) = _
      rw [if_pos (of_eq_true (nle_t (Nat.le_refl e) (by omega)))]
theorem find_tot {K L e : Nat} (hL : lenL K = L) (hL2 : L < 1000) (he : e ≤ L) (ht : t < 901) (h4 : a.1 460 0 0 = nI t) : ∃ v, Rd_find a K 0 (nI e) = some v := by
  have g4 : gF a 460 0 = nI t := h4
  unfold Rd_find
  refine ⟨if fd (fun k => decide (lg_cmp (a.2.1 K 0 k) (a.2.1 104 0 t) = 0)) e < e then nI (fd (fun k => decide (lg_cmp (a.2.1 K 0 k) (a.2.1 104 0 t) = 0)) e) else -nI 1, ?_⟩
  refine lp_find e (by omega) (fun k => decide (lg_cmp (a.2.1 K 0 k) (a.2.1 104 0 t) = 0)) (fun k => nI k) (fun rec k hk hq => ?_) (fun rec k hk hq e2 => ?_) (fun rec e2 => ?_)
  · simp only [decide_eq_false_iff_not] at hq
    show (if nI e ≤ nI k then _ else bd_ (ldL a K 0 (nI k)) (fun v4 => bd_ (ldL a 104 0 (gF a 460 0)) (fun v5 => (if (lg_cmp v4 v5) = 0 then _ else rec (nI k + nI 1))))) = _
    rw [if_neg (of_eq_false (nle_f hk (by omega))), ldL_in hL (by omega) (by omega), bd_some, g4, ld104 ht, bd_some, if_neg hq, nI_add]
  · simp only [decide_eq_true_eq] at hq
    rw [← e2, if_pos hk]
    show (if nI e ≤ nI k then _ else bd_ (ldL a K 0 (nI k)) (fun v4 => bd_ (ldL a 104 0 (gF a 460 0)) (fun v5 => (if (lg_cmp v4 v5) = 0 then some (nI k) else _)))) = _
    rw [if_neg (of_eq_false (nle_f hk (by omega))), ldL_in hL (by omega) (by omega), bd_some, g4, ld104 ht, bd_some, if_pos hq]
  · rw [e2, if_neg (Nat.lt_irrefl e)]
    show (if nI e ≤ nI e then some (-nI 1) else _) = _
    rw [if_pos (of_eq_true (nle_t (Nat.le_refl e) (by omega)))]
theorem fnd_or {g : Nat → Int32} {u e : Nat} : fnd g u e = -nI 1 ∨ ∃ k, k < e ∧ fnd g u e = nI k := by
  unfold fnd
  split
  · rename_i h
    exact Or.inr ⟨_, h, rfl⟩
  · exact Or.inl rfl
end Prim2

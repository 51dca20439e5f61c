/-! ===== what has been read so far, on both sides ===== -/
def RW (p : Nat → Prop) (f g : Nat → Int32) (e : Nat) : Prop := ∀ k, k < e → ∃ v, p v ∧ f k = nI v ∧ g k = nI v
def SE (f17 g45 f18 g46 f19 g43 f20 g44 : Nat → Int32) (P s : Nat) : Prop := ∃ m h, m ≤ 8 ∧ h ≤ 5 ∧ 1 ≤ m + h ∧ f17 s = nI m ∧ g45 s = nI m ∧ f18 s = nI h ∧ g46 s = nI h ∧ (∀ j, j < m → ∃ v w, v < P ∧ w < 2 ∧ f19 (8 * s + j) = nI v ∧ g43 (8 * s + j) = nI v ∧ f20 (8 * s + j) = nI w ∧ g44 (8 * s + j) = nI w) ∧ ∀ i j, j < m → i < j → f19 (8 * s + i) ≠ f19 (8 * s + j)
def D (a c : ST) (r L P S : Nat) : Prop :=
  L ≤ 6 ∧ P ≤ 16 ∧ S ≤ 8 ∧ (0 < P → 0 < L) ∧ a.1 529 r 0 = nI L ∧ c.1 867 0 0 = nI L ∧ a.1 530 r 0 = nI P ∧ c.1 868 0 0 = nI P ∧ a.1 531 r 0 = nI S ∧ c.1 869 0 0 = nI S ∧ RW (fun v => v ≤ 100) (a.1 532 r) (c.1 871 0) 1 ∧ RW (fun v => 1 ≤ v ∧ v ≤ 9) (a.1 533 r) (c.1 872 0) 1 ∧ RW (fun v => v ≤ 1) (a.1 461 0) (c.1 873 0) 1 ∧ RW (fun v => v ≤ 1) (a.1 462 0) (c.1 874 0) 1 ∧ RWL (a.2.1 101 0) (c.1 36 0) L ∧ RWL (a.2.1 102 0) (c.1 37 0) P ∧ RWL (a.2.1 103 0) (c.1 38 0) S ∧ RW (fun v => v < 3) (a.1 14 r) (c.1 39 0) L ∧ RW (fun v => 1 ≤ v ∧ v ≤ 3) (a.1 15 r) (c.1 40 0) L ∧ RW (fun v => 1 ≤ v ∧ v ≤ 999) (a.1 13 r) (c.1 41 0) L ∧ RW (fun v => v < L) (a.1 16 r) (c.1 42 0) P ∧ ∀ s, s < S → SE (a.1 17 r) (c.1 45 0) (a.1 18 r) (c.1 46 0) (a.1 19 r) (c.1 43 0) (a.1 20 r) (c.1 44 0) P s
theorem RW.push {p : Nat → Prop} {f g : Nat → Int32} {e v : Nat} (h : RW p f g e) (hv : p v) : RW p (upd f e (nI v)) (upd g e (nI v)) (e + 1) := by
  intro k hk
  rw [upd_at, upd_at]
  by_cases c : k = e
  · rw [if_pos c, if_pos c]; exact ⟨v, hv, rfl, rfl⟩
  · rw [if_neg c, if_neg c]; exact h k (by omega)
theorem RW.mono {p q : Nat → Prop} {f g : Nat → Int32} {e : Nat} (h : RW p f g e) (hv : ∀ v, p v → q v) : RW q f g e := fun k hk => by
  obtain ⟨v, h1, h2⟩ := h k hk
  exact ⟨v, hv v h1, h2⟩
theorem RWL.push {f : Nat → Int64} {g : Nat → Int32} {e v : Nat} (h : RWL f g e) (hv : v < 1073741824) : RWL (vp_updL f e (lN v)) (upd g e (nI v)) (e + 1) := by
  intro k hk
  rw [upd_at, rl_at]
  by_cases c : k = e
  · rw [if_pos c, if_pos c]; exact ⟨v, hv, rfl, rfl⟩
  · rw [if_neg c, if_neg c]; exact h k (by omega)
def dk (k : Nat) : Bool := decide (13 ≤ k ∧ k ≤ 20) || decide (528 ≤ k ∧ k ≤ 533)
def cb (r k i : Nat) : Bool := cc k i || ((dk k && decide (i = r)) || decide (k = 461 ∨ k = 462))
def mb (k _i : Nat) : Bool := decide (858 ≤ k ∧ k ≤ 874) || decide (36 ≤ k ∧ k ≤ 46)
theorem cbk {r k : Nat} (h : dk k = true) : cb r k r = true := by unfold cb; simp [h]
theorem cc_cb {r : Nat} {a a' : ST} (h : FrK cc a a') : FrK (cb r) a a' := h.mono (fun k i hk => by
  unfold cb at hk
  simp only [Bool.or_eq_false_iff] at hk
  exact hk.1)
theorem mc_mb {c c' : ST} (h : FrK mc c c') : FrK mb c c' := h.mono (fun k i hk => by
  unfold mb at hk
  unfold mc
  simp only [Bool.or_eq_false_iff, decide_eq_false_iff_not] at hk ⊢
  omega)
section Prim3
variable {a c a' c' : ST} {b : Nat → Nat} {n t r L P S : Nat}
theorem okM_w (h1 : a'.1 460 0 = a.1 460 0) (h2 : a'.1 463 0 = a.1 463 0) (h3 : ∀ k, 858 ≤ k → k ≤ 864 → c'.1 k 0 = c.1 k 0) (h4 : a'.1 464 0 = a.1 464 0 := by first | rfl | exact rf_ne (by decide) | exact rd_ne (by decide) | exact (rd_ne (by decide)).trans (rd_ne (by decide)) | exact (rf_ne (by decide)).trans (rd_ne (by decide)) | assumption) : okM a' c' b n t ↔ okM a c b n t := by
  unfold okM TCm SR
  rw [h1, h2, h4, h3 858 (by decide) (by decide), h3 859 (by decide) (by decide), h3 860 (by decide) (by decide), h3 861 (by decide) (by decide), h3 862 (by decide) (by decide), h3 863 (by decide) (by decide)]
theorem flM_w (h1 : a'.1 460 0 = a.1 460 0) (h2 : a'.1 463 0 = a.1 463 0) (h4 : a'.1 464 0 = a.1 464 0) (h3 : ∀ k, 858 ≤ k → k ≤ 864 → c'.1 k 0 = c.1 k 0) : flM a' c' ↔ flM a c := by
  unfold flM
  rw [h1, h2, h4, h3 863 (by decide) (by decide), h3 864 (by decide) (by decide)]
theorem XM_w (h1 : a'.1 460 0 = a.1 460 0) (h2 : a'.1 463 0 = a.1 463 0) (h4 : a'.1 464 0 = a.1 464 0) (h3 : ∀ k, 858 ≤ k → k ≤ 864 → c'.1 k 0 = c.1 k 0) (h : XM a c b n) : XM a' c' b n := by
  rcases h with ⟨t, h⟩ | h
  · exact Or.inl ⟨t, (okM_w h1 h2 h3 h4).mpr h⟩
  · exact Or.inr ((flM_w h1 h2 h4 h3).mpr h)
theorem isOther_eq (h : okM a c b n t) : Mo_isOther c = some (b01 (decide (kT b n (plT b n t) = 14))) := by
  have kl := kT_lt b n (plT b n t)
  obtain ⟨h1, h2, h3, h4, h5, h6, s1, s2, s3, s4, s5, s6⟩ := h
  unfold Mo_isOther
  rcases (show kT b n (plT b n t) < 14 ∨ kT b n (plT b n t) = 14 ∨ kT b n (plT b n t) = 15 ∨ kT b n (plT b n t) = 16 ∨ kT b n (plT b n t) = 17 ∨ kT b n (plT b n t) = 18 by omega) with e | e | e | e | e | e
  · rw [decide_eq_false (by omega), b01_f]
    simp (disch := omega) only [bd_some, bd_none, lt_eq, lk_eq, fa_lit, nI_add, nI_mul, nI_sub, nle_t, nle_f, nlt_t, nlt_f, neq_t, neq_f, neg_ne, neg_ne', if_true, if_false, ite_true, ite_false, Nat.zero_add, Nat.add_zero, ld0, ld1, ld2, ld3, ld4, ld5, ld6, ld7, ld8, ld9, ld10, ld11, ld12, ld13, ld14, ld15, ld16, ld17, ld18, ld19, ld20, ld21, ld22, ld23, ld24, ld25, ld26, ld27, ld28, ld29, ld30, ld31, ld32, ld33, ld34, ld35, ld36, ld37, ld38, ld39, ld40, ld41, ld42, ld43, ld44, ld45, ld46, ld47, ld48, ld100, ld101, ld102, ld103, ld104, ld105, gF, h2, (s1 e).1, (s1 e).2]
  · rw [decide_eq_true e, b01_t]
    have q1 : c.1 861 0 0 = (-1 : Int32) := (s2 e).2.1
    simp (disch := omega) only [bd_some, bd_none, lt_eq, lk_eq, fa_lit, nI_add, nI_mul, nI_sub, nle_t, nle_f, nlt_t, nlt_f, neq_t, neq_f, neg_ne, neg_ne', if_true, if_false, ite_true, ite_false, Nat.zero_add, Nat.add_zero, ld0, ld1, ld2, ld3, ld4, ld5, ld6, ld7, ld8, ld9, ld10, ld11, ld12, ld13, ld14, ld15, ld16, ld17, ld18, ld19, ld20, ld21, ld22, ld23, ld24, ld25, ld26, ld27, ld28, ld29, ld30, ld31, ld32, ld33, ld34, ld35, ld36, ld37, ld38, ld39, ld40, ld41, ld42, ld43, ld44, ld45, ld46, ld47, ld48, ld100, ld101, ld102, ld103, ld104, ld105, gF, h2, (s2 e).1, (s2 e).2.1]
  · rw [decide_eq_false (by omega), b01_f]
    simp (disch := omega) only [bd_some, bd_none, lt_eq, lk_eq, fa_lit, nI_add, nI_mul, nI_sub, nle_t, nle_f, nlt_t, nlt_f, neq_t, neq_f, neg_ne, neg_ne', if_true, if_false, ite_true, ite_false, Nat.zero_add, Nat.add_zero, ld0, ld1, ld2, ld3, ld4, ld5, ld6, ld7, ld8, ld9, ld10, ld11, ld12, ld13, ld14, ld15, ld16, ld17, ld18, ld19, ld20, ld21, ld22, ld23, ld24, ld25, ld26, ld27, ld28, ld29, ld30, ld31, ld32, ld33, ld34, ld35, ld36, ld37, ld38, ld39, ld40, ld41, ld42, ld43, ld44, ld45, ld46, ld47, ld48, ld100, ld101, ld102, ld103, ld104, ld105, gF, h2, (s3 e).1]
  · rw [decide_eq_false (by omega), b01_f]
    simp (disch := omega) only [bd_some, bd_none, lt_eq, lk_eq, fa_lit, nI_add, nI_mul, nI_sub, nle_t, nle_f, nlt_t, nlt_f, neq_t, neq_f, neg_ne, neg_ne', if_true, if_false, ite_true, ite_false, Nat.zero_add, Nat.add_zero, ld0, ld1, ld2, ld3, ld4, ld5, ld6, ld7, ld8, ld9, ld10, ld11, ld12, ld13, ld14, ld15, ld16, ld17, ld18, ld19, ld20, ld21, ld22, ld23, ld24, ld25, ld26, ld27, ld28, ld29, ld30, ld31, ld32, ld33, ld34, ld35, ld36, ld37, ld38, ld39, ld40, ld41, ld42, ld43, ld44, ld45, ld46, ld47, ld48, ld100, ld101, ld102, ld103, ld104, ld105, gF, h2, s4 e]
  · rw [decide_eq_false (by omega), b01_f]
    simp (disch := omega) only [bd_some, bd_none, lt_eq, lk_eq, fa_lit, nI_add, nI_mul, nI_sub, nle_t, nle_f, nlt_t, nlt_f, neq_t, neq_f, neg_ne, neg_ne', if_true, if_false, ite_true, ite_false, Nat.zero_add, Nat.add_zero, ld0, ld1, ld2, ld3, ld4, ld5, ld6, ld7, ld8, ld9, ld10, ld11, ld12, ld13, ld14, ld15, ld16, ld17, ld18, ld19, ld20, ld21, ld22, ld23, ld24, ld25, ld26, ld27, ld28, ld29, ld30, ld31, ld32, ld33, ld34, ld35, ld36, ld37, ld38, ld39, ld40, ld41, ld42, ld43, ld44, ld45, ld46, ld47, ld48, ld100, ld101, ld102, ld103, ld104, ld105, gF, h2, s5 e]
  · rw [decide_eq_false (by omega), b01_f]
    simp (disch := omega) only [bd_some, bd_none, lt_eq, lk_eq, fa_lit, nI_add, nI_mul, nI_sub, nle_t, nle_f, nlt_t, nlt_f, neq_t, neq_f, neg_ne, neg_ne', if_true, if_false, ite_true, ite_false, Nat.zero_add, Nat.add_zero, ld0, ld1, ld2, ld3, ld4, ld5, ld6, ld7, ld8, ld9, ld10, ld11, ld12, ld13, ld14, ld15, ld16, ld17, ld18, ld19, ld20, ld21, ld22, ld23, ld24, ld25, ld26, ld27, ld28, ld29, ld30, ld31, ld32, ld33, ld34, ld35, ld36, ld37, ld38, ld39, ld40, ld41, ld42, ld43, ld44, ld45, ld46, ld47, ld48, ld100, ld101, ld102, ld103, ld104, ld105, gF, h2, s6 e]
theorem isOther_fl (h : flM a c) : Mo_isOther c = some (nI 0) := by
  obtain ⟨f, u, h1, h2, h3, h4, h5, h6, h7⟩ := h
  unfold Mo_isOther
  simp (disch := omega) only [bd_some, bd_none, lt_eq, lk_eq, fa_lit, nI_add, nI_mul, nI_sub, nle_t, nle_f, nlt_t, nlt_f, neq_t, neq_f, neg_ne, neg_ne', if_true, if_false, ite_true, ite_false, Nat.zero_add, Nat.add_zero, ld0, ld1, ld2, ld3, ld4, ld5, ld6, ld7, ld8, ld9, ld10, ld11, ld12, ld13, ld14, ld15, ld16, ld17, ld18, ld19, ld20, ld21, ld22, ld23, ld24, ld25, ld26, ld27, ld28, ld29, ld30, ld31, ld32, ld33, ld34, ld35, ld36, ld37, ld38, ld39, ld40, ld41, ld42, ld43, ld44, ld45, ld46, ld47, ld48, ld100, ld101, ld102, ld103, ld104, ld105, gF, h5]
def mk1 (k1 k i : Nat) : Bool := mc k i || decide (k = k1)
theorem mc_mk1 {k1 : Nat} {c c' : ST} (h : FrK mc c c') : FrK (mk1 k1) c c' := h.mono (fun k i hk => by
  unfold mk1 at hk
  simp only [Bool.or_eq_false_iff] at hk
  exact hk.1)
theorem i00 : (nI 0 = (0 : Int32)) = True := eq_true rfl
theorem i10 : (nI 1 = (0 : Int32)) = False := eq_false (by decide)
theorem im1 : (-nI 1 = (-1 : Int32)) = True := eq_true rfl
theorem l00 : ((0 : Int32) = 0) = True := eq_true rfl
theorem l10 : ((1 : Int32) = 0) = False := eq_false (by decide)
theorem nf0 {f : Nat} (h : 0 < f) (h2 : f < 1000) : (nI f = (0 : Int32)) = False := neq_f (b := 0) (by omega) (by omega) (by decide)
theorem nm1 {k : Nat} (h : k < 1000) : (nI k = (-1 : Int32)) = False := neg_ne (a := k) (b := 1) (by omega) (by decide)
theorem ge0n (k : Nat) (h : k < 1000) : (0 : Int32) ≤ nI k := of_eq_true (nle_t (a := 0) (Nat.zero_le k) (by omega))
theorem newN (hn : n ≤ 900) (hb2 : ∀ j, b j < 256) (hA : TA a b n) (hC : CN c b n) (h : okM a c b n t) (hk : kT b n (plT b n t) ≠ 17) (d : D a c r L P S) {k1 e : Nat} (hk1 : 36 ≤ k1 ∧ k1 ≤ 38) (he : e < lenI k1) (hl : lenI k1 < 100) : ∃ v a1 a2 c2, Rd_advance a = some a1 ∧ Rd_newName a1 r = some (v, a2) ∧ Mo_newName c k1 0 (nI e) = some c2 ∧ FrK cc a a2 ∧ a2.2.1 = a.2.1 ∧ FrK (mk1 k1) c c2 ∧ XM a2 c2 b n ∧ ∀ t', okM a2 c2 b n t' → t' = t + 2 ∧ ∃ u, u < 1073741824 ∧ v = lN u ∧ c2.1 k1 0 = upd (c.1 k1 0) e (nI u) := by
  have tn := (nT_ok b n).1
  obtain ⟨a1, c1, e1, e2, pr, ok⟩ := ad_ok hn hb2 hC h hk
  have hA1 := hA.pr pr.1 pr.2.1
  have hC1 := hC.pr pr.2.2
  have ia := isAt_eq hn hA1 ok (x := 14) (by decide)
  have io := isOther_eq ok
  have t1 := ok.2.2.1
  have z4 := ok.2.2.2.1
  have z8 := ok.2.1
  obtain ⟨b1, b2, b3⟩ := hA1 (t + 1) t1
  have g4 : gF a1 460 0 = nI (t + 1) := z4
  have g8 : gF c1 863 0 = nI 0 := z8
  by_cases c14 : kT b n (plT b n (t + 1)) = 14
  rotate_left
  · rw [decide_eq_false c14, b01_f] at ia io
    obtain ⟨a2, c2, f1, f2, pr2, fl⟩ := bl_ok hn hA1 ok (f := 1) (by decide) (by decide)
    obtain ⟨g1, g2⟩ := ad_fl fl
    refine ⟨a1.2.1 104 0 (t + 1), a1, a2, c2, e1, ?_, ?_, pr.1.tr pr2.1, pr2.2.1.trans pr.2.1, mc_mk1 (pr.2.2.tr pr2.2.2), Or.inr fl, fun t ht => absurd fl ht.nf⟩
    · unfold Rd_newName
      rw [g4, ld104 (by omega), bd_some]
      show bd_ (Rd_isAt a1 (nI 14)) _ = _
      rw [ia, bd_some, lk_eq, if_pos (show nI 0 = (0 : Int32) from rfl)]
      show bd_ (Rd_blame a1 (nI 1)) _ = _
      simp only [f1, bd_some, g1]
    · have fl2 := fl
      obtain ⟨f, u, l1, l2, l3, l4, l5, l6, l7⟩ := fl2
      unfold Mo_newName
      simp (disch := omega) only [bd_some, bd_none, lt_eq, lk_eq, fa_lit, nI_add, nI_mul, nI_sub, nle_t, nle_f, nlt_t, nlt_f, neq_t, neq_f, neg_ne, neg_ne', if_true, if_false, ite_true, ite_false, Nat.zero_add, Nat.add_zero, ld0, ld1, ld2, ld3, ld4, ld5, ld6, ld7, ld8, ld9, ld10, ld11, ld12, ld13, ld14, ld15, ld16, ld17, ld18, ld19, ld20, ld21, ld22, ld23, ld24, ld25, ld26, ld27, ld28, ld29, ld30, ld31, ld32, ld33, ld34, ld35, ld36, ld37, ld38, ld39, ld40, ld41, ld42, ld43, ld44, ld45, ld46, ld47, ld48, ld100, ld101, ld102, ld103, ld104, ld105, gF, e2, z8, io, f2, l5, g2]
  · rw [decide_eq_true c14, b01_t] at ia io
    have vl := vT_14 c14
    obtain ⟨p1, p2, p3⟩ := kT_14 c14
    have hv := b3 p1 (Or.inl p2)
    have h62 : c1.1 862 0 0 = nI (vT b n (plT b n (t + 1))) := (ok.2.2.2.2.2.2.2.1 c14).2.2
    generalize vT b n (plT b n (t + 1)) = u at *
    obtain ⟨d1, d2, d3, d4, d5, d6, d7, d8, d9, d10, d11, d12, d13, d14, d15, d16, d17, d18⟩ := id d
    have n1 := find_eq (a := a1) (c := c1) (K := 101) (k1 := 36) (L := 6) (e := L) (u := u) (t := t + 1) rfl (by decide) rfl d1 (by rw [pr.2.1, pr.2.2.2 36 0 rfl]; exact d15) vl (by omega) z4 hv h62
    have n2 := find_eq (a := a1) (c := c1) (K := 102) (k1 := 37) (L := 16) (e := P) (u := u) (t := t + 1) rfl (by decide) rfl d2 (by rw [pr.2.1, pr.2.2.2 37 0 rfl]; exact d16) vl (by omega) z4 hv h62
    have n3 := find_eq (a := a1) (c := c1) (K := 103) (k1 := 38) (L := 8) (e := S) (u := u) (t := t + 1) rfl (by decide) rfl d3 (by rw [pr.2.1, pr.2.2.2 38 0 rfl]; exact d17) vl (by omega) z4 hv h62
    have x1 : gF a1 529 r = nI L := by show a1.1 529 r 0 = _; rw [pr.1.2 529 r rfl]; exact d5
    have x2 : gF a1 530 r = nI P := by show a1.1 530 r 0 = _; rw [pr.1.2 530 r rfl]; exact d7
    have x3 : gF a1 531 r = nI S := by show a1.1 531 r 0 = _; rw [pr.1.2 531 r rfl]; exact d9
    have y1 : gF c1 867 0 = nI L := by show c1.1 867 0 0 = _; rw [pr.2.2.2 867 0 rfl]; exact d6
    have y2 : gF c1 868 0 = nI P := by show c1.1 868 0 0 = _; rw [pr.2.2.2 868 0 rfl]; exact d8
    have y3 : gF c1 869 0 = nI S := by show c1.1 869 0 0 = _; rw [pr.2.2.2 869 0 rfl]; exact d10
    generalize hF1 : fnd (c1.1 36 0) u L = F1 at *
    generalize hF2 : fnd (c1.1 37 0) u P = F2 at *
    generalize hF3 : fnd (c1.1 38 0) u S = F3 at *
    have o1 : F1 = -nI 1 ∨ ∃ k, k < L ∧ F1 = nI k := by rw [← hF1]; exact fnd_or
    have o2 : F2 = -nI 1 ∨ ∃ k, k < P ∧ F2 = nI k := by rw [← hF2]; exact fnd_or
    have o3 : F3 = -nI 1 ∨ ∃ k, k < S ∧ F3 = nI k := by rw [← hF3]; exact fnd_or
    by_cases cn : F1 = -nI 1 ∧ F2 = -nI 1 ∧ F3 = -nI 1
    · obtain ⟨q1, q2, q3⟩ := cn
      have it : Rd_isTold a1 r = some (nI 0) := by
        unfold Rd_isTold
        rw [x1, n1.1, bd_some, q1, if_neg (by decide), x2, n2.1, bd_some, q2, if_neg (by decide), x3, n3.1, bd_some, q3, if_pos (by decide)]
        rfl
      have okw : okM a1 (setR c1 k1 0 (upd (c1.1 k1 0) e (nI u))) b n (t + 1) := (okM_w rfl rfl (fun k h1 h2 => rd_ne (by omega))).mpr ok
      have hCw : CN (setR c1 k1 0 (upd (c1.1 k1 0) e (nI u))) b n := by
        unfold CN at hC1 ⊢
        rw [rd_ne (by omega), rd_ne (by omega)]
        exact hC1
      obtain ⟨a2, c2, f1, f2, pr2, ok2⟩ := ad_ok hn hb2 hCw okw (by rw [c14]; decide)
      refine ⟨lN u, a1, a2, c2, e1, ?_, ?_, pr.1.tr pr2.1, pr2.2.1.trans pr.2.1, (mc_mk1 pr.2.2).tr ((FrK.setR c1 _ (by unfold mk1; simp)).tr (mc_mk1 pr2.2.2)), Or.inl ⟨_, ok2⟩, fun t' ht' => ⟨?_, u, vl, rfl, ?_⟩⟩
      · unfold Rd_newName
        rw [g4, ld104 (by omega), bd_some]
        show bd_ (Rd_isAt a1 (nI 14)) _ = _
        rw [ia, bd_some, lk_eq, if_neg (show ¬ nI 1 = (0 : Int32) by decide), it, bd_some, if_pos (show nI 0 = (0 : Int32) from rfl), hv]
        simp only [f1, bd_some]
      · have g62 : gF c1 862 0 = nI u := h62
        have est : stI c1 k1 0 (nI e) (nI u) = some (setR c1 k1 0 (upd (c1.1 k1 0) e (nI u))) := stI_in rfl (by omega) he
        unfold Mo_newName
        simp only [e2, bd_some, lk_eq, g8, i00, io, i10, y1, n1.2, q1, im1, y2, n2.2, q2, y3, n3.2, q3, l00, g62, est, f2, if_true, if_false]
      · have w1 := ht'.2.2.2.1
        rw [ok2.2.2.2.1] at w1
        have := (nI_eq (by omega) (by have := ht'.2.2.1; omega)).mp w1
        omega
      · rw [pr2.2.2.2 k1 0 (by unfold mc; simp; omega), rd_eq, pr.2.2.2 k1 0 (by unfold mc; simp; omega)]
    · obtain ⟨a2, c2, f1, f2, pr2, fl⟩ := bl_ok hn hA1 ok (f := 3) (by decide) (by decide)
      obtain ⟨g1, g2⟩ := ad_fl fl
      have it : Rd_isTold a1 r = some (nI 1) := by
        unfold Rd_isTold
        rw [x1, n1.1, bd_some]
        rcases o1 with o1 | ⟨k, hk, o1⟩
        rotate_left
        · rw [o1, if_pos (ge0n k (by omega))]; rfl
        rw [o1, if_neg (by decide), x2, n2.1, bd_some]
        rcases o2 with o2 | ⟨k, hk, o2⟩
        rotate_left
        · rw [o2, if_pos (ge0n k (by omega))]; rfl
        rw [o2, if_neg (by decide), x3, n3.1, bd_some]
        rcases o3 with o3 | ⟨k, hk, o3⟩
        rotate_left
        · rw [o3, if_neg (show ¬ nI k < (0 : Int32) from of_eq_false (nlt_f (b := 0) (Nat.zero_le k) (by omega)))]; rfl
        exact absurd ⟨o1, o2, o3⟩ cn
      refine ⟨lN u, a1, a2, c2, e1, ?_, ?_, pr.1.tr pr2.1, pr2.2.1.trans pr.2.1, mc_mk1 (pr.2.2.tr pr2.2.2), Or.inr fl, fun t ht => absurd fl ht.nf⟩
      · unfold Rd_newName
        rw [g4, ld104 (by omega), bd_some]
        show bd_ (Rd_isAt a1 (nI 14)) _ = _
        rw [ia, bd_some, lk_eq, if_neg (show ¬ nI 1 = (0 : Int32) by decide), it, bd_some, if_neg (show ¬ nI 1 = (0 : Int32) by decide), hv]
        show bd_ (Rd_blame a1 (nI 3)) _ = _
        simp only [f1, bd_some, g1]
      · have fl2 := fl
        obtain ⟨f, u', l1, l2, l3, l4, l5, l6, l7⟩ := fl2
        have g82 : gF c2 863 0 = nI f := l5
        have f2' : Mo_wrong c1 3 = some c2 := f2
        unfold Mo_newName
        rcases o1 with o1 | ⟨k, hk, o1⟩
        rotate_left
        · simp only [e2, bd_some, lk_eq, g8, i00, io, i10, y1, n1.2, o1, nm1 (k := k) (by omega), l10, f2', g82, nf0 l1 (by omega), g2, if_true, if_false]
        rcases o2 with o2 | ⟨k, hk, o2⟩
        rotate_left
        · simp only [e2, bd_some, lk_eq, g8, i00, io, i10, y1, n1.2, o1, im1, y2, n2.2, o2, nm1 (k := k) (by omega), l10, f2', g82, nf0 l1 (by omega), g2, if_true, if_false]
        rcases o3 with o3 | ⟨k, hk, o3⟩
        rotate_left
        · simp only [e2, bd_some, lk_eq, g8, i00, io, i10, y1, n1.2, o1, im1, y2, n2.2, o2, y3, n3.2, o3, nm1 (k := k) (by omega), l10, f2', g82, nf0 l1 (by omega), g2, if_true, if_false]
        exact absurd ⟨o1, o2, o3⟩ cn
end Prim3

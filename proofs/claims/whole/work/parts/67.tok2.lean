/-! ===== all tokens, as the class takes them ===== -/
def f22 (k _i : Nat) : Bool := decide (k = 22) || decide (k = 654)
def f23 (k _i : Nat) : Bool := decide (22 ≤ k ∧ k ≤ 23) || decide (652 ≤ k ∧ k ≤ 654)
theorem wkv_ne {v len : Nat} : wkv v len < 17 ∨ wkv v len = 18 := by
  unfold wkv
  split
  · rename_i h
    have := (wc_tab _ h).2.2.1
    omega
  · split <;> omega
theorem kT_17 {b : Nat → Nat} {n q : Nat} : kT b n q = 17 ↔ n ≤ q := by
  unfold kT
  by_cases c : q < n
  · rw [if_pos c]
    have := wkv_ne (v := vT b n q) (len := enT b n q - q)
    split
    · omega
    · split
      · omega
      · split <;> omega
  · rw [if_neg c]; omega
theorem enT_L {b : Nat → Nat} {n q : Nat} (c : q < n) (h : isLb (b q) = true) : enT b n q = rnE isLb b n q := by unfold enT; rw [if_pos c, if_pos h]
theorem enT_D {b : Nat → Nat} {n q : Nat} (c : q < n) (h1 : ¬ isLb (b q) = true) (h : isDb (b q) = true) : enT b n q = rnE isDb b n q := by unfold enT; rw [if_pos c, if_neg h1, if_pos h]
theorem enT_O {b : Nat → Nat} {n q : Nat} (c : q < n) (h1 : ¬ isLb (b q) = true) (h : ¬ isDb (b q) = true) : enT b n q = q + 1 := by unfold enT; rw [if_pos c, if_neg h1, if_neg h]
theorem m8_le (m : Nat) : m8 m ≤ m ∧ m8 m ≤ 8 := by unfold m8; split <;> omega
theorem pkL_lt {b : Nat → Nat} {n q m : Nat} (hm : q + m ≤ rnE isLb b n q) : pkN (fun m => b (q + m) - 96) m < 32 ^ m := by
  refine pkN_lt (fun j hj => ?_)
  have := isLb_iff.mp (rnE_in (p := isLb) (b := b) (n := n) (j := q) (k := q + j) (by omega) (by omega))
  show b (q + j) - 96 < 32
  omega
theorem pk8_lt {b : Nat → Nat} {n q : Nat} : pkN (fun m => b (q + m) - 96) (m8 (rnE isLb b n q - q)) < 1099511627776 := by
  have e1 : q ≤ rnE isLb b n q := rnE_ge
  have h := m8_le (rnE isLb b n q - q)
  have := pkL_lt (b := b) (n := n) (q := q) (m := m8 (rnE isLb b n q - q)) (by omega)
  exact Nat.lt_of_lt_of_le this (Nat.le_trans (Nat.pow_le_pow_right (by decide) h.2) (by decide))
section Tok2
variable {σ : ST} {b : Nat → Nat} {n q t : Nat}
theorem spLoop (K : ST → Option ST) (h3 : σ.1 653 0 0 = nI n) (h4 : σ.1 654 0 0 = nI q) (hq : q ≤ n) (hn : n ≤ 900) (hb : BY (σ.1 21 0) b n) : ∃ x, FrK f654 σ x ∧ x.1 654 0 0 = nI (rnE isSb b n q) ∧ x.2.1 = σ.2.1 ∧ lp_ (fun rec14 (z13 : ST) => (if (gF z13 653 0) ≤ (gF z13 654 0) then K z13 else bd_ (ldI z13 21 0 (gF z13 654 0)) (fun v16 => (if v16 = 10 then lt_ (setF z13 654 0 ((gF z13 654 0) + 1)) (fun s17 => rec14 s17) else bd_ (ldI z13 21 0 (gF z13 654 0)) (fun v18 => (if v18 = 32 then lt_ (setF z13 654 0 ((gF z13 654 0) + 1)) (fun s19 => rec14 s19) else K z13)))))) FU σ = K x := by
  have e1 : q ≤ rnE isSb b n q := rnE_ge
  have e2 : rnE isSb b n q ≤ n := rnE_le hq
  obtain ⟨x, ⟨fx, hz2, hz3⟩, rec, ez⟩ := lp_invG (β := ST) (z0 := σ) (step := fun rec14 (z13 : ST) => (if (gF z13 653 0) ≤ (gF z13 654 0) then K z13 else bd_ (ldI z13 21 0 (gF z13 654 0)) (fun v16 => (if v16 = 10 then lt_ (setF z13 654 0 ((gF z13 654 0) + 1)) (fun s17 => rec14 s17) else bd_ (ldI z13 21 0 (gF z13 654 0)) (fun v18 => (if v18 = 32 then lt_ (setF z13 654 0 ((gF z13 654 0) + 1)) (fun s19 => rec14 s19) else K z13)))))) (rnE isSb b n q - q) (by omega) (fun m z => FrK f654 σ z ∧ z.1 654 0 0 = nI (q + m) ∧ z.2.1 = σ.2.1) ⟨FrK.rf σ, h4, rfl⟩ (by
    rintro rec m x hm ⟨fx, g1, g2⟩
    have k1 : x.1 653 0 0 = nI n := by rw [fx.2 653 0 rfl]; exact h3
    have k2 : x.1 21 0 (q + m) = nI (b (q + m)) := by rw [fx.2 21 0 rfl]; exact (hb _ (by omega)).1
    have k3 := (hb (q + m) (by omega)).2
    have k5 : isSb (b (q + m)) = true := rnE_in (n := n) (j := q) (by omega) (by omega)
    have k6 := isSb_iff.mp k5
    refine ⟨setF x 654 0 (nI (q + m + 1)), ⟨fx.tr (FrK.setF x _ rfl), rf_eq, g2⟩, ?_⟩
    rcases k6 with k6 | k6
    · simp (disch := omega) only [bd_some, lt_eq, gF, fa_lit, k1, g1, nle_f, if_false, ld21, k2, nI_add, neq_t, if_true]
    · simp (disch := omega) only [bd_some, lt_eq, gF, fa_lit, k1, g1, nle_f, if_false, ld21, k2, nI_add, neq_t, neq_f, if_true])
  have g1 : x.1 654 0 0 = nI (rnE isSb b n q) := by rw [show rnE isSb b n q = q + (rnE isSb b n q - q) by omega]; exact hz2
  have k1 : x.1 653 0 0 = nI n := by rw [fx.2 653 0 rfl]; exact h3
  refine ⟨x, fx, g1, hz3, ez.trans ?_⟩
  rcases Nat.lt_or_ge (rnE isSb b n q) n with c | c
  · have k2 : x.1 21 0 (rnE isSb b n q) = nI (b (rnE isSb b n q)) := by rw [fx.2 21 0 rfl]; exact (hb _ c).1
    have k3 := (hb _ c).2
    have k5 : isSb (b (rnE isSb b n q)) = false := rnE_out c
    have k6 : ¬ (b (rnE isSb b n q) = 10 ∨ b (rnE isSb b n q) = 32) := fun z => by rw [isSb_iff.mpr z] at k5; cases k5
    simp (disch := omega) only [bd_some, gF, fa_lit, k1, g1, nle_f, if_false, ld21, k2, neq_f]
  · simp (disch := omega) only [gF, k1, g1, nle_t, if_true]
theorem Tp_scanToken_eq (h3 : σ.1 653 0 0 = nI n) (h4 : σ.1 654 0 0 = nI q) (hq : q ≤ n) (hn : n ≤ 900) (hb : BY (σ.1 21 0) b n) (hb2 : ∀ j, b j < 256) (h23 : σ.1 23 0 t = nI q) (ht : t < 901) : ∃ τ, Tp_scanToken σ (nI t) = some τ ∧ FrK f22 σ τ ∧ τ.1 654 0 0 = nI (enT b n q) ∧ τ.1 22 0 = upd (σ.1 22 0) t (nI (kT b n q)) ∧ (∀ j, j ≠ t → τ.2.1 104 0 j = σ.2.1 104 0 j) ∧ (q < n → isLb (b q) = true ∨ isDb (b q) = true → τ.2.1 104 0 t = lN (vT b n q)) := by
  unfold Tp_scanToken
  rcases Nat.lt_or_ge q n with c | c
  rotate_left
  · refine ⟨setR σ 22 0 (upd (σ.1 22 0) t (nI 17)), ?_, FrK.setR σ _ rfl, ?_, ?_, fun _ _ => rfl, fun h => absurd h (by omega)⟩
    · simp (disch := omega) only [bd_some, bd_none, lt_eq, lk_eq, fa_lit, nI_add, nI_mul, nI_sub, nle_t, nle_f, nlt_t, nlt_f, neq_t, neq_f, neg_ne, neg_ne', if_true, if_false, ite_true, ite_false, Nat.zero_add, Nat.add_zero, ld0, ld1, ld2, ld3, ld4, ld5, ld6, ld7, ld8, ld9, ld10, ld11, ld12, ld13, ld14, ld15, ld16, ld17, ld18, ld19, ld20, ld21, ld22, ld23, ld24, ld25, ld26, ld27, ld28, ld29, ld30, ld31, ld32, ld33, ld34, ld35, ld36, ld37, ld38, ld39, ld40, ld41, ld42, ld43, ld44, ld45, ld46, ld47, ld48, ld100, ld101, ld102, ld103, ld104, ld105, gF, h3, h4, st22]
    · rw [rd_ne (by decide), h4]; unfold enT; rw [if_neg (by omega)]
    · rw [rd_eq, kT_17.mpr c]
  have k2 := (hb q c).1
  have k3 := hb2 q
  by_cases cl : isLb (b q) = true
  · have en := enT_L c cl
    have hv : vT b n q = pkN (fun m => b (q + m) - 96) (m8 (rnE isLb b n q - q)) := by unfold vT; rw [if_pos cl, en]
    have hk : kT b n q = wkv (vT b n q) (enT b n q - q) := by unfold kT; rw [if_pos c, if_pos cl]
    have e1 : q ≤ rnE isLb b n q := rnE_ge
    have e2 : rnE isLb b n q ≤ n := rnE_le hq
    have p8 := pk8_lt (b := b) (n := n) (q := q)
    have ew : ∃ x, FrK f654 σ x ∧ x.1 654 0 0 = nI (rnE isLb b n q) ∧ x.2.1 = σ.2.1 ∧ Tp_scanWord σ (nI t) = some (setR (setL x 104 0 (vp_updL (x.2.1 104 0) t (lN (vT b n q)))) 22 0 (upd (x.1 22 0) t (nI (kT b n q)))) := by
      unfold Tp_scanWord
      rw [lk_eq]
      obtain ⟨x, fx, g1, g2, ex⟩ := wordLoop (σ := σ) (b := b) (n := n) (q := q) (t := t) (fun (j1 : ST × Int64) => bd_ (stL j1.1 104 0 (nI t) j1.2) (fun s4 => bd_ (ldI s4 23 0 (nI t)) (fun v5 => bd_ (Tp_kindOfWord s4 j1.2 ((gF s4 654 0) - v5)) (fun q6 => bd_ (stI s4 22 0 (nI t) q6) (fun s7 => some s7))))) h3 h4 hq hn hb h23 ht
      refine ⟨x, fx, g1, g2, ex.trans ?_⟩
      have k4 : x.1 23 0 t = nI q := by rw [fx.2 23 0 rfl]; exact h23
      rw [hk, hv, en]
      simp (disch := omega) only [bd_some, bd_none, lt_eq, lk_eq, fa_lit, nI_add, nI_mul, nI_sub, nle_t, nle_f, nlt_t, nlt_f, neq_t, neq_f, neg_ne, neg_ne', if_true, if_false, ite_true, ite_false, Nat.zero_add, Nat.add_zero, ld0, ld1, ld2, ld3, ld4, ld5, ld6, ld7, ld8, ld9, ld10, ld11, ld12, ld13, ld14, ld15, ld16, ld17, ld18, ld19, ld20, ld21, ld22, ld23, ld24, ld25, ld26, ld27, ld28, ld29, ld30, ld31, ld32, ld33, ld34, ld35, ld36, ld37, ld38, ld39, ld40, ld41, ld42, ld43, ld44, ld45, ld46, ld47, ld48, ld100, ld101, ld102, ld103, ld104, ld105, gF, st104, rl_eq, k4, g1, Tp_kindOfWord_eq (Nat.lt_trans p8 (by decide)), st22]
    obtain ⟨x, fx, g1, g2, ex⟩ := ew
    refine ⟨setR (setL x 104 0 (vp_updL (x.2.1 104 0) t (lN (vT b n q)))) 22 0 (upd (x.1 22 0) t (nI (kT b n q))), ?_, ((fx.mono (fun k i hk => ?_)).tr (FrK.setL x _ _ _)).tr (FrK.setR _ _ rfl), ?_, ?_, fun j hj => ?_, fun _ _ => ?_⟩
    rotate_left
    · unfold f22 at hk
      unfold f654
      simp only [Bool.or_eq_false_iff] at hk
      exact hk.2
    · rw [rd_ne (by decide), rl_eq, g1, en]
    · rw [rd_eq, fx.2 22 0 rfl]
    · show vp_updL (x.2.1 104 0) t (lN (vT b n q)) j = _
      rw [rl_at, if_neg hj, g2]
    · show vp_updL (x.2.1 104 0) t (lN (vT b n q)) t = _
      rw [rl_at, if_pos rfl]
    · simp (disch := omega) only [bd_some, bd_none, lt_eq, lk_eq, fa_lit, nI_add, nI_mul, nI_sub, nle_t, nle_f, nlt_t, nlt_f, neq_t, neq_f, neg_ne, neg_ne', if_true, if_false, ite_true, ite_false, Nat.zero_add, Nat.add_zero, ld0, ld1, ld2, ld3, ld4, ld5, ld6, ld7, ld8, ld9, ld10, ld11, ld12, ld13, ld14, ld15, ld16, ld17, ld18, ld19, ld20, ld21, ld22, ld23, ld24, ld25, ld26, ld27, ld28, ld29, ld30, ld31, ld32, ld33, ld34, ld35, ld36, ld37, ld38, ld39, ld40, ld41, ld42, ld43, ld44, ld45, ld46, ld47, ld48, ld100, ld101, ld102, ld103, ld104, ld105, gF, h3, h4, k2, (isL_eq k3).1, cl, b01_t, n10, ex]
  have cl' : isLb (b q) = false := ts_nt cl
  by_cases cd : isDb (b q) = true
  · have en := enT_D c cl cd
    have hv : vT b n q = nvN (fun m => b (q + m)) (rnE isDb b n q - q) := by unfold vT; rw [if_neg cl, en]
    have hk : kT b n q = 15 := by unfold kT; rw [if_pos c, if_neg cl, if_pos cd]
    have ew : ∃ x, FrK f654 σ x ∧ x.1 654 0 0 = nI (rnE isDb b n q) ∧ x.2.1 = σ.2.1 ∧ Tp_scanNumber σ (nI t) = some (setR (setL x 104 0 (vp_updL (x.2.1 104 0) t (lN (vT b n q)))) 22 0 (upd (x.1 22 0) t (nI (kT b n q)))) := by
      unfold Tp_scanNumber
      rw [lk_eq]
      obtain ⟨x, fx, g1, g2, ex⟩ := numLoop (σ := σ) (b := b) (n := n) (q := q) (fun (j1 : ST × Int64) => bd_ (stL j1.1 104 0 (nI t) j1.2) (fun s4 => bd_ (stI s4 22 0 (nI t) 15) (fun s5 => some s5))) h3 h4 hq hn hb hb2
      refine ⟨x, fx, g1, g2, ex.trans ?_⟩
      rw [hk, hv]
      simp (disch := omega) only [bd_some, bd_none, lt_eq, lk_eq, fa_lit, nI_add, nI_mul, nI_sub, nle_t, nle_f, nlt_t, nlt_f, neq_t, neq_f, neg_ne, neg_ne', if_true, if_false, ite_true, ite_false, Nat.zero_add, Nat.add_zero, ld0, ld1, ld2, ld3, ld4, ld5, ld6, ld7, ld8, ld9, ld10, ld11, ld12, ld13, ld14, ld15, ld16, ld17, ld18, ld19, ld20, ld21, ld22, ld23, ld24, ld25, ld26, ld27, ld28, ld29, ld30, ld31, ld32, ld33, ld34, ld35, ld36, ld37, ld38, ld39, ld40, ld41, ld42, ld43, ld44, ld45, ld46, ld47, ld48, ld100, ld101, ld102, ld103, ld104, ld105, gF, st104, rl_eq, st22]
    obtain ⟨x, fx, g1, g2, ex⟩ := ew
    refine ⟨setR (setL x 104 0 (vp_updL (x.2.1 104 0) t (lN (vT b n q)))) 22 0 (upd (x.1 22 0) t (nI (kT b n q))), ?_, ((fx.mono (fun k i hk => ?_)).tr (FrK.setL x _ _ _)).tr (FrK.setR _ _ rfl), ?_, ?_, fun j hj => ?_, fun _ _ => ?_⟩
    rotate_left
    · unfold f22 at hk
      unfold f654
      simp only [Bool.or_eq_false_iff] at hk
      exact hk.2
    · rw [rd_ne (by decide), rl_eq, g1, en]
    · rw [rd_eq, fx.2 22 0 rfl]
    · show vp_updL (x.2.1 104 0) t (lN (vT b n q)) j = _
      rw [rl_at, if_neg hj, g2]
    · show vp_updL (x.2.1 104 0) t (lN (vT b n q)) t = _
      rw [rl_at, if_pos rfl]
    · simp (disch := omega) only [bd_some, bd_none, lt_eq, lk_eq, fa_lit, nI_add, nI_mul, nI_sub, nle_t, nle_f, nlt_t, nlt_f, neq_t, neq_f, neg_ne, neg_ne', if_true, if_false, ite_true, ite_false, Nat.zero_add, Nat.add_zero, ld0, ld1, ld2, ld3, ld4, ld5, ld6, ld7, ld8, ld9, ld10, ld11, ld12, ld13, ld14, ld15, ld16, ld17, ld18, ld19, ld20, ld21, ld22, ld23, ld24, ld25, ld26, ld27, ld28, ld29, ld30, ld31, ld32, ld33, ld34, ld35, ld36, ld37, ld38, ld39, ld40, ld41, ld42, ld43, ld44, ld45, ld46, ld47, ld48, ld100, ld101, ld102, ld103, ld104, ld105, gF, h3, h4, k2, (isL_eq k3).1, cl', b01_f, (isD_eq k3).1, cd, b01_t, n10, ex]
  have cd' : isDb (b q) = false := ts_nt cd
  have en := enT_O c cl cd
  have hk : kT b n q = if b q = 59 then 16 else 18 := by unfold kT; rw [if_pos c, if_neg cl, if_neg cd]
  refine ⟨setF (setR σ 22 0 (upd (σ.1 22 0) t (nI (kT b n q)))) 654 0 (nI (q + 1)), ?_, (FrK.setR σ _ rfl).tr (FrK.setF _ _ rfl), ?_, ?_, fun _ _ => rfl, fun _ h => ?_⟩
  · rw [hk]
    by_cases c5 : b q = 59
    · rw [if_pos c5]
      simp (disch := omega) only [bd_some, bd_none, lt_eq, lk_eq, fa_lit, nI_add, nI_mul, nI_sub, nle_t, nle_f, nlt_t, nlt_f, neq_t, neq_f, neg_ne, neg_ne', if_true, if_false, ite_true, ite_false, Nat.zero_add, Nat.add_zero, ld0, ld1, ld2, ld3, ld4, ld5, ld6, ld7, ld8, ld9, ld10, ld11, ld12, ld13, ld14, ld15, ld16, ld17, ld18, ld19, ld20, ld21, ld22, ld23, ld24, ld25, ld26, ld27, ld28, ld29, ld30, ld31, ld32, ld33, ld34, ld35, ld36, ld37, ld38, ld39, ld40, ld41, ld42, ld43, ld44, ld45, ld46, ld47, ld48, ld100, ld101, ld102, ld103, ld104, ld105, gF, h3, h4, k2, (isL_eq k3).1, cl', b01_f, (isD_eq k3).1, cd', st22, rd_ne]
    · rw [if_neg c5]
      simp (disch := omega) only [bd_some, bd_none, lt_eq, lk_eq, fa_lit, nI_add, nI_mul, nI_sub, nle_t, nle_f, nlt_t, nlt_f, neq_t, neq_f, neg_ne, neg_ne', if_true, if_false, ite_true, ite_false, Nat.zero_add, Nat.add_zero, ld0, ld1, ld2, ld3, ld4, ld5, ld6, ld7, ld8, ld9, ld10, ld11, ld12, ld13, ld14, ld15, ld16, ld17, ld18, ld19, ld20, ld21, ld22, ld23, ld24, ld25, ld26, ld27, ld28, ld29, ld30, ld31, ld32, ld33, ld34, ld35, ld36, ld37, ld38, ld39, ld40, ld41, ld42, ld43, ld44, ld45, ld46, ld47, ld48, ld100, ld101, ld102, ld103, ld104, ld105, gF, h3, h4, k2, (isL_eq k3).1, cl', b01_f, (isD_eq k3).1, cd', st22, rd_ne]
  · rw [rf_eq, en]
  · rw [rf_ne (by decide), rd_eq]
  · rcases h with h | h
    · exact absurd h cl
    · exact absurd h cd
end Tok2

/-! ===== the reference's token ===== -/
theorem shl5 (a : Nat) : nI a <<< (nI 5 &&& nI 31) = nI (2 ^ 5 * a) := by
  apply Int32.toBitVec_inj.1
  rw [Int32.toBitVec_shiftLeft]
  show (nI a).toBitVec <<< ((nI 5 &&& 31).toBitVec.smod 32).toNat = _
  rw [s_l 5 (by decide)]
  apply BitVec.eq_of_toNat_eq
  show (BitVec.ofNat 32 a <<< 5).toNat = (BitVec.ofNat 32 (2 ^ 5 * a)).toNat
  rw [BitVec.toNat_shiftLeft, BitVec.toNat_ofNat, BitVec.toNat_ofNat, Nat.shiftLeft_eq, Nat.mul_comm (2 ^ 5) a, Nat.mul_mod, Nat.mod_mod, ← Nat.mul_mod]
theorem pack5 {a x : Nat} (h1 : 97 ≤ x) (h2 : x ≤ 122) : (nI a <<< (nI 5 &&& nI 31)) ||| nI (x - 97 + 1) = nI (a * 32 + (x - 96)) := by
  rw [shl5, fa_or_sum a (by omega)]
  exact congrArg nI (by omega)
def SR (c : ST) (k v : Nat) : Prop := (k < 14 → c.1 860 0 0 = nI 0 ∧ c.1 861 0 0 = nI k) ∧ (k = 14 → c.1 860 0 0 = nI 0 ∧ c.1 861 0 0 = -nI 1 ∧ c.1 862 0 0 = nI v) ∧ (k = 15 → c.1 860 0 0 = nI 1 ∧ c.1 861 0 0 = nI v) ∧ (k = 16 → c.1 860 0 0 = nI 2) ∧ (k = 17 → c.1 860 0 0 = nI 3) ∧ (k = 18 → c.1 860 0 0 = nI 4)
def f58 (k _i : Nat) : Bool := decide (858 ≤ k ∧ k ≤ 862)
def g58 (k _i : Nat) : Bool := decide (k = 858 ∨ k = 861 ∨ k = 862)
def m6 (m : Nat) : Nat := if m < 6 then m else 6
theorem m6_s {m : Nat} : m6 (m + 1) = if 6 ≤ m then m6 m else m + 1 := by unfold m6; split <;> split <;> (try split) <;> omega
theorem m6_lt {m : Nat} (h : ¬ 6 ≤ m) : m6 m = m := by unfold m6; split <;> omega
theorem isS_m1 {σ : ST} : Mo_isSmall σ (-nI 1) = some (nI 0) ∧ Mo_isDigit σ (-nI 1) = some (nI 0) := by
  unfold Mo_isSmall Mo_isDigit
  exact ⟨by decide, by decide⟩
section TokM
variable {σ : ST} {b : Nat → Nat} {n q p : Nat}
theorem Mo_here_eq (h7 : σ.1 857 0 0 = nI n) (h8 : σ.1 858 0 0 = nI p) (hn : n ≤ 900) (hp : p ≤ n) (hb : BY (σ.1 28 0) b n) : Mo_here σ = some (if p < n then nI (b p) else -nI 1) := by
  unfold Mo_here
  by_cases c : p < n
  · have := (hb p c).1
    rw [if_pos c]
    simp (disch := omega) only [bd_some, bd_none, lt_eq, lk_eq, fa_lit, nI_add, nI_mul, nI_sub, nle_t, nle_f, nlt_t, nlt_f, neq_t, neq_f, neg_ne, neg_ne', if_true, if_false, ite_true, ite_false, Nat.zero_add, Nat.add_zero, ld0, ld1, ld2, ld3, ld4, ld5, ld6, ld7, ld8, ld9, ld10, ld11, ld12, ld13, ld14, ld15, ld16, ld17, ld18, ld19, ld20, ld21, ld22, ld23, ld24, ld25, ld26, ld27, ld28, ld29, ld30, ld31, ld32, ld33, ld34, ld35, ld36, ld37, ld38, ld39, ld40, ld41, ld42, ld43, ld44, ld45, ld46, ld47, ld48, ld100, ld101, ld102, ld103, ld104, ld105, gF, h7, h8, this]
  · rw [if_neg c]
    simp (disch := omega) only [bd_some, bd_none, lt_eq, lk_eq, fa_lit, nI_add, nI_mul, nI_sub, nle_t, nle_f, nlt_t, nlt_f, neq_t, neq_f, neg_ne, neg_ne', if_true, if_false, ite_true, ite_false, Nat.zero_add, Nat.add_zero, ld0, ld1, ld2, ld3, ld4, ld5, ld6, ld7, ld8, ld9, ld10, ld11, ld12, ld13, ld14, ld15, ld16, ld17, ld18, ld19, ld20, ld21, ld22, ld23, ld24, ld25, ld26, ld27, ld28, ld29, ld30, ld31, ld32, ld33, ld34, ld35, ld36, ld37, ld38, ld39, ld40, ld41, ld42, ld43, ld44, ld45, ld46, ld47, ld48, ld100, ld101, ld102, ld103, ld104, ld105, gF, h7, h8]
theorem wordLoopM (K : ST → Option ST) (h7 : σ.1 857 0 0 = nI n) (h8 : σ.1 858 0 0 = nI q) (h9 : σ.1 859 0 0 = nI q) (h62 : σ.1 862 0 0 = nI 0) (hq : q ≤ n) (hn : n ≤ 900) (hb : BY (σ.1 28 0) b n) : ∃ x, FrK g58 σ x ∧ x.1 858 0 0 = nI (rnE isLb b n q) ∧ x.1 862 0 0 = nI (pkN (fun m => b (q + m) - 96) (m6 (rnE isLb b n q - q))) ∧ lp_ (fun rec29 (z28 : ST) => bd_ (Mo_here z28) (fun q31 => bd_ (Mo_isSmall z28 q31) (fun q32 => (if q32 = 0 then K z28 else (if 6 ≤ ((gF z28 858 0) - (gF z28 859 0)) then lt_ (setF z28 858 0 ((gF z28 858 0) + 1)) (fun s38 => rec29 s38) else bd_ (Mo_here z28) (fun q39 => lt_ (setF z28 862 0 (((gF z28 862 0) <<< (5 &&& 31)) ||| ((q39 - 97) + 1))) (fun s40 => lt_ (setF s40 858 0 ((gF s40 858 0) + 1)) (fun s41 => rec29 s41)))))))) FU σ = K x := by
  have e1 : q ≤ rnE isLb b n q := rnE_ge
  have e2 : rnE isLb b n q ≤ n := rnE_le hq
  obtain ⟨x, ⟨fx, hz2, hz3⟩, rec, ez⟩ := lp_invG (β := ST) (z0 := σ) (step := fun rec29 (z28 : ST) => bd_ (Mo_here z28) (fun q31 => bd_ (Mo_isSmall z28 q31) (fun q32 => (if q32 = 0 then K z28 else (if 6 ≤ ((gF z28 858 0) - (gF z28 859 0)) then lt_ (setF z28 858 0 ((gF z28 858 0) + 1)) (fun s38 => rec29 s38) else bd_ (Mo_here z28) (fun q39 => lt_ (setF z28 862 0 (((gF z28 862 0) <<< (5 &&& 31)) ||| ((q39 - 97) + 1))) (fun s40 => lt_ (setF s40 858 0 ((gF s40 858 0) + 1)) (fun s41 => rec29 s41)))))))) (rnE isLb b n q - q) (by omega) (fun m z => FrK g58 σ z ∧ z.1 858 0 0 = nI (q + m) ∧ z.1 862 0 0 = nI (pkN (fun m => b (q + m) - 96) (m6 m))) ⟨FrK.rf σ, h8, h62⟩ (by
    rintro rec m x hm ⟨fx, g1, g2⟩
    have k1 : x.1 857 0 0 = nI n := by rw [fx.2 857 0 rfl]; exact h7
    have k9 : x.1 859 0 0 = nI q := by rw [fx.2 859 0 rfl]; exact h9
    have kb : BY (x.1 28 0) b n := by rw [fx.2 28 0 rfl]; exact hb
    have k3 := (hb (q + m) (by omega)).2
    have k5 : isLb (b (q + m)) = true := rnE_in (n := n) (j := q) (by omega) (by omega)
    have k6 := isLb_iff.mp k5
    have eh : Mo_here x = some (nI (b (q + m))) := by rw [Mo_here_eq k1 g1 hn (by omega) kb, if_pos (by omega)]
    by_cases c : 6 ≤ m
    · refine ⟨setF x 858 0 (nI (q + m + 1)), ⟨fx.tr (FrK.setF x _ rfl), rf_eq, ?_⟩, ?_⟩
      · rw [rf_ne (by decide), g2, m6_s, if_pos c]
      · simp (disch := omega) only [bd_some, bd_none, lt_eq, lk_eq, fa_lit, nI_add, nI_mul, nI_sub, nle_t, nle_f, nlt_t, nlt_f, neq_t, neq_f, neg_ne, neg_ne', if_true, if_false, ite_true, ite_false, Nat.zero_add, Nat.add_zero, ld0, ld1, ld2, ld3, ld4, ld5, ld6, ld7, ld8, ld9, ld10, ld11, ld12, ld13, ld14, ld15, ld16, ld17, ld18, ld19, ld20, ld21, ld22, ld23, ld24, ld25, ld26, ld27, ld28, ld29, ld30, ld31, ld32, ld33, ld34, ld35, ld36, ld37, ld38, ld39, ld40, ld41, ld42, ld43, ld44, ld45, ld46, ld47, ld48, ld100, ld101, ld102, ld103, ld104, ld105, gF, eh, (isL_eq k3).2, k5, b01_t, n10, g1, k9]
    · refine ⟨setF (setF x 862 0 (nI (pkN (fun m => b (q + m) - 96) (m6 (m + 1))))) 858 0 (nI (q + m + 1)), ⟨(fx.tr (FrK.setF x _ rfl)).tr (FrK.setF _ _ rfl), rf_eq, ?_⟩, ?_⟩
      · rw [rf_ne (by decide), rf_eq]
      · simp (disch := omega) only [bd_some, lt_eq, fa_lit, gF, eh, (isL_eq k3).2, k5, b01_t, n10, if_false, g1, k9, nI_sub, nle_f, g2, pack5 k6.1 k6.2, rf_ne, nI_add]
        rw [m6_s, if_neg c, m6_lt c]
        rfl)
  have g1 : x.1 858 0 0 = nI (rnE isLb b n q) := by rw [show rnE isLb b n q = q + (rnE isLb b n q - q) by omega]; exact hz2
  have k1 : x.1 857 0 0 = nI n := by rw [fx.2 857 0 rfl]; exact h7
  have kb : BY (x.1 28 0) b n := by rw [fx.2 28 0 rfl]; exact hb
  refine ⟨x, fx, g1, hz3, ez.trans ?_⟩
  have eh := Mo_here_eq k1 g1 hn e2 kb
  have es : Mo_isSmall x (if rnE isLb b n q < n then nI (b (rnE isLb b n q)) else -nI 1) = some (nI 0) := by
    by_cases c : rnE isLb b n q < n
    · rw [if_pos c, (isL_eq (hb _ c).2).2, rnE_out c]; rfl
    · rw [if_neg c]; exact isS_m1.1
  show bd_ (Mo_here x) (fun q31 => bd_ (Mo_isSmall x q31) (fun q32 => (if q32 = 0 then K x else _))) = _
  rw [eh, bd_some, es, bd_some, if_pos (show nI 0 = (0 : Int32) from rfl)]
theorem numLoopM (h7 : σ.1 857 0 0 = nI n) (h8 : σ.1 858 0 0 = nI q) (h61 : σ.1 861 0 0 = nI 0) (hq : q ≤ n) (hn : n ≤ 900) (hb : BY (σ.1 28 0) b n) (hb2 : ∀ j, b j < 256) : ∃ x, FrK g58 σ x ∧ x.1 858 0 0 = nI (rnE isDb b n q) ∧ x.1 861 0 0 = nI (nvN (fun m => b (q + m)) (rnE isDb b n q - q)) ∧ lp_ (fun rec18 (z17 : ST) => bd_ (Mo_here z17) (fun q20 => bd_ (Mo_isDigit z17 q20) (fun q21 => (if q21 = 0 then some z17 else (if (gF z17 861 0) ≤ 99999 then bd_ (Mo_here z17) (fun q22 => lt_ (setF z17 861 0 (((10 * (gF z17 861 0)) + q22) - 48)) (fun s23 => lt_ (setF s23 858 0 ((gF s23 858 0) + 1)) (fun s24 => rec18 s24))) else lt_ (setF z17 861 0 (gF z17 861 0)) (fun s25 => lt_ (setF s25 858 0 ((gF s25 858 0) + 1)) (fun s26 => rec18 s26))))))) FU σ = some x := by
  have e1 : q ≤ rnE isDb b n q := rnE_ge
  have e2 : rnE isDb b n q ≤ n := rnE_le hq
  obtain ⟨x, ⟨fx, hz2, hz3⟩, rec, ez⟩ := lp_invG (β := ST) (z0 := σ) (step := fun rec18 (z17 : ST) => bd_ (Mo_here z17) (fun q20 => bd_ (Mo_isDigit z17 q20) (fun q21 => (if q21 = 0 then some z17 else (if (gF z17 861 0) ≤ 99999 then bd_ (Mo_here z17) (fun q22 => lt_ (setF z17 861 0 (((10 * (gF z17 861 0)) + q22) - 48)) (fun s23 => lt_ (setF s23 858 0 ((gF s23 858 0) + 1)) (fun s24 => rec18 s24))) else lt_ (setF z17 861 0 (gF z17 861 0)) (fun s25 => lt_ (setF s25 858 0 ((gF s25 858 0) + 1)) (fun s26 => rec18 s26))))))) (rnE isDb b n q - q) (by omega) (fun m z => FrK g58 σ z ∧ z.1 858 0 0 = nI (q + m) ∧ z.1 861 0 0 = nI (nvN (fun m => b (q + m)) m)) ⟨FrK.rf σ, h8, h61⟩ (by
    rintro rec m x hm ⟨fx, g1, g2⟩
    have k1 : x.1 857 0 0 = nI n := by rw [fx.2 857 0 rfl]; exact h7
    have kb : BY (x.1 28 0) b n := by rw [fx.2 28 0 rfl]; exact hb
    have k3 := (hb (q + m) (by omega)).2
    have k5 : isDb (b (q + m)) = true := rnE_in (n := n) (j := q) (by omega) (by omega)
    have k6 := isDb_iff.mp k5
    have nl := nvN_lt (fun m => b (q + m)) (fun m => hb2 _) m
    have eh : Mo_here x = some (nI (b (q + m))) := by rw [Mo_here_eq k1 g1 hn (by omega) kb, if_pos (by omega)]
    refine ⟨setF (setF x 861 0 (nI (nvN (fun m => b (q + m)) (m + 1)))) 858 0 (nI (q + m + 1)), ⟨(fx.tr (FrK.setF x _ rfl)).tr (FrK.setF _ _ rfl), rf_eq, ?_⟩, ?_⟩
    · rw [rf_ne (by decide), rf_eq]
    · have es : nvN (fun m => b (q + m)) (m + 1) = if nvN (fun m => b (q + m)) m < 100000 then nvN (fun m => b (q + m)) m * 10 + (b (q + m) - 48) else nvN (fun m => b (q + m)) m := rfl
      rw [es]
      by_cases c : nvN (fun m => b (q + m)) m < 100000
      · rw [if_pos c, show nvN (fun m => b (q + m)) m * 10 + (b (q + m) - 48) = 10 * nvN (fun m => b (q + m)) m + b (q + m) - 48 by omega]
        simp (disch := omega) only [bd_some, bd_none, lt_eq, lk_eq, fa_lit, nI_add, nI_mul, nI_sub, nle_t, nle_f, nlt_t, nlt_f, neq_t, neq_f, neg_ne, neg_ne', if_true, if_false, ite_true, ite_false, Nat.zero_add, Nat.add_zero, ld0, ld1, ld2, ld3, ld4, ld5, ld6, ld7, ld8, ld9, ld10, ld11, ld12, ld13, ld14, ld15, ld16, ld17, ld18, ld19, ld20, ld21, ld22, ld23, ld24, ld25, ld26, ld27, ld28, ld29, ld30, ld31, ld32, ld33, ld34, ld35, ld36, ld37, ld38, ld39, ld40, ld41, ld42, ld43, ld44, ld45, ld46, ld47, ld48, ld100, ld101, ld102, ld103, ld104, ld105, gF, eh, (isD_eq k3).2, k5, b01_t, n10, g1, g2, rf_ne]
      · rw [if_neg c]
        simp (disch := omega) only [bd_some, bd_none, lt_eq, lk_eq, fa_lit, nI_add, nI_mul, nI_sub, nle_t, nle_f, nlt_t, nlt_f, neq_t, neq_f, neg_ne, neg_ne', if_true, if_false, ite_true, ite_false, Nat.zero_add, Nat.add_zero, ld0, ld1, ld2, ld3, ld4, ld5, ld6, ld7, ld8, ld9, ld10, ld11, ld12, ld13, ld14, ld15, ld16, ld17, ld18, ld19, ld20, ld21, ld22, ld23, ld24, ld25, ld26, ld27, ld28, ld29, ld30, ld31, ld32, ld33, ld34, ld35, ld36, ld37, ld38, ld39, ld40, ld41, ld42, ld43, ld44, ld45, ld46, ld47, ld48, ld100, ld101, ld102, ld103, ld104, ld105, gF, eh, (isD_eq k3).2, k5, b01_t, n10, g1, g2, rf_ne])
  have g1 : x.1 858 0 0 = nI (rnE isDb b n q) := by rw [show rnE isDb b n q = q + (rnE isDb b n q - q) by omega]; exact hz2
  have k1 : x.1 857 0 0 = nI n := by rw [fx.2 857 0 rfl]; exact h7
  have kb : BY (x.1 28 0) b n := by rw [fx.2 28 0 rfl]; exact hb
  refine ⟨x, fx, g1, hz3, ez.trans ?_⟩
  have eh := Mo_here_eq k1 g1 hn e2 kb
  have es : Mo_isDigit x (if rnE isDb b n q < n then nI (b (rnE isDb b n q)) else -nI 1) = some (nI 0) := by
    by_cases c : rnE isDb b n q < n
    · rw [if_pos c, (isD_eq (hb _ c).2).2, rnE_out c]; rfl
    · rw [if_neg c]; exact isS_m1.2
  show bd_ (Mo_here x) (fun q20 => bd_ (Mo_isDigit x q20) (fun q21 => (if q21 = 0 then some x else _))) = _
  rw [eh, bd_some, es, bd_some, if_pos (show nI 0 = (0 : Int32) from rfl)]
end TokM

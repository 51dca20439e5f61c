/-! ===== the reference's next token ===== -/
theorem lp_invA {τ β : Type} {step : (τ → Option β) → τ → Option β} {z0 : τ} (Q : Option β → Prop) (n : Nat) (hn : n < 100000) (I : Nat → τ → Prop) (h0 : I 0 z0) (hs : ∀ (rec : τ → Option β) (k : Nat) (z : τ), k < n → I k z → ∃ z', I (k + 1) z' ∧ step rec z = rec z') (he : ∀ (rec : τ → Option β) (z : τ), I n z → Q (step rec z)) : Q (lp_ step FU z0) := by
  obtain ⟨z, hz, rec, ez⟩ := lp_invG n hn I h0 hs
  rw [ez]
  exact he rec z hz
section TokN
variable {σ : ST} {b : Nat → Nat} {n q p : Nat}
theorem nI_ne1 {a : Nat} (h : a < 256) : ¬ nI a = (-1 : Int32) := of_eq_false (neg_ne (a := a) (b := 1) (by omega) (by decide))
theorem Mo_token_eq (h7 : σ.1 857 0 0 = nI n) (h8 : σ.1 858 0 0 = nI p) (hp : p ≤ n) (hn : n ≤ 900) (hb : BY (σ.1 28 0) b n) (hb2 : ∀ j, b j < 256) : ∃ d, Mo_token σ = some d ∧ FrK f58 σ d ∧ d.1 858 0 0 = nI (enT b n (rnE isSb b n p)) ∧ d.1 859 0 0 = nI (rnE isSb b n p) ∧ SR d (kT b n (rnE isSb b n p)) (vT b n (rnE isSb b n p)) := by
  have e1 : p ≤ rnE isSb b n p := rnE_ge
  have e2 : rnE isSb b n p ≤ n := rnE_le hp
  unfold Mo_token
  refine lp_invA (fun o => ∃ d, o = some d ∧ FrK f58 σ d ∧ d.1 858 0 0 = nI (enT b n (rnE isSb b n p)) ∧ d.1 859 0 0 = nI (rnE isSb b n p) ∧ SR d (kT b n (rnE isSb b n p)) (vT b n (rnE isSb b n p))) (rnE isSb b n p - p) (by omega) (fun m z => FrK f58 σ z ∧ z.1 858 0 0 = nI (p + m)) ⟨FrK.rf σ, h8⟩ ?_ ?_
  · rintro rec m x hm ⟨fx, g1⟩
    have k1 : x.1 857 0 0 = nI n := by rw [fx.2 857 0 rfl]; exact h7
    have kb : BY (x.1 28 0) b n := by rw [fx.2 28 0 rfl]; exact hb
    have k3 := hb2 (p + m)
    have k6 := isSb_iff.mp (rnE_in (p := isSb) (b := b) (n := n) (j := p) (k := p + m) (by omega) (by omega))
    have eh : Mo_here x = some (nI (b (p + m))) := by rw [Mo_here_eq k1 g1 hn (by omega) kb, if_pos (by omega)]
    refine ⟨setF x 858 0 (nI (p + m + 1)), ⟨fx.tr (FrK.setF x _ rfl), rf_eq⟩, ?_⟩
    have ga : gF x 858 0 + 1 = nI (p + m + 1) := by rw [show gF x 858 0 = _ from g1]; exact nI_add _ _
    rcases k6 with k6 | k6
    · rw [eh, bd_some, if_pos (by rw [k6]; rfl), lt_eq, ga]
    · rw [eh, bd_some, if_neg (by rw [k6]; decide), bd_some, if_pos (by rw [k6]; rfl), lt_eq, ga]
  · rintro rec x ⟨fx, g1⟩
    generalize hq : rnE isSb b n p = q at *
    have g1 : x.1 858 0 0 = nI q := by rw [show q = p + (q - p) by omega]; exact g1
    have k1 : x.1 857 0 0 = nI n := by rw [fx.2 857 0 rfl]; exact h7
    have kb : BY (x.1 28 0) b n := by rw [fx.2 28 0 rfl]; exact hb
    have eh := Mo_here_eq k1 g1 hn e2 kb
    have l1 : (setF x 859 0 (nI q)).1 857 0 0 = nI n := by rw [rf_ne (by decide)]; exact k1
    have l8 : (setF x 859 0 (nI q)).1 858 0 0 = nI q := by rw [rf_ne (by decide)]; exact g1
    have l9 : (setF x 859 0 (nI q)).1 859 0 0 = nI q := rf_eq
    have lb : BY ((setF x 859 0 (nI q)).1 28 0) b n := by rw [rf_ne (by decide)]; exact kb
    have eh7 := Mo_here_eq l1 l8 hn e2 lb
    have f7 : FrK f58 σ (setF x 859 0 (nI q)) := fx.tr (FrK.setF x _ rfl)
    have gx : setF x 859 0 (gF x 858 0) = setF x 859 0 (nI q) := by rw [show gF x 858 0 = _ from g1]
    rcases Nat.lt_or_ge q n with c | c
    rotate_left
    · rw [if_neg (by omega)] at eh eh7
      have k17 : kT b n q = 17 := kT_17.mpr c
      have en : enT b n q = q := by unfold enT; rw [if_neg (by omega)]
      refine ⟨setF (setF x 859 0 (nI q)) 860 0 (nI 3), ?_, f7.tr (FrK.setF _ _ rfl), ?_, ?_, ?_⟩
      · rw [eh, bd_some, if_neg (by decide), bd_some, if_neg (by decide), lt_eq, gx, eh7, bd_some, if_pos (by decide), lt_eq]
        rfl
      · rw [rf_ne (by decide), l8, en]
      · rw [rf_ne (by decide), l9]
      · rw [k17]
        exact ⟨fun h => absurd h (by decide), fun h => absurd h (by decide), fun h => absurd h (by decide), fun h => absurd h (by decide), fun _ => rf_eq, fun h => absurd h (by decide)⟩
    rw [if_pos c] at eh eh7
    have k3 := hb2 q
    have k5 : isSb (b q) = false := by
      have := rnE_out (p := isSb) (b := b) (n := n) (j := p) (by omega)
      rw [hq] at this
      exact this
    have k6 : ¬ (b q = 10 ∨ b q = 32) := fun z => by rw [isSb_iff.mpr z] at k5; cases k5
    have h10 : ¬ nI (b q) = (10 : Int32) := of_eq_false (neq_f (a := b q) (b := 10) (by omega) (by omega) (by decide))
    have h32 : ¬ nI (b q) = (32 : Int32) := n32 (by omega) (by omega)
    rw [eh, bd_some, if_neg h10, bd_some, if_neg h32, lt_eq, gx, eh7, bd_some, if_neg (nI_ne1 k3), (isL_eq k3).2, bd_some]
    generalize setF x 859 0 (nI q) = s7 at *
    by_cases cl : isLb (b q) = true
    · have en := enT_L c cl
      have r1 : q ≤ rnE isLb b n q := rnE_ge
      have r2 : rnE isLb b n q ≤ n := rnE_le e2
      have hv : vT b n q = pkN (fun m => b (q + m) - 96) (m8 (rnE isLb b n q - q)) := by unfold vT; rw [if_pos cl, en]
      have hk : kT b n q = wkv (vT b n q) (enT b n q - q) := by unfold kT; rw [if_pos c, if_pos cl]
      rw [hv, en] at hk
      have hk2 := wk_mt (b := fun m => b (q + m)) (len := rnE isLb b n q - q) (fun m hm => isLb_iff.mp (rnE_in (p := isLb) (b := b) (n := n) (j := q) (k := q + m) (by omega) (by omega)))
      have hk3 : kT b n q = if fd (mtW (fun m => b (q + m)) (rnE isLb b n q - q)) 14 < 14 then fd (mtW (fun m => b (q + m)) (rnE isLb b n q - q)) 14 else if 6 < rnE isLb b n q - q then 18 else 14 := hk.trans hk2
      rw [cl, b01_t, if_neg (by decide), lt_eq]
      obtain ⟨y, fy, y1, y2, ey⟩ := wordLoopM (σ := setF s7 862 0 0) (b := b) (n := n) (q := q) (fun z28 => bd_ (Mo_wordHere z28) (fun q33 => lt_ (setF z28 861 0 q33) (fun s34 => (if ((gF s34 858 0) - (gF s34 859 0)) ≤ 6 then lt_ (setF s34 860 0 0) (fun s35 => some s35) else (if (gF s34 861 0) = (-1) then lt_ (setF s34 860 0 4) (fun s36 => some s36) else lt_ (setF s34 860 0 0) (fun s37 => some s37)))))) (by rw [rf_ne (by decide)]; exact l1) (by rw [rf_ne (by decide)]; exact l8) (by rw [rf_ne (by decide)]; exact l9) rf_eq e2 hn (by rw [rf_ne (by decide)]; exact lb)
      have y9 : y.1 859 0 0 = nI q := by rw [fy.2 859 0 rfl, rf_ne (by decide)]; exact l9
      have yb : BY (y.1 28 0) b n := by rw [fy.2 28 0 rfl, rf_ne (by decide)]; exact lb
      have ew := Mo_wordHere_eq (σ := y) (b := fun m => b (q + m)) y1 y9 r1 (by omega) (fun m hm => ⟨(yb (q + m) (by omega)).1, hb2 _⟩)
      generalize hF : fd (mtW (fun m => b (q + m)) (rnE isLb b n q - q)) 14 = F at *
      generalize hw : (if F < 14 then nI F else -nI 1) = w at *
      have fyy : FrK f58 σ (setF y 861 0 w) := by
        refine (((f7.tr (FrK.setF s7 _ rfl)).tr (fy.mono (fun k i h => ?_))).tr (FrK.setF y _ rfl))
        unfold f58 at h
        unfold g58
        simp only [decide_eq_false_iff_not] at h ⊢
        omega
      have y1' : (setF y 861 0 w).1 858 0 0 = nI (rnE isLb b n q) := by rw [rf_ne (by decide)]; exact y1
      have y9' : (setF y 861 0 w).1 859 0 0 = nI q := by rw [rf_ne (by decide)]; exact y9
      have y2' : (setF y 861 0 w).1 862 0 0 = nI (pkN (fun m => b (q + m) - 96) (m6 (rnE isLb b n q - q))) := by rw [rf_ne (by decide)]; exact y2
      have yw' : (setF y 861 0 w).1 861 0 0 = w := rf_eq
      refine ⟨setF (setF y 861 0 w) 860 0 (if rnE isLb b n q - q ≤ 6 then nI 0 else if F < 14 then nI 0 else nI 4), ?_, fyy.tr (FrK.setF _ _ rfl), ?_, ?_, ?_⟩
      · refine ey.trans ?_
        rw [ew, bd_some, lt_eq]
        generalize setF y 861 0 w = s at *
        show (if ((gF s 858 0) - (gF s 859 0)) ≤ 6 then lt_ (setF s 860 0 0) (fun s35 => some s35) else (if (gF s 861 0) = (-1) then lt_ (setF s 860 0 4) (fun s36 => some s36) else lt_ (setF s 860 0 0) (fun s37 => some s37))) = _
        rw [show gF s 858 0 = _ from y1', show gF s 859 0 = _ from y9', show gF s 861 0 = _ from yw', nI_sub r1, lt_eq, lt_eq]
        by_cases c6 : rnE isLb b n q - q ≤ 6
        · rw [if_pos (show nI (rnE isLb b n q - q) ≤ (6 : Int32) from of_eq_true (nle_t (b := 6) c6 (by decide))), if_pos c6]
          rfl
        · rw [if_neg (show ¬ nI (rnE isLb b n q - q) ≤ (6 : Int32) from of_eq_false (nle_f (b := 6) (by omega) (by omega))), if_neg c6]
          by_cases cf : F < 14
          · rw [← hw, if_pos cf, if_pos cf, if_neg (nI_ne1 (by omega))]
            rfl
          · rw [← hw, if_neg cf, if_neg cf, if_pos (show -nI 1 = (-1 : Int32) from rfl)]
            rfl
      · rw [rf_ne (by decide), y1', en]
      · rw [rf_ne (by decide), y9']
      · generalize setF y 861 0 w = s at *
        have s60 : ∀ v, (setF s 860 0 v).1 860 0 0 = v := fun v => rf_eq
        have s61 : ∀ v, (setF s 860 0 v).1 861 0 0 = w := fun v => by rw [rf_ne (by decide)]; exact yw'
        have s62 : ∀ v, (setF s 860 0 v).1 862 0 0 = nI (pkN (fun m => b (q + m) - 96) (m6 (rnE isLb b n q - q))) := fun v => by rw [rf_ne (by decide)]; exact y2'
        unfold SR
        rw [s60, s61, s62, hk3]
        by_cases cf : F < 14
        · rw [← hw, if_pos cf, if_pos cf, if_pos cf, ite_self]
          exact ⟨fun _ => ⟨rfl, rfl⟩, fun h => absurd h (by omega), fun h => absurd h (by omega), fun h => absurd h (by omega), fun h => absurd h (by omega), fun h => absurd h (by omega)⟩
        · rw [← hw, if_neg cf, if_neg cf, if_neg cf]
          by_cases c6 : 6 < rnE isLb b n q - q
          · rw [if_pos c6, if_neg (by omega)]
            exact ⟨fun h => absurd h (by omega), fun h => absurd h (by omega), fun h => absurd h (by omega), fun h => absurd h (by omega), fun h => absurd h (by omega), fun _ => rfl⟩
          · rw [if_neg c6, if_pos (by omega)]
            refine ⟨fun h => absurd h (by omega), fun _ => ⟨rfl, rfl, ?_⟩, fun h => absurd h (by omega), fun h => absurd h (by omega), fun h => absurd h (by omega), fun h => absurd h (by omega)⟩
            rw [hv]
            have a1 : m8 (rnE isLb b n q - q) = rnE isLb b n q - q := by unfold m8; rw [if_pos (by omega)]
            have a2 : m6 (rnE isLb b n q - q) = rnE isLb b n q - q := by unfold m6; split <;> omega
            rw [a1, a2]
    rw [ts_nt cl, b01_f, if_pos (show nI 0 = (0 : Int32) from rfl), (isD_eq k3).2, bd_some]
    by_cases cd : isDb (b q) = true
    · have en := enT_D c cl cd
      have hv : vT b n q = nvN (fun m => b (q + m)) (rnE isDb b n q - q) := by unfold vT; rw [if_neg cl, en]
      have hk : kT b n q = 15 := by unfold kT; rw [if_pos c, if_neg cl, if_pos cd]
      rw [cd, b01_t, if_neg (by decide), lt_eq, lt_eq]
      obtain ⟨y, fy, y1, y2, ey⟩ := numLoopM (σ := setF (setF s7 860 0 1) 861 0 0) (b := b) (n := n) (q := q) (by rw [rf_ne (by decide), rf_ne (by decide)]; exact l1) (by rw [rf_ne (by decide), rf_ne (by decide)]; exact l8) rf_eq e2 hn (by rw [rf_ne (by decide), rf_ne (by decide)]; exact lb) hb2
      refine ⟨y, ey, ((f7.tr (FrK.setF s7 _ rfl)).tr (FrK.setF _ _ rfl)).tr (fy.mono (fun k i h => ?_)), ?_, ?_, ?_⟩
      · unfold f58 at h
        unfold g58
        simp only [decide_eq_false_iff_not] at h ⊢
        omega
      · rw [y1, en]
      · rw [fy.2 859 0 rfl, rf_ne (by decide), rf_ne (by decide)]; exact l9
      · rw [hk, hv]
        refine ⟨fun h => absurd h (by omega), fun h => absurd h (by omega), fun _ => ⟨?_, y2⟩, fun h => absurd h (by omega), fun h => absurd h (by omega), fun h => absurd h (by omega)⟩
        rw [fy.2 860 0 rfl, rf_ne (by decide), rf_eq]
        rfl
    have en := enT_O c cl cd
    have hk : kT b n q = if b q = 59 then 16 else 18 := by unfold kT; rw [if_pos c, if_neg cl, if_neg cd]
    rw [ts_nt cd, b01_f, if_pos (show nI 0 = (0 : Int32) from rfl)]
    refine ⟨setF (setF s7 860 0 (if b q = 59 then nI 2 else nI 4)) 858 0 (nI (q + 1)), ?_, (f7.tr (FrK.setF s7 _ rfl)).tr (FrK.setF _ _ rfl), ?_, ?_, ?_⟩
    · have w1 : ∀ v, gF (setF s7 860 0 v) 858 0 + 1 = nI (q + 1) := fun v => by
        show (setF s7 860 0 v).1 858 0 0 + 1 = _
        rw [rf_ne (by decide), l8]
        exact nI_add _ _
      rw [lt_eq, lt_eq, lt_eq, lt_eq, w1, w1]
      by_cases c5 : b q = 59
      · rw [if_pos (show nI (b q) = (59 : Int32) by rw [c5]; rfl), if_pos c5]
        rfl
      · rw [if_neg (show ¬ nI (b q) = (59 : Int32) from of_eq_false (neq_f (a := b q) (b := 59) c5 (by omega) (by decide))), if_neg c5]
        rfl
    · rw [rf_eq, en]
    · rw [rf_ne (by decide), rf_ne (by decide), l9]
    · rw [hk]
      have w2 : (setF (setF s7 860 0 (if b q = 59 then nI 2 else nI 4)) 858 0 (nI (q + 1))).1 860 0 0 = (if b q = 59 then nI 2 else nI 4) := by rw [rf_ne (by decide), rf_eq]
      by_cases c5 : b q = 59
      · rw [if_pos c5] at w2 ⊢
        rw [if_pos c5]
        exact ⟨fun h => absurd h (by omega), fun h => absurd h (by omega), fun h => absurd h (by omega), fun _ => w2, fun h => absurd h (by omega), fun h => absurd h (by omega)⟩
      · rw [if_neg c5] at w2 ⊢
        rw [if_neg c5]
        exact ⟨fun h => absurd h (by omega), fun h => absurd h (by omega), fun h => absurd h (by omega), fun h => absurd h (by omega), fun h => absurd h (by omega), fun _ => w2⟩
end TokN

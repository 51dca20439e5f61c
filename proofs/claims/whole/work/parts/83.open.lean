/-! ===== a new roll opened, on both sides ===== -/
def bo (k i : Nat) : Bool := decide (i = 0) && (decide (k ≤ 7) || (decide (24 ≤ k ∧ k ≤ 27) || decide (k = 209)))
theorem cp_x {σ : ST} {k i k' j n : Nat} (hl : lenI k = n) (hl2 : lenI k' = n) (hn : n < 2147483648) : cpI σ k i (nI 0) k' j (nI 0) (nI n) = some (setR σ k' j (va_cpy (σ.1 k i) (σ.1 k' j) 0 0 n)) := by
  unfold cpI
  rw [nI_clamp (by decide), nI_clamp (by omega), hl, hl2, if_pos]
  have h0 : (0 : Int32) ≤ nI n := of_eq_true (nle_t (Nat.zero_le n) hn)
  exact ⟨by decide, by decide, h0, by omega, by omega⟩
section Open
variable {σ : ST} {r : Nat}
theorem Bk_open_eq : ∃ τ, Bk_open σ 0 r = some τ ∧ FrK bo σ τ ∧ (∀ l, l < 6 → τ.1 24 0 l = σ.1 14 r l) ∧ (∀ l, l < 6 → τ.1 25 0 l = σ.1 15 r l) ∧ (∀ l, l < 16 → τ.1 26 0 l = σ.1 16 r l) ∧ (∀ l, l < 40 → τ.1 27 0 l = -nI 2) ∧ (∀ l, l < 6 → τ.1 0 0 l = nI 0) ∧ (∀ l, l < 6 → τ.1 1 0 l = nI 0) ∧ (∀ l, l < 8 → τ.1 2 0 l = nI 0) ∧ (∀ l, l < 8 → τ.1 3 0 l = nI 0) ∧ (∀ l, l < 96 → τ.1 4 0 l = nI 0) ∧ (∀ l, l < 96 → τ.1 5 0 l = nI 0) ∧ (∀ l, l < 240 → τ.1 6 0 l = nI 0) ∧ (∀ l, l < 2160 → τ.1 7 0 l = nI 0) ∧ τ.1 209 0 0 = nI 0 := by
  have h1 : ∃ w, Wo_open σ 0 r = some w ∧ FrK bo σ w ∧ (∀ l, l < 6 → w.1 24 0 l = σ.1 14 r l) ∧ (∀ l, l < 6 → w.1 25 0 l = σ.1 15 r l) ∧ (∀ l, l < 16 → w.1 26 0 l = σ.1 16 r l) ∧ (∀ l, l < 40 → w.1 27 0 l = -nI 2) := by
    have a1 : ∀ s : ST, cpI s 14 r 0 24 0 0 6 = some (setR s 24 0 (va_cpy (s.1 14 r) (s.1 24 0) 0 0 6)) := fun s => cp_x (σ := s) (k := 14) (i := r) (k' := 24) (j := 0) (n := 6) rfl rfl (by decide)
    have a2 : ∀ s : ST, cpI s 15 r 0 25 0 0 6 = some (setR s 25 0 (va_cpy (s.1 15 r) (s.1 25 0) 0 0 6)) := fun s => cp_x (σ := s) (k := 15) (i := r) (k' := 25) (j := 0) (n := 6) rfl rfl (by decide)
    have a3 : ∀ s : ST, cpI s 16 r 0 26 0 0 16 = some (setR s 26 0 (va_cpy (s.1 16 r) (s.1 26 0) 0 0 16)) := fun s => cp_x (σ := s) (k := 16) (i := r) (k' := 26) (j := 0) (n := 16) rfl rfl (by decide)
    unfold Wo_open
    rw [a1, bd_some, a2, bd_some, a3, bd_some, Jk_fill_eq 40 rfl (by decide), bd_some]
    refine ⟨_, rfl, (((FrK.setR σ _ rfl).tr (FrK.setR _ _ rfl)).tr (FrK.setR _ _ rfl)).tr (FrK.setR _ _ rfl), fun l hl => ?_, fun l hl => ?_, fun l hl => ?_, fun l hl => ?_⟩
    · simp (disch := decide) only [rd_ne, rd_eq]
      exact cpy_in hl
    · simp (disch := decide) only [rd_ne, rd_eq]
      exact cpy_in hl
    · simp (disch := decide) only [rd_ne, rd_eq]
      exact cpy_in hl
    · rw [rd_eq, fa_fill_in hl]
      rfl
  obtain ⟨w, e, f, w1, w2, w3, w4⟩ := h1
  unfold Bk_open
  rw [e, bd_some, Jk_fill_eq 6 rfl (by decide), bd_some, Jk_fill_eq 6 rfl (by decide), bd_some, Jk_fill_eq 8 rfl (by decide), bd_some, Jk_fill_eq 8 rfl (by decide), bd_some, Jk_fill_eq 96 rfl (by decide), bd_some, Jk_fill_eq 96 rfl (by decide), bd_some, Jk_fill_eq 240 rfl (by decide), bd_some, Jk_fill_eq 2160 rfl (by decide), bd_some, lt_eq]
  refine ⟨_, rfl, ((((((((f.tr (FrK.setR w _ rfl)).tr (FrK.setR _ _ rfl)).tr (FrK.setR _ _ rfl)).tr (FrK.setR _ _ rfl)).tr (FrK.setR _ _ rfl)).tr (FrK.setR _ _ rfl)).tr (FrK.setR _ _ rfl)).tr (FrK.setR _ _ rfl)).tr (FrK.setF _ _ rfl), ?_, ?_, ?_, ?_, fun l hl => ?_, fun l hl => ?_, fun l hl => ?_, fun l hl => ?_, fun l hl => ?_, fun l hl => ?_, fun l hl => ?_, fun l hl => ?_, rf_eq⟩
  · simp (disch := decide) only [rf_ne, rd_ne]; exact w1
  · simp (disch := decide) only [rf_ne, rd_ne]; exact w2
  · simp (disch := decide) only [rf_ne, rd_ne]; exact w3
  · simp (disch := decide) only [rf_ne, rd_ne]; exact w4
  all_goals
    simp (disch := decide) only [rf_ne, rd_ne, rd_eq]
    rw [fa_fill_in hl]
    rfl
end Open
/-! the reference takes the text over -/
def mt (k _i : Nat) : Bool := decide (29 ≤ k ∧ k ≤ 34) || (decide (848 ≤ k ∧ k ≤ 853) || decide (k = 856))
def tx0 (j : Nat) : Int32 := if 2604 ≤ j ∧ j < 2644 then -nI 1 else nI 0
def txL (A B : Nat → Int32) (l j : Nat) : Int32 := if 2660 ≤ j ∧ j < 2660 + l then A (j - 2660) else if 2666 ≤ j ∧ j < 2666 + l then B (j - 2666) else tx0 j
def txP (A B C : Nat → Int32) (L p j : Nat) : Int32 := if 2672 ≤ j ∧ j < 2672 + p then C (j - 2672) else txL A B L j
section Takes
variable {σ : ST} {r L P S ln : Nat}
theorem Mo_opens_eq : ∃ τ, Mo_opens σ = some τ ∧ FrK mt σ τ ∧ (∀ j, j < 2689 → τ.1 34 0 j = if 2604 ≤ j ∧ j < 2644 then -nI 1 else σ.1 34 0 j) := by
  unfold Mo_opens
  refine lp_invA (fun o => ∃ τ, o = some τ ∧ FrK mt σ τ ∧ (∀ j, j < 2689 → τ.1 34 0 j = if 2604 ≤ j ∧ j < 2644 then -nI 1 else σ.1 34 0 j)) 40 (by decide) (fun k z => z.2 = nI k ∧ FrK mt σ z.1 ∧ ∀ j, j < 2689 → z.1.1 34 0 j = if 2604 ≤ j ∧ j < 2604 + k then -nI 1 else σ.1 34 0 j) ⟨rfl, FrK.rf σ, fun j hj => by rw [if_neg (by omega)]⟩ ?_ ?_
  · rintro rec k ⟨x, u⟩ hk ⟨hu, fx, g⟩
    have hu : u = nI k := hu
    subst hu
    have g : ∀ j, j < 2689 → x.1 34 0 j = if 2604 ≤ j ∧ j < 2604 + k then -nI 1 else σ.1 34 0 j := g
    refine ⟨(setR x 34 0 (upd (x.1 34 0) (2604 + k) (-nI 1)), nI (k + 1)), ⟨rfl, fx.tr (FrK.setR x _ rfl), fun j hj => ?_⟩, ?_⟩
    · show (setR x 34 0 (upd (x.1 34 0) (2604 + k) (-nI 1))).1 34 0 j = _
      rw [rd_eq, upd_at]
      by_cases c : j = 2604 + k
      · rw [if_pos c, if_pos (by omega)]
      · rw [if_neg c, g j hj]
        by_cases c2 : 2604 ≤ j ∧ j < 2604 + k
        · rw [if_pos c2, if_pos (by omega)]
        · rw [if_neg c2, if_neg (by omega)]
    · show (if (nI 40) ≤ nI k then some x else bd_ (stI x 34 0 (nI 2604 + nI k) (-nI 1)) (fun s4 => rec (s4, (nI k + nI 1)))) = _
      rw [if_neg (of_eq_false (nle_f hk (by omega))), nI_add, st34 (by omega), bd_some, nI_add]
  · rintro rec ⟨x, u⟩ ⟨hu, fx, g⟩
    have hu : u = nI 40 := hu
    subst hu
    exact ⟨x, if_pos (show (40 : Int32) ≤ nI 40 by decide), fx, g⟩
def TT (σ : ST) (L P : Nat) (o : Option ST) : Prop := ∃ τ, o = some τ ∧ FrK mt σ τ ∧ (∀ j, j < 2689 → τ.1 34 0 j = txP (σ.1 39 0) (σ.1 40 0) (σ.1 42 0) L P j) ∧ (∀ l, l < L → τ.1 29 0 l = σ.1 41 0 l) ∧ (∀ j, j < 64 → τ.1 30 0 j = σ.1 43 0 j) ∧ (∀ j, j < 64 → τ.1 31 0 j = σ.1 44 0 j) ∧ (∀ j, j < 8 → τ.1 32 0 j = σ.1 45 0 j) ∧ (∀ j, j < 8 → τ.1 33 0 j = σ.1 46 0 j) ∧ τ.1 850 0 0 = σ.1 867 0 0 ∧ τ.1 851 0 0 = σ.1 868 0 0 ∧ τ.1 852 0 0 = σ.1 869 0 0 ∧ τ.1 853 0 0 = σ.1 870 0 0 ∧ τ.1 848 0 0 = σ.1 871 0 0 ∧ τ.1 849 0 0 = σ.1 872 0 0 ∧ τ.1 856 0 0 = nI 0
theorem Mo_takesText_eq (hL : L ≤ 6) (hP : P ≤ 16) (h67 : σ.1 867 0 0 = nI L) (h68 : σ.1 868 0 0 = nI P) : TT σ L P (Mo_takesText σ) := by
  unfold Mo_takesText
  refine lp_invA (TT σ L P) 2689 (by decide) (fun k z => z.2 = nI k ∧ FrK mt σ z.1 ∧ ∀ j, j < k → z.1.1 34 0 j = nI 0) ⟨rfl, FrK.rf σ, fun j hj => absurd hj (Nat.not_lt_zero j)⟩ ?_ ?_
  · rintro rec k ⟨x, u⟩ hk ⟨hu, fx, g⟩
    have hu : u = nI k := hu
    subst hu
    have g : ∀ j, j < k → x.1 34 0 j = nI 0 := g
    refine ⟨(setR x 34 0 (upd (x.1 34 0) k (nI 0)), nI (k + 1)), ⟨rfl, fx.tr (FrK.setR x _ rfl), fun j hj => ?_⟩, ?_⟩
    · show (setR x 34 0 (upd (x.1 34 0) k (nI 0))).1 34 0 j = _
      rw [rd_eq, upd_at]
      by_cases c : j = k
      · rw [if_pos c]
      · rw [if_neg c]; exact g j (by omega)
    · show (if (nI 2689) ≤ nI k then _ else bd_ (stI x 34 0 (nI k) (nI 0)) (fun s40 => rec (s40, (nI k + nI 1)))) = _
      rw [if_neg (of_eq_false (nle_f hk (by omega))), st34 hk, bd_some, nI_add]
  rintro rec ⟨x, u⟩ ⟨hu, fx, g⟩
  have hu : u = nI 2689 := hu
  subst hu
  obtain ⟨y, ey, fy, gy⟩ := Mo_opens_eq (σ := x)
  have fy := fx.tr fy
  have gy : ∀ j, j < 2689 → y.1 34 0 j = tx0 j := fun j hj => by
    rw [gy j hj]
    unfold tx0
    by_cases c : 2604 ≤ j ∧ j < 2644
    · rw [if_pos c, if_pos c]
    · rw [if_neg c, if_neg c]; exact g j hj
  rw [show ∀ X Y : Option ST, (if (2689 : Int32) ≤ (x, nI 2689).2 then X else Y) = X from fun X Y => if_pos (by show (2689 : Int32) ≤ nI 2689; decide)]
  show TT σ L P (bd_ (Mo_opens x) _)
  rw [ey, bd_some]
  refine lp_invA (TT σ L P) L (by omega) (fun l z => z.2 = nI l ∧ FrK mt σ z.1 ∧ (∀ j, j < 2689 → z.1.1 34 0 j = txL (σ.1 39 0) (σ.1 40 0) l j) ∧ ∀ j, j < l → z.1.1 29 0 j = σ.1 41 0 j) ⟨rfl, fy, fun j hj => by rw [gy j hj]; unfold txL; rw [if_neg (by omega), if_neg (by omega)], fun j hj => absurd hj (Nat.not_lt_zero j)⟩ ?_ ?_
  · rintro rec2 l ⟨z, u⟩ hl ⟨hu, fz, g1, g2⟩
    have hu : u = nI l := hu
    subst hu
    have fz : FrK mt σ z := fz
    have g1 : ∀ j, j < 2689 → z.1 34 0 j = txL (σ.1 39 0) (σ.1 40 0) l j := g1
    have g2 : ∀ j, j < l → z.1 29 0 j = σ.1 41 0 j := g2
    refine ⟨(setR (setR (setR z 29 0 (upd (z.1 29 0) l (σ.1 41 0 l))) 34 0 (upd (z.1 34 0) (2660 + l) (σ.1 39 0 l))) 34 0 (upd (upd (z.1 34 0) (2660 + l) (σ.1 39 0 l)) (2666 + l) (σ.1 40 0 l)), nI (l + 1)), ⟨rfl, ((fz.tr (FrK.setR z _ rfl)).tr (FrK.setR _ _ rfl)).tr (FrK.setR _ _ rfl), fun j hj => ?_, fun j hj => ?_⟩, ?_⟩
    · show (setR _ 34 0 (upd (upd (z.1 34 0) (2660 + l) (σ.1 39 0 l)) (2666 + l) (σ.1 40 0 l))).1 34 0 j = _
      rw [rd_eq, upd_at, upd_at, g1 j hj]
      unfold txL
      by_cases c1 : j = 2666 + l
      · rw [if_pos c1, if_neg (show ¬ (2660 ≤ j ∧ j < 2660 + (l + 1)) by omega), if_pos (show 2666 ≤ j ∧ j < 2666 + (l + 1) by omega), show j - 2666 = l by omega]
      · rw [if_neg c1]
        by_cases c2 : j = 2660 + l
        · rw [if_pos c2, if_pos (show 2660 ≤ j ∧ j < 2660 + (l + 1) by omega), show j - 2660 = l by omega]
        · rw [if_neg c2]
          by_cases c3 : 2660 ≤ j ∧ j < 2660 + l
          · rw [if_pos c3, if_pos (show 2660 ≤ j ∧ j < 2660 + (l + 1) by omega)]
          · rw [if_neg c3, if_neg (show ¬ (2660 ≤ j ∧ j < 2660 + (l + 1)) by omega)]
            by_cases c4 : 2666 ≤ j ∧ j < 2666 + l
            · rw [if_pos c4, if_pos (show 2666 ≤ j ∧ j < 2666 + (l + 1) by omega)]
            · rw [if_neg c4, if_neg (show ¬ (2666 ≤ j ∧ j < 2666 + (l + 1)) by omega)]
    · show (setR (setR (setR z 29 0 (upd (z.1 29 0) l (σ.1 41 0 l))) 34 0 _) 34 0 _).1 29 0 j = _
      rw [rd_ne (by decide), rd_ne (by decide), rd_eq, upd_at]
      by_cases c : j = l
      · rw [if_pos c, c]
      · rw [if_neg c]; exact g2 j (by omega)
    · show (if (gF z 867 0) ≤ nI l then _ else bd_ (ldI z 41 0 (nI l)) (fun v34 => bd_ (stI z 29 0 (nI l) v34) (fun s35 => bd_ (ldI s35 39 0 (nI l)) (fun v36 => bd_ (stI s35 34 0 (nI 2660 + nI l) v36) (fun s37 => bd_ (ldI s37 40 0 (nI l)) (fun v38 => bd_ (stI s37 34 0 (nI 2666 + nI l) v38) (fun s39 => rec2 (s39, (nI l + nI 1))))))))) = _
      have gz : gF z 867 0 = nI L := by show z.1 867 0 0 = _; rw [fz.2 867 0 rfl]; exact h67
      rw [gz, if_neg (of_eq_false (nle_f hl (by omega))), ld41 (by omega), bd_some, st29 (by omega), bd_some, ld39 (by omega), bd_some, nI_add, st34 (by omega), bd_some, ld40 (by omega), bd_some, nI_add, st34 (by omega), bd_some, nI_add]
      simp (disch := decide) only [rd_ne, rd_eq, fz.2 41 0 rfl, fz.2 39 0 rfl, fz.2 40 0 rfl]
  rintro rec2 ⟨z, u⟩ ⟨hu, fz, g1, g2⟩
  have hu : u = nI L := hu
  subst hu
  have fz : FrK mt σ z := fz
  have g1 : ∀ j, j < 2689 → z.1 34 0 j = txL (σ.1 39 0) (σ.1 40 0) L j := g1
  have g2 : ∀ j, j < L → z.1 29 0 j = σ.1 41 0 j := g2
  have gz : gF z 867 0 = nI L := by show z.1 867 0 0 = _; rw [fz.2 867 0 rfl]; exact h67
  rw [show ∀ X Y : Option ST, (if (gF (z, nI L).1 867 0) ≤ (z, nI L).2 then X else Y) = X from fun X Y => if_pos (by show gF z 867 0 ≤ nI L; rw [gz]; exact of_eq_true (nle_t (Nat.le_refl L) (by omega)))]
  refine lp_invA (TT σ L P) P (by omega) (fun p w => w.2 = nI p ∧ FrK mt σ w.1 ∧ (∀ j, j < 2689 → w.1.1 34 0 j = txP (σ.1 39 0) (σ.1 40 0) (σ.1 42 0) L p j) ∧ ∀ j, j < L → w.1.1 29 0 j = σ.1 41 0 j) ⟨rfl, fz, fun j hj => by show z.1 34 0 j = _; rw [g1 j hj]; unfold txP; rw [if_neg (by omega)], g2⟩ ?_ ?_
  · rintro rec3 p ⟨w, u⟩ hp ⟨hu, fw, g3, g4⟩
    have hu : u = nI p := hu
    subst hu
    have fw : FrK mt σ w := fw
    have g3 : ∀ j, j < 2689 → w.1 34 0 j = txP (σ.1 39 0) (σ.1 40 0) (σ.1 42 0) L p j := g3
    refine ⟨(setR w 34 0 (upd (w.1 34 0) (2672 + p) (σ.1 42 0 p)), nI (p + 1)), ⟨rfl, fw.tr (FrK.setR w _ rfl), fun j hj => ?_, fun j hj => ?_⟩, ?_⟩
    · show (setR w 34 0 (upd (w.1 34 0) (2672 + p) (σ.1 42 0 p))).1 34 0 j = _
      rw [rd_eq, upd_at, g3 j hj]
      unfold txP
      by_cases c : j = 2672 + p
      · rw [if_pos c, if_pos (by omega), show j - 2672 = p by omega]
      · rw [if_neg c]
        by_cases c3 : 2672 ≤ j ∧ j < 2672 + p
        · rw [if_pos c3, if_pos (by omega)]
        · rw [if_neg c3, if_neg (by omega)]
    · show (setR w 34 0 _).1 29 0 j = _
      rw [rd_ne (by decide)]; exact g4 j hj
    · show (if (gF w 868 0) ≤ nI p then _ else bd_ (ldI w 42 0 (nI p)) (fun v32 => bd_ (stI w 34 0 (nI 2672 + nI p) v32) (fun s33 => rec3 (s33, (nI p + nI 1))))) = _
      have gw : gF w 868 0 = nI P := by show w.1 868 0 0 = _; rw [fw.2 868 0 rfl]; exact h68
      rw [gw, if_neg (of_eq_false (nle_f hp (by omega))), ld42 (by omega), bd_some, nI_add, st34 (by omega), bd_some, nI_add, fw.2 42 0 rfl]
  rintro rec3 ⟨w, u⟩ ⟨hu, fw, g3, g4⟩
  have hu : u = nI P := hu
  subst hu
  have fw : FrK mt σ w := fw
  have gw : gF w 868 0 = nI P := by show w.1 868 0 0 = _; rw [fw.2 868 0 rfl]; exact h68
  rw [show ∀ X Y : Option ST, (if (gF (w, nI P).1 868 0) ≤ (w, nI P).2 then X else Y) = X from fun X Y => if_pos (by show gF w 868 0 ≤ nI P; rw [gw]; exact of_eq_true (nle_t (Nat.le_refl P) (by omega)))]
  refine lp_invA (TT σ L P) 64 (by decide) (fun k v => v.2 = nI k ∧ FrK mt σ v.1 ∧ (∀ j, j < 2689 → v.1.1 34 0 j = txP (σ.1 39 0) (σ.1 40 0) (σ.1 42 0) L P j) ∧ (∀ j, j < L → v.1.1 29 0 j = σ.1 41 0 j) ∧ (∀ j, j < k → v.1.1 30 0 j = σ.1 43 0 j) ∧ ∀ j, j < k → v.1.1 31 0 j = σ.1 44 0 j) ⟨rfl, fw, g3, g4, fun j hj => absurd hj (Nat.not_lt_zero j), fun j hj => absurd hj (Nat.not_lt_zero j)⟩ ?_ ?_
  · rintro rec4 k ⟨v, u⟩ hk ⟨hu, fv, g5, g6, g7, g8⟩
    have hu : u = nI k := hu
    subst hu
    have fv : FrK mt σ v := fv
    refine ⟨(setR (setR v 30 0 (upd (v.1 30 0) k (σ.1 43 0 k))) 31 0 (upd (v.1 31 0) k (σ.1 44 0 k)), nI (k + 1)), ⟨rfl, (fv.tr (FrK.setR v _ rfl)).tr (FrK.setR _ _ rfl), fun j hj => ?_, fun j hj => ?_, fun j hj => ?_, fun j hj => ?_⟩, ?_⟩
    · show (setR (setR v 30 0 _) 31 0 _).1 34 0 j = _
      rw [rd_ne (by decide), rd_ne (by decide)]; exact g5 j hj
    · show (setR (setR v 30 0 _) 31 0 _).1 29 0 j = _
      rw [rd_ne (by decide), rd_ne (by decide)]; exact g6 j hj
    · show (setR (setR v 30 0 (upd (v.1 30 0) k (σ.1 43 0 k))) 31 0 _).1 30 0 j = _
      rw [rd_ne (by decide), rd_eq, upd_at]
      by_cases c : j = k
      · rw [if_pos c, c]
      · rw [if_neg c]; exact g7 j (by omega)
    · show (setR (setR v 30 0 _) 31 0 (upd (v.1 31 0) k (σ.1 44 0 k))).1 31 0 j = _
      rw [rd_eq, upd_at]
      by_cases c : j = k
      · rw [if_pos c, c]
      · rw [if_neg c]; exact g8 j (by omega)
    · show (if (nI 64) ≤ nI k then _ else bd_ (ldI v 43 0 (nI k)) (fun v28 => bd_ (stI v 30 0 (nI k) v28) (fun s29 => bd_ (ldI s29 44 0 (nI k)) (fun v30 => bd_ (stI s29 31 0 (nI k) v30) (fun s31 => rec4 (s31, (nI k + nI 1))))))) = _
      rw [if_neg (of_eq_false (nle_f hk (by omega))), ld43 hk, bd_some, st30 hk, bd_some, ld44 hk, bd_some, st31 hk, bd_some, nI_add]
      simp (disch := decide) only [rd_ne, fv.2 43 0 rfl, fv.2 44 0 rfl]
  rintro rec4 ⟨v, u⟩ ⟨hu, fv, g5, g6, g7, g8⟩
  have hu : u = nI 64 := hu
  subst hu
  rw [show ∀ X Y : Option ST, (if (64 : Int32) ≤ (v, nI 64).2 then X else Y) = X from fun X Y => if_pos (by show (64 : Int32) ≤ nI 64; decide)]
  refine lp_invA (TT σ L P) 8 (by decide) (fun k x => x.2 = nI k ∧ FrK mt σ x.1 ∧ (∀ j, j < 2689 → x.1.1 34 0 j = txP (σ.1 39 0) (σ.1 40 0) (σ.1 42 0) L P j) ∧ (∀ j, j < L → x.1.1 29 0 j = σ.1 41 0 j) ∧ (∀ j, j < 64 → x.1.1 30 0 j = σ.1 43 0 j) ∧ (∀ j, j < 64 → x.1.1 31 0 j = σ.1 44 0 j) ∧ (∀ j, j < k → x.1.1 32 0 j = σ.1 45 0 j) ∧ ∀ j, j < k → x.1.1 33 0 j = σ.1 46 0 j) ⟨rfl, fv, g5, g6, g7, g8, fun j hj => absurd hj (Nat.not_lt_zero j), fun j hj => absurd hj (Nat.not_lt_zero j)⟩ ?_ ?_
  · rintro rec5 k ⟨x, u⟩ hk ⟨hu, fx, h5, h6, h7, h8, h9, h10⟩
    have hu : u = nI k := hu
    subst hu
    have fx : FrK mt σ x := fx
    refine ⟨(setR (setR x 32 0 (upd (x.1 32 0) k (σ.1 45 0 k))) 33 0 (upd (x.1 33 0) k (σ.1 46 0 k)), nI (k + 1)), ⟨rfl, (fx.tr (FrK.setR x _ rfl)).tr (FrK.setR _ _ rfl), fun j hj => ?_, fun j hj => ?_, fun j hj => ?_, fun j hj => ?_, fun j hj => ?_, fun j hj => ?_⟩, ?_⟩
    · show (setR (setR x 32 0 _) 33 0 _).1 34 0 j = _
      rw [rd_ne (by decide), rd_ne (by decide)]; exact h5 j hj
    · show (setR (setR x 32 0 _) 33 0 _).1 29 0 j = _
      rw [rd_ne (by decide), rd_ne (by decide)]; exact h6 j hj
    · show (setR (setR x 32 0 _) 33 0 _).1 30 0 j = _
      rw [rd_ne (by decide), rd_ne (by decide)]; exact h7 j hj
    · show (setR (setR x 32 0 _) 33 0 _).1 31 0 j = _
      rw [rd_ne (by decide), rd_ne (by decide)]; exact h8 j hj
    · show (setR (setR x 32 0 (upd (x.1 32 0) k (σ.1 45 0 k))) 33 0 _).1 32 0 j = _
      rw [rd_ne (by decide), rd_eq, upd_at]
      by_cases c : j = k
      · rw [if_pos c, c]
      · rw [if_neg c]; exact h9 j (by omega)
    · show (setR (setR x 32 0 _) 33 0 (upd (x.1 33 0) k (σ.1 46 0 k))).1 33 0 j = _
      rw [rd_eq, upd_at]
      by_cases c : j = k
      · rw [if_pos c, c]
      · rw [if_neg c]; exact h10 j (by omega)
    · show (if (nI 8) ≤ nI k then _ else bd_ (ldI x 45 0 (nI k)) (fun v24 => bd_ (stI x 32 0 (nI k) v24) (fun s25 => bd_ (ldI s25 46 0 (nI k)) (fun v26 => bd_ (stI s25 33 0 (nI k) v26) (fun s27 => rec5 (s27, (nI k + nI 1))))))) = _
      rw [if_neg (of_eq_false (nle_f hk (by omega))), ld45 hk, bd_some, st32 hk, bd_some, ld46 hk, bd_some, st33 hk, bd_some, nI_add]
      simp (disch := decide) only [rd_ne, fx.2 45 0 rfl, fx.2 46 0 rfl]
  rintro rec5 ⟨x, u⟩ ⟨hu, fx, h5, h6, h7, h8, h9, h10⟩
  have hu : u = nI 8 := hu
  subst hu
  have fx : FrK mt σ x := fx
  have h5 : ∀ j, j < 2689 → x.1 34 0 j = txP (σ.1 39 0) (σ.1 40 0) (σ.1 42 0) L P j := h5
  have h6 : ∀ j, j < L → x.1 29 0 j = σ.1 41 0 j := h6
  have h7 : ∀ j, j < 64 → x.1 30 0 j = σ.1 43 0 j := h7
  have h8 : ∀ j, j < 64 → x.1 31 0 j = σ.1 44 0 j := h8
  have h9 : ∀ j, j < 8 → x.1 32 0 j = σ.1 45 0 j := h9
  have h10 : ∀ j, j < 8 → x.1 33 0 j = σ.1 46 0 j := h10
  rw [show ∀ X Y : Option ST, (if (8 : Int32) ≤ (x, nI 8).2 then X else Y) = X from fun X Y => if_pos (by show (8 : Int32) ≤ nI 8; decide)]
  unfold TT
  simp only [lt_eq]
  refine ⟨_, rfl, ((((((fx.tr (FrK.setF x _ rfl)).tr (FrK.setF _ _ rfl)).tr (FrK.setF _ _ rfl)).tr (FrK.setF _ _ rfl)).tr (FrK.setF _ _ rfl)).tr (FrK.setF _ _ rfl)).tr (FrK.setF _ _ rfl), ?_, ?_, ?_, ?_, ?_, ?_, ?_, ?_, ?_, ?_, ?_, ?_, ?_⟩
  all_goals simp (disch := decide) only [rf_ne, rf_eq, gF, fx.2 867 0 rfl, fx.2 868 0 rfl, fx.2 869 0 rfl, fx.2 870 0 rfl, fx.2 871 0 rfl, fx.2 872 0 rfl]
  · exact h5
  · exact h6
  · exact h7
  · exact h8
  · exact h9
  · exact h10
  · rfl
end Takes

/-! ===== feed ===== -/
def byt (a : Int32) (j : Nat) : Int32 := (a >>> (nI (24 - 8 * j) &&& nI 31)) &&& nI 255
def f21 (k _i : Nat) : Bool := decide (k = 21) || decide (k = 652)
def f28 (k _i : Nat) : Bool := decide (k = 28) || (decide (k = 842) || decide (k = 840))
section Feed
variable {σ τ : ST} {R : RT} {ν : NU}
theorem byt_n (a : Int32) (j : Nat) : ∃ b, b < 256 ∧ byt a j = nI b := by
  unfold byt
  obtain ⟨m, hm, e⟩ := wb_of32 (a >>> (nI (24 - 8 * j) &&& nI 31))
  rw [e, fa_and]
  exact ⟨_, Nat.lt_of_le_of_lt Nat.and_le_right (by decide), rfl⟩
theorem sh_m8 : ∀ k, k < 4 → (if k < 4 then nI (24 - 8 * k) else -nI 8) + -nI 8 = (if k + 1 < 4 then nI (24 - 8 * (k + 1)) else -nI 8) := by decide +kernel
theorem Tp_append_eq {n : Nat} (a : Int32) (h : σ.1 652 0 0 = nI n) (hn : n + 4 ≤ 900) : ∃ τ, Tp_append σ a = some τ ∧ FrK f21 σ τ ∧ τ.1 652 0 0 = nI (n + 4) ∧ (∀ j, j < n → τ.1 21 0 j = σ.1 21 0 j) ∧ ∀ j, j < 4 → τ.1 21 0 (n + j) = byt a j := by
  unfold Tp_append
  obtain ⟨z, ⟨hz1, hz2, hz3, hz4, hz5⟩, rec, ez⟩ := lp_invG (β := ST) (z0 := (σ, (24 : Int32))) (step := fun rec2 (z1 : ST × Int32) => (if z1.2 < 0 then some z1.1 else (if 900 ≤ (gF z1.1 652 0) then some z1.1 else bd_ (stI z1.1 21 0 (gF z1.1 652 0) ((a >>> (z1.2 &&& 31)) &&& 255)) (fun s4 => lt_ (setF s4 652 0 ((gF s4 652 0) + 1)) (fun s5 => rec2 (s5, (z1.2 + (-8)))))))) 4 (by decide) (fun k z => z.2 = (if k < 4 then nI (24 - 8 * k) else -nI 8) ∧ FrK f21 σ z.1 ∧ z.1.1 652 0 0 = nI (n + k) ∧ (∀ j, j < n → z.1.1 21 0 j = σ.1 21 0 j) ∧ ∀ j, j < k → z.1.1 21 0 (n + j) = byt a j) ⟨rfl, FrK.rf σ, h, fun _ _ => rfl, fun j hj => absurd hj (Nat.not_lt_zero j)⟩ (by
    rintro rec k ⟨x, s⟩ hk ⟨hs, fx, g1, g2, g3⟩
    have hs : s = (if k < 4 then nI (24 - 8 * k) else -nI 8) := hs
    have fx : FrK f21 σ x := fx
    have g1 : x.1 652 0 0 = nI (n + k) := g1
    have sm := sh_m8 k hk
    rw [← hs] at sm
    have hs2 : s = nI (24 - 8 * k) := by rw [hs, if_pos hk]
    refine ⟨(setF (setR x 21 0 (upd (x.1 21 0) (n + k) (byt a k))) 652 0 (nI (n + k + 1)), s + -nI 8), ⟨sm, (fx.tr (FrK.setR x _ rfl)).tr (FrK.setF _ _ rfl), rf_eq, fun j hj => ?_, fun j hj => ?_⟩, ?_⟩
    · show (setF (setR x 21 0 _) 652 0 _).1 21 0 j = _
      rw [rf_ne (by decide), rd_eq, upd_ne (by omega)]
      exact g2 j hj
    · show (setF (setR x 21 0 _) 652 0 _).1 21 0 (n + j) = _
      rw [rf_ne (by decide), rd_eq, upd_at]
      split
      · rename_i e
        rw [show j = k by omega]
      · exact g3 j (by omega)
    · subst hs2
      have g1 : x.1 652 0 0 = nI (n + k) := g1
      have e0 : (a >>> (nI (24 - 8 * k) &&& nI 31)) &&& nI 255 = byt a k := rfl
      simp (disch := omega) only [bd_some, bd_none, lt_eq, lk_eq, fa_lit, nI_add, nI_mul, nI_sub, nle_t, nle_f, nlt_t, nlt_f, neq_t, neq_f, neg_ne, neg_ne', if_true, if_false, ite_true, ite_false, Nat.zero_add, Nat.add_zero, ld0, ld1, ld2, ld3, ld4, ld5, ld6, ld7, ld8, ld9, ld10, ld11, ld12, ld13, ld14, ld15, ld16, ld17, ld18, ld19, ld20, ld21, ld22, ld23, ld24, ld25, ld26, ld27, ld28, ld29, ld30, ld31, ld32, ld33, ld34, ld35, ld36, ld37, ld38, ld39, ld40, ld41, ld42, ld43, ld44, ld45, ld46, ld47, ld48, ld100, ld101, ld102, ld103, ld104, ld105, gF, g1, st21, rd_ne, e0])
  obtain ⟨x, s⟩ := z
  have hs : s = -nI 8 := hz1
  subst hs
  refine ⟨x, ez.trans ?_, hz2, hz3, hz4, hz5⟩
  show (if -nI 8 < 0 then some x else _) = _
  rw [if_pos (by decide)]
theorem q_feed (h : IV σ R) (a0 a1 a2 a3 a4 : Int32) : QA (Rp_feed σ a0 a1 a2 a3 a4) (fun τ => Mo_feed τ a0 a1 a2 a3 a4) := by
  obtain ⟨h1, hc, en⟩ := thr h (nI 0)
  obtain ⟨i1, i2, i3, i4, i5, i6, i7, ⟨n, hn, n1, n2, n3⟩, p1, p2⟩ := id h
  have m2 : (setF σ 840 0 (nI 0)).1 842 0 0 = nI n := by rw [rf_ne (by decide)]; exact n2
  unfold Rp_feed Mo_feed
  by_cases c : n ≤ 880
  rotate_left
  · refine QAf (v := -nI 1) h ?_ ?_
    · simp (disch := omega) only [bd_some, bd_none, lt_eq, lk_eq, fa_lit, nI_add, nI_mul, nI_sub, nle_t, nle_f, nlt_t, nlt_f, neq_t, neq_f, neg_ne, neg_ne', if_true, if_false, ite_true, ite_false, Nat.zero_add, Nat.add_zero, ld0, ld1, ld2, ld3, ld4, ld5, ld6, ld7, ld8, ld9, ld10, ld11, ld12, ld13, ld14, ld15, ld16, ld17, ld18, ld19, ld20, ld21, ld22, ld23, ld24, ld25, ld26, ld27, ld28, ld29, ld30, ld31, ld32, ld33, ld34, ld35, ld36, ld37, ld38, ld39, ld40, ld41, ld42, ld43, ld44, ld45, ld46, ld47, ld48, ld100, ld101, ld102, ld103, ld104, ld105, gF, n1]
    · simp (disch := omega) only [bd_some, bd_none, lt_eq, lk_eq, fa_lit, nI_add, nI_mul, nI_sub, nle_t, nle_f, nlt_t, nlt_f, neq_t, neq_f, neg_ne, neg_ne', if_true, if_false, ite_true, ite_false, Nat.zero_add, Nat.add_zero, ld0, ld1, ld2, ld3, ld4, ld5, ld6, ld7, ld8, ld9, ld10, ld11, ld12, ld13, ld14, ld15, ld16, ld17, ld18, ld19, ld20, ld21, ld22, ld23, ld24, ld25, ld26, ld27, ld28, ld29, ld30, ld31, ld32, ld33, ld34, ld35, ld36, ld37, ld38, ld39, ld40, ld41, ld42, ld43, ld44, ld45, ld46, ld47, ld48, ld100, ld101, ld102, ld103, ld104, ld105, gF, m2]
  obtain ⟨t1, e1, f1, s1, k1, b1⟩ := Tp_append_eq a0 n1 (by omega)
  obtain ⟨t2, e2, f2, s2, k2, b2⟩ := Tp_append_eq a1 s1 (by omega)
  obtain ⟨t3, e3, f3, s3, k3, b3⟩ := Tp_append_eq a2 s2 (by omega)
  obtain ⟨t4, e4, f4, s4, k4, b4⟩ := Tp_append_eq a3 s3 (by omega)
  obtain ⟨t5, e5, f5, s5, k5, b5⟩ := Tp_append_eq a4 s4 (by omega)
  have F := (((f1.tr f2).tr f3).tr f4).tr f5
  generalize hA : (fun k => byt (if k < 4 then a0 else if k < 8 then a1 else if k < 12 then a2 else if k < 16 then a3 else a4) (k % 4)) = A
  have hA2 : ∀ k, A k = byt (if k < 4 then a0 else if k < 8 then a1 else if k < 12 then a2 else if k < 16 then a3 else a4) (k % 4) := fun k => by rw [← hA]
  have cb : ∀ k, k < 20 → t5.1 21 0 (n + k) = A k := by
    intro k hk
    rw [hA2]
    by_cases c1 : k < 4
    · rw [k5 _ (by omega), k4 _ (by omega), k3 _ (by omega), k2 _ (by omega), b1 k c1, if_pos c1, Nat.mod_eq_of_lt c1]
    · by_cases c2 : k < 8
      · have := b2 (k - 4) (by omega)
        rw [show n + 4 + (k - 4) = n + k by omega] at this
        rw [k5 _ (by omega), k4 _ (by omega), k3 _ (by omega), this, if_neg c1, if_pos c2, show k % 4 = k - 4 by omega]
      · by_cases c3 : k < 12
        · have := b3 (k - 8) (by omega)
          rw [show n + 4 + 4 + (k - 8) = n + k by omega] at this
          rw [k5 _ (by omega), k4 _ (by omega), this, if_neg c1, if_neg c2, if_pos c3, show k % 4 = k - 8 by omega]
        · by_cases c4 : k < 16
          · have := b4 (k - 12) (by omega)
            rw [show n + 4 + 4 + 4 + (k - 12) = n + k by omega] at this
            rw [k5 _ (by omega), this, if_neg c1, if_neg c2, if_neg c3, if_pos c4, show k % 4 = k - 12 by omega]
          · have := b5 (k - 16) (by omega)
            rw [show n + 4 + 4 + 4 + 4 + (k - 16) = n + k by omega] at this
            rw [this, if_neg c1, if_neg c2, if_neg c3, if_neg c4, show k % 4 = k - 16 by omega]
  have cl : ∀ j, j < n → t5.1 21 0 j = σ.1 21 0 j := fun j hj => by rw [k5 _ (by omega), k4 _ (by omega), k3 _ (by omega), k2 _ (by omega), k1 _ hj]
  have r1 : t5.1 842 0 0 = nI n := by rw [F.2 842 0 rfl]; exact n2
  have r2 : (setF t5 840 0 (nI 0)).1 842 0 0 = nI n := by rw [rf_ne (by decide)]; exact r1
  generalize hs : setF t5 840 0 (nI 0) = s at *
  have fs : FrK (fun k i => f21 k i || f28 k i) σ s := by
    rw [← hs]
    exact (F.mono (fun k i hk => (Bool.or_eq_false_iff.mp hk).1)).tr (FrK.setF t5 _ rfl)
  have ss : s.1 652 0 0 = nI (n + 20) := by rw [← hs, rf_ne (by decide)]; exact s5
  have s21 : s.1 21 0 = t5.1 21 0 := by rw [← hs, rf_ne (by decide)]
  have s28 : s.1 28 0 = σ.1 28 0 := by rw [← hs, rf_ne (by decide), F.2 28 0 rfl]
  refine ⟨nI (n + 20), t5, setF (setR s 28 0 (fb_put (s.1 28 0) A n 20)) 842 0 (nI (n + 20)), R, ?_, ?_, ?_⟩
  · simp (disch := omega) only [bd_some, bd_none, lt_eq, lk_eq, fa_lit, nI_add, nI_mul, nI_sub, nle_t, nle_f, nlt_t, nlt_f, neq_t, neq_f, neg_ne, neg_ne', if_true, if_false, ite_true, ite_false, Nat.zero_add, Nat.add_zero, ld0, ld1, ld2, ld3, ld4, ld5, ld6, ld7, ld8, ld9, ld10, ld11, ld12, ld13, ld14, ld15, ld16, ld17, ld18, ld19, ld20, ld21, ld22, ld23, ld24, ld25, ld26, ld27, ld28, ld29, ld30, ld31, ld32, ld33, ld34, ld35, ld36, ld37, ld38, ld39, ld40, ld41, ld42, ld43, ld44, ld45, ld46, ld47, ld48, ld100, ld101, ld102, ld103, ld104, ld105, gF, n1, e1, e2, e3, e4, e5, s5]
  · show lt_ (setF t5 840 0 (nI 0)) _ = _
    rw [lt_eq, hs, if_pos (by show s.1 842 0 0 ≤ nI 880; rw [r2]; exact of_eq_true (nle_t c (by omega)))]
    refine lp_runE 20 (by decide) (fun k => (setR s 28 0 (fb_put (s.1 28 0) A n k), nI k)) (by rw [fb_put_0, setR_self]; rfl) (fun rec k hk => ?_) (fun rec => ?_)
    · have g8 : gF (setR s 28 0 (fb_put (s.1 28 0) A n k)) 842 0 = nI n := by show (setR s 28 0 _).1 842 0 0 = _; rw [rd_ne (by decide)]; exact r2
      have hsel : ∀ K : Int32 → Option (Int32 × ST), lk_ (fun kk7 => (if (4 : Int32) ≤ nI k then (if (8 : Int32) ≤ nI k then (if (12 : Int32) ≤ nI k then (if (16 : Int32) ≤ nI k then kk7 a4 else kk7 a3) else kk7 a2) else kk7 a1) else kk7 a0)) K = K (if k < 4 then a0 else if k < 8 then a1 else if k < 12 then a2 else if k < 16 then a3 else a4) := by
        intro K
        simp (disch := omega) only [lk_eq, fa_lit, nle_i]
        by_cases c1 : k < 4
        · simp only [c1, if_true, show ¬ 4 ≤ k by omega, if_false]
        · by_cases c2 : k < 8
          · simp only [c1, c2, if_true, show 4 ≤ k by omega, show ¬ 8 ≤ k by omega, if_false]
          · by_cases c3 : k < 12
            · simp only [c1, c2, c3, if_true, show 4 ≤ k by omega, show 8 ≤ k by omega, show ¬ 12 ≤ k by omega, if_false]
            · by_cases c4 : k < 16
              · simp only [c1, c2, c3, c4, if_true, show 4 ≤ k by omega, show 8 ≤ k by omega, show 12 ≤ k by omega, show ¬ 16 ≤ k by omega, if_false]
              · simp only [c1, c2, c3, c4, if_true, show 4 ≤ k by omega, show 8 ≤ k by omega, show 12 ≤ k by omega, show 16 ≤ k by omega, if_false]
      refine (if_neg (show ¬ (20 : Int32) ≤ nI k from of_eq_false (nle_f (a := 20) hk (by omega)))).trans ?_
      refine (hsel _).trans ?_
      generalize hv : (if k < 4 then a0 else if k < 8 then a1 else if k < 12 then a2 else if k < 16 then a3 else a4) = v
      have hAk : A k = byt v (k % 4) := by rw [hA2, hv]
      show bd_ (irm (nI k) (nI 4)) _ = _
      rw [rem_i (by decide) (by omega) (by decide), bd_some]
      show bd_ (stI (setR s 28 0 (fb_put (s.1 28 0) A n k)) 28 0 (gF (setR s 28 0 (fb_put (s.1 28 0) A n k)) 842 0 + nI k) ((v >>> ((nI 24 - nI 8 * nI (k % 4)) &&& nI 31)) &&& nI 255)) _ = _
      rw [g8, nI_add, nI_mul, nI_sub (by omega), show (v >>> (nI (24 - 8 * (k % 4)) &&& nI 31)) &&& nI 255 = A k from hAk.symm, st28 (by omega), bd_some, rd_eq, setR_setR, fb_put_succ]
      show rec (_, nI k + nI 1) = _
      rw [nI_add]
    · have g8 : gF (setR s 28 0 (fb_put (s.1 28 0) A n 20)) 842 0 = nI n := by show (setR s 28 0 _).1 842 0 0 = _; rw [rd_ne (by decide)]; exact r2
      refine (if_pos (show (20 : Int32) ≤ nI 20 by decide)).trans ?_
      rw [lt_eq]
      show some ((setF (setR s 28 0 (fb_put (s.1 28 0) A n 20)) 842 0 (gF (setR s 28 0 (fb_put (s.1 28 0) A n 20)) 842 0 + nI 20)).1 842 0 0, setF (setR s 28 0 (fb_put (s.1 28 0) A n 20)) 842 0 (gF (setR s 28 0 (fb_put (s.1 28 0) A n 20)) 842 0 + nI 20)) = _
      rw [g8, nI_add, rf_eq]
  · have ff : FrK (fun k i => f21 k i || f28 k i) σ (setF (setR s 28 0 (fb_put (s.1 28 0) A n 20)) 842 0 (nI (n + 20))) := (fs.tr (FrK.setR s _ rfl)).tr (FrK.setF _ _ rfl)
    have u1 : (setF (setR s 28 0 (fb_put (s.1 28 0) A n 20)) 842 0 (nI (n + 20))).1 652 0 0 = nI (n + 20) := by rw [rf_ne (by decide), rd_ne (by decide)]; exact ss
    have u2 : (setF (setR s 28 0 (fb_put (s.1 28 0) A n 20)) 842 0 (nI (n + 20))).1 842 0 0 = nI (n + 20) := rf_eq
    have u3 : (setF (setR s 28 0 (fb_put (s.1 28 0) A n 20)) 842 0 (nI (n + 20))).1 28 0 = fb_put (s.1 28 0) A n 20 := by rw [rf_ne (by decide), rd_eq]
    have u4 : (setF (setR s 28 0 (fb_put (s.1 28 0) A n 20)) 842 0 (nI (n + 20))).1 21 0 = t5.1 21 0 := by rw [rf_ne (by decide), rd_ne (by decide)]; exact s21
    generalize setF (setR s 28 0 (fb_put (s.1 28 0) A n 20)) 842 0 (nI (n + 20)) = υ at *
    have sm : ∀ i, ∀ k, bkk k = true → υ.1 k i = σ.1 k i := fun i k hk => ff.2 k i (by
      show (f21 k i || f28 k i) = false
      unfold f21 f28
      rw [decide_eq_false (fun z => by subst z; cases hk), decide_eq_false (fun z => by subst z; cases hk), decide_eq_false (fun z => by subst z; cases hk), decide_eq_false (fun z => by subst z; cases hk), decide_eq_false (fun z => by subst z; cases hk)]
      rfl)
    have ep : ∀ m, pst υ m = pst σ m := fun m => by unfold pst; rw [ff.2 35 0 rfl]
    have e34 : υ.1 34 0 = σ.1 34 0 := ff.2 34 0 rfl
    obtain ⟨c', t, g1, g2, g3, g4, g5, g6⟩ := i7
    refine ⟨i1, ?_, ?_, ?_, ?_, ?_, ⟨c', t, g1, g2, by rw [ff.2 330 0 rfl]; exact g3, by rw [ff.2 856 0 rfl]; exact g4, by rw [ff.2 329 0 rfl]; exact g5, fun j hj => ?_⟩, ⟨n + 20, by omega, u1, u2, fun j hj => ?_⟩, ?_, ?_⟩
    · unfold MR at *
      rw [ff.2 850 0 rfl, ff.2 851 0 rfl, ff.2 852 0 rfl, ff.2 853 0 rfl, ff.2 848 0 rfl, ff.2 849 0 rfl, ff.2 29 0 rfl, ff.2 32 0 rfl, ff.2 33 0 rfl, ff.2 30 0 rfl, ff.2 31 0 rfl]
      exact i2
    · unfold QO; rw [ff.1]; exact i3
    · rw [ff.1]
      generalize σ.2.2 0 = r at *
      unfold CR at *
      rw [ff.2 529 r rfl, ff.2 530 r rfl, ff.2 531 r rfl, ff.2 528 r rfl, ff.2 532 r rfl, ff.2 533 r rfl, ff.2 13 r rfl, ff.2 17 r rfl, ff.2 18 r rfl, ff.2 19 r rfl, ff.2 20 r rfl]
      exact i4
    · rw [e34]; exact i5.same (sm 0)
    · rw [e34]; exact i6
    · rw [ep]
      exact ⟨(g6 j hj).1.same (sm _), (g6 j hj).2⟩
    · rw [u4, u3]
      by_cases cj : j < n
      · rw [fb_put_out (by omega), s28, cl j cj]
        exact n3 j cj
      · have ej : j = n + (j - n) := by omega
        rw [fb_put_in (by omega) (by omega)]
        have := cb (j - n) (by omega)
        rw [← ej] at this
        refine ⟨this, ?_⟩
        rw [hA2]
        exact byt_n _ _
    · rw [ff.2 463 0 rfl, ff.2 865 0 rfl]; exact p1
    · rw [ff.2 464 0 rfl, ff.2 866 0 rfl]; exact p2
end Feed

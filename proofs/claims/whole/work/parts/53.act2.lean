/-! ===== acts: between the class's act and the reference's ===== -/
def cbd (k i : Nat) : Bool := !cor k i || bk 0 k i
def rbd (k i : Nat) : Bool := !cor k i || (decide (k = 34) && decide (i = 0))
def hfr (a k i : Nat) : Bool := bk a k i || (decide (k = 329) || decide (k = 330))
def bkk (k : Nat) : Bool := decide (k ≤ 7) || ((decide (24 ≤ k) && decide (k ≤ 27)) || decide (k = 209))
section Act2
variable {σ τ υ : ST} {R : RT} {ν μ : NU} {r i : Nat}
theorem WR.same (h : WR σ i R ν) (e : ∀ k, bkk k = true → τ.1 k i = σ.1 k i) : WR τ i R ν := by
  unfold WR at *
  rw [e 24 rfl, e 25 rfl, e 26 rfl, e 27 rfl]
  exact h
theorem BR.same (h : BR σ i R ν) (e : ∀ k, bkk k = true → τ.1 k i = σ.1 k i) : BR τ i R ν := by
  refine ⟨h.1.same e, ?_⟩
  rw [e 0 rfl, e 1 rfl, e 2 rfl, e 3 rfl, e 4 rfl, e 5 rfl, e 6 rfl, e 7 rfl, e 209 rfl]
  exact h.2
theorem bk_ne {a k : Nat} (h : i ≠ a) : bk a k i = false := by
  unfold bk
  rw [decide_eq_false h, Bool.and_false]
theorem bkk_cor {k : Nat} (h : bkk k = true) (hi : i ≤ 12) : cor k i = true := by
  simp only [bkk, Bool.or_eq_true, Bool.and_eq_true, decide_eq_true_eq] at h
  rcases h with h | ⟨h1, h2⟩ | h
  · unfold cor
    simp [h]
  · exact cor_w h1 h2 hi
  · subst h; rfl
theorem MR.cb (h : MR σ R) (f : FrK cbd σ τ) : MR τ R := by
  unfold MR at *
  rw [f.2 850 0 rfl, f.2 851 0 rfl, f.2 852 0 rfl, f.2 853 0 rfl, f.2 848 0 rfl, f.2 849 0 rfl, f.2 29 0 rfl, f.2 32 0 rfl, f.2 33 0 rfl, f.2 30 0 rfl, f.2 31 0 rfl]
  exact h
theorem MR.rb (h : MR σ R) (f : FrK rbd σ τ) : MR τ R := by
  unfold MR at *
  rw [f.2 850 0 rfl, f.2 851 0 rfl, f.2 852 0 rfl, f.2 853 0 rfl, f.2 848 0 rfl, f.2 849 0 rfl, f.2 29 0 rfl, f.2 32 0 rfl, f.2 33 0 rfl, f.2 30 0 rfl, f.2 31 0 rfl]
  exact h
theorem MR.hf {a : Nat} (h : MR σ R) (f : FrK (hfr a) σ τ) : MR τ R := by
  unfold MR at *
  rw [f.2 850 0 rfl, f.2 851 0 rfl, f.2 852 0 rfl, f.2 853 0 rfl, f.2 848 0 rfl, f.2 849 0 rfl, f.2 29 0 rfl, f.2 32 0 rfl, f.2 33 0 rfl, f.2 30 0 rfl, f.2 31 0 rfl]
  exact h
theorem MR.kp' (h : MR σ R) (f : FrK rkp σ τ) : MR τ R := by
  unfold MR at *
  rw [f.2 850 0 rfl, f.2 851 0 rfl, f.2 852 0 rfl, f.2 853 0 rfl, f.2 848 0 rfl, f.2 849 0 rfl, f.2 29 0 rfl, f.2 32 0 rfl, f.2 33 0 rfl, f.2 30 0 rfl, f.2 31 0 rfl]
  exact h
theorem CR.cb (h : CR σ r R) (f : FrK cbd σ τ) : CR τ r R := by
  unfold CR at *
  rw [f.2 529 r rfl, f.2 530 r rfl, f.2 531 r rfl, f.2 528 r rfl, f.2 532 r rfl, f.2 533 r rfl, f.2 13 r rfl, f.2 17 r rfl, f.2 18 r rfl, f.2 19 r rfl, f.2 20 r rfl]
  exact h
theorem CR.rb (h : CR σ r R) (f : FrK rbd σ τ) : CR τ r R := by
  unfold CR at *
  rw [f.2 529 r rfl, f.2 530 r rfl, f.2 531 r rfl, f.2 528 r rfl, f.2 532 r rfl, f.2 533 r rfl, f.2 13 r rfl, f.2 17 r rfl, f.2 18 r rfl, f.2 19 r rfl, f.2 20 r rfl]
  exact h
theorem CR.hf {a : Nat} (h : CR σ r R) (f : FrK (hfr a) σ τ) : CR τ r R := by
  unfold CR at *
  rw [f.2 529 r rfl, f.2 530 r rfl, f.2 531 r rfl, f.2 528 r rfl, f.2 532 r rfl, f.2 533 r rfl, f.2 13 r rfl, f.2 17 r rfl, f.2 18 r rfl, f.2 19 r rfl, f.2 20 r rfl]
  exact h
theorem CR.kp' (h : CR σ r R) (f : FrK rkp σ τ) : CR τ r R := by
  unfold CR at *
  rw [f.2 529 r rfl, f.2 530 r rfl, f.2 531 r rfl, f.2 528 r rfl, f.2 532 r rfl, f.2 533 r rfl, f.2 13 r rfl, f.2 17 r rfl, f.2 18 r rfl, f.2 19 r rfl, f.2 20 r rfl]
  exact h
theorem TP.cb (h : TP σ) (f : FrK cbd σ τ) : TP τ := by
  unfold TP at *
  rw [f.2 652 0 rfl, f.2 842 0 rfl, f.2 21 0 rfl, f.2 28 0 rfl, f.2 463 0 rfl, f.2 865 0 rfl, f.2 464 0 rfl, f.2 866 0 rfl]
  exact h
theorem TP.rb (h : TP σ) (f : FrK rbd σ τ) : TP τ := by
  unfold TP at *
  rw [f.2 652 0 rfl, f.2 842 0 rfl, f.2 21 0 rfl, f.2 28 0 rfl, f.2 463 0 rfl, f.2 865 0 rfl, f.2 464 0 rfl, f.2 866 0 rfl]
  exact h
theorem TP.hf {a : Nat} (h : TP σ) (f : FrK (hfr a) σ τ) : TP τ := by
  unfold TP at *
  rw [f.2 652 0 rfl, f.2 842 0 rfl, f.2 21 0 rfl, f.2 28 0 rfl, f.2 463 0 rfl, f.2 865 0 rfl, f.2 464 0 rfl, f.2 866 0 rfl]
  exact h
theorem TP.kp' (h : TP σ) (f : FrK rkp σ τ) : TP τ := by
  unfold TP at *
  rw [f.2 652 0 rfl, f.2 842 0 rfl, f.2 21 0 rfl, f.2 28 0 rfl, f.2 463 0 rfl, f.2 865 0 rfl, f.2 464 0 rfl, f.2 866 0 rfl]
  exact h
/-- the class has remembered, the reference hasn't yet -/
def HJ (σ : ST) (R : RT) (ν : NU) : Prop := ∃ c t, c ≤ 12 ∧ t < 12 ∧ σ.1 330 0 0 = nI (if c = 12 then 12 else c + 1) ∧ σ.1 856 0 0 = nI c ∧ σ.1 329 0 0 = nI t ∧ BR σ (1 + t) R ν ∧ ∀ j, 1 ≤ j → j < (if c = 12 then 12 else c + 1) → BR σ (1 + (t + 12 - j) % 12) R (pst σ (c - j)) ∧ VO R (pst σ (c - j))
def JJ (σ : ST) (R : RT) (ν : NU) : Prop := RO R ∧ MR σ R ∧ QO σ ∧ CR σ (σ.2.2 0) R ∧ VO R ν ∧ σ.1 34 0 = ν ∧ TP σ ∧ HJ σ R ν
def KA (σ : ST) (R : RT) (ν μ : NU) : Prop := RO R ∧ MR σ R ∧ QO σ ∧ CR σ (σ.2.2 0) R ∧ BR σ 0 R μ ∧ σ.1 34 0 = ν ∧ TP σ ∧ HI σ R
theorem cb_b (f : FrK cbd σ τ) (hi : 1 ≤ i ∧ i ≤ 12) : ∀ k, bkk k = true → τ.1 k i = σ.1 k i := fun k hk => f.2 k i (by
  unfold cbd
  rw [bkk_cor hk hi.2, bk_ne (by omega)]
  rfl)
theorem HJ.cb (h : HJ σ R ν) (f : FrK cbd σ τ) : HJ τ R ν := by
  obtain ⟨c, t, h1, h2, h3, h4, h5, h6, h7⟩ := h
  have ep : ∀ m, pst τ m = pst σ m := fun m => by unfold pst; rw [f.2 35 0 rfl]
  refine ⟨c, t, h1, h2, by rw [f.2 330 0 rfl]; exact h3, by rw [f.2 856 0 rfl]; exact h4, by rw [f.2 329 0 rfl]; exact h5, h6.same (cb_b f (by omega)), fun j j1 j2 => ?_⟩
  rw [ep]
  exact ⟨(h7 j j1 j2).1.same (cb_b f (by omega)), (h7 j j1 j2).2⟩
theorem JJ.cb (h : JJ σ R ν) (f : FrK cbd σ τ) : JJ τ R ν := by
  obtain ⟨h1, h2, h3, h4, h5, h6, h7, h8⟩ := h
  refine ⟨h1, h2.cb f, ?_, ?_, h5, ?_, h7.cb f, h8.cb f⟩
  · unfold QO; rw [f.1]; exact h3
  · rw [f.1]; exact h4.cb f
  · rw [f.2 34 0 rfl]; exact h6
theorem ldB_eq {t : Nat} (ht : t < 12) : ldB (nI t) = some (t + 1) := by
  unfold ldB inB
  rw [nI_clamp (by omega)]
  simp only [nI_pos' (show t < 2 ^ 31 by omega), ht, decide_true, Bool.and_self, if_true]
theorem act (h : IV σ R) : ∃ τ, Hi_remember σ 0 = some τ ∧ JJ τ R (σ.1 34 0) ∧ BR τ 0 R (σ.1 34 0) := by
  obtain ⟨h1, h2, h3, h4, h5, h6, ⟨c, t, g1, g2, g3, g4, g5, g6⟩, h8⟩ := h
  have ht : (t + 1) % 12 < 12 := Nat.mod_lt _ (by decide)
  obtain ⟨q, e, f, b⟩ := Bk_copyFrom_eq (σ := setF σ 329 0 (nI ((t + 1) % 12))) (a := (t + 1) % 12 + 1) (b := 0) (by omega)
  have f1 : FrK (hfr ((t + 1) % 12 + 1)) σ (setF σ 329 0 (nI ((t + 1) % 12))) := FrK.setF σ _ (by unfold hfr; simp)
  have f2 : FrK (hfr ((t + 1) % 12 + 1)) (setF σ 329 0 (nI ((t + 1) % 12))) q := f.mono (fun k i hk => (Bool.or_eq_false_iff.mp hk).1)
  have f3 : FrK (hfr ((t + 1) % 12 + 1)) q (setF q 330 0 (nI (if c = 12 then 12 else c + 1))) := FrK.setF q _ (by unfold hfr; simp)
  have F := (f1.tr f2).tr f3
  have e330 : q.1 330 0 0 = nI c := by rw [f.2 330 0 rfl, rf_ne (by decide)]; exact g3
  have e329 : (setF q 330 0 (nI (if c = 12 then 12 else c + 1))).1 329 0 0 = nI ((t + 1) % 12) := by rw [rf_ne (by decide), f.2 329 0 rfl, rf_eq]
  have b0 : BR (setF σ 329 0 (nI ((t + 1) % 12))) 0 R (σ.1 34 0) := h5.same (fun k hk => rf_ne (fun q => by subst q; cases hk))
  have b1 := b R (σ.1 34 0) h1 b0
  have sm : ∀ i, i ≠ (t + 1) % 12 + 1 → ∀ k, bkk k = true → (setF q 330 0 (nI (if c = 12 then 12 else c + 1))).1 k i = σ.1 k i := by
    intro i hi k hk
    refine F.2 k i ?_
    unfold hfr
    rw [bk_ne hi, Bool.false_or, decide_eq_false (fun z => by subst z; cases hk), decide_eq_false (fun z => by subst z; cases hk)]
    rfl
  have ep : ∀ m, pst (setF q 330 0 (nI (if c = 12 then 12 else c + 1))) m = pst σ m := fun m => by unfold pst; rw [F.2 35 0 rfl]
  refine ⟨setF q 330 0 (nI (if c = 12 then 12 else c + 1)), ?_, ⟨h1, h2.hf F, ?_, ?_, h6, F.2 34 0 rfl, h8.hf F, c, (t + 1) % 12, g1, ht, rf_eq, by rw [F.2 856 0 rfl]; exact g4, e329, ?_, fun j j1 j2 => ?_⟩, h5.same (sm 0 (by omega))⟩
  · unfold Hi_remember
    simp (disch := omega) only [bd_some, bd_none, lt_eq, lk_eq, fa_lit, nI_add, nI_mul, nI_sub, nle_t, nle_f, nlt_t, nlt_f, neq_t, neq_f, neg_ne, neg_ne', if_true, if_false, ite_true, ite_false, Nat.zero_add, Nat.add_zero, ld0, ld1, ld2, ld3, ld4, ld5, ld6, ld7, ld8, ld9, ld10, ld11, ld12, ld13, ld14, ld15, ld16, ld17, ld18, ld19, ld20, ld21, ld22, ld23, ld24, ld25, ld26, ld27, ld28, ld29, ld30, ld31, ld32, ld33, ld34, ld35, ld36, ld37, ld38, ld39, ld40, ld41, ld42, ld43, ld44, ld45, ld46, ld47, ld48, ld100, ld101, ld102, ld103, ld104, ld105, gF, show σ.1 329 0 0 = nI t from g5, rem_i, rf_eq, ldB_eq, e, e330, nlt_i]
    by_cases ec : c = 12
    · subst ec
      simp
    · simp only [ec, if_false, show ¬ 12 < c + 1 by omega]
  · unfold QO; rw [F.1]; exact h3
  · rw [F.1]; exact h4.hf F
  · rw [Nat.add_comm 1]
    exact b1.same (fun k hk => rf_ne (fun q => by subst q; cases hk))
  · have jl : j < 12 ∧ j - 1 < c := by
      split at j2 <;> omega
    have hidx : 1 + ((t + 1) % 12 + 12 - j) % 12 = 1 + (t + 12 - (j - 1)) % 12 := by omega
    have hne : 1 + (t + 12 - (j - 1)) % 12 ≠ (t + 1) % 12 + 1 := by omega
    have hc1 : c - 1 - (j - 1) = c - j := by omega
    have := g6 (j - 1) jl.2
    rw [hc1] at this
    rw [ep, hidx]
    exact ⟨this.1.same (sm _ hne), this.2⟩
theorem kp_b (f : FrK rkp σ τ) : ∀ k, bkk k = true → τ.1 k i = σ.1 k i := fun k hk => f.2 k i (by
  unfold rkp
  rw [decide_eq_false (fun z => by subst z; cases hk), decide_eq_false (fun z => by subst z; cases hk)]
  rfl)
theorem keeps_of (j : JJ σ R ν) (b : BR σ 0 R μ) : ∃ τ, Mo_keeps σ = some τ ∧ KA τ R ν μ := by
  obtain ⟨h1, h2, h3, h4, h5, h6, h7, c, t, g1, g2, g3, g4, g5, g6, g7⟩ := j
  obtain ⟨τ, e, f, k1, k2, k3⟩ := Mo_keeps_eq g1 g4
  refine ⟨τ, e, h1, h2.kp' f, ?_, ?_, b.same (kp_b f), ?_, h7.kp' f, (if c = 12 then 12 else c + 1), t, ?_, g2, by rw [f.2 330 0 rfl]; exact g3, k1, by rw [f.2 329 0 rfl]; exact g5, fun j hj => ?_⟩
  · unfold QO; rw [f.1]; exact h3
  · rw [f.1]; exact h4.kp' f
  · rw [f.2 34 0 rfl]; exact h6
  · split <;> omega
  · by_cases j0 : j = 0
    · subst j0
      have em : (if c = 12 then 12 else c + 1) - 1 - 0 = if c = 12 then 11 else c := by split <;> omega
      have et : 1 + (t + 12 - 0) % 12 = 1 + t := by omega
      have ek : ∀ k, k < 2689 → ν k = pst τ (if c = 12 then 11 else c) k := fun k hk => by rw [k2 k hk, h6]
      rw [em, et]
      exact ⟨(g6.same (kp_b f)).cong h1 ek, h5.cong h1 ek⟩
    · have g := g7 j (by omega) hj
      have hm : (if c = 12 then 12 else c + 1) - 1 - j < if c = 12 then 11 else c := by
        split <;> split at hj <;> omega
      have hm2 : (if c = 12 then (if c = 12 then 12 else c + 1) - 1 - j + 1 else (if c = 12 then 12 else c + 1) - 1 - j) = c - j := by
        split <;> split at hj <;> omega
      have ek : ∀ k, k < 2689 → pst σ (c - j) k = pst τ ((if c = 12 then 12 else c + 1) - 1 - j) k := fun k hk => by rw [k3 _ k hk hm, hm2]
      exact ⟨(g.1.same (kp_b f)).cong h1 ek, g.2.cong h1 ek⟩
theorem rb_b (f : FrK rbd σ τ) (hi : i ≤ 12) : ∀ k, bkk k = true → τ.1 k i = σ.1 k i := fun k hk => f.2 k i (by
  unfold rbd
  rw [bkk_cor hk hi, decide_eq_false (fun z => by subst z; cases hk)]
  rfl)
theorem KA.fin (k : KA σ R ν μ) (f : FrK rbd σ τ) (e : τ.1 34 0 = μ) (v : VO R μ) : IV τ R := by
  obtain ⟨h1, h2, h3, h4, h5, h6, h7, c, t, g1, g2, g3, g4, g5, g6⟩ := k
  have ep : ∀ m, pst τ m = pst σ m := fun m => by unfold pst; rw [f.2 35 0 rfl]
  refine ⟨h1, h2.rb f, ?_, ?_, ?_, by rw [e]; exact v, ⟨c, t, g1, g2, by rw [f.2 330 0 rfl]; exact g3, by rw [f.2 856 0 rfl]; exact g4, by rw [f.2 329 0 rfl]; exact g5, fun j hj => ?_⟩, h7.rb f⟩
  · unfold QO; rw [f.1]; exact h3
  · rw [f.1]; exact h4.rb f
  · rw [e]; exact h5.same (rb_b f (by omega))
  · rw [ep]
    exact ⟨(g6 j hj).1.same (rb_b f (by omega)), (g6 j hj).2⟩
/-- an act: both answer alike, and the invariant holds -/
def QA (f : Option (Int32 × ST)) (g : ST → Option (Int32 × ST)) : Prop := ∃ v τ υ R', f = some (v, τ) ∧ g τ = some (v, υ) ∧ IV υ R'
theorem QP.a {f : Option (Int32 × ST)} {g : ST → Option (Int32 × ST)} (h : IV σ R) (q : QP f g σ) : QA f g := by
  obtain ⟨v, τ, υ, e1, c1, e2, c2⟩ := q
  exact ⟨v, τ, υ, R, e1, e2, (h.core c1).core c2⟩
theorem QAf {f : Option (Int32 × ST)} {g : ST → Option (Int32 × ST)} {v : Int32} (h : IV σ R) (hf : f = some (v, σ)) (hg : g σ = some (v, setF σ 840 0 (nI 0))) : QA f g := (QPf hf hg).a h
theorem q0_cb (f : FrK cbd σ τ) (h : QO σ) : ldQ τ 0 = some (σ.2.2 0) := by
  unfold ldQ
  rw [f.1]
  exact if_pos h.1
theorem fr_cbR {k : Nat} (σ : ST) (g : Nat → Int32) (h : bk 0 k 0 = true) : FrK cbd σ (setR σ k 0 g) := FrK.setR σ g (by unfold cbd; rw [h, Bool.or_true])
theorem fr_rbR (σ : ST) (g : Nat → Int32) : FrK rbd σ (setR σ 34 0 g) := FrK.setR σ g rfl
theorem JJ.t (j : JJ σ R ν) : JJ (setF σ 840 0 (nI 0)) R ν := j.cb (FrK.setF σ _ rfl)
theorem BR.t (b : BR σ 0 R ν) : BR (setF σ 840 0 (nI 0)) 0 R ν := b.same (fun k hk => rf_ne (fun q => by subst q; cases hk))
/-- nothing of the money has changed -/
theorem VO.low (h : VO R ν) (e : ∀ k, k < 2604 → μ k = ν k) (e2 : μ 2688 = ν 2688) (hv : HO R μ) (ht : TO R μ) : VO R μ := by
  obtain ⟨-, h2, h3, ⟨y, hy, ey⟩, -⟩ := h
  refine ⟨hv, ?_, ?_, ⟨y, hy, e2.trans ey⟩, ht⟩
  · obtain ⟨z1, z2, z3, z4⟩ := h2
    refine ⟨fun p l hp hl c => ?_, fun l hl c => ?_, fun l s t a hl hs ht ha c => ?_, fun l s t hl hs ht c => ?_⟩
    · rw [e _ (by omega), e _ (by omega)]
      exact z1 p l hp hl c
    · rw [e _ (by omega), e _ (by omega)]
      exact z2 l hl c
    · rw [e _ (by omega)]
      exact z3 l s t a hl hs ht ha c
    · rw [e _ (by omega)]
      exact z4 l s t hl hs ht c
  · have em : ∀ k, k < 2604 → mI μ k = mI ν k := fun k hk => by unfold mI; rw [e k hk]
    obtain ⟨m1, m2, m3⟩ := h3
    refine ⟨fun j hj => ?_, fun l hl => ?_, fun j hj => ?_⟩
    · rw [em _ (by omega)]
      exact m1 j hj
    · rw [em _ (by omega), em _ (by omega), fb_si_cong (f := fun p => mI μ (6 * p + l)) (g := fun p => mI ν (6 * p + l)) (fun k hk => em _ (by omega)), fb_si_cong (f := fun j => mI μ (204 + 360 * l + j)) (g := fun j => mI ν (204 + 360 * l + j)) (fun k hk => em _ (by omega)), fb_si_cong (f := fun j => mI μ (2364 + 40 * l + j)) (g := fun j => mI ν (2364 + 40 * l + j)) (fun k hk => em _ (by omega))]
      exact m2 l hl
    · rw [em _ (by omega), em _ (by omega)]
      exact m3 j hj
end Act2

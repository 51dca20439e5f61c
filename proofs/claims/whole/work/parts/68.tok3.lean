/-! ===== all tokens taken ===== -/
def TK1 (τ : ST) (b : Nat → Nat) (n t : Nat) : Prop := τ.1 22 0 t = nI (kT b n (plT b n t)) ∧ τ.1 23 0 t = nI (plT b n t) ∧ (plT b n t < n → isLb (b (plT b n t)) = true ∨ isDb (b (plT b n t)) = true → τ.2.1 104 0 t = lN (vT b n (plT b n t)))
section Tok3
variable {σ : ST} {b : Nat → Nat} {N n q t : Nat}
theorem Tp_takeTokens_eq (h2 : σ.1 652 0 0 = nI N) (hN : N ≤ 900) (hn : n ≤ N) (hb : BY (σ.1 21 0) b n) (hb2 : ∀ j, b j < 256) : ∃ τ, Tp_takeTokens σ (nI n) = some τ ∧ FrK f23 σ τ ∧ τ.1 652 0 0 = nI 0 ∧ ∀ t, t ≤ nT b n → TK1 τ b n t := by
  obtain ⟨t1, t2, t3⟩ := nT_ok b n
  generalize hT : nT b n = T at *
  unfold Tp_takeTokens
  have e0 : (if gF σ 652 0 < nI n then gF σ 652 0 else nI n) = nI n := by
    rw [show gF σ 652 0 = nI N from h2, if_neg (of_eq_false (nlt_f hn (by omega)))]
  rw [e0, lt_eq, lt_eq, lt_eq]
  have f0 : FrK f23 σ (setF (setF (setF σ 653 0 (nI n)) 652 0 0) 654 0 0) := ((FrK.setF σ _ rfl).tr (FrK.setF _ _ rfl)).tr (FrK.setF _ _ rfl)
  have a1 : (setF (setF (setF σ 653 0 (nI n)) 652 0 0) 654 0 0).1 652 0 0 = nI 0 := by rw [rf_ne (by decide), rf_eq]; rfl
  have a2 : (setF (setF (setF σ 653 0 (nI n)) 652 0 0) 654 0 0).1 653 0 0 = nI n := by rw [rf_ne (by decide), rf_ne (by decide), rf_eq]
  have a3 : (setF (setF (setF σ 653 0 (nI n)) 652 0 0) 654 0 0).1 654 0 0 = nI 0 := by rw [rf_eq]; rfl
  generalize setF (setF (setF σ 653 0 (nI n)) 652 0 0) 654 0 0 = σ1 at *
  obtain ⟨z, ⟨fz, z1, z2, z3, z4, z5, z6⟩, rec, ez⟩ := lp_invG (β := ST) (z0 := (σ1, (1 : Int32), (0 : Int32))) (step := fun rec5 (z4 : ST × Int32 × Int32) => (if 900 < z4.2.2 then some z4.1 else (if z4.2.1 = 0 then some z4.1 else lk_ (fun kk8 => lp_ (fun rec14 (z13 : ST) => (if (gF z13 653 0) ≤ (gF z13 654 0) then kk8 z13 else bd_ (ldI z13 21 0 (gF z13 654 0)) (fun v16 => (if v16 = 10 then lt_ (setF z13 654 0 ((gF z13 654 0) + 1)) (fun s17 => rec14 s17) else bd_ (ldI z13 21 0 (gF z13 654 0)) (fun v18 => (if v18 = 32 then lt_ (setF z13 654 0 ((gF z13 654 0) + 1)) (fun s19 => rec14 s19) else kk8 z13)))))) FU z4.1) (fun (j7 : ST) => bd_ (stI j7 23 0 z4.2.2 (gF j7 654 0)) (fun s10 => bd_ (Tp_scanToken s10 z4.2.2) (fun q11 => bd_ (ldI q11 22 0 z4.2.2) (fun v12 => (if v12 = 17 then rec5 (q11, 0, (z4.2.2 + 1)) else rec5 (q11, 1, (z4.2.2 + 1)))))))))) (T + 1) (by omega) (fun k z => FrK f23 σ z.1 ∧ z.1.1 652 0 0 = nI 0 ∧ z.1.1 653 0 0 = nI n ∧ z.1.1 654 0 0 = nI (atT b n k) ∧ z.2.1 = (if k = T + 1 then nI 0 else nI 1) ∧ z.2.2 = nI k ∧ ∀ t, t < k → TK1 z.1 b n t) ⟨f0, a1, a2, a3, by rw [if_neg (by omega)]; rfl, rfl, fun t ht => absurd ht (Nat.not_lt_zero t)⟩ (by
    rintro rec k ⟨x, w, u⟩ hk ⟨fx, g1, g2, g3, g4, g5, g6⟩
    have g4 : w = (if k = T + 1 then nI 0 else nI 1) := g4
    rw [if_neg (by omega)] at g4
    subst g4
    have g5 : u = nI k := g5
    subst g5
    have fx : FrK f23 σ x := fx
    have g1 : x.1 652 0 0 = nI 0 := g1
    have g2 : x.1 653 0 0 = nI n := g2
    have g3 : x.1 654 0 0 = nI (atT b n k) := g3
    have g6 : ∀ t, t < k → TK1 x b n t := g6
    have hbx : BY (x.1 21 0) b n := by rw [fx.2 21 0 rfl]; exact hb
    obtain ⟨y, fy, y1, y2, ey⟩ := spLoop (σ := x) (b := b) (n := n) (q := atT b n k) (fun (j7 : ST) => bd_ (stI j7 23 0 (nI k) (gF j7 654 0)) (fun s10 => bd_ (Tp_scanToken s10 (nI k)) (fun q11 => bd_ (ldI q11 22 0 (nI k)) (fun v12 => (if v12 = 17 then rec (q11, 0, (nI k + 1)) else rec (q11, 1, (nI k + 1))))))) g2 g3 (atT_le b n k) (by omega) hbx
    have y1 : y.1 654 0 0 = nI (plT b n k) := y1
    have hs3 : (setR y 23 0 (upd (y.1 23 0) k (nI (plT b n k)))).1 653 0 0 = nI n := by rw [rd_ne (by decide), fy.2 653 0 rfl]; exact g2
    have hs4 : (setR y 23 0 (upd (y.1 23 0) k (nI (plT b n k)))).1 654 0 0 = nI (plT b n k) := by rw [rd_ne (by decide)]; exact y1
    have hs21 : BY ((setR y 23 0 (upd (y.1 23 0) k (nI (plT b n k)))).1 21 0) b n := by rw [rd_ne (by decide), fy.2 21 0 rfl]; exact hbx
    have hs23 : (setR y 23 0 (upd (y.1 23 0) k (nI (plT b n k)))).1 23 0 k = nI (plT b n k) := by rw [rd_eq, upd_eq]
    obtain ⟨v, ev, fv, v1, v2, v3, v4⟩ := Tp_scanToken_eq hs3 hs4 (plT_le b n k) (by omega) hs21 hb2 hs23 (by omega)
    have fF : FrK f23 σ v := by
      refine ((fx.tr (fy.mono (fun k i h => ?_))).tr (FrK.setR y _ rfl)).tr (fv.mono (fun k i h => ?_))
      · unfold f23 at h
        unfold f654
        simp only [Bool.or_eq_false_iff, decide_eq_false_iff_not] at h ⊢
        omega
      · unfold f23 at h
        unfold f22
        simp only [Bool.or_eq_false_iff, decide_eq_false_iff_not] at h ⊢
        omega
    have r22 : v.1 22 0 = upd (x.1 22 0) k (nI (kT b n (plT b n k))) := by rw [v2, rd_ne (by decide), fy.2 22 0 rfl]
    have r23 : v.1 23 0 = upd (x.1 23 0) k (nI (plT b n k)) := by rw [fv.2 23 0 rfl, rd_eq, fy.2 23 0 rfl]
    refine ⟨(v, (if k + 1 = T + 1 then nI 0 else nI 1), nI (k + 1)), ⟨fF, ?_, ?_, ?_, rfl, rfl, fun t ht => ?_⟩, ?_⟩
    · show v.1 652 0 0 = _
      rw [fv.2 652 0 rfl, rd_ne (by decide), fy.2 652 0 rfl]; exact g1
    · show v.1 653 0 0 = _
      rw [fv.2 653 0 rfl, rd_ne (by decide), fy.2 653 0 rfl]; exact g2
    · show v.1 654 0 0 = _
      rw [v1]; rfl
    · show TK1 v b n t
      unfold TK1
      rw [r22, r23, upd_at, upd_at]
      by_cases c : t = k
      · subst c
        rw [if_pos rfl, if_pos rfl]
        exact ⟨rfl, rfl, v4⟩
      · rw [if_neg c, if_neg c]
        obtain ⟨i1, i2, i3⟩ := g6 t (by omega)
        refine ⟨i1, i2, fun h5 h6 => ?_⟩
        rw [v3 t c]
        show y.2.1 104 0 t = _
        rw [y2]
        exact i3 h5 h6
    · show (if 900 < nI k then some x else (if nI 1 = 0 then some x else lk_ _ _)) = _
      rw [if_neg (show ¬ (900 : Int32) < nI k from of_eq_false (nlt_f (a := 900) (b := k) (by omega) (by decide))), if_neg (by decide), lk_eq]
      refine ey.trans ?_
      have r22k : v.1 22 0 k = nI (kT b n (plT b n k)) := by rw [r22, upd_eq]
      have kl : kT b n (plT b n k) < 20 := by
        have := wkv_ne (v := vT b n (plT b n k)) (len := enT b n (plT b n k) - plT b n k)
        unfold kT
        split
        · split
          · omega
          · split
            · omega
            · split <;> omega
        · omega
      rcases Nat.lt_or_ge k T with c | c
      · have p := t3 k c
        have k7 : ¬ kT b n (plT b n k) = 17 := fun z => by have := kT_17.mp z; omega
        rw [if_neg (by omega)]
        simp (disch := omega) only [bd_some, bd_none, lt_eq, lk_eq, fa_lit, nI_add, nI_mul, nI_sub, nle_t, nle_f, nlt_t, nlt_f, neq_t, neq_f, neg_ne, neg_ne', if_true, if_false, ite_true, ite_false, Nat.zero_add, Nat.add_zero, ld0, ld1, ld2, ld3, ld4, ld5, ld6, ld7, ld8, ld9, ld10, ld11, ld12, ld13, ld14, ld15, ld16, ld17, ld18, ld19, ld20, ld21, ld22, ld23, ld24, ld25, ld26, ld27, ld28, ld29, ld30, ld31, ld32, ld33, ld34, ld35, ld36, ld37, ld38, ld39, ld40, ld41, ld42, ld43, ld44, ld45, ld46, ld47, ld48, ld100, ld101, ld102, ld103, ld104, ld105, gF, st23, y1, ev, ld22, r22k]
      · have ek : k = T := by omega
        have k7 : kT b n (plT b n k) = 17 := kT_17.mpr (by rw [ek, t2]; exact Nat.le_refl _)
        rw [if_pos (by omega)]
        simp (disch := omega) only [bd_some, bd_none, lt_eq, lk_eq, fa_lit, nI_add, nI_mul, nI_sub, nle_t, nle_f, nlt_t, nlt_f, neq_t, neq_f, neg_ne, neg_ne', if_true, if_false, ite_true, ite_false, Nat.zero_add, Nat.add_zero, ld0, ld1, ld2, ld3, ld4, ld5, ld6, ld7, ld8, ld9, ld10, ld11, ld12, ld13, ld14, ld15, ld16, ld17, ld18, ld19, ld20, ld21, ld22, ld23, ld24, ld25, ld26, ld27, ld28, ld29, ld30, ld31, ld32, ld33, ld34, ld35, ld36, ld37, ld38, ld39, ld40, ld41, ld42, ld43, ld44, ld45, ld46, ld47, ld48, ld100, ld101, ld102, ld103, ld104, ld105, gF, st23, y1, ev, ld22, r22k])
  obtain ⟨x, w, u⟩ := z
  have z4 : w = (if T + 1 = T + 1 then nI 0 else nI 1) := z4
  rw [if_pos rfl] at z4
  subst z4
  have z5 : u = nI (T + 1) := z5
  subst z5
  refine ⟨x, ez.trans ?_, fz, z1, fun t ht => z6 t (by omega)⟩
  show (if 900 < nI (T + 1) then some x else (if nI 0 = 0 then some x else _)) = _
  rw [if_pos (show nI 0 = (0 : Int32) from rfl), ite_self]
end Tok3

/-! ===== play: the class's books, the reference's row ===== -/
section Play2
variable {σ τ : ST} {R : RT} {ν μ : NU} {r : Nat}
theorem fr_bkR {k : Nat} (σ : ST) (g : Nat → Int32) (h : bk 0 k 0 = true) : FrK (bk 0) σ (setR σ k 0 g) := FrK.setR σ g h
theorem bk_cbd (f : FrK (bk 0) σ τ) : FrK cbd σ τ := f.mono (fun k i h => (Bool.or_eq_false_iff.mp h).2)
theorem scr_cbd (f : FrK scr σ τ) : FrK cbd σ τ := f.mono (fun k i h => by
  cases e : scr k i
  · rfl
  · have h1 := (Bool.or_eq_false_iff.mp h).1
    have h2 : cor k i = true := by simpa using h1
    rw [scr_cor k i h2] at e
    cases e)
theorem CR.bb (c : CR σ r R) (f : FrK (bk 0) σ τ) : CR τ r R := c.cb (bk_cbd f)
theorem Bk_enterPlay_eq {l s n : Nat} (c : CR σ r R) (b : BR σ 0 R ν) (ho : RO R) (hv : HO R ν) (hl : l < R 0 0) (hs : s < R 0 2) (hn : n ≤ 99999) (q : OQ σ 0 R ν l s (n * R 1 l)) : ∃ τ, Bk_enterPlay σ 0 r 0 (nI l) (nI s) (nI n) = some τ ∧ FrK (bk 0) σ τ ∧ BR τ 0 R (plV R ν l s (n * R 1 l) (upd (upd (upd ν (198 + l) (ν (198 + l) + nI (n * R 1 l))) (2644 + s) (ν (2644 + s) + nI n)) (2652 + s) (ν (2652 + s) + nI (n * R 1 l))) (hdP R s)) := by
  have o1 := ho.L
  have o2 := ho.P
  have o3 := ho.S
  have o8 := ho.s hs
  have h13 := hd_le ho hs
  have hml := m_lt ho hl hn
  generalize hm : n * R 1 l = m at *
  obtain ⟨q1, q2, q3, q4, q5, q6, q7⟩ := q
  unfold Bk_enterPlay
  obtain ⟨z, ⟨hz1, hz2, hz3⟩, rec, ez⟩ := lp_invG (β := ST) (z0 := (σ, (0 : Int32))) (step := fun rec2 (z1 : ST × Int32) => (if (gF z1.1 396 0) ≤ z1.2 then bd_ (ldI z1.1 1 0 (nI l)) (fun v4 => bd_ (ldI z1.1 13 r (nI l)) (fun v5 => bd_ (stI z1.1 1 0 (nI l) (v4 + (nI n * v5))) (fun s6 => bd_ (ldI s6 2 0 (nI s)) (fun v7 => bd_ (ldI s6 13 r (nI l)) (fun v8 => bd_ (stI s6 2 0 (nI s) (v7 + (nI n * v8))) (fun s9 => bd_ (ldI s9 3 0 (nI s)) (fun v10 => bd_ (stI s9 3 0 (nI s) (v10 + nI n)) (fun s11 => some s11)))))))) else bd_ (ldI z1.1 11 0 z1.2) (fun v12 => (if v12 = 0 then bd_ (ldI z1.1 10 0 z1.2) (fun v22 => bd_ (ldI z1.1 4 0 ((v22 * 6) + nI l)) (fun v23 => bd_ (ldI z1.1 9 0 z1.2) (fun v24 => bd_ (stI z1.1 4 0 ((v22 * 6) + nI l) (v23 + v24)) (fun s25 => rec2 (s25, (z1.2 + 1)))))) else bd_ (ldI z1.1 11 0 z1.2) (fun v13 => (if v13 = 1 then bd_ (ldI z1.1 17 r (nI s)) (fun v17 => bd_ (Rp_slotOf z1.1 (nI l) (nI s) (z1.2 - v17)) (fun q18 => bd_ (ldI z1.1 7 0 (q18 * 9)) (fun v19 => bd_ (ldI z1.1 9 0 z1.2) (fun v20 => bd_ (stI z1.1 7 0 (q18 * 9) (v19 + v20)) (fun s21 => rec2 (s21, (z1.2 + 1))))))) else bd_ (ldI z1.1 0 0 (nI l)) (fun v14 => bd_ (ldI z1.1 9 0 z1.2) (fun v15 => bd_ (stI z1.1 0 0 (nI l) (v14 + v15)) (fun s16 => rec2 (s16, (z1.2 + 1))))))))))) (hdP R s) (by omega) (fun k z => z.2 = nI k ∧ FrK (bk 0) σ z.1 ∧ BR z.1 0 R (plV R ν l s m ν k)) ⟨rfl, FrK.rf σ, b⟩ (by
    rintro rec k ⟨t, x⟩ hk ⟨hx, ft, bt⟩
    have hx : x = nI k := hx
    subst hx
    have ft : FrK (bk 0) σ t := ft
    have bt : BR t 0 R (plV R ν l s m ν k) := bt
    have a1 : t.1 396 0 0 = nI (hdP R s) := by rw [ft.2 396 0 rfl]; exact q1
    have a9 : t.1 9 0 k = nI (shP R s m k) := by rw [ft.2 9 0 rfl]; exact q4 k hk
    have a10 : t.1 10 0 k = hol (whP R ν s k) := by rw [ft.2 10 0 rfl]; exact q5 k hk
    have a11 : t.1 11 0 k = nI (ftP R ν l s k) := by rw [ft.2 11 0 rfl]; exact q6 k hk
    have ct := c.bb ft
    have hf3 := ft_lt (R := R) (ν := ν) l s k
    have pv : plV R ν l s m ν (k + 1) = plS R ν l s m (plV R ν l s m ν k) k := rfl
    by_cases c1 : ftP R ν l s k = 0
    · obtain ⟨p, hp, ew, ep⟩ := pl_p ho hv hs hk c1
      have bn := bt.w4 (p := p) (l := l) (c := nI (shP R s m k)) ho (by omega) (by omega)
      refine ⟨(setR t 4 0 (upd (t.1 4 0) (p * 6 + l) (t.1 4 0 (p * 6 + l) + nI (shP R s m k))), nI (k + 1)), ⟨rfl, ft.tr (fr_bkR t _ rfl), ?_⟩, ?_⟩
      · rw [pv]
        unfold plS
        rw [if_pos c1, ep]
        exact bn
      · simp (disch := omega) only [bd_some, bd_none, lt_eq, lk_eq, fa_lit, nI_add, nI_mul, nI_sub, nle_t, nle_f, nlt_t, nlt_f, neq_t, neq_f, neg_ne, neg_ne', if_true, if_false, ite_true, ite_false, Nat.zero_add, Nat.add_zero, ld0, ld1, ld2, ld3, ld4, ld5, ld6, ld7, ld8, ld9, ld10, ld11, ld12, ld13, ld14, ld15, ld16, ld17, ld18, ld19, ld20, ld21, ld22, ld23, ld24, ld25, ld26, ld27, ld28, ld29, ld30, ld31, ld32, ld33, ld34, ld35, ld36, ld37, ld38, ld39, ld40, ld41, ld42, ld43, ld44, ld45, ld46, ld47, ld48, ld100, ld101, ld102, ld103, ld104, ld105, st0, st1, st2, st3, st4, st5, st6, st7, st8, st9, st10, st11, st12, st13, st14, st15, st16, st17, st18, st19, st20, st21, st22, st23, st24, st25, st26, st27, st28, st29, st30, st31, st32, st33, st34, st35, st36, st37, st38, st39, st40, st41, st42, st43, st44, st45, st46, st47, st48, st100, st101, st102, st103, st104, st105, gF, a1, a11, c1, a10, ew, hol_n, a9]
    · by_cases c2 : ftP R ν l s k = 1
      · have hge := wh_open ho hs (ft1_wh c2)
        obtain ⟨j, rfl⟩ : ∃ j, k = R 2 s + j := ⟨k - R 2 s, by omega⟩
        have hj5 : j < R 3 s := by unfold hdP at hk; omega
        have bn := bt.r7 (j := ((l * 8 + s) * 5 + j) * 9) (v := plV R ν l s m ν (R 2 s + j) (204 + 9 * (5 * (8 * l + s) + j)) + nI (shP R s m (R 2 s + j))) ho (by omega)
        have e7 : t.1 7 0 (((l * 8 + s) * 5 + j) * 9) = plV R ν l s m ν (R 2 s + j) (204 + 9 * (5 * (8 * l + s) + j)) := by
          have := bt.kg (l := l) (s := s) (t := j) (a := 0) (by omega) (by omega) (by omega) (by decide)
          exact this
        refine ⟨(setR t 7 0 (upd (t.1 7 0) (((l * 8 + s) * 5 + j) * 9) (plV R ν l s m ν (R 2 s + j) (204 + 9 * (5 * (8 * l + s) + j)) + nI (shP R s m (R 2 s + j)))), nI (R 2 s + j + 1)), ⟨rfl, ft.tr (fr_bkR t _ rfl), ?_⟩, ?_⟩
        · rw [pv]
          unfold plS
          rw [if_neg c1, if_pos c2, Nat.add_sub_cancel_left]
          rw [show 204 + ((l * 8 + s) * 5 + j) * 9 = 204 + 9 * (5 * (8 * l + s) + j) by omega] at bn
          exact bn
        · simp (disch := omega) only [bd_some, bd_none, lt_eq, lk_eq, fa_lit, nI_add, nI_mul, nI_sub, nle_t, nle_f, nlt_t, nlt_f, neq_t, neq_f, neg_ne, neg_ne', if_true, if_false, ite_true, ite_false, Nat.zero_add, Nat.add_zero, ld0, ld1, ld2, ld3, ld4, ld5, ld6, ld7, ld8, ld9, ld10, ld11, ld12, ld13, ld14, ld15, ld16, ld17, ld18, ld19, ld20, ld21, ld22, ld23, ld24, ld25, ld26, ld27, ld28, ld29, ld30, ld31, ld32, ld33, ld34, ld35, ld36, ld37, ld38, ld39, ld40, ld41, ld42, ld43, ld44, ld45, ld46, ld47, ld48, ld100, ld101, ld102, ld103, ld104, ld105, st0, st1, st2, st3, st4, st5, st6, st7, st8, st9, st10, st11, st12, st13, st14, st15, st16, st17, st18, st19, st20, st21, st22, st23, st24, st25, st26, st27, st28, st29, st30, st31, st32, st33, st34, st35, st36, st37, st38, st39, st40, st41, st42, st43, st44, st45, st46, st47, st48, st100, st101, st102, st103, st104, st105, gF, a1, a11, c2, ct.mk hs, Nat.add_sub_cancel_left, Rp_slotOf_eq, e7, a9]
      · have bn := bt.r0 (j := l) (v := plV R ν l s m ν k (192 + l) + nI (shP R s m k)) ho (by omega)
        have e0 : t.1 0 0 l = plV R ν l s m ν k (192 + l) := bt.bx (by omega)
        have c3 : ftP R ν l s k = 2 := by omega
        refine ⟨(setR t 0 0 (upd (t.1 0 0) l (plV R ν l s m ν k (192 + l) + nI (shP R s m k))), nI (k + 1)), ⟨rfl, ft.tr (fr_bkR t _ rfl), ?_⟩, ?_⟩
        · rw [pv]
          unfold plS
          rw [if_neg c1, if_neg c2]
          exact bn
        · simp (disch := omega) only [bd_some, bd_none, lt_eq, lk_eq, fa_lit, nI_add, nI_mul, nI_sub, nle_t, nle_f, nlt_t, nlt_f, neq_t, neq_f, neg_ne, neg_ne', if_true, if_false, ite_true, ite_false, Nat.zero_add, Nat.add_zero, ld0, ld1, ld2, ld3, ld4, ld5, ld6, ld7, ld8, ld9, ld10, ld11, ld12, ld13, ld14, ld15, ld16, ld17, ld18, ld19, ld20, ld21, ld22, ld23, ld24, ld25, ld26, ld27, ld28, ld29, ld30, ld31, ld32, ld33, ld34, ld35, ld36, ld37, ld38, ld39, ld40, ld41, ld42, ld43, ld44, ld45, ld46, ld47, ld48, ld100, ld101, ld102, ld103, ld104, ld105, st0, st1, st2, st3, st4, st5, st6, st7, st8, st9, st10, st11, st12, st13, st14, st15, st16, st17, st18, st19, st20, st21, st22, st23, st24, st25, st26, st27, st28, st29, st30, st31, st32, st33, st34, st35, st36, st37, st38, st39, st40, st41, st42, st43, st44, st45, st46, st47, st48, st100, st101, st102, st103, st104, st105, gF, a1, a11, c3, e0, a9])
  obtain ⟨t, x⟩ := z
  have hx : x = nI (hdP R s) := hz1
  subst hx
  have ft : FrK (bk 0) σ t := hz2
  have bt : BR t 0 R (plV R ν l s m ν (hdP R s)) := hz3
  have a1 : t.1 396 0 0 = nI (hdP R s) := by rw [ft.2 396 0 rfl]; exact q1
  have ct := c.bb ft
  have v1 := (plV_comm (m := m) (v := 0) (μ := ν) ho hv hl hs (j := 198 + l) (by omega) (Nat.le_refl _)).2
  have v2 := (plV_comm (m := m) (v := 0) (μ := ν) ho hv hl hs (j := 2652 + s) (by omega) (Nat.le_refl _)).2
  have v3 := (plV_comm (m := m) (v := 0) (μ := ν) ho hv hl hs (j := 2644 + s) (by omega) (Nat.le_refl _)).2
  have b1 := bt.r1 (j := l) (v := ν (198 + l) + nI m) ho (by omega)
  have b2 := b1.r2 (j := s) (v := ν (2652 + s) + nI m) ho (by omega)
  have b3 := b2.r3 (j := s) (v := ν (2644 + s) + nI n) ho (by omega)
  have e1 : t.1 1 0 l = ν (198 + l) := by rw [bt.lm (by omega), v1]
  have e2 : t.1 2 0 s = ν (2652 + s) := by rw [bt.sm (by omega), v2]
  have e3 : t.1 3 0 s = ν (2644 + s) := by rw [bt.sc (by omega), v3]
  have er : nI n * nI (R 1 l) = nI m := by rw [nI_mul, hm]
  simp only [rd_ne (show (2 : Nat) ≠ 1 by decide), rd_ne (show (3 : Nat) ≠ 1 by decide), rd_ne (show (3 : Nat) ≠ 2 by decide)] at b2 b3
  refine ⟨setR (setR (setR t 1 0 (upd (t.1 1 0) l (ν (198 + l) + nI m))) 2 0 (upd (t.1 2 0) s (ν (2652 + s) + nI m))) 3 0 (upd (t.1 3 0) s (ν (2644 + s) + nI n)), ez.trans ?_, ((ft.tr (fr_bkR t _ rfl)).tr (fr_bkR _ _ rfl)).tr (fr_bkR _ _ rfl), ?_⟩
  · simp (disch := omega) only [bd_some, gF, a1, nle_t, if_true, ld1, ld2, ld3, ld13, e1, e2, e3, ct.rt hl, er, st1, st2, st3, rd_ne]
  · rw [(plV_comm ho hv hl hs (by omega) (Nat.le_refl _)).1, (plV_comm ho hv hl hs (by omega) (Nat.le_refl _)).1, (plV_comm ho hv hl hs (by omega) (Nat.le_refl _)).1, fa_upd_swap _ (by omega)]
    exact b3
theorem Mo_pays2_eq {p l : Nat} {c : Int32} (hp : p < 16) (hl : l < 6) : Mo_pays_2 σ (nI p) (nI l) c (nI 1) = some (setR σ 34 0 (upd (upd (σ.1 34 0) (6 * p + l) (σ.1 34 0 (6 * p + l) + c)) (96 + 6 * p + l) (σ.1 34 0 (96 + 6 * p + l) + c))) := by
  unfold Mo_pays_2
  have e : upd (σ.1 34 0) (6 * p + l) (σ.1 34 0 (6 * p + l) + c) (96 + 6 * p + l) = σ.1 34 0 (96 + 6 * p + l) := upd_ne (by omega)
  simp (disch := omega) only [bd_some, bd_none, lt_eq, lk_eq, fa_lit, nI_add, nI_mul, nI_sub, nle_t, nle_f, nlt_t, nlt_f, neq_t, neq_f, neg_ne, neg_ne', if_true, if_false, ite_true, ite_false, Nat.zero_add, Nat.add_zero, ld0, ld1, ld2, ld3, ld4, ld5, ld6, ld7, ld8, ld9, ld10, ld11, ld12, ld13, ld14, ld15, ld16, ld17, ld18, ld19, ld20, ld21, ld22, ld23, ld24, ld25, ld26, ld27, ld28, ld29, ld30, ld31, ld32, ld33, ld34, ld35, ld36, ld37, ld38, ld39, ld40, ld41, ld42, ld43, ld44, ld45, ld46, ld47, ld48, ld100, ld101, ld102, ld103, ld104, ld105, st0, st1, st2, st3, st4, st5, st6, st7, st8, st9, st10, st11, st12, st13, st14, st15, st16, st17, st18, st19, st20, st21, st22, st23, st24, st25, st26, st27, st28, st29, st30, st31, st32, st33, st34, st35, st36, st37, st38, st39, st40, st41, st42, st43, st44, st45, st46, st47, st48, st100, st101, st102, st103, st104, st105, gF, rd_eq, setR_setR, e]
theorem Mo_pays0_eq {p l : Nat} {c : Int32} (hp : p < 16) (hl : l < 6) : Mo_pays_2 σ (nI p) (nI l) c (nI 0) = some (setR σ 34 0 (upd (σ.1 34 0) (6 * p + l) (σ.1 34 0 (6 * p + l) + c))) := by
  unfold Mo_pays_2
  have e : upd (σ.1 34 0) (6 * p + l) (σ.1 34 0 (6 * p + l) + c) (96 + 6 * p + l) = σ.1 34 0 (96 + 6 * p + l) := upd_ne (by omega)
  simp (disch := omega) only [bd_some, bd_none, lt_eq, lk_eq, fa_lit, nI_add, nI_mul, nI_sub, nle_t, nle_f, nlt_t, nlt_f, neq_t, neq_f, neg_ne, neg_ne', if_true, if_false, ite_true, ite_false, Nat.zero_add, Nat.add_zero, ld0, ld1, ld2, ld3, ld4, ld5, ld6, ld7, ld8, ld9, ld10, ld11, ld12, ld13, ld14, ld15, ld16, ld17, ld18, ld19, ld20, ld21, ld22, ld23, ld24, ld25, ld26, ld27, ld28, ld29, ld30, ld31, ld32, ld33, ld34, ld35, ld36, ld37, ld38, ld39, ld40, ld41, ld42, ld43, ld44, ld45, ld46, ld47, ld48, ld100, ld101, ld102, ld103, ld104, ld105, st0, st1, st2, st3, st4, st5, st6, st7, st8, st9, st10, st11, st12, st13, st14, st15, st16, st17, st18, st19, st20, st21, st22, st23, st24, st25, st26, st27, st28, st29, st30, st31, st32, st33, st34, st35, st36, st37, st38, st39, st40, st41, st42, st43, st44, st45, st46, st47, st48, st100, st101, st102, st103, st104, st105, gF, rd_eq, setR_setR, e]
  rw [fa_upd_same]
  rw [e]
  exact (add_n0 _).symm
theorem fr_47_rbd (f : FrK r47 σ τ) : FrK rbd σ τ := f.mono (fun k i h => by
  cases e : r47 k i
  · rfl
  · have h1 := (Bool.or_eq_false_iff.mp h).1
    have h2 : cor k i = true := by simpa using h1
    rw [r47_cor k i h2] at e
    cases e)
theorem q_play (h : IV σ R) (x y z : Int32) : QA (Rp_play σ x y z) (fun τ => Mo_play τ x y z) := by
  obtain ⟨h1, hc, en⟩ := thr h (nI 0)
  have o1 := h.ro.L
  have o2 := h.ro.P
  have o3 := h.ro.S
  unfold Rp_play Mo_play
  rcases at_or (x := x) (n := R 0 0) (by omega) with ⟨l, hl, rfl⟩ | hx
  rotate_left
  · refine QAf (v := -nI 1) h ?_ ?_ <;> simp (disch := omega) only [bd_some, lt_eq, fa_lit, neq_t, neq_f, if_true, if_false, ite_true, ite_false, Rp_isLand_t h, Mo_isLand_t h1.mr h1.ro, Rp_isPlayer_t h, Mo_isPlayer_t h1.mr h1.ro, Rp_isSession_t h, Mo_isSession_t h1.mr h1.ro, Rp_isSeat_t h, Mo_isSeat_t h1.mr h1.ro, Rp_isChoice_t, Mo_isRole_t, h.q0, h.cr.L, h.cr.P, h.cr.S, h.cr.kp, h.cr.ld, h1.mr.L, h1.mr.P, h1.mr.S, h1.mr.kp, h1.mr.ld, en, Rp_isPlay, Rp_isLand_f h hx, Mo_isLand_f h1.mr hx]
  rcases at_or (x := y) (n := R 0 2) (by omega) with ⟨s, hs, rfl⟩ | hx
  rotate_left
  · refine QAf (v := -nI 1) h ?_ ?_ <;> simp (disch := omega) only [bd_some, lt_eq, fa_lit, neq_t, neq_f, if_true, if_false, ite_true, ite_false, Rp_isLand_t h, Mo_isLand_t h1.mr h1.ro, Rp_isPlayer_t h, Mo_isPlayer_t h1.mr h1.ro, Rp_isSession_t h, Mo_isSession_t h1.mr h1.ro, Rp_isSeat_t h, Mo_isSeat_t h1.mr h1.ro, Rp_isChoice_t, Mo_isRole_t, h.q0, h.cr.L, h.cr.P, h.cr.S, h.cr.kp, h.cr.ld, h1.mr.L, h1.mr.P, h1.mr.S, h1.mr.kp, h1.mr.ld, en, Rp_isPlay, Rp_isSession_f h hx, Mo_isSession_f h1.mr hx]
  rcases cp_or z with ⟨n, hn, hn2, rfl⟩ | hx
  rotate_left
  · refine QAf (v := -nI 1) h ?_ ?_ <;> simp (disch := omega) only [bd_some, lt_eq, fa_lit, neq_t, neq_f, if_true, if_false, ite_true, ite_false, Rp_isLand_t h, Mo_isLand_t h1.mr h1.ro, Rp_isPlayer_t h, Mo_isPlayer_t h1.mr h1.ro, Rp_isSession_t h, Mo_isSession_t h1.mr h1.ro, Rp_isSeat_t h, Mo_isSeat_t h1.mr h1.ro, Rp_isChoice_t, Mo_isRole_t, h.q0, h.cr.L, h.cr.P, h.cr.S, h.cr.kp, h.cr.ld, h1.mr.L, h1.mr.P, h1.mr.S, h1.mr.kp, h1.mr.ld, en, Rp_isPlay, hx]
  have hml := m_lt h.ro hl hn2
  by_cases tm : σ.1 34 0 (198 + l) + nI (n * R 1 l) ≤ nI 300000000
  rotate_left
  · refine QAf (v := -nI 2) h ?_ ?_ <;> simp (disch := omega) only [bd_some, bd_none, lt_eq, lk_eq, fa_lit, nI_add, nI_mul, nI_sub, nle_t, nle_f, nlt_t, nlt_f, neq_t, neq_f, neg_ne, neg_ne', if_true, if_false, ite_true, ite_false, Nat.zero_add, Nat.add_zero, ld0, ld1, ld2, ld3, ld4, ld5, ld6, ld7, ld8, ld9, ld10, ld11, ld12, ld13, ld14, ld15, ld16, ld17, ld18, ld19, ld20, ld21, ld22, ld23, ld24, ld25, ld26, ld27, ld28, ld29, ld30, ld31, ld32, ld33, ld34, ld35, ld36, ld37, ld38, ld39, ld40, ld41, ld42, ld43, ld44, ld45, ld46, ld47, ld48, ld100, ld101, ld102, ld103, ld104, ld105, gF, Rp_isLand_t h, Mo_isLand_t h1.mr h1.ro, Rp_isPlayer_t h, Mo_isPlayer_t h1.mr h1.ro, Rp_isSession_t h, Mo_isSession_t h1.mr h1.ro, Rp_isSeat_t h, Mo_isSeat_t h1.mr h1.ro, Rp_isChoice_t, Mo_isRole_t, h.q0, h.cr.L, h.cr.P, h.cr.S, h.cr.kp, h.cr.ld, h1.mr.L, h1.mr.P, h1.mr.S, h1.mr.kp, h1.mr.ld, en, Rp_isPlay, Rp_isCopies_t, Mo_areCopies_t, too_much h hl, h1.mr.rt hl, too_much2, tm]
  have h13 := hd_le h.ro hs
  have o8 := h.ro.s hs
  obtain ⟨σ1, e1, j1, b1⟩ := act h
  obtain ⟨σ2, e2, f2, q2⟩ := Oc_think_eq (o := 0) j1.cr b1.W h.ro h.ho hl hs hn2
  have j2 := j1.cb (scr_cbd f2)
  have b2 : BR σ2 0 R (σ.1 34 0) := b1.same (fun k hk => f2.2 k 0 (scr_cor k 0 (bkk_cor hk (by decide))))
  obtain ⟨σ3, e3, f3, b3⟩ := Bk_enterPlay_eq j2.cr b2 h.ro h.ho hl hs hn2 q2
  have j3 := j2.cb (bk_cbd f3)
  have s3 : σ3.1 12 0 0 = sumFP R (σ.1 34 0) l s (n * R 1 l) 0 := by rw [f3.2 12 0 rfl]; exact q2.2.2.2.2.2.2 0 (by decide)
  have hvn := h.vo
  have hov := h.ho
  generalize hν : σ.1 34 0 = ν at *
  generalize hm : n * R 1 l = m at *
  generalize hμ : upd (upd (upd ν (198 + l) (ν (198 + l) + nI m)) (2644 + s) (ν (2644 + s) + nI n)) (2652 + s) (ν (2652 + s) + nI m) = μ at *
  have eμ : ∀ j, (2604 ≤ j ∧ j < 2644) ∨ (2660 ≤ j ∧ j < 2688) → μ j = ν j := fun j hj => by rw [← hμ, upd_ne (by omega), upd_ne (by omega), upd_ne (by omega)]
  have zμ : VZ R μ := by rw [← hμ]; exact ((hvn.z.mn h.ro hl).cs h.ro (by omega)).cs h.ro (by omega)
  have hmn := hvn.2.2.1.n0 (show 198 + l < 2604 by omega)
  have hml2 := (hvn.2.2.1.2.1 l (by omega)).1
  have hx1 : (ν (198 + l) + nI m).toInt = mI ν (198 + l) + (m : Int) := by
    have h0 : mI ν (198 + l) = (ν (198 + l)).toInt := rfl
    have h2 : (nI m).toInt = (m : Int) := nI_toInt (by omega)
    rw [fb_addI (by omega) (by omega), h2]
    rfl
  have hx2 : (ν (198 + l) + nI m).toInt ≤ 300000000 := by
    have := (fa_le _ _).mp tm
    rw [nI_toInt (show 300000000 < 2 ^ 31 by decide)] at this
    exact this
  have mμ : MP μ l m 0 := by
    have a := (MP.of (R := R) hvn.2.2.1 l).mn (c := (m : Int)) (show l < 6 by omega) hx1 (by have h0 : mI ν (198 + l) = (ν (198 + l)).toInt := rfl; omega) hx2
    have a2 := (a.hi (j := 2644 + s) (v := ν (2644 + s) + nI n) (by omega)).hi (j := 2652 + s) (v := ν (2652 + s) + nI m) (by omega)
    rw [hμ, Int.zero_add] at a2
    exact a2
  have pv := fun k (hk : k ≤ hdP R s) => plV_vo h.ro hov hl hs hml zμ mμ hk
  have pe : ∀ k, k ≤ hdP R s → ∀ j, (2604 ≤ j ∧ j < 2644) ∨ (2660 ≤ j ∧ j < 2688) → plV R ν l s m μ k j = ν j := fun k hk j hj => by rw [(plV_comm (v := 0) h.ro hov hl hs (j := j) (by omega) hk).2, eμ j hj]
  obtain ⟨τ, e4, k4⟩ := keeps_of j3.t b3.t
  have i3 : MR (setF σ3 840 0 (nI 0)) R := j3.t.2.1
  have n3 : (setF σ3 840 0 (nI 0)).1 34 0 = ν := j3.t.2.2.2.2.2.1
  have m5 := k4.mr.s34 μ
  have n5 : (setR τ 34 0 μ).1 34 0 = μ := rd_eq
  have sumE := Mo_sumOf_eq (σ := setR τ 34 0 μ) (m := m) (f := 0) m5 h.ro (by rw [n5]; exact zμ.1) hl hs (by omega) (by decide)
  rw [n5] at sumE
  have sumF : sumFP R μ l s m 0 = sumFP R ν l s m 0 := sI_cong (fun k hk => by rw [ft_cong h.ro hov eμ hl hs hk])
  rw [sumF] at sumE
  have m6 := m5.f47 (shS_fr (R := R) s m)
  have n6 : (shS (setR τ 34 0 μ) R s m).1 34 0 = μ := (shS_34 _ _).trans n5
  have sk6 : ∀ k, k < hdP R s → (shS (setR τ 34 0 μ) R s m).1 47 0 k = nI (shP R s m k) := fun k hk => shS_at hk
  have fS : FrK rbd τ (shS (setR τ 34 0 μ) R s m) := (fr_rbR τ _).tr (fr_47_rbd (shS_fr _ _))
  generalize shS (setR τ 34 0 μ) R s m = S at *
  obtain ⟨zf, ef, hef, Mf⟩ := pv (hdP R s) (Nat.le_refl _)
  rw [sh_all h.ro hs] at Mf
  have vof : VO R (plV R ν l s m μ (hdP R s)) := zf.vo (Mf.mo (by omega) hef)
  refine ⟨sumFP R ν l s m 0, σ3, setR S 34 0 (plV R ν l s m μ (hdP R s)), R, ?_, ?_, k4.fin (fS.tr (fr_rbR S _)) rd_eq vof⟩
  · simp (disch := omega) only [bd_some, bd_none, lt_eq, lk_eq, fa_lit, nI_add, nI_mul, nI_sub, nle_t, nle_f, nlt_t, nlt_f, neq_t, neq_f, neg_ne, neg_ne', if_true, if_false, ite_true, ite_false, Nat.zero_add, Nat.add_zero, ld0, ld1, ld2, ld3, ld4, ld5, ld6, ld7, ld8, ld9, ld10, ld11, ld12, ld13, ld14, ld15, ld16, ld17, ld18, ld19, ld20, ld21, ld22, ld23, ld24, ld25, ld26, ld27, ld28, ld29, ld30, ld31, ld32, ld33, ld34, ld35, ld36, ld37, ld38, ld39, ld40, ld41, ld42, ld43, ld44, ld45, ld46, ld47, ld48, ld100, ld101, ld102, ld103, ld104, ld105, gF, Rp_isLand_t h, Mo_isLand_t h1.mr h1.ro, Rp_isPlayer_t h, Mo_isPlayer_t h1.mr h1.ro, Rp_isSession_t h, Mo_isSession_t h1.mr h1.ro, Rp_isSeat_t h, Mo_isSeat_t h1.mr h1.ro, Rp_isChoice_t, Mo_isRole_t, h.q0, h.cr.L, h.cr.P, h.cr.S, h.cr.kp, h.cr.ld, h1.mr.L, h1.mr.P, h1.mr.S, h1.mr.kp, h1.mr.ld, en, Rp_isPlay, Rp_isCopies_t, too_much h hl, hν, hm, tm, e1, j1.q0, e2, j2.q0, e3, s3]
  · have eu1 : upd (upd ν (198 + l) (ν (198 + l) + nI m)) (2644 + s) (ν (2644 + s) + nI n) (2652 + s) = ν (2652 + s) := by rw [upd_ne (by omega), upd_ne (by omega)]
    have eu2 : upd ν (198 + l) (ν (198 + l) + nI m) (2644 + s) = ν (2644 + s) := upd_ne (by omega)
    have a0 : ldI (setF σ3 840 0 (nI 0)) 29 0 (nI l) = some (nI (R 1 l)) := by rw [ld29 (by omega), i3.rt hl]
    have a1 : ldI τ 34 0 (198 + nI l) = some (ν (198 + l)) := by simp (disch := omega) only [fa_lit, nI_add, ld34, k4.n]
    have a2 : stI τ 34 0 (198 + nI l) (ν (198 + l) + nI m) = some (setR τ 34 0 (upd ν (198 + l) (ν (198 + l) + nI m))) := by simp (disch := omega) only [fa_lit, nI_add, st34, k4.n]
    have a3 : ldI (setR τ 34 0 (upd ν (198 + l) (ν (198 + l) + nI m))) 34 0 (2644 + nI s) = some (ν (2644 + s)) := by simp (disch := omega) only [fa_lit, nI_add, ld34, rd_eq, eu2]
    have a4 : stI (setR τ 34 0 (upd ν (198 + l) (ν (198 + l) + nI m))) 34 0 (2644 + nI s) (ν (2644 + s) + nI n) = some (setR τ 34 0 (upd (upd ν (198 + l) (ν (198 + l) + nI m)) (2644 + s) (ν (2644 + s) + nI n))) := by simp (disch := omega) only [fa_lit, nI_add, st34, rd_eq, setR_setR]
    have a5 : ldI (setR τ 34 0 (upd (upd ν (198 + l) (ν (198 + l) + nI m)) (2644 + s) (ν (2644 + s) + nI n))) 34 0 (2652 + nI s) = some (ν (2652 + s)) := by simp (disch := omega) only [fa_lit, nI_add, ld34, rd_eq, eu1]
    have a6 : stI (setR τ 34 0 (upd (upd ν (198 + l) (ν (198 + l) + nI m)) (2644 + s) (ν (2644 + s) + nI n))) 34 0 (2652 + nI s) (ν (2652 + s) + nI m) = some (setR τ 34 0 μ) := by simp (disch := omega) only [fa_lit, nI_add, st34, rd_eq, setR_setR, hμ]
    show lt_ (setF σ3 840 0 (nI 0)) _ = _
    rw [lt_eq, Mo_isLand_t i3 h.ro hl, bd_some, if_neg (show ¬ nI 1 = 0 by decide), Mo_isSession_t i3 h.ro hs, bd_some, if_neg (show ¬ nI 1 = 0 by decide), Mo_areCopies_t hn hn2, bd_some, if_neg (show ¬ nI 1 = 0 by decide), a0, bd_some, lt_eq, nI_mul, hm, too_much2 (by omega), n3, if_pos tm, bd_some, if_pos (show nI 0 = 0 from rfl), e4, bd_some, a1, bd_some, a2, bd_some, a3, bd_some, a4, bd_some, a5, bd_some, a6, bd_some, show (0 : Int32) = nI 0 from rfl, sumE, bd_some]
    have hwf : ∀ f, Mo_whole (setR S 34 0 f) (nI s) = some (nI (hdP R s)) := fun f => Mo_whole_eq (m6.s34 f) h.ro hs
    refine lp_runE (hdP R s) (by omega) (fun k => (setR S 34 0 (plV R ν l s m μ k), nI k)) (by show (setR S 34 0 μ, nI 0) = _; rw [← n6, setR_self]) (fun rec k hk => ?_) (fun rec => ?_)
    · obtain ⟨zk, -⟩ := pv k (by omega)
      have mk := m6.s34 (plV R ν l s m μ k)
      have wk := Mo_where_eq (σ := setR S 34 0 (plV R ν l s m μ k)) mk h.ro (by rw [rd_eq]; exact zk.1) hl hs hk
      have wh := Mo_whose_eq (σ := setR S 34 0 (plV R ν l s m μ k)) mk h.ro hs hk
      rw [rd_eq, ft_cong h.ro hov (pe k (by omega)) hl hs hk] at wk
      rw [rd_eq, wh_cong h.ro (pe k (by omega)) hs hk] at wh
      have sk := sk6 k hk
      have hf3 := ft_lt (R := R) (ν := ν) l s k
      have pvk : plV R ν l s m μ (k + 1) = plS R ν l s m (plV R ν l s m μ k) k := rfl
      rw [pvk]
      generalize plV R ν l s m μ k = κ at *
      unfold plS
      by_cases c1 : ftP R ν l s k = 0
      · obtain ⟨p, hp, ew, ep⟩ := pl_p h.ro hov hs hk c1
        rw [ew] at wh
        simp (disch := omega) only [bd_some, bd_none, lt_eq, lk_eq, fa_lit, nI_add, nI_mul, nI_sub, nle_t, nle_f, nlt_t, nlt_f, neq_t, neq_f, neg_ne, neg_ne', if_true, if_false, ite_true, ite_false, Nat.zero_add, Nat.add_zero, ld0, ld1, ld2, ld3, ld4, ld5, ld6, ld7, ld8, ld9, ld10, ld11, ld12, ld13, ld14, ld15, ld16, ld17, ld18, ld19, ld20, ld21, ld22, ld23, ld24, ld25, ld26, ld27, ld28, ld29, ld30, ld31, ld32, ld33, ld34, ld35, ld36, ld37, ld38, ld39, ld40, ld41, ld42, ld43, ld44, ld45, ld46, ld47, ld48, ld100, ld101, ld102, ld103, ld104, ld105, gF, hwf, wk, c1, wh, rd_ne, sk, Mo_pays2_eq, rd_eq, setR_setR, ep]
      · by_cases c2 : ftP R ν l s k = 1
        · have hge := wh_open h.ro hs (ft1_wh c2)
          have hj5 : k - R 2 s < R 3 s := by unfold hdP at hk; omega
          simp (disch := omega) only [bd_some, bd_none, lt_eq, lk_eq, fa_lit, nI_add, nI_mul, nI_sub, nle_t, nle_f, nlt_t, nlt_f, neq_t, neq_f, neg_ne, neg_ne', if_true, if_false, ite_true, ite_false, Nat.zero_add, Nat.add_zero, ld0, ld1, ld2, ld3, ld4, ld5, ld6, ld7, ld8, ld9, ld10, ld11, ld12, ld13, ld14, ld15, ld16, ld17, ld18, ld19, ld20, ld21, ld22, ld23, ld24, ld25, ld26, ld27, ld28, ld29, ld30, ld31, ld32, ld33, ld34, ld35, ld36, ld37, ld38, ld39, ld40, ld41, ld42, ld43, ld44, ld45, ld46, ld47, ld48, ld100, ld101, ld102, ld103, ld104, ld105, st0, st1, st2, st3, st4, st5, st6, st7, st8, st9, st10, st11, st12, st13, st14, st15, st16, st17, st18, st19, st20, st21, st22, st23, st24, st25, st26, st27, st28, st29, st30, st31, st32, st33, st34, st35, st36, st37, st38, st39, st40, st41, st42, st43, st44, st45, st46, st47, st48, st100, st101, st102, st103, st104, st105, gF, hwf, wk, c2, mk.mk hs, rd_ne, sk, Mo_keptAt_eq, rd_eq, setR_setR, show ¬ (1 : Nat) = 0 by decide]
        · have c3 : ftP R ν l s k = 2 := by omega
          simp (disch := omega) only [bd_some, bd_none, lt_eq, lk_eq, fa_lit, nI_add, nI_mul, nI_sub, nle_t, nle_f, nlt_t, nlt_f, neq_t, neq_f, neg_ne, neg_ne', if_true, if_false, ite_true, ite_false, Nat.zero_add, Nat.add_zero, ld0, ld1, ld2, ld3, ld4, ld5, ld6, ld7, ld8, ld9, ld10, ld11, ld12, ld13, ld14, ld15, ld16, ld17, ld18, ld19, ld20, ld21, ld22, ld23, ld24, ld25, ld26, ld27, ld28, ld29, ld30, ld31, ld32, ld33, ld34, ld35, ld36, ld37, ld38, ld39, ld40, ld41, ld42, ld43, ld44, ld45, ld46, ld47, ld48, ld100, ld101, ld102, ld103, ld104, ld105, st0, st1, st2, st3, st4, st5, st6, st7, st8, st9, st10, st11, st12, st13, st14, st15, st16, st17, st18, st19, st20, st21, st22, st23, st24, st25, st26, st27, st28, st29, st30, st31, st32, st33, st34, st35, st36, st37, st38, st39, st40, st41, st42, st43, st44, st45, st46, st47, st48, st100, st101, st102, st103, st104, st105, gF, hwf, wk, c3, rd_ne, sk, rd_eq, setR_setR, show ¬ (2 : Nat) = 0 by decide, show ¬ (2 : Nat) = 1 by decide]
    · simp (disch := omega) only [bd_some, bd_none, lt_eq, lk_eq, fa_lit, nI_add, nI_mul, nI_sub, nle_t, nle_f, nlt_t, nlt_f, neq_t, neq_f, neg_ne, neg_ne', if_true, if_false, ite_true, ite_false, Nat.zero_add, Nat.add_zero, ld0, ld1, ld2, ld3, ld4, ld5, ld6, ld7, ld8, ld9, ld10, ld11, ld12, ld13, ld14, ld15, ld16, ld17, ld18, ld19, ld20, ld21, ld22, ld23, ld24, ld25, ld26, ld27, ld28, ld29, ld30, ld31, ld32, ld33, ld34, ld35, ld36, ld37, ld38, ld39, ld40, ld41, ld42, ld43, ld44, ld45, ld46, ld47, ld48, ld100, ld101, ld102, ld103, ld104, ld105, gF, hwf]
end Play2

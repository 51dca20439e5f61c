/-! ===== a box is parted: the acts ===== -/
def prB (R : RT) (κ : NU) (l : Nat) : Int32 := if κ (192 + l) = nI 0 then -nI 2 else if aN R κ l = 0 then -nI 3 else nI 0
def paV (R : RT) (κ : NU) (l : Nat) : Nat → NU
  | 0 => κ
  | p + 1 => upd (paV R κ l p) (6 * p + l) (paV R κ l p (6 * p + l) + nI (pN R κ l p))
def ptV (R : RT) (κ : NU) (l : Nat) : NU := emN (upd (paV R κ l (R 0 1)) (192 + l) (nI 0)) (2364 + 40 * l) 40
section Part3
variable {σ τ : ST} {R : RT} {ν μ κ : NU} {r : Nat}
theorem prB_or (l : Nat) : prB R κ l = nI 0 ∨ prB R κ l = -nI 2 ∨ prB R κ l = -nI 3 := by
  unfold prB
  split
  · exact Or.inr (Or.inl rfl)
  · split
    · exact Or.inr (Or.inr rfl)
    · exact Or.inl rfl
theorem prB_0 {l : Nat} (h : prB R κ l = nI 0) : 0 < aN R κ l := by
  unfold prB at h
  split at h
  · exact absurd h (by decide)
  · split at h
    · exact absurd h (by decide)
    · omega
theorem Rp_partBar_eq {l : Nat} (q : ldQ σ 0 = some r) (c : CR σ r R) (b : BR σ 0 R κ) (m : MO R κ) (ho : RO R) (hl : l < R 0 0) : Rp_partBar σ (nI l) = some (prB R κ l) := by
  have o1 := ho.L
  have hA := aN_le m ho (show l < 6 by omega)
  have il : Rp_isLand σ (nI l) = some (nI 1) := by
    unfold Rp_isLand
    simp (disch := omega) only [bd_some, bd_none, lt_eq, lk_eq, fa_lit, nI_add, nI_mul, nI_sub, nle_t, nle_f, nlt_t, nlt_f, neq_t, neq_f, neg_ne, neg_ne', if_true, if_false, ite_true, ite_false, Nat.zero_add, Nat.add_zero, ld0, ld1, ld2, ld3, ld4, ld5, ld6, ld7, ld8, ld9, ld10, ld11, ld12, ld13, ld14, ld15, ld16, ld17, ld18, ld19, ld20, ld21, ld22, ld23, ld24, ld25, ld26, ld27, ld28, ld29, ld30, ld31, ld32, ld33, ld34, ld35, ld36, ld37, ld38, ld39, ld40, ld41, ld42, ld43, ld44, ld45, ld46, ld47, ld48, ld100, ld101, ld102, ld103, ld104, ld105, gF, q, c.L]
  unfold Rp_partBar prB
  simp (disch := omega) only [bd_some, bd_none, lt_eq, lk_eq, fa_lit, nI_add, nI_mul, nI_sub, nle_t, nle_f, nlt_t, nlt_f, neq_t, neq_f, neg_ne, neg_ne', if_true, if_false, ite_true, ite_false, Nat.zero_add, Nat.add_zero, ld0, ld1, ld2, ld3, ld4, ld5, ld6, ld7, ld8, ld9, ld10, ld11, ld12, ld13, ld14, ld15, ld16, ld17, ld18, ld19, ld20, ld21, ld22, ld23, ld24, ld25, ld26, ld27, ld28, ld29, ld30, ld31, ld32, ld33, ld34, ld35, ld36, ld37, ld38, ld39, ld40, ld41, ld42, ld43, ld44, ld45, ld46, ld47, ld48, ld100, ld101, ld102, ld103, ld104, ld105, gF, il, b.bx, q, Bk_weightIn_eq c b ho, wsum_eq m ho, nI0_ct]
  by_cases c1 : κ (192 + l) = nI 0 <;> by_cases c2 : aN R κ l = 0 <;> simp [c1, c2]
theorem Mo_whyNoPart_eq {l : Nat} (h : MR σ R) (m : MO R (σ.1 34 0)) (ho : RO R) (hl : l < 6) : Mo_whyNoPart σ (nI l) = some (prB R (σ.1 34 0) l) := by
  have hA := aN_le m ho hl
  have e : (lg_cmp (lN (aN R (σ.1 34 0) l)) 0 = nI 0) = (aN R (σ.1 34 0) l = 0) := propext ((lg_cmp_eq _ _).trans (pk_lEQ (b := 0) (by omega) (by decide)))
  unfold Mo_whyNoPart prB
  simp (disch := omega) only [bd_some, bd_none, lt_eq, lk_eq, fa_lit, nI_add, nI_mul, nI_sub, nle_t, nle_f, nlt_t, nlt_f, neq_t, neq_f, neg_ne, neg_ne', if_true, if_false, ite_true, ite_false, Nat.zero_add, Nat.add_zero, ld0, ld1, ld2, ld3, ld4, ld5, ld6, ld7, ld8, ld9, ld10, ld11, ld12, ld13, ld14, ld15, ld16, ld17, ld18, ld19, ld20, ld21, ld22, ld23, ld24, ld25, ld26, ld27, ld28, ld29, ld30, ld31, ld32, ld33, ld34, ld35, ld36, ld37, ld38, ld39, ld40, ld41, ld42, ld43, ld44, ld45, ld46, ld47, ld48, ld100, ld101, ld102, ld103, ld104, ld105, gF, Mo_allWeights_eq h m ho hl, e]
  by_cases c1 : σ.1 34 0 (192 + l) = nI 0 <;> by_cases c2 : aN R (σ.1 34 0) l = 0 <;> simp [c1, c2]
theorem q_wouldPart (h : IV σ R) (x y : Int32) : QP (Rp_wouldPart σ x y) (fun τ => Mo_wouldPart τ x y) σ := by
  obtain ⟨h1, hc, en⟩ := thr h (nI 0)
  have o1 := h.ro.L
  have o2 := h.ro.P
  have o3 := h.ro.S
  unfold Rp_wouldPart Mo_wouldPart
  rcases at_or (x := y) (n := R 0 1) (by omega) with ⟨p, hp, rfl⟩ | hx
  rotate_left
  · rcases at_or (x := x) (n := R 0 0) (by omega) with ⟨l, hl, rfl⟩ | hx2
    · refine QPf (v := -nI 1) ?_ ?_ <;> simp (disch := omega) only [bd_some, lt_eq, fa_lit, neq_t, neq_f, if_true, if_false, ite_true, ite_false, Rp_isLand_t h, Mo_isLand_t h1.mr h1.ro, Rp_isPlayer_t h, Mo_isPlayer_t h1.mr h1.ro, Rp_isSession_t h, Mo_isSession_t h1.mr h1.ro, Rp_isSeat_t h, Mo_isSeat_t h1.mr h1.ro, Rp_isChoice_t, Mo_isRole_t, h.q0, h.cr.L, h.cr.P, h.cr.S, h.cr.kp, h.cr.ld, h1.mr.L, h1.mr.P, h1.mr.S, h1.mr.kp, h1.mr.ld, en, Rp_isPlayer_f h hx, Mo_isPlayer_f h1.mr hx]
    · refine QPf (v := -nI 1) ?_ ?_ <;> simp (disch := omega) only [bd_some, lt_eq, fa_lit, neq_t, neq_f, if_true, if_false, ite_true, ite_false, Rp_isLand_t h, Mo_isLand_t h1.mr h1.ro, Rp_isPlayer_t h, Mo_isPlayer_t h1.mr h1.ro, Rp_isSession_t h, Mo_isSession_t h1.mr h1.ro, Rp_isSeat_t h, Mo_isSeat_t h1.mr h1.ro, Rp_isChoice_t, Mo_isRole_t, h.q0, h.cr.L, h.cr.P, h.cr.S, h.cr.kp, h.cr.ld, h1.mr.L, h1.mr.P, h1.mr.S, h1.mr.kp, h1.mr.ld, en, Rp_isPlayer_f h hx, Mo_isLand_f h1.mr hx2]
  rcases at_or (x := x) (n := R 0 0) (by omega) with ⟨l, hl, rfl⟩ | hx
  rotate_left
  · refine QPf (v := -nI 1) ?_ ?_ <;> simp (disch := omega) only [bd_some, lt_eq, fa_lit, neq_t, neq_f, if_true, if_false, ite_true, ite_false, Rp_isLand_t h, Mo_isLand_t h1.mr h1.ro, Rp_isPlayer_t h, Mo_isPlayer_t h1.mr h1.ro, Rp_isSession_t h, Mo_isSession_t h1.mr h1.ro, Rp_isSeat_t h, Mo_isSeat_t h1.mr h1.ro, Rp_isChoice_t, Mo_isRole_t, h.q0, h.cr.L, h.cr.P, h.cr.S, h.cr.kp, h.cr.ld, h1.mr.L, h1.mr.P, h1.mr.S, h1.mr.kp, h1.mr.ld, en, Rp_partBar, Rp_isLand_f h hx, Mo_isLand_f h1.mr hx, neg_ne, neg_ne']
  have pb := Rp_partBar_eq h.q0 h.cr h.br h.mo h.ro hl
  have pm := Mo_whyNoPart_eq h1.mr h1.mo h1.ro (show l < 6 by omega)
  rw [en] at pm
  rcases prB_or (R := R) (κ := σ.1 34 0) l with e | e | e
  rotate_left
  · refine QPf (v := -nI 2) ?_ ?_ <;> simp (disch := omega) only [bd_some, lt_eq, fa_lit, neq_t, neq_f, if_true, if_false, ite_true, ite_false, Rp_isLand_t h, Mo_isLand_t h1.mr h1.ro, Rp_isPlayer_t h, Mo_isPlayer_t h1.mr h1.ro, Rp_isSession_t h, Mo_isSession_t h1.mr h1.ro, Rp_isSeat_t h, Mo_isSeat_t h1.mr h1.ro, Rp_isChoice_t, Mo_isRole_t, h.q0, h.cr.L, h.cr.P, h.cr.S, h.cr.kp, h.cr.ld, h1.mr.L, h1.mr.P, h1.mr.S, h1.mr.kp, h1.mr.ld, en, pb, pm, e, neg_ge0, neg_ne, neg_ne']
  · refine QPf (v := -nI 3) ?_ ?_ <;> simp (disch := omega) only [bd_some, lt_eq, fa_lit, neq_t, neq_f, if_true, if_false, ite_true, ite_false, Rp_isLand_t h, Mo_isLand_t h1.mr h1.ro, Rp_isPlayer_t h, Mo_isPlayer_t h1.mr h1.ro, Rp_isSession_t h, Mo_isSession_t h1.mr h1.ro, Rp_isSeat_t h, Mo_isSeat_t h1.mr h1.ro, Rp_isChoice_t, Mo_isRole_t, h.q0, h.cr.L, h.cr.P, h.cr.S, h.cr.kp, h.cr.ld, h1.mr.L, h1.mr.P, h1.mr.S, h1.mr.kp, h1.mr.ld, en, pb, pm, e, neg_ge0, neg_ne, neg_ne']
  have hW := prB_0 e
  obtain ⟨t, et, ft, h8⟩ := Bs_reckon_eq h.cr h.br h.mo h.ro (show l < 6 by omega) hW
  have c4 := ft.core f8_cor
  have en3 : t.1 34 0 = σ.1 34 0 := core_n c4
  obtain ⟨h2, hc2, en2⟩ := thr (h.core c4) (nI 0)
  obtain ⟨u, eu, fu, h48⟩ := Mo_laysParts_eq h2.mr h2.mo h2.ro (show l < 6 by omega) (by rw [en2, en3]; exact hW)
  rw [en2, en3] at h48
  have pm2 := Mo_whyNoPart_eq h2.mr h2.mo h2.ro (show l < 6 by omega)
  rw [en2, en3, e] at pm2
  refine ⟨nI (pN R (σ.1 34 0) l p), t, u, ?_, c4, ?_, hc2.tr (fu.core f48_cor)⟩
  · simp (disch := omega) only [bd_some, lt_eq, fa_lit, neq_t, neq_f, if_true, if_false, ite_true, ite_false, Rp_isLand_t h, Mo_isLand_t h1.mr h1.ro, Rp_isPlayer_t h, Mo_isPlayer_t h1.mr h1.ro, Rp_isSession_t h, Mo_isSession_t h1.mr h1.ro, Rp_isSeat_t h, Mo_isSeat_t h1.mr h1.ro, Rp_isChoice_t, Mo_isRole_t, h.q0, h.cr.L, h.cr.P, h.cr.S, h.cr.kp, h.cr.ld, h1.mr.L, h1.mr.P, h1.mr.S, h1.mr.kp, h1.mr.ld, en, pb, e, et, ld8, h8 p hp]
  · simp (disch := omega) only [bd_some, lt_eq, fa_lit, neq_t, neq_f, if_true, if_false, ite_true, ite_false, Mo_isLand_t h2.mr h2.ro, Mo_isPlayer_t h2.mr h2.ro, Mo_isSession_t h2.mr h2.ro, Mo_isSeat_t h2.mr h2.ro, h2.mr.L, h2.mr.P, h2.mr.S, h2.mr.kp, h2.mr.ld, Mo_isRole_t, en2, pm2, nle_t, eu, ld48, h48 p hp]
/-! what is parted is all that lies in the box -/
theorem emN_in (ν : NU) (B : Nat) : ∀ {a j : Nat}, j < a → emN ν B a (B + j) = nI 0
  | 0, j, h => absurd h (Nat.not_lt_zero j)
  | a + 1, j, h => by
    show upd (emN ν B a) (B + a) (nI 0) (B + j) = _
    rw [upd_at]
    split
    · rfl
    · exact emN_in ν B (by omega)
theorem paV_out (l : Nat) : ∀ {k j : Nat}, (j % 6 ≠ l ∨ 6 * k + l ≤ j) → l < 6 → paV R κ l k j = κ j
  | 0, j, _, _ => rfl
  | k + 1, j, h, hl => by
    show upd (paV R κ l k) (6 * k + l) _ j = _
    rw [upd_ne (by omega)]
    exact paV_out l (by omega) hl
theorem paV_hi {l k j : Nat} (hk : k ≤ 16) (hl : l < 6) (hj : 96 ≤ j) : paV R κ l k j = κ j := paV_out l (by omega) hl
theorem paV_vo (ho : RO R) (hv : VO R κ) {l : Nat} (hl : l < R 0 0) (hW : 0 < aN R κ l) : ∀ {k : Nat}, k ≤ R 0 1 → VZ R (paV R κ l k) ∧ MP (paV R κ l k) l (-((fb_sm (pN R κ l) k : Nat) : Int)) 0
  | 0, _ => ⟨hv.z, by
    have := MP.of (R := R) hv.2.2.1 l
    rw [show (-((fb_sm (pN R κ l) 0 : Nat) : Int)) = 0 from rfl]
    exact this⟩
  | k + 1, hk => by
    obtain ⟨z, M⟩ := paV_vo ho hv hl hW (k := k) (by omega)
    have o1 := ho.L
    have o2 := ho.P
    have o3 := ho.S
    have m := hv.2.2.1
    have ml := m.land (show l < 6 by omega)
    have mp := m.paid (show k < 16 by omega) (show l < 6 by omega)
    have p0 := m.n0 (show 6 * k + l < 2604 by omega)
    have px := pN_le (ν := κ) (l := l) ho (show k < R 0 1 by omega) hW
    have xi := xN_int m (show l < 6 by omega)
    have g := paV_out (R := R) (κ := κ) l (k := k) (j := 6 * k + l) (by omega) (by omega)
    show VZ R (upd (paV R κ l k) (6 * k + l) (paV R κ l k (6 * k + l) + nI (pN R κ l k))) ∧ MP (upd (paV R κ l k) (6 * k + l) (paV R κ l k (6 * k + l) + nI (pN R κ l k))) l _ 0
    rw [g, fb_sm_succ]
    generalize paV R κ l k = θ at *
    refine ⟨z.pd ho (by omega) hl, ?_⟩
    have xx : (κ (6 * k + l) + nI (pN R κ l k)).toInt = mI θ (6 * k + l) + (pN R κ l k : Int) := by
      have v : mI θ (6 * k + l) = (κ (6 * k + l)).toInt := by unfold mI; rw [g]
      have n : (nI (pN R κ l k)).toInt = (pN R κ l k : Int) := nI_toInt (by have := xN_le m (show l < 6 by omega); omega)
      rw [fb_addI (by omega) (by omega), v, n]
    have M2 := M.pp (show k < 16 by omega) (show l < 6 by omega) xx (by omega)
    have e2 : -((fb_sm (pN R κ l) k : Nat) : Int) - (pN R κ l k : Int) = -((fb_sm (pN R κ l) k + pN R κ l k : Nat) : Int) := by omega
    rw [← e2]; exact M2
theorem lz_vo (ho : RO R) {l : Nat} {d e : Int} (hl : l < R 0 0) (z : VZ R κ) (M : MP κ l d e) : ∀ {a : Nat}, a ≤ 40 → VZ R (emN κ (2364 + 40 * l) a) ∧ ∃ e', MP (emN κ (2364 + 40 * l) a) l d e'
  | 0, _ => ⟨z, e, M⟩
  | a + 1, ha => by
    obtain ⟨z1, e1, M1⟩ := lz_vo ho hl z M (a := a) (by omega)
    have o1 := ho.L
    show VZ R (upd (emN κ (2364 + 40 * l) a) (2364 + 40 * l + a) (nI 0)) ∧ ∃ e', MP (upd (emN κ (2364 + 40 * l) a) (2364 + 40 * l + a) (nI 0)) l d e'
    generalize emN κ (2364 + 40 * l) a = θ at *
    refine ⟨?_, _, M1.lp (x := nI 0) (i := a) (by omega) (by omega) (by decide)⟩
    have ei : 2364 + 40 * l + a = 2364 + 5 * (8 * l + a / 5) + a % 5 := by omega
    rw [ei]
    by_cases c : a / 5 < R 0 2 ∧ a % 5 < R 3 (a / 5)
    · exact z1.lp ho hl c.1 c.2
    · have z0 := z1.2.1.2.2.2 l (a / 5) (a % 5) (by omega) (by omega) (by omega) (by omega)
      rw [fa_upd_same z0]
      exact z1
theorem ptV_vo (ho : RO R) (hv : VO R κ) {l : Nat} (hl : l < R 0 0) (hW : 0 < aN R κ l) : VO R (ptV R κ l) := by
  have o1 := ho.L
  have o2 := ho.P
  have o3 := ho.S
  have m := hv.2.2.1
  obtain ⟨z, M⟩ := paV_vo ho hv hl hW (Nat.le_refl (R 0 1))
  rw [pN_sum ho hW] at M
  have xi := xN_int m (show l < 6 by omega)
  have g := paV_hi (R := R) (κ := κ) (l := l) (k := R 0 1) (j := 192 + l) (by omega) (by omega) (by omega)
  unfold ptV
  generalize paV R κ l (R 0 1) = θ at *
  have hb : (nI 0).toInt = mI θ (192 + l) + (-(xN κ l : Int)) := by
    have v : mI θ (192 + l) = mI κ (192 + l) := by unfold mI; rw [g]
    have n0 : (nI 0).toInt = 0 := by decide
    omega
  have M2 := M.bx (show l < 6 by omega) hb (by decide)
  have z2 := z.bx ho (v := nI 0) hl
  obtain ⟨z3, e3, M3⟩ := lz_vo ho hl z2 M2 (Nat.le_refl 40)
  have lz : LPS (emN (upd θ (192 + l) (nI 0)) (2364 + 40 * l) 40) l = 0 := by
    unfold LPS
    have e1 : fb_si (fun j => mI (emN (upd θ (192 + l) (nI 0)) (2364 + 40 * l) 40) (2364 + 40 * l + j)) 40 = fb_si (fun _ => 0) 40 := fb_si_cong (fun j hj => by unfold mI; rw [emN_in _ _ hj]; decide)
    rw [e1]
    decide
  generalize emN (upd θ (192 + l) (nI 0)) (2364 + 40 * l) 40 = θ2 at *
  refine z3.vo ?_
  obtain ⟨a1, a2, a3⟩ := M3
  refine ⟨a1, fun k hk => ?_, a3⟩
  have := a2 k hk
  have b0 := a1 (192 + k) (by omega)
  by_cases c : k = l
  · subst c
    simp only [if_true] at this
    have lz2 : fb_si (fun j => mI θ2 (2364 + 40 * k + j)) 40 = 0 := lz
    unfold PDS KPS LPS at this
    refine ⟨this.1, by omega, by omega⟩
  · simp only [c, if_false] at this
    unfold PDS KPS LPS at this
    exact ⟨this.1, by omega, by omega⟩
/-! the class -/
theorem Bk_enterPart_eq {l : Nat} (c : CR σ r R) (b : BR σ 0 R κ) (ho : RO R) (hl : l < R 0 0) (h8 : ∀ j, j < R 0 1 → σ.1 8 0 j = nI (pN R κ l j)) : ∃ τ, Bk_enterPart σ 0 r (nI l) = some (κ (192 + l), τ) ∧ FrK (bk 0) σ τ ∧ BR τ 0 R (ptV R κ l) := by
  have o1 := ho.L
  have o2 := ho.P
  have o3 := ho.S
  have s0 : ∀ x : ST, Rp_slotOf x (nI l) (nI 0) (nI 0) = some (nI (40 * l)) := fun x => by
    have := Rp_slotOf_eq (σ := x) l 0 0
    rw [show (l * 8 + 0) * 5 + 0 = 40 * l by omega] at this
    exact this
  have s1 : ∀ x : ST, Rp_slotOf x (nI (l + 1)) (nI 0) (nI 0) = some (nI (40 * l + 40)) := fun x => by
    have := Rp_slotOf_eq (σ := x) (l + 1) 0 0
    rw [show ((l + 1) * 8 + 0) * 5 + 0 = 40 * l + 40 by omega] at this
    exact this
  unfold Bk_enterPart
  rw [ld0 (by omega), bd_some, b.bx (by omega)]
  obtain ⟨z, ⟨hz1, hz2, hz3⟩, rec, ez⟩ := lp_invG (β := Int32 × ST) (z0 := (σ, (0 : Int32))) (step := fun rec3 (z2 : ST × Int32) => (if (gF z2.1 530 r) ≤ z2.2 then bd_ (stI z2.1 0 0 (nI l) 0) (fun s5 => bd_ (Rp_slotOf s5 (nI l) 0 0) (fun q6 => lp_ (fun rec8 (z7 : ST × Int32) => bd_ (Rp_slotOf z7.1 (nI l + 1) 0 0) (fun q10 => (if q10 ≤ z7.2 then some (κ (192 + l), z7.1) else bd_ (stI z7.1 6 0 z7.2 0) (fun s11 => rec8 (s11, (z7.2 + 1)))))) FU (s5, q6))) else bd_ (ldI z2.1 5 0 ((z2.2 * 6) + nI l)) (fun v12 => bd_ (ldI z2.1 8 0 z2.2) (fun v13 => bd_ (stI z2.1 5 0 ((z2.2 * 6) + nI l) (v12 + v13)) (fun s14 => rec3 (s14, (z2.2 + 1))))))) (R 0 1) (by omega) (fun p z => z.2 = nI p ∧ FrK (bk 0) σ z.1 ∧ BR z.1 0 R (paV R κ l p)) ⟨rfl, FrK.rf σ, b⟩ (by
    rintro rec p ⟨x, a⟩ hp ⟨ha, fx, bx⟩
    have ha : a = nI p := ha
    subst ha
    have fx : FrK (bk 0) σ x := fx
    have bx : BR x 0 R (paV R κ l p) := bx
    have v8 : x.1 8 0 p = nI (pN R κ l p) := by rw [fx.2 8 0 rfl]; exact h8 p hp
    have bn := bx.w5 (p := p) (l := l) (c := nI (pN R κ l p)) ho (by omega) (by omega)
    refine ⟨(setR x 5 0 (upd (x.1 5 0) (p * 6 + l) (x.1 5 0 (p * 6 + l) + nI (pN R κ l p))), nI (p + 1)), ⟨rfl, fx.tr (fr_bkR x _ rfl), bn⟩, ?_⟩
    simp (disch := omega) only [bd_some, bd_none, lt_eq, lk_eq, fa_lit, nI_add, nI_mul, nI_sub, nle_t, nle_f, nlt_t, nlt_f, neq_t, neq_f, neg_ne, neg_ne', if_true, if_false, ite_true, ite_false, Nat.zero_add, Nat.add_zero, ld0, ld1, ld2, ld3, ld4, ld5, ld6, ld7, ld8, ld9, ld10, ld11, ld12, ld13, ld14, ld15, ld16, ld17, ld18, ld19, ld20, ld21, ld22, ld23, ld24, ld25, ld26, ld27, ld28, ld29, ld30, ld31, ld32, ld33, ld34, ld35, ld36, ld37, ld38, ld39, ld40, ld41, ld42, ld43, ld44, ld45, ld46, ld47, ld48, ld100, ld101, ld102, ld103, ld104, ld105, st0, st1, st2, st3, st4, st5, st6, st7, st8, st9, st10, st11, st12, st13, st14, st15, st16, st17, st18, st19, st20, st21, st22, st23, st24, st25, st26, st27, st28, st29, st30, st31, st32, st33, st34, st35, st36, st37, st38, st39, st40, st41, st42, st43, st44, st45, st46, st47, st48, st100, st101, st102, st103, st104, st105, gF, (c.bb fx).P, v8])
  obtain ⟨x, a⟩ := z
  have ha : a = nI (R 0 1) := hz1
  subst ha
  have fx : FrK (bk 0) σ x := hz2
  have bx : BR x 0 R (paV R κ l (R 0 1)) := hz3
  have b0 := bx.r0 (j := l) (v := nI 0) ho (by omega)
  have f0 := fx.tr (fr_bkR x (upd (x.1 0 0) l (nI 0)) (k := 0) rfl)
  obtain ⟨z, ⟨hz1, hz2, hz3⟩, rec2, ez2⟩ := lp_invG (β := Int32 × ST) (z0 := (setR x 0 0 (upd (x.1 0 0) l (nI 0)), nI (40 * l))) (step := fun rec8 (z7 : ST × Int32) => bd_ (Rp_slotOf z7.1 (nI l + 1) 0 0) (fun q10 => (if q10 ≤ z7.2 then some (κ (192 + l), z7.1) else bd_ (stI z7.1 6 0 z7.2 0) (fun s11 => rec8 (s11, (z7.2 + 1)))))) 40 (by decide) (fun j z => z.2 = nI (40 * l + j) ∧ FrK (bk 0) σ z.1 ∧ BR z.1 0 R (emN (upd (paV R κ l (R 0 1)) (192 + l) (nI 0)) (2364 + 40 * l) j)) ⟨rfl, f0, b0⟩ (by
    rintro rec j ⟨y, a⟩ hj ⟨ha, fy, bY⟩
    have ha : a = nI (40 * l + j) := ha
    subst ha
    have fy : FrK (bk 0) σ y := fy
    have bY : BR y 0 R (emN (upd (paV R κ l (R 0 1)) (192 + l) (nI 0)) (2364 + 40 * l) j) := bY
    have bn := bY.r6 (j := 40 * l + j) (v := nI 0) ho (by omega)
    rw [← Nat.add_assoc] at bn
    refine ⟨(setR y 6 0 (upd (y.1 6 0) (40 * l + j) (nI 0)), nI (40 * l + (j + 1))), ⟨rfl, fy.tr (fr_bkR y _ rfl), bn⟩, ?_⟩
    simp (disch := omega) only [bd_some, bd_none, lt_eq, lk_eq, fa_lit, nI_add, nI_mul, nI_sub, nle_t, nle_f, nlt_t, nlt_f, neq_t, neq_f, neg_ne, neg_ne', if_true, if_false, ite_true, ite_false, Nat.zero_add, Nat.add_zero, ld0, ld1, ld2, ld3, ld4, ld5, ld6, ld7, ld8, ld9, ld10, ld11, ld12, ld13, ld14, ld15, ld16, ld17, ld18, ld19, ld20, ld21, ld22, ld23, ld24, ld25, ld26, ld27, ld28, ld29, ld30, ld31, ld32, ld33, ld34, ld35, ld36, ld37, ld38, ld39, ld40, ld41, ld42, ld43, ld44, ld45, ld46, ld47, ld48, ld100, ld101, ld102, ld103, ld104, ld105, st0, st1, st2, st3, st4, st5, st6, st7, st8, st9, st10, st11, st12, st13, st14, st15, st16, st17, st18, st19, st20, st21, st22, st23, st24, st25, st26, st27, st28, st29, st30, st31, st32, st33, st34, st35, st36, st37, st38, st39, st40, st41, st42, st43, st44, st45, st46, st47, st48, st100, st101, st102, st103, st104, st105, gF, s1]
    rfl)
  obtain ⟨y, a⟩ := z
  have ha : a = nI (40 * l + 40) := hz1
  subst ha
  refine ⟨y, ez.trans ?_, hz2, hz3⟩
  refine (if_pos (by show x.1 530 r 0 ≤ nI (R 0 1); rw [(c.bb fx).P]; exact of_eq_true (nle_t (Nat.le_refl _) (by omega)))).trans ?_
  show bd_ (stI x 0 0 (nI l) (nI 0)) (fun s5 => bd_ (Rp_slotOf s5 (nI l) (nI 0) (nI 0)) _) = _
  rw [st0 (by omega), bd_some, s0, bd_some]
  refine ez2.trans ?_
  simp (disch := omega) only [bd_some, bd_none, lt_eq, lk_eq, fa_lit, nI_add, nI_mul, nI_sub, nle_t, nle_f, nlt_t, nlt_f, neq_t, neq_f, neg_ne, neg_ne', if_true, if_false, ite_true, ite_false, Nat.zero_add, Nat.add_zero, ld0, ld1, ld2, ld3, ld4, ld5, ld6, ld7, ld8, ld9, ld10, ld11, ld12, ld13, ld14, ld15, ld16, ld17, ld18, ld19, ld20, ld21, ld22, ld23, ld24, ld25, ld26, ld27, ld28, ld29, ld30, ld31, ld32, ld33, ld34, ld35, ld36, ld37, ld38, ld39, ld40, ld41, ld42, ld43, ld44, ld45, ld46, ld47, ld48, ld100, ld101, ld102, ld103, ld104, ld105, st0, st1, st2, st3, st4, st5, st6, st7, st8, st9, st10, st11, st12, st13, st14, st15, st16, st17, st18, st19, st20, st21, st22, st23, st24, st25, st26, st27, st28, st29, st30, st31, st32, st33, st34, st35, st36, st37, st38, st39, st40, st41, st42, st43, st44, st45, st46, st47, st48, st100, st101, st102, st103, st104, st105, gF, s1]
theorem Rp_partBox_eq {l : Nat} (q : QO σ) (c : CR σ (σ.2.2 0) R) (b : BR σ 0 R κ) (m : MO R κ) (ho : RO R) (hl : l < R 0 0) (hW : 0 < aN R κ l) : ∃ τ, Rp_partBox σ (nI l) = some (κ (192 + l), τ) ∧ FrK cbd σ τ ∧ BR τ 0 R (ptV R κ l) := by
  have o1 := ho.L
  obtain ⟨t, et, ft, h8⟩ := Bs_reckon_eq c b m ho (show l < 6 by omega) hW
  have ct := c.core (ft.core f8_cor)
  obtain ⟨u, eu, fu, bu⟩ := Bk_enterPart_eq ct (b.f8 ft) ho hl h8
  have fc : FrK cbd σ t := ft.mono (fun k i hk => by
    cases e : f8 k i
    · rfl
    · have h1 := (Bool.or_eq_false_iff.mp hk).1
      have h2 : cor k i = true := by simpa using h1
      rw [f8_cor k i h2] at e
      cases e)
  refine ⟨u, ?_, fc.tr (bk_cbd fu), bu⟩
  unfold Rp_partBox
  have q1 : ldQ σ 0 = some (σ.2.2 0) := if_pos q.1
  rw [q1, bd_some, et, bd_some, q0_cb fc q, bd_some, eu, bd_some]
/-! the reference -/
theorem Mo_parts_eq {l : Nat} (h : MR σ R) (m : MO R (σ.1 34 0)) (ho : RO R) (hl : l < R 0 0) (hW : 0 < aN R (σ.1 34 0) l) : ∃ τ, Mo_parts σ (nI l) = some (σ.1 34 0 (192 + l), τ) ∧ FrK rbd σ τ ∧ τ.1 34 0 = ptV R (σ.1 34 0) l := by
  have o1 := ho.L
  have o2 := ho.P
  have o3 := ho.S
  obtain ⟨t, et, ft, h48⟩ := Mo_laysParts_eq h m ho (show l < 6 by omega) hW
  have mt : MR t R := h.core (ft.core f48_cor)
  have nt : t.1 34 0 = σ.1 34 0 := ft.2 34 0 rfl
  have fc : FrK rbd σ t := ft.mono (fun k i hk => by
    cases e : f48 k i
    · rfl
    · have h1 := (Bool.or_eq_false_iff.mp hk).1
      have h2 : cor k i = true := by simpa using h1
      rw [f48_cor k i h2] at e
      cases e)
  have ms : ∀ f, MR (setR t 34 0 f) R := fun f => mt.s34 f
  have s0 : ∀ x : ST, Mo_lapsedAt x (nI l) (nI 0) (nI 0) = some (nI (2364 + 40 * l)) := fun x => by
    have := Mo_lapsedAt_eq (σ := x) l 0 0
    rw [show 2364 + 5 * (8 * l + 0) + 0 = 2364 + 40 * l by omega] at this
    exact this
  have s1 : ∀ x : ST, Mo_lapsedAt x (nI (l + 1)) (nI 0) (nI 0) = some (nI (2364 + 40 * l + 40)) := fun x => by
    have := Mo_lapsedAt_eq (σ := x) (l + 1) 0 0
    rw [show 2364 + 5 * (8 * (l + 1) + 0) + 0 = 2364 + 40 * l + 40 by omega] at this
    exact this
  generalize hν : σ.1 34 0 = ν at *
  refine ⟨setR t 34 0 (ptV R ν l), ?_, fc.tr (fr_rbR t _), rd_eq⟩
  unfold Mo_parts
  have a1 : ldI σ 34 0 (192 + nI l) = some (ν (192 + l)) := by simp (disch := omega) only [fa_lit, nI_add, ld34, hν]
  rw [a1, bd_some, et, bd_some]
  refine lp_runE (R 0 1) (by omega) (fun p => (setR t 34 0 (paV R ν l p), nI p)) (by show (setR t 34 0 ν, nI 0) = _; rw [← nt, setR_self]; rfl) (fun rec p hp => ?_) (fun rec => ?_)
  · simp (disch := omega) only [bd_some, bd_none, lt_eq, lk_eq, fa_lit, nI_add, nI_mul, nI_sub, nle_t, nle_f, nlt_t, nlt_f, neq_t, neq_f, neg_ne, neg_ne', if_true, if_false, ite_true, ite_false, Nat.zero_add, Nat.add_zero, ld0, ld1, ld2, ld3, ld4, ld5, ld6, ld7, ld8, ld9, ld10, ld11, ld12, ld13, ld14, ld15, ld16, ld17, ld18, ld19, ld20, ld21, ld22, ld23, ld24, ld25, ld26, ld27, ld28, ld29, ld30, ld31, ld32, ld33, ld34, ld35, ld36, ld37, ld38, ld39, ld40, ld41, ld42, ld43, ld44, ld45, ld46, ld47, ld48, ld100, ld101, ld102, ld103, ld104, ld105, gF, (ms _).P, rd_ne, h48 p hp, Mo_pays0_eq, rd_eq, setR_setR]
    rfl
  · simp (disch := omega) only [bd_some, bd_none, lt_eq, lk_eq, fa_lit, nI_add, nI_mul, nI_sub, nle_t, nle_f, nlt_t, nlt_f, neq_t, neq_f, neg_ne, neg_ne', if_true, if_false, ite_true, ite_false, Nat.zero_add, Nat.add_zero, ld0, ld1, ld2, ld3, ld4, ld5, ld6, ld7, ld8, ld9, ld10, ld11, ld12, ld13, ld14, ld15, ld16, ld17, ld18, ld19, ld20, ld21, ld22, ld23, ld24, ld25, ld26, ld27, ld28, ld29, ld30, ld31, ld32, ld33, ld34, ld35, ld36, ld37, ld38, ld39, ld40, ld41, ld42, ld43, ld44, ld45, ld46, ld47, ld48, ld100, ld101, ld102, ld103, ld104, ld105, st0, st1, st2, st3, st4, st5, st6, st7, st8, st9, st10, st11, st12, st13, st14, st15, st16, st17, st18, st19, st20, st21, st22, st23, st24, st25, st26, st27, st28, st29, st30, st31, st32, st33, st34, st35, st36, st37, st38, st39, st40, st41, st42, st43, st44, st45, st46, st47, st48, st100, st101, st102, st103, st104, st105, gF, (ms _).P, rd_eq, setR_setR, s0]
    refine lp_runE 40 (by decide) (fun j => (setR t 34 0 (emN (upd (paV R ν l (R 0 1)) (192 + l) (nI 0)) (2364 + 40 * l) j), nI (2364 + 40 * l + j))) rfl (fun rec2 j hj => ?_) (fun rec2 => ?_)
    · simp (disch := omega) only [bd_some, bd_none, lt_eq, lk_eq, fa_lit, nI_add, nI_mul, nI_sub, nle_t, nle_f, nlt_t, nlt_f, neq_t, neq_f, neg_ne, neg_ne', if_true, if_false, ite_true, ite_false, Nat.zero_add, Nat.add_zero, ld0, ld1, ld2, ld3, ld4, ld5, ld6, ld7, ld8, ld9, ld10, ld11, ld12, ld13, ld14, ld15, ld16, ld17, ld18, ld19, ld20, ld21, ld22, ld23, ld24, ld25, ld26, ld27, ld28, ld29, ld30, ld31, ld32, ld33, ld34, ld35, ld36, ld37, ld38, ld39, ld40, ld41, ld42, ld43, ld44, ld45, ld46, ld47, ld48, ld100, ld101, ld102, ld103, ld104, ld105, st0, st1, st2, st3, st4, st5, st6, st7, st8, st9, st10, st11, st12, st13, st14, st15, st16, st17, st18, st19, st20, st21, st22, st23, st24, st25, st26, st27, st28, st29, st30, st31, st32, st33, st34, st35, st36, st37, st38, st39, st40, st41, st42, st43, st44, st45, st46, st47, st48, st100, st101, st102, st103, st104, st105, gF, s1, rd_eq, setR_setR]
      rfl
    · simp (disch := omega) only [bd_some, bd_none, lt_eq, lk_eq, fa_lit, nI_add, nI_mul, nI_sub, nle_t, nle_f, nlt_t, nlt_f, neq_t, neq_f, neg_ne, neg_ne', if_true, if_false, ite_true, ite_false, Nat.zero_add, Nat.add_zero, ld0, ld1, ld2, ld3, ld4, ld5, ld6, ld7, ld8, ld9, ld10, ld11, ld12, ld13, ld14, ld15, ld16, ld17, ld18, ld19, ld20, ld21, ld22, ld23, ld24, ld25, ld26, ld27, ld28, ld29, ld30, ld31, ld32, ld33, ld34, ld35, ld36, ld37, ld38, ld39, ld40, ld41, ld42, ld43, ld44, ld45, ld46, ld47, ld48, ld100, ld101, ld102, ld103, ld104, ld105, st0, st1, st2, st3, st4, st5, st6, st7, st8, st9, st10, st11, st12, st13, st14, st15, st16, st17, st18, st19, st20, st21, st22, st23, st24, st25, st26, st27, st28, st29, st30, st31, st32, st33, st34, st35, st36, st37, st38, st39, st40, st41, st42, st43, st44, st45, st46, st47, st48, st100, st101, st102, st103, st104, st105, gF, s1]
      rfl
theorem q_part (h : IV σ R) (x : Int32) : QA (Rp_part σ x) (fun τ => Mo_part τ x) := by
  obtain ⟨h1, hc, en⟩ := thr h (nI 0)
  have o1 := h.ro.L
  have o2 := h.ro.P
  have o3 := h.ro.S
  unfold Rp_part Mo_part
  rcases at_or (x := x) (n := R 0 0) (by omega) with ⟨l, hl, rfl⟩ | hx
  rotate_left
  · refine QAf (v := -nI 1) h ?_ ?_ <;> simp (disch := omega) only [bd_some, lt_eq, fa_lit, neq_t, neq_f, if_true, if_false, ite_true, ite_false, Rp_isLand_t h, Mo_isLand_t h1.mr h1.ro, Rp_isPlayer_t h, Mo_isPlayer_t h1.mr h1.ro, Rp_isSession_t h, Mo_isSession_t h1.mr h1.ro, Rp_isSeat_t h, Mo_isSeat_t h1.mr h1.ro, Rp_isChoice_t, Mo_isRole_t, h.q0, h.cr.L, h.cr.P, h.cr.S, h.cr.kp, h.cr.ld, h1.mr.L, h1.mr.P, h1.mr.S, h1.mr.kp, h1.mr.ld, en, Rp_partBar, Rp_isLand_f h hx, Mo_isLand_f h1.mr hx, neg_ne, neg_ne']
  have pb := Rp_partBar_eq h.q0 h.cr h.br h.mo h.ro hl
  have pm := Mo_whyNoPart_eq h1.mr h1.mo h1.ro (show l < 6 by omega)
  rw [en] at pm
  rcases prB_or (R := R) (κ := σ.1 34 0) l with e | e | e
  rotate_left
  · refine QAf (v := -nI 2) h ?_ ?_ <;> simp (disch := omega) only [bd_some, lt_eq, fa_lit, neq_t, neq_f, if_true, if_false, ite_true, ite_false, Rp_isLand_t h, Mo_isLand_t h1.mr h1.ro, Rp_isPlayer_t h, Mo_isPlayer_t h1.mr h1.ro, Rp_isSession_t h, Mo_isSession_t h1.mr h1.ro, Rp_isSeat_t h, Mo_isSeat_t h1.mr h1.ro, Rp_isChoice_t, Mo_isRole_t, h.q0, h.cr.L, h.cr.P, h.cr.S, h.cr.kp, h.cr.ld, h1.mr.L, h1.mr.P, h1.mr.S, h1.mr.kp, h1.mr.ld, en, pb, pm, e, neg_ge0, neg_ne, neg_ne']
  · refine QAf (v := -nI 3) h ?_ ?_ <;> simp (disch := omega) only [bd_some, lt_eq, fa_lit, neq_t, neq_f, if_true, if_false, ite_true, ite_false, Rp_isLand_t h, Mo_isLand_t h1.mr h1.ro, Rp_isPlayer_t h, Mo_isPlayer_t h1.mr h1.ro, Rp_isSession_t h, Mo_isSession_t h1.mr h1.ro, Rp_isSeat_t h, Mo_isSeat_t h1.mr h1.ro, Rp_isChoice_t, Mo_isRole_t, h.q0, h.cr.L, h.cr.P, h.cr.S, h.cr.kp, h.cr.ld, h1.mr.L, h1.mr.P, h1.mr.S, h1.mr.kp, h1.mr.ld, en, pb, pm, e, neg_ge0, neg_ne, neg_ne']
  have hW := prB_0 e
  have hvn := h.vo
  obtain ⟨σ1, e1, j1, b1⟩ := act h
  obtain ⟨σ2, e2, f2, b2⟩ := Rp_partBox_eq j1.qo j1.cr b1 h.mo h.ro hl hW
  have j2 := j1.cb f2
  obtain ⟨τ, e3, k3⟩ := keeps_of j2.t b2.t
  have i2 : MR (setF σ2 840 0 (nI 0)) R := j2.t.2.1
  have n2 : (setF σ2 840 0 (nI 0)).1 34 0 = σ.1 34 0 := j2.t.2.2.2.2.2.1
  have wm := Mo_whyNoPart_eq i2 (by rw [n2]; exact h.mo) h.ro (show l < 6 by omega)
  rw [n2, e] at wm
  obtain ⟨υ, e4, f4, n4⟩ := Mo_parts_eq (σ := τ) k3.mr (by rw [k3.n]; exact h.mo) h.ro hl (by rw [k3.n]; exact hW)
  rw [k3.n] at e4 n4
  refine ⟨σ.1 34 0 (192 + l), σ2, υ, R, ?_, ?_, k3.fin f4 n4 (ptV_vo h.ro hvn hl hW)⟩
  · simp (disch := omega) only [bd_some, lt_eq, fa_lit, neq_t, neq_f, if_true, if_false, ite_true, ite_false, pb, e, e1, e2]
  · simp (disch := omega) only [bd_some, lt_eq, fa_lit, neq_t, neq_f, if_true, if_false, ite_true, ite_false, Mo_isLand_t i2 h.ro, wm, nle_t, e3, e4]
def paL (R : RT) (ν : NU) : Nat → NU × Int32
  | 0 => (ν, nI 0)
  | l + 1 => if prB R (paL R ν l).1 l = nI 0 then (ptV R (paL R ν l).1 l, (paL R ν l).2 + (paL R ν l).1 (192 + l)) else paL R ν l
theorem paL_vo (ho : RO R) (hv : VO R ν) : ∀ {l : Nat}, l ≤ R 0 0 → VO R (paL R ν l).1
  | 0, _ => hv
  | l + 1, hl => by
    have ih := paL_vo ho hv (l := l) (by omega)
    unfold paL
    split
    · rename_i e
      exact ptV_vo ho ih (by omega) (prB_0 e)
    · exact ih
theorem q_partAll (h : IV σ R) : QA (Rp_partAll σ) (fun τ => Mo_partAll τ) := by
  obtain ⟨h1, hc, en⟩ := thr h (nI 0)
  have o1 := h.ro.L
  have hvn := h.vo
  have hvL := fun l (hl : l ≤ R 0 0) => paL_vo h.ro hvn hl
  generalize hp : (fun l => decide (prB R (σ.1 34 0) l = nI 0)) = pr
  have hp2 : ∀ l, (prB R (σ.1 34 0) l = nI 0) = (pr l = true) := fun k => by rw [← hp]; simp
  have pb := fun l (hl : l < R 0 0) => Rp_partBar_eq h.q0 h.cr h.br h.mo h.ro hl
  have cl := fb_ct_le pr (R 0 0)
  have cls : ∀ K : Int32 → Option (Int32 × ST), lp_ (fun rec2 (z1 : Int32 × Int32) => bd_ (ldQ σ 0) (fun rr4 => (if (gF σ 529 rr4) ≤ z1.2 then K z1.1 else (if z1.1 = 0 then bd_ (Rp_partBar (σ) z1.2) (fun q13 => (if q13 = 0 then rec2 (1, (z1.2 + 1)) else rec2 (0, (z1.2 + 1)))) else rec2 (1, (z1.2 + 1)))))) FU (0, 0) = K (b01 (decide (¬ fb_ct pr (R 0 0) = 0))) := by
    intro K
    refine lp_runE (R 0 0) (by omega) (fun k => (b01 (decide (¬ fb_ct pr k = 0)), nI k)) rfl (fun rec k hk => ?_) (fun rec => ?_)
    · simp (disch := omega) only [bd_some, bd_none, lt_eq, lk_eq, fa_lit, nI_add, nI_mul, nI_sub, nle_t, nle_f, nlt_t, nlt_f, neq_t, neq_f, neg_ne, neg_ne', if_true, if_false, ite_true, ite_false, Nat.zero_add, Nat.add_zero, ld0, ld1, ld2, ld3, ld4, ld5, ld6, ld7, ld8, ld9, ld10, ld11, ld12, ld13, ld14, ld15, ld16, ld17, ld18, ld19, ld20, ld21, ld22, ld23, ld24, ld25, ld26, ld27, ld28, ld29, ld30, ld31, ld32, ld33, ld34, ld35, ld36, ld37, ld38, ld39, ld40, ld41, ld42, ld43, ld44, ld45, ld46, ld47, ld48, ld100, ld101, ld102, ld103, ld104, ld105, gF, h.q0, h.cr.L, pb k hk, hp2, fb_ct_succ]
      by_cases c1 : fb_ct pr k = 0 <;> by_cases c2 : pr k = true <;> simp [c1, c2, b01, n10]
    · simp (disch := omega) only [bd_some, bd_none, lt_eq, lk_eq, fa_lit, nI_add, nI_mul, nI_sub, nle_t, nle_f, nlt_t, nlt_f, neq_t, neq_f, neg_ne, neg_ne', if_true, if_false, ite_true, ite_false, Nat.zero_add, Nat.add_zero, ld0, ld1, ld2, ld3, ld4, ld5, ld6, ld7, ld8, ld9, ld10, ld11, ld12, ld13, ld14, ld15, ld16, ld17, ld18, ld19, ld20, ld21, ld22, ld23, ld24, ld25, ld26, ld27, ld28, ld29, ld30, ld31, ld32, ld33, ld34, ld35, ld36, ld37, ld38, ld39, ld40, ld41, ld42, ld43, ld44, ld45, ld46, ld47, ld48, ld100, ld101, ld102, ld103, ld104, ld105, gF, h.q0, h.cr.L]
  have refl' : ∀ (s : ST) (K : Int32 → Option (Int32 × ST)), MR s R → s.1 34 0 = σ.1 34 0 → lp_ (fun rec3 (z2 : Int32 × Int32) => (if (gF s 850 0) ≤ z2.2 then K z2.1 else bd_ (Mo_whyNoPart s z2.2) (fun q13 => (if q13 = 0 then lt_ ((z2.1 + 1)) (fun x15 => rec3 (x15, (z2.2 + 1))) else lt_ ((z2.1 + 0)) (fun x14 => rec3 (x14, (z2.2 + 1))))))) FU (0, 0) = K (nI (fb_ct pr (R 0 0))) := by
    intro s K ms ns
    refine lp_runE (R 0 0) (by omega) (fun k => (nI (fb_ct pr k), nI k)) rfl (fun rec k hk => ?_) (fun rec => ?_)
    · have wm := Mo_whyNoPart_eq ms (by rw [ns]; exact h.mo) h.ro (show k < 6 by omega)
      rw [ns] at wm
      simp (disch := omega) only [bd_some, bd_none, lt_eq, lk_eq, fa_lit, nI_add, nI_mul, nI_sub, nle_t, nle_f, nlt_t, nlt_f, neq_t, neq_f, neg_ne, neg_ne', if_true, if_false, ite_true, ite_false, Nat.zero_add, Nat.add_zero, ld0, ld1, ld2, ld3, ld4, ld5, ld6, ld7, ld8, ld9, ld10, ld11, ld12, ld13, ld14, ld15, ld16, ld17, ld18, ld19, ld20, ld21, ld22, ld23, ld24, ld25, ld26, ld27, ld28, ld29, ld30, ld31, ld32, ld33, ld34, ld35, ld36, ld37, ld38, ld39, ld40, ld41, ld42, ld43, ld44, ld45, ld46, ld47, ld48, ld100, ld101, ld102, ld103, ld104, ld105, gF, ms.L, wm, hp2, fb_ct_succ]
      by_cases c2 : pr k = true <;> simp [c2]
    · simp (disch := omega) only [bd_some, bd_none, lt_eq, lk_eq, fa_lit, nI_add, nI_mul, nI_sub, nle_t, nle_f, nlt_t, nlt_f, neq_t, neq_f, neg_ne, neg_ne', if_true, if_false, ite_true, ite_false, Nat.zero_add, Nat.add_zero, ld0, ld1, ld2, ld3, ld4, ld5, ld6, ld7, ld8, ld9, ld10, ld11, ld12, ld13, ld14, ld15, ld16, ld17, ld18, ld19, ld20, ld21, ld22, ld23, ld24, ld25, ld26, ld27, ld28, ld29, ld30, ld31, ld32, ld33, ld34, ld35, ld36, ld37, ld38, ld39, ld40, ld41, ld42, ld43, ld44, ld45, ld46, ld47, ld48, ld100, ld101, ld102, ld103, ld104, ld105, gF, ms.L]
  unfold Rp_partAll Mo_partAll
  by_cases c0 : fb_ct pr (R 0 0) = 0
  · refine QAf (v := -nI 2) h ?_ ?_
    · refine (cls (fun v => if v = 0 then some ((-2), σ) else _)).trans ?_
      exact if_pos (show b01 (decide (¬ fb_ct pr (R 0 0) = 0)) = 0 by rw [c0]; decide)
    · show lt_ (setF σ 840 0 (nI 0)) _ = _
      rw [lt_eq]
      refine (refl' (setF σ 840 0 (nI 0)) (fun v => if v = 0 then some ((-2), setF σ 840 0 (nI 0)) else _) h1.mr en).trans ?_
      exact if_pos (show nI (fb_ct pr (R 0 0)) = 0 by rw [c0]; decide)
  obtain ⟨σ1, e1, j1, b1⟩ := act h
  have lpc : ∃ τ, lp_ (fun rec7 (z6 : ST × Int32 × Int32) => bd_ (ldQ z6.1 0) (fun rr9 => (if (gF z6.1 529 rr9) ≤ z6.2.2 then some (z6.2.1, z6.1) else bd_ (Rp_partBar z6.1 z6.2.2) (fun q10 => (if q10 = 0 then bd_ (Rp_partBox z6.1 z6.2.2) (fun q11 => lt_ ((z6.2.1 + q11.1)) (fun x12 => rec7 (q11.2, x12, (z6.2.2 + 1)))) else rec7 (z6.1, z6.2.1, (z6.2.2 + 1))))))) FU (σ1, 0, 0) = some ((paL R (σ.1 34 0) (R 0 0)).2, τ) ∧ FrK cbd σ1 τ ∧ BR τ 0 R (paL R (σ.1 34 0) (R 0 0)).1 := by
    obtain ⟨z, ⟨hz1, hz2, hz3⟩, rec, ez⟩ := lp_invG (β := Int32 × ST) (z0 := (σ1, (0 : Int32), (0 : Int32))) (step := fun rec7 (z6 : ST × Int32 × Int32) => bd_ (ldQ z6.1 0) (fun rr9 => (if (gF z6.1 529 rr9) ≤ z6.2.2 then some (z6.2.1, z6.1) else bd_ (Rp_partBar z6.1 z6.2.2) (fun q10 => (if q10 = 0 then bd_ (Rp_partBox z6.1 z6.2.2) (fun q11 => lt_ ((z6.2.1 + q11.1)) (fun x12 => rec7 (q11.2, x12, (z6.2.2 + 1)))) else rec7 (z6.1, z6.2.1, (z6.2.2 + 1))))))) (R 0 0) (by omega) (fun l z => FrK cbd σ1 z.1 ∧ BR z.1 0 R (paL R (σ.1 34 0) l).1 ∧ z.2 = ((paL R (σ.1 34 0) l).2, nI l)) ⟨FrK.rf σ1, b1, rfl⟩ (by
      rintro rec l ⟨x, a⟩ hl ⟨fx, bx, ha⟩
      have ha : a = _ := ha
      subst ha
      have fx : FrK cbd σ1 x := fx
      have bx : BR x 0 R (paL R (σ.1 34 0) l).1 := bx
      have vl := hvL l (by omega)
      have jx := j1.cb fx
      have pbx := Rp_partBar_eq jx.q0 jx.cr bx vl.2.2.1 h.ro hl
      have rn : paL R (σ.1 34 0) (l + 1) = if prB R (paL R (σ.1 34 0) l).1 l = nI 0 then (ptV R (paL R (σ.1 34 0) l).1 l, (paL R (σ.1 34 0) l).2 + (paL R (σ.1 34 0) l).1 (192 + l)) else paL R (σ.1 34 0) l := rfl
      rw [rn]
      by_cases e : prB R (paL R (σ.1 34 0) l).1 l = nI 0
      · obtain ⟨y, ey, fy, bY⟩ := Rp_partBox_eq jx.qo jx.cr bx vl.2.2.1 h.ro hl (prB_0 e)
        rw [if_pos e]
        refine ⟨(y, (paL R (σ.1 34 0) l).2 + (paL R (σ.1 34 0) l).1 (192 + l), nI (l + 1)), ⟨fx.tr fy, bY, rfl⟩, ?_⟩
        simp (disch := omega) only [bd_some, bd_none, lt_eq, lk_eq, fa_lit, nI_add, nI_mul, nI_sub, nle_t, nle_f, nlt_t, nlt_f, neq_t, neq_f, neg_ne, neg_ne', if_true, if_false, ite_true, ite_false, Nat.zero_add, Nat.add_zero, ld0, ld1, ld2, ld3, ld4, ld5, ld6, ld7, ld8, ld9, ld10, ld11, ld12, ld13, ld14, ld15, ld16, ld17, ld18, ld19, ld20, ld21, ld22, ld23, ld24, ld25, ld26, ld27, ld28, ld29, ld30, ld31, ld32, ld33, ld34, ld35, ld36, ld37, ld38, ld39, ld40, ld41, ld42, ld43, ld44, ld45, ld46, ld47, ld48, ld100, ld101, ld102, ld103, ld104, ld105, gF, jx.q0, jx.cr.L, pbx, e, ey]
      · rw [if_neg e]
        refine ⟨(x, (paL R (σ.1 34 0) l).2, nI (l + 1)), ⟨fx, bx, rfl⟩, ?_⟩
        simp (disch := omega) only [bd_some, bd_none, lt_eq, lk_eq, fa_lit, nI_add, nI_mul, nI_sub, nle_t, nle_f, nlt_t, nlt_f, neq_t, neq_f, neg_ne, neg_ne', if_true, if_false, ite_true, ite_false, Nat.zero_add, Nat.add_zero, ld0, ld1, ld2, ld3, ld4, ld5, ld6, ld7, ld8, ld9, ld10, ld11, ld12, ld13, ld14, ld15, ld16, ld17, ld18, ld19, ld20, ld21, ld22, ld23, ld24, ld25, ld26, ld27, ld28, ld29, ld30, ld31, ld32, ld33, ld34, ld35, ld36, ld37, ld38, ld39, ld40, ld41, ld42, ld43, ld44, ld45, ld46, ld47, ld48, ld100, ld101, ld102, ld103, ld104, ld105, gF, jx.q0, jx.cr.L, pbx, e])
    obtain ⟨x, a⟩ := z
    have hz3 : a = _ := hz3
    subst hz3
    have fx : FrK cbd σ1 x := hz1
    have jx := j1.cb fx
    refine ⟨x, ez.trans ?_, fx, hz2⟩
    simp (disch := omega) only [bd_some, bd_none, lt_eq, lk_eq, fa_lit, nI_add, nI_mul, nI_sub, nle_t, nle_f, nlt_t, nlt_f, neq_t, neq_f, neg_ne, neg_ne', if_true, if_false, ite_true, ite_false, Nat.zero_add, Nat.add_zero, ld0, ld1, ld2, ld3, ld4, ld5, ld6, ld7, ld8, ld9, ld10, ld11, ld12, ld13, ld14, ld15, ld16, ld17, ld18, ld19, ld20, ld21, ld22, ld23, ld24, ld25, ld26, ld27, ld28, ld29, ld30, ld31, ld32, ld33, ld34, ld35, ld36, ld37, ld38, ld39, ld40, ld41, ld42, ld43, ld44, ld45, ld46, ld47, ld48, ld100, ld101, ld102, ld103, ld104, ld105, gF, jx.q0, jx.cr.L]
  obtain ⟨σ2, e2, f2, b2⟩ := lpc
  have j2 := j1.cb f2
  obtain ⟨τ, e3, k3⟩ := keeps_of j2.t b2.t
  have i2 : MR (setF σ2 840 0 (nI 0)) R := j2.t.2.1
  have n2 : (setF σ2 840 0 (nI 0)).1 34 0 = σ.1 34 0 := j2.t.2.2.2.2.2.1
  have lpr : ∃ υ, lp_ (fun rec7 (z6 : ST × Int32 × Int32) => (if (gF z6.1 850 0) ≤ z6.2.2 then some (z6.2.1, z6.1) else bd_ (Mo_whyNoPart z6.1 z6.2.2) (fun q9 => (if q9 = 0 then bd_ (Mo_parts z6.1 z6.2.2) (fun q11 => lt_ ((z6.2.1 + q11.1)) (fun x12 => rec7 (q11.2, x12, (z6.2.2 + 1)))) else lt_ ((z6.2.1 + 0)) (fun x10 => rec7 (z6.1, x10, (z6.2.2 + 1))))))) FU (τ, 0, 0) = some ((paL R (σ.1 34 0) (R 0 0)).2, υ) ∧ FrK rbd τ υ ∧ υ.1 34 0 = (paL R (σ.1 34 0) (R 0 0)).1 := by
    obtain ⟨z, ⟨hz1, hz2, hz3⟩, rec, ez⟩ := lp_invG (β := Int32 × ST) (z0 := (τ, (0 : Int32), (0 : Int32))) (step := fun rec7 (z6 : ST × Int32 × Int32) => (if (gF z6.1 850 0) ≤ z6.2.2 then some (z6.2.1, z6.1) else bd_ (Mo_whyNoPart z6.1 z6.2.2) (fun q9 => (if q9 = 0 then bd_ (Mo_parts z6.1 z6.2.2) (fun q11 => lt_ ((z6.2.1 + q11.1)) (fun x12 => rec7 (q11.2, x12, (z6.2.2 + 1)))) else lt_ ((z6.2.1 + 0)) (fun x10 => rec7 (z6.1, x10, (z6.2.2 + 1))))))) (R 0 0) (by omega) (fun l z => FrK rbd τ z.1 ∧ z.1.1 34 0 = (paL R (σ.1 34 0) l).1 ∧ z.2 = ((paL R (σ.1 34 0) l).2, nI l)) ⟨FrK.rf τ, k3.n, rfl⟩ (by
      rintro rec l ⟨x, a⟩ hl ⟨fx, bx, ha⟩
      have ha : a = _ := ha
      subst ha
      have fx : FrK rbd τ x := fx
      have bx : x.1 34 0 = (paL R (σ.1 34 0) l).1 := bx
      have vl := hvL l (by omega)
      have mx := k3.mr.rb fx
      have pmx := Mo_whyNoPart_eq mx (by rw [bx]; exact vl.2.2.1) h.ro (show l < 6 by omega)
      rw [bx] at pmx
      have rn : paL R (σ.1 34 0) (l + 1) = if prB R (paL R (σ.1 34 0) l).1 l = nI 0 then (ptV R (paL R (σ.1 34 0) l).1 l, (paL R (σ.1 34 0) l).2 + (paL R (σ.1 34 0) l).1 (192 + l)) else paL R (σ.1 34 0) l := rfl
      rw [rn]
      by_cases e : prB R (paL R (σ.1 34 0) l).1 l = nI 0
      · obtain ⟨y, ey, fy, ny⟩ := Mo_parts_eq (σ := x) (l := l) mx (by rw [bx]; exact vl.2.2.1) h.ro hl (by rw [bx]; exact prB_0 e)
        rw [bx] at ey ny
        rw [if_pos e]
        refine ⟨(y, (paL R (σ.1 34 0) l).2 + (paL R (σ.1 34 0) l).1 (192 + l), nI (l + 1)), ⟨fx.tr fy, ny, rfl⟩, ?_⟩
        simp (disch := omega) only [bd_some, bd_none, lt_eq, lk_eq, fa_lit, nI_add, nI_mul, nI_sub, nle_t, nle_f, nlt_t, nlt_f, neq_t, neq_f, neg_ne, neg_ne', if_true, if_false, ite_true, ite_false, Nat.zero_add, Nat.add_zero, ld0, ld1, ld2, ld3, ld4, ld5, ld6, ld7, ld8, ld9, ld10, ld11, ld12, ld13, ld14, ld15, ld16, ld17, ld18, ld19, ld20, ld21, ld22, ld23, ld24, ld25, ld26, ld27, ld28, ld29, ld30, ld31, ld32, ld33, ld34, ld35, ld36, ld37, ld38, ld39, ld40, ld41, ld42, ld43, ld44, ld45, ld46, ld47, ld48, ld100, ld101, ld102, ld103, ld104, ld105, gF, mx.L, pmx, e, ey]
      · rw [if_neg e]
        refine ⟨(x, (paL R (σ.1 34 0) l).2, nI (l + 1)), ⟨fx, bx, rfl⟩, ?_⟩
        simp (disch := omega) only [bd_some, bd_none, lt_eq, lk_eq, fa_lit, nI_add, nI_mul, nI_sub, nle_t, nle_f, nlt_t, nlt_f, neq_t, neq_f, neg_ne, neg_ne', if_true, if_false, ite_true, ite_false, Nat.zero_add, Nat.add_zero, ld0, ld1, ld2, ld3, ld4, ld5, ld6, ld7, ld8, ld9, ld10, ld11, ld12, ld13, ld14, ld15, ld16, ld17, ld18, ld19, ld20, ld21, ld22, ld23, ld24, ld25, ld26, ld27, ld28, ld29, ld30, ld31, ld32, ld33, ld34, ld35, ld36, ld37, ld38, ld39, ld40, ld41, ld42, ld43, ld44, ld45, ld46, ld47, ld48, ld100, ld101, ld102, ld103, ld104, ld105, gF, mx.L, pmx, e, add_n0])
    obtain ⟨x, a⟩ := z
    have hz3 : a = _ := hz3
    subst hz3
    have fx : FrK rbd τ x := hz1
    have mx := k3.mr.rb fx
    refine ⟨x, ez.trans ?_, fx, hz2⟩
    simp (disch := omega) only [bd_some, bd_none, lt_eq, lk_eq, fa_lit, nI_add, nI_mul, nI_sub, nle_t, nle_f, nlt_t, nlt_f, neq_t, neq_f, neg_ne, neg_ne', if_true, if_false, ite_true, ite_false, Nat.zero_add, Nat.add_zero, ld0, ld1, ld2, ld3, ld4, ld5, ld6, ld7, ld8, ld9, ld10, ld11, ld12, ld13, ld14, ld15, ld16, ld17, ld18, ld19, ld20, ld21, ld22, ld23, ld24, ld25, ld26, ld27, ld28, ld29, ld30, ld31, ld32, ld33, ld34, ld35, ld36, ld37, ld38, ld39, ld40, ld41, ld42, ld43, ld44, ld45, ld46, ld47, ld48, ld100, ld101, ld102, ld103, ld104, ld105, gF, mx.L]
  obtain ⟨υ, e4, f4, n4⟩ := lpr
  refine ⟨(paL R (σ.1 34 0) (R 0 0)).2, σ2, υ, R, ?_, ?_, k3.fin f4 n4 (hvL _ (Nat.le_refl _))⟩
  · refine (cls (fun v => if v = 0 then some ((-2), σ) else bd_ (Hi_remember (σ) 0) (fun q5 => lp_ (fun rec7 (z6 : ST × Int32 × Int32) => bd_ (ldQ z6.1 0) (fun rr9 => (if (gF z6.1 529 rr9) ≤ z6.2.2 then some (z6.2.1, z6.1) else bd_ (Rp_partBar z6.1 z6.2.2) (fun q10 => (if q10 = 0 then bd_ (Rp_partBox z6.1 z6.2.2) (fun q11 => lt_ ((z6.2.1 + q11.1)) (fun x12 => rec7 (q11.2, x12, (z6.2.2 + 1)))) else rec7 (z6.1, z6.2.1, (z6.2.2 + 1))))))) FU (q5, 0, 0)))).trans ?_
    simp only [c0, not_false_eq_true, decide_true, b01, if_true]
    rw [if_neg (show ¬ nI 1 = 0 by decide), e1, bd_some]
    exact e2
  · show lt_ (setF σ2 840 0 (nI 0)) _ = _
    rw [lt_eq]
    refine (refl' (setF σ2 840 0 (nI 0)) (fun v => if v = 0 then some ((-2), setF σ2 840 0 (nI 0)) else bd_ (Mo_keeps (setF σ2 840 0 (nI 0))) (fun q5 => lp_ (fun rec7 (z6 : ST × Int32 × Int32) => (if (gF z6.1 850 0) ≤ z6.2.2 then some (z6.2.1, z6.1) else bd_ (Mo_whyNoPart z6.1 z6.2.2) (fun q9 => (if q9 = 0 then bd_ (Mo_parts z6.1 z6.2.2) (fun q11 => lt_ ((z6.2.1 + q11.1)) (fun x12 => rec7 (q11.2, x12, (z6.2.2 + 1)))) else lt_ ((z6.2.1 + 0)) (fun x10 => rec7 (z6.1, x10, (z6.2.2 + 1))))))) FU (q5, 0, 0))) i2 n2).trans ?_
    show (if nI (fb_ct pr (R 0 0)) = 0 then _ else _) = _
    rw [if_neg (show ¬ nI (fb_ct pr (R 0 0)) = (0 : Int32) from fun z => c0 ((nI_eq (by omega) (by decide)).mp z)), e3, bd_some]
    exact e4
end Part3

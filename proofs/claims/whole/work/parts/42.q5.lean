/-! ===== queries: statements, all money, claims ===== -/
section Q5
variable {σ : ST} {R : RT} {ν : NU}
theorem sI_int {g : Nat → Int32} : ∀ {n : Nat}, (∀ k, k < n → 0 ≤ (g k).toInt) → fb_si (fun k => (g k).toInt) n < 2147483648 → (sI g n).toInt = fb_si (fun k => (g k).toInt) n ∧ 0 ≤ fb_si (fun k => (g k).toInt) n
  | 0, _, _ => ⟨show (0 : Int32).toInt = 0 by decide, Int.le_refl 0⟩
  | n + 1, h, hb => by
    rw [fb_si_succ] at hb
    have h0 := h n (by omega)
    obtain ⟨i1, i2⟩ := sI_int (n := n) (fun k hk => h k (by omega)) (by omega)
    rw [sI_succ, fb_si_succ, fb_addI (by omega) (by omega), i1]
    omega
theorem si_part {f : Nat → Int} : ∀ {n : Nat}, (∀ k, k < n → 0 ≤ f k) → 0 ≤ fb_si f n ∧ ∀ i, i < n → f i ≤ fb_si f n
  | 0, _ => ⟨Int.le_refl 0, fun i h => absurd h (Nat.not_lt_zero i)⟩
  | n + 1, h => by
    obtain ⟨i1, i2⟩ := si_part (n := n) (fun k hk => h k (by omega))
    have h0 := h n (by omega)
    rw [fb_si_succ]
    refine ⟨by omega, fun i hi => ?_⟩
    by_cases e : i = n
    · subst e; omega
    · have := i2 i (by omega)
      omega
theorem si_seg {f : Nat → Int} {n a m : Nat} (h : ∀ k, k < n → 0 ≤ f k) (hm : a + m ≤ n) : fb_si (fun k => f (a + k)) m ≤ fb_si f n := by
  obtain ⟨d, rfl⟩ : ∃ d, n = a + m + d := ⟨n - (a + m), by omega⟩
  rw [fb_si_split f (a + m) d, fb_si_split f a m]
  have h1 := (si_part (f := f) (n := a) (fun k hk => h k (by omega))).1
  have h2 := (si_part (f := fun k => f (a + m + k)) (n := d) (fun k hk => h _ (by omega))).1
  omega
theorem si_le {f g : Nat → Int} : ∀ {n : Nat}, (∀ k, k < n → f k ≤ g k) → fb_si f n ≤ fb_si g n
  | 0, _ => Int.le_refl _
  | n + 1, h => by
    have := si_le (n := n) (fun k hk => h k (by omega))
    have h0 := h n (by omega)
    rw [fb_si_succ, fb_si_succ]
    omega
/-- what MO says of a land: nothing of it is below 0 or above its money -/
theorem MO.n0 (m : MO R ν) {j : Nat} (hj : j < 2604) : 0 ≤ (ν j).toInt := m.1 j hj
theorem MO.land (m : MO R ν) {l : Nat} (hl : l < 6) : 0 ≤ fb_si (fun p => mI ν (6 * p + l)) 16 ∧ 0 ≤ fb_si (fun j => mI ν (204 + 360 * l + j)) 360 ∧ 0 ≤ mI ν (192 + l) ∧ fb_si (fun p => mI ν (6 * p + l)) 16 + fb_si (fun j => mI ν (204 + 360 * l + j)) 360 + mI ν (192 + l) ≤ 300000000 := by
  obtain ⟨a1, a2, a3⟩ := m.2.1 l hl
  refine ⟨(si_part (fun k hk => m.1 _ (by omega))).1, (si_part (fun k hk => m.1 _ (by omega))).1, m.1 _ (by omega), by omega⟩
theorem MO.paid (m : MO R ν) {p l : Nat} (hp : p < 16) (hl : l < 6) : (ν (6 * p + l)).toInt ≤ fb_si (fun p => mI ν (6 * p + l)) 16 := (si_part (f := fun p => mI ν (6 * p + l)) (n := 16) (fun k hk => m.1 _ (by omega))).2 p hp
theorem MO.kept (m : MO R ν) {l s t : Nat} (hl : l < 6) (hs : s < 8) (ht : t < 5) : (keptP ν l s t).toInt = fb_si (fun a => mI ν (204 + 9 * (5 * (8 * l + s) + t) + a)) 9 ∧ 0 ≤ (keptP ν l s t).toInt ∧ (keptP ν l s t).toInt ≤ fb_si (fun j => mI ν (204 + 360 * l + j)) 360 := by
  have h1 := m.land hl
  have h2 := si_seg (f := fun j => mI ν (204 + 360 * l + j)) (n := 360) (a := 9 * (5 * s + t)) (m := 9) (fun k hk => m.1 _ (by omega)) (by omega)
  have e : (fun k => mI ν (204 + 360 * l + (9 * (5 * s + t) + k))) = fun a => mI ν (204 + 9 * (5 * (8 * l + s) + t) + a) := funext fun a => by congr 1; omega
  rw [e] at h2
  have h3 := sI_int (g := fun a => ν (204 + 9 * (5 * (8 * l + s) + t) + a)) (n := 9) (fun k hk => m.1 _ (by omega)) (Int.lt_of_le_of_lt h2 (by omega))
  unfold keptP
  exact ⟨h3.1, by rw [h3.1]; exact h3.2, by rw [h3.1]; exact h2⟩
theorem MO.laps (m : MO R ν) {l s t : Nat} (hl : l < 6) (hs : s < 8) (ht : t < 5) : 0 ≤ (ν (2364 + 5 * (8 * l + s) + t)).toInt ∧ (ν (2364 + 5 * (8 * l + s) + t)).toInt ≤ mI ν (192 + l) := by
  have h1 := m.2.1 l hl
  have h2 := (si_part (f := fun j => mI ν (2364 + 40 * l + j)) (n := 40) (fun k hk => m.1 _ (by omega))).2 (5 * s + t) (by omega)
  have e : 2364 + 40 * l + (5 * s + t) = 2364 + 5 * (8 * l + s) + t := by omega
  simp only [e] at h2
  refine ⟨m.1 _ (by omega), ?_⟩
  have : (ν (2364 + 5 * (8 * l + s) + t)).toInt = mI ν (2364 + 5 * (8 * l + s) + t) := rfl
  omega
theorem MO.claim (m : MO R ν) {l s t : Nat} (hl : l < 6) (hs : s < 8) (ht : t < 5) : (keptP ν l s t + ν (2364 + 5 * (8 * l + s) + t)).toInt = (keptP ν l s t).toInt + (ν (2364 + 5 * (8 * l + s) + t)).toInt ∧ 0 ≤ (keptP ν l s t).toInt + (ν (2364 + 5 * (8 * l + s) + t)).toInt ∧ (keptP ν l s t).toInt + (ν (2364 + 5 * (8 * l + s) + t)).toInt ≤ 300000000 := by
  have h1 := m.land hl
  have h2 := m.kept hl hs ht
  have h3 := m.laps hl hs ht
  refine ⟨fb_addI (by omega) (by omega), by omega, by omega⟩
theorem worth_nn (m : MO R ν) (ho : RO R) {d s t : Nat} (hs : s < 8) (ht : t < 5) : 0 ≤ (worthP R ν d s t).toInt := by
  have o1 := ho.L
  have key : ∀ k, k < R 0 0 → 0 ≤ (if pay ν k d 1 then keptP ν k s t + ν (2364 + 5 * (8 * k + s) + t) else nI 0).toInt ∧ (if pay ν k d 1 then keptP ν k s t + ν (2364 + 5 * (8 * k + s) + t) else nI 0).toInt ≤ 300000000 := by
    intro k hk
    have h1 := m.claim (show k < 6 by omega) hs ht
    split
    · omega
    · decide
  unfold worthP
  generalize hg : (fun l => if pay ν l d 1 then keptP ν l s t + ν (2364 + 5 * (8 * l + s) + t) else nI 0) = g
  have key2 : ∀ k, k < R 0 0 → 0 ≤ (g k).toInt ∧ (g k).toInt ≤ 300000000 := by
    intro k hk
    rw [← hg]
    exact key k hk
  have hb := (fb_si_bound (f := fun k => (g k).toInt) (c := 300000000) (n := R 0 0) (by decide) (fun k hk => ⟨by have := (key2 k hk).1; omega, (key2 k hk).2⟩)).2
  have := sI_int (g := g) (n := R 0 0) (fun k hk => (key2 k hk).1) (by omega)
  rw [this.1]
  exact this.2
theorem q_statement (h : IV σ R) (x y z : Int32) : QI (Rp_statement σ x y z) (Mo_statement σ x y z) σ := by
  obtain ⟨h1, hc, en⟩ := thr h 0
  have o1 := h.ro.L
  have o2 := h.ro.P
  have o3 := h.ro.S
  unfold Rp_statement Mo_statement
  rw [lt_eq]
  generalize setF σ 840 0 0 = s1 at *
  rcases at_or (x := x) (n := R 0 1) (by omega) with ⟨p, hp, rfl⟩ | hx
  rotate_left
  · simp (disch := omega) only [bd_some, bd_none, lt_eq, lk_eq, fa_lit, nI_add, nI_mul, nI_sub, nle_t, nle_f, nlt_t, nlt_f, neq_t, neq_f, neg_ne, neg_ne', if_true, if_false, ite_true, ite_false, Nat.zero_add, Nat.add_zero, ld0, ld1, ld2, ld3, ld4, ld5, ld6, ld7, ld8, ld9, ld10, ld11, ld12, ld13, ld14, ld15, ld16, ld17, ld18, ld19, ld20, ld21, ld22, ld23, ld24, ld25, ld26, ld27, ld28, ld29, ld30, ld31, ld32, ld33, ld34, ld35, ld36, ld37, ld38, ld39, ld40, ld41, ld42, ld43, ld44, ld45, ld46, ld47, ld48, ld100, ld101, ld102, ld103, ld104, ld105, Rp_isLand_t h, Mo_isLand_t h1.mr h1.ro, Rp_isPlayer_t h, Mo_isPlayer_t h1.mr h1.ro, Rp_isSession_t h, Mo_isSession_t h1.mr h1.ro, Rp_isSeat_t h, Mo_isSeat_t h1.mr h1.ro, Rp_isChoice_t, Mo_isRole_t, h.q0, h.cr.L, h.cr.P, h.cr.S, h.cr.kp, h.cr.ld, h1.mr.L, h1.mr.P, h1.mr.S, h1.mr.kp, h1.mr.ld, en, Rp_isPlayer_f h hx, Mo_isPlayer_f h1.mr hx]
    exact ⟨_, _, rfl, rfl, hc⟩
  by_cases ey : y < nI 0
  · simp (disch := omega) only [bd_some, bd_none, lt_eq, lk_eq, fa_lit, nI_add, nI_mul, nI_sub, nle_t, nle_f, nlt_t, nlt_f, neq_t, neq_f, neg_ne, neg_ne', if_true, if_false, ite_true, ite_false, Nat.zero_add, Nat.add_zero, ld0, ld1, ld2, ld3, ld4, ld5, ld6, ld7, ld8, ld9, ld10, ld11, ld12, ld13, ld14, ld15, ld16, ld17, ld18, ld19, ld20, ld21, ld22, ld23, ld24, ld25, ld26, ld27, ld28, ld29, ld30, ld31, ld32, ld33, ld34, ld35, ld36, ld37, ld38, ld39, ld40, ld41, ld42, ld43, ld44, ld45, ld46, ld47, ld48, ld100, ld101, ld102, ld103, ld104, ld105, Rp_isLand_t h, Mo_isLand_t h1.mr h1.ro, Rp_isPlayer_t h, Mo_isPlayer_t h1.mr h1.ro, Rp_isSession_t h, Mo_isSession_t h1.mr h1.ro, Rp_isSeat_t h, Mo_isSeat_t h1.mr h1.ro, Rp_isChoice_t, Mo_isRole_t, h.q0, h.cr.L, h.cr.P, h.cr.S, h.cr.kp, h.cr.ld, h1.mr.L, h1.mr.P, h1.mr.S, h1.mr.kp, h1.mr.ld, en, ey]
    exact ⟨_, _, rfl, rfl, hc⟩
  rcases at_or (x := z) (n := 2) (by omega) with ⟨w, hw, rfl⟩ | hx
  rotate_left
  · simp (disch := omega) only [bd_some, bd_none, lt_eq, lk_eq, fa_lit, nI_add, nI_mul, nI_sub, nle_t, nle_f, nlt_t, nlt_f, neq_t, neq_f, neg_ne, neg_ne', if_true, if_false, ite_true, ite_false, Nat.zero_add, Nat.add_zero, ld0, ld1, ld2, ld3, ld4, ld5, ld6, ld7, ld8, ld9, ld10, ld11, ld12, ld13, ld14, ld15, ld16, ld17, ld18, ld19, ld20, ld21, ld22, ld23, ld24, ld25, ld26, ld27, ld28, ld29, ld30, ld31, ld32, ld33, ld34, ld35, ld36, ld37, ld38, ld39, ld40, ld41, ld42, ld43, ld44, ld45, ld46, ld47, ld48, ld100, ld101, ld102, ld103, ld104, ld105, Rp_isLand_t h, Mo_isLand_t h1.mr h1.ro, Rp_isPlayer_t h, Mo_isPlayer_t h1.mr h1.ro, Rp_isSession_t h, Mo_isSession_t h1.mr h1.ro, Rp_isSeat_t h, Mo_isSeat_t h1.mr h1.ro, Rp_isChoice_t, Mo_isRole_t, h.q0, h.cr.L, h.cr.P, h.cr.S, h.cr.kp, h.cr.ld, h1.mr.L, h1.mr.P, h1.mr.S, h1.mr.kp, h1.mr.ld, en, Rp_isChoice_f hx, nix_if2 hx, ite_self]
    exact ⟨_, _, rfl, rfl, hc⟩
  simp (disch := omega) only [bd_some, bd_none, lt_eq, lk_eq, fa_lit, nI_add, nI_mul, nI_sub, nle_t, nle_f, nlt_t, nlt_f, neq_t, neq_f, neg_ne, neg_ne', if_true, if_false, ite_true, ite_false, Nat.zero_add, Nat.add_zero, ld0, ld1, ld2, ld3, ld4, ld5, ld6, ld7, ld8, ld9, ld10, ld11, ld12, ld13, ld14, ld15, ld16, ld17, ld18, ld19, ld20, ld21, ld22, ld23, ld24, ld25, ld26, ld27, ld28, ld29, ld30, ld31, ld32, ld33, ld34, ld35, ld36, ld37, ld38, ld39, ld40, ld41, ld42, ld43, ld44, ld45, ld46, ld47, ld48, ld100, ld101, ld102, ld103, ld104, ld105, Rp_isLand_t h, Mo_isLand_t h1.mr h1.ro, Rp_isPlayer_t h, Mo_isPlayer_t h1.mr h1.ro, Rp_isSession_t h, Mo_isSession_t h1.mr h1.ro, Rp_isSeat_t h, Mo_isSeat_t h1.mr h1.ro, Rp_isChoice_t, Mo_isRole_t, h.q0, h.cr.L, h.cr.P, h.cr.S, h.cr.kp, h.cr.ld, h1.mr.L, h1.mr.P, h1.mr.S, h1.mr.kp, h1.mr.ld, en]
  have z0 : ∀ l, l < 6 → (σ.1 34 0 (6 * p + l) ≤ nI 0) = (σ.1 34 0 (6 * p + l) = nI 0) := by
    intro l hl
    have := h.mo.n0 (show 6 * p + l < 2604 by omega)
    rw [fa_le, fa_eq, nI_toInt (by decide)]
    exact propext ⟨fun q => by omega, fun q => by omega⟩
  generalize hcc : (fun l => !decide (σ.1 34 0 (6 * p + l) = nI 0)) = c
  have hcc2 : ∀ l, (σ.1 34 0 (6 * p + l) = nI 0) = (c l = false) := fun p => by rw [← hcc]; simp
  generalize hp : (fun l => c l && decide (nI (fb_ct c l) = y)) = pr
  have hp2 : ∀ l, pr l = (c l && decide (nI (fb_ct c l) = y)) := fun l => by rw [← hp]
  refine ⟨if fd pr (R 0 0) < R 0 0 then (if w = 0 then nI (fd pr (R 0 0)) else σ.1 34 0 (6 * p + fd pr (R 0 0))) else -nI 2, s1, ?_, ?_, hc⟩
  · simp only [ey, if_false]
    refine lp_find (R 0 0) (by omega) pr (fun k => (nI (fb_ct c k), nI k)) (fun rec k hk hq => ?_) (fun rec k hk hq e2 => ?_) (fun rec e2 => ?_)
    · rw [hp2] at hq
      simp (disch := omega) only [bd_some, bd_none, lt_eq, lk_eq, fa_lit, nI_add, nI_mul, nI_sub, nle_t, nle_f, nlt_t, nlt_f, neq_t, neq_f, neg_ne, neg_ne', if_true, if_false, ite_true, ite_false, Nat.zero_add, Nat.add_zero, ld0, ld1, ld2, ld3, ld4, ld5, ld6, ld7, ld8, ld9, ld10, ld11, ld12, ld13, ld14, ld15, ld16, ld17, ld18, ld19, ld20, ld21, ld22, ld23, ld24, ld25, ld26, ld27, ld28, ld29, ld30, ld31, ld32, ld33, ld34, ld35, ld36, ld37, ld38, ld39, ld40, ld41, ld42, ld43, ld44, ld45, ld46, ld47, ld48, ld100, ld101, ld102, ld103, ld104, ld105, Rp_isLand_t h, Mo_isLand_t h1.mr h1.ro, Rp_isPlayer_t h, Mo_isPlayer_t h1.mr h1.ro, Rp_isSession_t h, Mo_isSession_t h1.mr h1.ro, Rp_isSeat_t h, Mo_isSeat_t h1.mr h1.ro, Rp_isChoice_t, Mo_isRole_t, h.q0, h.cr.L, h.cr.P, h.cr.S, h.cr.kp, h.cr.ld, h1.mr.L, h1.mr.P, h1.mr.S, h1.mr.kp, h1.mr.ld, en, Bk_paidBoth_eq h.br, z0, hcc2, ct_nI]
      cases e1 : c k
      · simp
      · rw [e1, Bool.true_and, decide_eq_false_iff_not] at hq
        simp [hq]
    · rw [hp2, Bool.and_eq_true, decide_eq_true_eq] at hq
      rw [← e2, if_pos hk]
      simp (disch := omega) only [bd_some, bd_none, lt_eq, lk_eq, fa_lit, nI_add, nI_mul, nI_sub, nle_t, nle_f, nlt_t, nlt_f, neq_t, neq_f, neg_ne, neg_ne', if_true, if_false, ite_true, ite_false, Nat.zero_add, Nat.add_zero, ld0, ld1, ld2, ld3, ld4, ld5, ld6, ld7, ld8, ld9, ld10, ld11, ld12, ld13, ld14, ld15, ld16, ld17, ld18, ld19, ld20, ld21, ld22, ld23, ld24, ld25, ld26, ld27, ld28, ld29, ld30, ld31, ld32, ld33, ld34, ld35, ld36, ld37, ld38, ld39, ld40, ld41, ld42, ld43, ld44, ld45, ld46, ld47, ld48, ld100, ld101, ld102, ld103, ld104, ld105, Rp_isLand_t h, Mo_isLand_t h1.mr h1.ro, Rp_isPlayer_t h, Mo_isPlayer_t h1.mr h1.ro, Rp_isSession_t h, Mo_isSession_t h1.mr h1.ro, Rp_isSeat_t h, Mo_isSeat_t h1.mr h1.ro, Rp_isChoice_t, Mo_isRole_t, h.q0, h.cr.L, h.cr.P, h.cr.S, h.cr.kp, h.cr.ld, h1.mr.L, h1.mr.P, h1.mr.S, h1.mr.kp, h1.mr.ld, en, Bk_paidBoth_eq h.br, z0, hcc2, hq.1, hq.2, neq_i, Bool.true_eq_false]
      by_cases e : w = 0 <;> simp only [e, if_true, if_false]
    · rw [e2]
      simp (disch := omega) only [bd_some, bd_none, lt_eq, lk_eq, fa_lit, nI_add, nI_mul, nI_sub, nle_t, nle_f, nlt_t, nlt_f, neq_t, neq_f, neg_ne, neg_ne', if_true, if_false, ite_true, ite_false, Nat.zero_add, Nat.add_zero, ld0, ld1, ld2, ld3, ld4, ld5, ld6, ld7, ld8, ld9, ld10, ld11, ld12, ld13, ld14, ld15, ld16, ld17, ld18, ld19, ld20, ld21, ld22, ld23, ld24, ld25, ld26, ld27, ld28, ld29, ld30, ld31, ld32, ld33, ld34, ld35, ld36, ld37, ld38, ld39, ld40, ld41, ld42, ld43, ld44, ld45, ld46, ld47, ld48, ld100, ld101, ld102, ld103, ld104, ld105, Rp_isLand_t h, Mo_isLand_t h1.mr h1.ro, Rp_isPlayer_t h, Mo_isPlayer_t h1.mr h1.ro, Rp_isSession_t h, Mo_isSession_t h1.mr h1.ro, Rp_isSeat_t h, Mo_isSeat_t h1.mr h1.ro, Rp_isChoice_t, Mo_isRole_t, h.q0, h.cr.L, h.cr.P, h.cr.S, h.cr.kp, h.cr.ld, h1.mr.L, h1.mr.P, h1.mr.S, h1.mr.kp, h1.mr.ld, en, Nat.lt_irrefl]
  · simp only [ey, if_false]
    refine lp_find (R 0 0) (by omega) pr (fun k => (nI (fb_ct c k), nI k)) (fun rec k hk hq => ?_) (fun rec k hk hq e2 => ?_) (fun rec e2 => ?_)
    · rw [hp2] at hq
      simp (disch := omega) only [bd_some, bd_none, lt_eq, lk_eq, fa_lit, nI_add, nI_mul, nI_sub, nle_t, nle_f, nlt_t, nlt_f, neq_t, neq_f, neg_ne, neg_ne', if_true, if_false, ite_true, ite_false, Nat.zero_add, Nat.add_zero, ld0, ld1, ld2, ld3, ld4, ld5, ld6, ld7, ld8, ld9, ld10, ld11, ld12, ld13, ld14, ld15, ld16, ld17, ld18, ld19, ld20, ld21, ld22, ld23, ld24, ld25, ld26, ld27, ld28, ld29, ld30, ld31, ld32, ld33, ld34, ld35, ld36, ld37, ld38, ld39, ld40, ld41, ld42, ld43, ld44, ld45, ld46, ld47, ld48, ld100, ld101, ld102, ld103, ld104, ld105, Rp_isLand_t h, Mo_isLand_t h1.mr h1.ro, Rp_isPlayer_t h, Mo_isPlayer_t h1.mr h1.ro, Rp_isSession_t h, Mo_isSession_t h1.mr h1.ro, Rp_isSeat_t h, Mo_isSeat_t h1.mr h1.ro, Rp_isChoice_t, Mo_isRole_t, h.q0, h.cr.L, h.cr.P, h.cr.S, h.cr.kp, h.cr.ld, h1.mr.L, h1.mr.P, h1.mr.S, h1.mr.kp, h1.mr.ld, en, Mo_paidIn_eq, hcc2, ct_nI]
      cases e1 : c k
      · simp
      · rw [e1, Bool.true_and, decide_eq_false_iff_not] at hq
        simp [hq]
    · rw [hp2, Bool.and_eq_true, decide_eq_true_eq] at hq
      rw [← e2, if_pos hk]
      simp (disch := omega) only [bd_some, bd_none, lt_eq, lk_eq, fa_lit, nI_add, nI_mul, nI_sub, nle_t, nle_f, nlt_t, nlt_f, neq_t, neq_f, neg_ne, neg_ne', if_true, if_false, ite_true, ite_false, Nat.zero_add, Nat.add_zero, ld0, ld1, ld2, ld3, ld4, ld5, ld6, ld7, ld8, ld9, ld10, ld11, ld12, ld13, ld14, ld15, ld16, ld17, ld18, ld19, ld20, ld21, ld22, ld23, ld24, ld25, ld26, ld27, ld28, ld29, ld30, ld31, ld32, ld33, ld34, ld35, ld36, ld37, ld38, ld39, ld40, ld41, ld42, ld43, ld44, ld45, ld46, ld47, ld48, ld100, ld101, ld102, ld103, ld104, ld105, Rp_isLand_t h, Mo_isLand_t h1.mr h1.ro, Rp_isPlayer_t h, Mo_isPlayer_t h1.mr h1.ro, Rp_isSession_t h, Mo_isSession_t h1.mr h1.ro, Rp_isSeat_t h, Mo_isSeat_t h1.mr h1.ro, Rp_isChoice_t, Mo_isRole_t, h.q0, h.cr.L, h.cr.P, h.cr.S, h.cr.kp, h.cr.ld, h1.mr.L, h1.mr.P, h1.mr.S, h1.mr.kp, h1.mr.ld, en, Mo_paidIn_eq, hcc2, hq.1, hq.2, neq_i, Bool.true_eq_false]
      by_cases e : w = 0 <;> simp only [e, if_true, if_false]
    · rw [e2]
      simp (disch := omega) only [bd_some, bd_none, lt_eq, lk_eq, fa_lit, nI_add, nI_mul, nI_sub, nle_t, nle_f, nlt_t, nlt_f, neq_t, neq_f, neg_ne, neg_ne', if_true, if_false, ite_true, ite_false, Nat.zero_add, Nat.add_zero, ld0, ld1, ld2, ld3, ld4, ld5, ld6, ld7, ld8, ld9, ld10, ld11, ld12, ld13, ld14, ld15, ld16, ld17, ld18, ld19, ld20, ld21, ld22, ld23, ld24, ld25, ld26, ld27, ld28, ld29, ld30, ld31, ld32, ld33, ld34, ld35, ld36, ld37, ld38, ld39, ld40, ld41, ld42, ld43, ld44, ld45, ld46, ld47, ld48, ld100, ld101, ld102, ld103, ld104, ld105, Rp_isLand_t h, Mo_isLand_t h1.mr h1.ro, Rp_isPlayer_t h, Mo_isPlayer_t h1.mr h1.ro, Rp_isSession_t h, Mo_isSession_t h1.mr h1.ro, Rp_isSeat_t h, Mo_isSeat_t h1.mr h1.ro, Rp_isChoice_t, Mo_isRole_t, h.q0, h.cr.L, h.cr.P, h.cr.S, h.cr.kp, h.cr.ld, h1.mr.L, h1.mr.P, h1.mr.S, h1.mr.kp, h1.mr.ld, en, Nat.lt_irrefl]
/-! all money -/
theorem m_rows6 (g : Nat → Int32) : sI g 96 = sI (fun l => sI (fun p => g (6 * p + l)) 16) 6 := by
  have h1 := sI_rows g 6 16
  have h2 := sI_swap (fun a b => g (a * 6 + b)) 6 16
  refine h1.trans (h2.trans (sI_cong (fun l hl => sI_cong (fun p hp => ?_))))
  rw [Nat.mul_comm]
theorem q_money (h : IV σ R) (x : Int32) : QI (Rp_money σ x) (Mo_money σ x) σ := by
  obtain ⟨h1, hc, en⟩ := thr h 0
  have o1 := h.ro.L
  have o2 := h.ro.P
  have z := h.zo
  unfold Rp_money Mo_money
  rw [lt_eq]
  generalize setF σ 840 0 0 = s1 at *
  rcases at_or (x := x) (n := 6) (by omega) with ⟨w, hw, rfl⟩ | hx
  rotate_left
  · rw [sw_none0 hx (by decide)] <;> first | exact Nat.le_of_ble_eq_true rfl | skip
    simp (disch := omega) only [bd_some, bd_none, lt_eq, lk_eq, fa_lit, nI_add, nI_mul, nI_sub, nle_t, nle_f, nlt_t, nlt_f, neq_t, neq_f, neg_ne, neg_ne', if_true, if_false, ite_true, ite_false, Nat.zero_add, Nat.add_zero, ld0, ld1, ld2, ld3, ld4, ld5, ld6, ld7, ld8, ld9, ld10, ld11, ld12, ld13, ld14, ld15, ld16, ld17, ld18, ld19, ld20, ld21, ld22, ld23, ld24, ld25, ld26, ld27, ld28, ld29, ld30, ld31, ld32, ld33, ld34, ld35, ld36, ld37, ld38, ld39, ld40, ld41, ld42, ld43, ld44, ld45, ld46, ld47, ld48, ld100, ld101, ld102, ld103, ld104, ld105, Rp_isChoice_f hx]
    exact ⟨_, _, rfl, rfl, hc⟩
  have run : ∀ g : Nat → Int32, (∀ l, l < R 0 0 → Rp_moneyOfLand σ (nI l) (nI w) = some (g l)) → lp_ (fun rec3 (z2 : Int32 × Int32) => (if nI (R 0 0) ≤ z2.2 then some z2.1 else bd_ (Rp_moneyOfLand σ z2.2 (nI w)) (fun q6 => rec3 (z2.1 + q6, (z2.2 + nI 1))))) FU (nI 0, nI 0) = some (sI g (R 0 0)) := by
    intro g hg
    refine lp_run (R 0 0) (by omega) (fun k => (sI g k, nI k)) (fun rec k hk => ?_) (fun rec => ?_)
    · simp (disch := omega) only [bd_some, bd_none, lt_eq, lk_eq, fa_lit, nI_add, nI_mul, nI_sub, nle_t, nle_f, nlt_t, nlt_f, neq_t, neq_f, neg_ne, neg_ne', if_true, if_false, ite_true, ite_false, Nat.zero_add, Nat.add_zero, ld0, ld1, ld2, ld3, ld4, ld5, ld6, ld7, ld8, ld9, ld10, ld11, ld12, ld13, ld14, ld15, ld16, ld17, ld18, ld19, ld20, ld21, ld22, ld23, ld24, ld25, ld26, ld27, ld28, ld29, ld30, ld31, ld32, ld33, ld34, ld35, ld36, ld37, ld38, ld39, ld40, ld41, ld42, ld43, ld44, ld45, ld46, ld47, ld48, ld100, ld101, ld102, ld103, ld104, ld105, hg k hk, sI_succ]
    · simp (disch := omega) only [bd_some, bd_none, lt_eq, lk_eq, fa_lit, nI_add, nI_mul, nI_sub, nle_t, nle_f, nlt_t, nlt_f, neq_t, neq_f, neg_ne, neg_ne', if_true, if_false, ite_true, ite_false, Nat.zero_add, Nat.add_zero, ld0, ld1, ld2, ld3, ld4, ld5, ld6, ld7, ld8, ld9, ld10, ld11, ld12, ld13, ld14, ld15, ld16, ld17, ld18, ld19, ld20, ld21, ld22, ld23, ld24, ld25, ld26, ld27, ld28, ld29, ld30, ld31, ld32, ld33, ld34, ld35, ld36, ld37, ld38, ld39, ld40, ld41, ld42, ld43, ld44, ld45, ld46, ld47, ld48, ld100, ld101, ld102, ld103, ld104, ld105]
  have s0 := Mo_sumIn_eq (σ := s1) (a := 198) (n := 6) (by decide)
  have s2 := Mo_sumIn_eq (σ := s1) (a := 0) (n := 96) (by decide)
  have s3 := Mo_sumIn_eq (σ := s1) (a := 204) (n := 2160) (by decide)
  have s4 := Mo_sumIn_eq (σ := s1) (a := 192) (n := 6) (by decide)
  have s5 := Mo_sumIn_eq (σ := s1) (a := 96) (n := 96) (by decide)
  have s6 := Mo_sumIn_eq (σ := s1) (a := 2364) (n := 240) (by decide)
  have ez : ∀ k, 0 + k = k := Nat.zero_add
  simp only [en, ez] at s0 s2 s3 s4 s5 s6
  have paidL : sI (fun l => sI (fun p => σ.1 34 0 (6 * p + l)) (R 0 1)) (R 0 0) = sI (fun k => σ.1 34 0 k) 96 := by
    rw [m_rows6]
    refine Eq.symm ((sI_tail o1 (fun l l1 l2 => sI_zero (fun p hp => (z.1 p l hp l2 (Or.inr l1)).1))).trans (sI_cong (fun l hl => ?_)))
    exact sI_tail o2 (fun p p1 p2 => (z.1 p l p2 (by omega) (Or.inl p1)).1)
  have wL : sI (fun l => sI (fun p => σ.1 34 0 (96 + 6 * p + l)) (R 0 1)) (R 0 0) = sI (fun k => σ.1 34 0 (96 + k)) 96 := by
    rw [m_rows6]
    simp only [← Nat.add_assoc]
    refine Eq.symm ((sI_tail o1 (fun l l1 l2 => sI_zero (fun p hp => (z.1 p l hp l2 (Or.inr l1)).2))).trans (sI_cong (fun l hl => ?_)))
    exact sI_tail o2 (fun p p1 p2 => (z.1 p l p2 (by omega) (Or.inl p1)).2)
  rcases (show w = 0 ∨ w = 1 ∨ w = 2 ∨ w = 3 ∨ w = 4 ∨ w = 5 by omega) with rfl | rfl | rfl | rfl | rfl | rfl
  · simp (disch := decide) only [sw_get0, List.getElem?_cons_succ, List.getElem?_cons_zero, Option.getD_some]
    simp (disch := omega) only [bd_some, bd_none, lt_eq, lk_eq, fa_lit, nI_add, nI_mul, nI_sub, nle_t, nle_f, nlt_t, nlt_f, neq_t, neq_f, neg_ne, neg_ne', if_true, if_false, ite_true, ite_false, Nat.zero_add, Nat.add_zero, ld0, ld1, ld2, ld3, ld4, ld5, ld6, ld7, ld8, ld9, ld10, ld11, ld12, ld13, ld14, ld15, ld16, ld17, ld18, ld19, ld20, ld21, ld22, ld23, ld24, ld25, ld26, ld27, ld28, ld29, ld30, ld31, ld32, ld33, ld34, ld35, ld36, ld37, ld38, ld39, ld40, ld41, ld42, ld43, ld44, ld45, ld46, ld47, ld48, ld100, ld101, ld102, ld103, ld104, ld105, Rp_isLand_t h, Mo_isLand_t h1.mr h1.ro, Rp_isPlayer_t h, Mo_isPlayer_t h1.mr h1.ro, Rp_isSession_t h, Mo_isSession_t h1.mr h1.ro, Rp_isSeat_t h, Mo_isSeat_t h1.mr h1.ro, Rp_isChoice_t, Mo_isRole_t, h.q0, h.cr.L, h.cr.P, h.cr.S, h.cr.kp, h.cr.ld, h1.mr.L, h1.mr.P, h1.mr.S, h1.mr.kp, h1.mr.ld, en, s0]
    refine ⟨_, s1, run (fun l => σ.1 34 0 (198 + l)) (fun l hl => by unfold Rp_moneyOfLand; simp (disch := decide) only [sw_get0, List.getElem?_cons_succ, List.getElem?_cons_zero, Option.getD_some]; simp (disch := omega) only [bd_some, bd_none, lt_eq, lk_eq, fa_lit, nI_add, nI_mul, nI_sub, nle_t, nle_f, nlt_t, nlt_f, neq_t, neq_f, neg_ne, neg_ne', if_true, if_false, ite_true, ite_false, Nat.zero_add, Nat.add_zero, ld0, ld1, ld2, ld3, ld4, ld5, ld6, ld7, ld8, ld9, ld10, ld11, ld12, ld13, ld14, ld15, ld16, ld17, ld18, ld19, ld20, ld21, ld22, ld23, ld24, ld25, ld26, ld27, ld28, ld29, ld30, ld31, ld32, ld33, ld34, ld35, ld36, ld37, ld38, ld39, ld40, ld41, ld42, ld43, ld44, ld45, ld46, ld47, ld48, ld100, ld101, ld102, ld103, ld104, ld105, h.br.lm]), ?_, hc⟩
    rw [sI_tail o1 (fun l l1 l2 => (z.2.1 l l2 l1).2)]
  · simp (disch := decide) only [sw_get0, List.getElem?_cons_succ, List.getElem?_cons_zero, Option.getD_some]
    simp (disch := omega) only [bd_some, bd_none, lt_eq, lk_eq, fa_lit, nI_add, nI_mul, nI_sub, nle_t, nle_f, nlt_t, nlt_f, neq_t, neq_f, neg_ne, neg_ne', if_true, if_false, ite_true, ite_false, Nat.zero_add, Nat.add_zero, ld0, ld1, ld2, ld3, ld4, ld5, ld6, ld7, ld8, ld9, ld10, ld11, ld12, ld13, ld14, ld15, ld16, ld17, ld18, ld19, ld20, ld21, ld22, ld23, ld24, ld25, ld26, ld27, ld28, ld29, ld30, ld31, ld32, ld33, ld34, ld35, ld36, ld37, ld38, ld39, ld40, ld41, ld42, ld43, ld44, ld45, ld46, ld47, ld48, ld100, ld101, ld102, ld103, ld104, ld105, Rp_isLand_t h, Mo_isLand_t h1.mr h1.ro, Rp_isPlayer_t h, Mo_isPlayer_t h1.mr h1.ro, Rp_isSession_t h, Mo_isSession_t h1.mr h1.ro, Rp_isSeat_t h, Mo_isSeat_t h1.mr h1.ro, Rp_isChoice_t, Mo_isRole_t, h.q0, h.cr.L, h.cr.P, h.cr.S, h.cr.kp, h.cr.ld, h1.mr.L, h1.mr.P, h1.mr.S, h1.mr.kp, h1.mr.ld, en, s2]
    refine ⟨_, s1, run (fun l => sI (fun p => σ.1 34 0 (6 * p + l)) (R 0 1)) (fun l hl => by unfold Rp_moneyOfLand; simp (disch := decide) only [sw_get0, List.getElem?_cons_succ, List.getElem?_cons_zero, Option.getD_some]; simp (disch := omega) only [bd_some, bd_none, lt_eq, lk_eq, fa_lit, nI_add, nI_mul, nI_sub, nle_t, nle_f, nlt_t, nlt_f, neq_t, neq_f, neg_ne, neg_ne', if_true, if_false, ite_true, ite_false, Nat.zero_add, Nat.add_zero, ld0, ld1, ld2, ld3, ld4, ld5, ld6, ld7, ld8, ld9, ld10, ld11, ld12, ld13, ld14, ld15, ld16, ld17, ld18, ld19, ld20, ld21, ld22, ld23, ld24, ld25, ld26, ld27, ld28, ld29, ld30, ld31, ld32, ld33, ld34, ld35, ld36, ld37, ld38, ld39, ld40, ld41, ld42, ld43, ld44, ld45, ld46, ld47, ld48, ld100, ld101, ld102, ld103, ld104, ld105, Rp_isLand_t h, Mo_isLand_t h1.mr h1.ro, Rp_isPlayer_t h, Mo_isPlayer_t h1.mr h1.ro, Rp_isSession_t h, Mo_isSession_t h1.mr h1.ro, Rp_isSeat_t h, Mo_isSeat_t h1.mr h1.ro, Rp_isChoice_t, Mo_isRole_t, h.q0, h.cr.L, h.cr.P, h.cr.S, h.cr.kp, h.cr.ld, h1.mr.L, h1.mr.P, h1.mr.S, h1.mr.kp, h1.mr.ld, en, Bk_paidIn_eq h.cr h.br h.ro]), ?_, hc⟩
    rw [paidL]
  · simp (disch := decide) only [sw_get0, List.getElem?_cons_succ, List.getElem?_cons_zero, Option.getD_some]
    simp (disch := omega) only [bd_some, bd_none, lt_eq, lk_eq, fa_lit, nI_add, nI_mul, nI_sub, nle_t, nle_f, nlt_t, nlt_f, neq_t, neq_f, neg_ne, neg_ne', if_true, if_false, ite_true, ite_false, Nat.zero_add, Nat.add_zero, ld0, ld1, ld2, ld3, ld4, ld5, ld6, ld7, ld8, ld9, ld10, ld11, ld12, ld13, ld14, ld15, ld16, ld17, ld18, ld19, ld20, ld21, ld22, ld23, ld24, ld25, ld26, ld27, ld28, ld29, ld30, ld31, ld32, ld33, ld34, ld35, ld36, ld37, ld38, ld39, ld40, ld41, ld42, ld43, ld44, ld45, ld46, ld47, ld48, ld100, ld101, ld102, ld103, ld104, ld105, Rp_isLand_t h, Mo_isLand_t h1.mr h1.ro, Rp_isPlayer_t h, Mo_isPlayer_t h1.mr h1.ro, Rp_isSession_t h, Mo_isSession_t h1.mr h1.ro, Rp_isSeat_t h, Mo_isSeat_t h1.mr h1.ro, Rp_isChoice_t, Mo_isRole_t, h.q0, h.cr.L, h.cr.P, h.cr.S, h.cr.kp, h.cr.ld, h1.mr.L, h1.mr.P, h1.mr.S, h1.mr.kp, h1.mr.ld, en, s3]
    refine ⟨_, s1, run (fun l => sI (fun j => σ.1 34 0 (204 + 360 * l + j)) 360) (fun l hl => by unfold Rp_moneyOfLand; simp (disch := decide) only [sw_get0, List.getElem?_cons_succ, List.getElem?_cons_zero, Option.getD_some]; simp (disch := omega) only [bd_some, bd_none, lt_eq, lk_eq, fa_lit, nI_add, nI_mul, nI_sub, nle_t, nle_f, nlt_t, nlt_f, neq_t, neq_f, neg_ne, neg_ne', if_true, if_false, ite_true, ite_false, Nat.zero_add, Nat.add_zero, ld0, ld1, ld2, ld3, ld4, ld5, ld6, ld7, ld8, ld9, ld10, ld11, ld12, ld13, ld14, ld15, ld16, ld17, ld18, ld19, ld20, ld21, ld22, ld23, ld24, ld25, ld26, ld27, ld28, ld29, ld30, ld31, ld32, ld33, ld34, ld35, ld36, ld37, ld38, ld39, ld40, ld41, ld42, ld43, ld44, ld45, ld46, ld47, ld48, ld100, ld101, ld102, ld103, ld104, ld105, Rp_isLand_t h, Mo_isLand_t h1.mr h1.ro, Rp_isPlayer_t h, Mo_isPlayer_t h1.mr h1.ro, Rp_isSession_t h, Mo_isSession_t h1.mr h1.ro, Rp_isSeat_t h, Mo_isSeat_t h1.mr h1.ro, Rp_isChoice_t, Mo_isRole_t, h.q0, h.cr.L, h.cr.P, h.cr.S, h.cr.kp, h.cr.ld, h1.mr.L, h1.mr.P, h1.mr.S, h1.mr.kp, h1.mr.ld, en, Bk_keptIn_eq h.br]), ?_, hc⟩
    have e := sI_rows (fun k => σ.1 34 0 (204 + k)) 360 6
    rw [show sI (fun k => σ.1 34 0 (204 + k)) 2160 = _ from e]
    have e2 : ∀ a b, 204 + (a * 360 + b) = 204 + 360 * a + b := fun a b => by omega
    simp only [e2]
    rw [sI_tail o1 (fun l l1 l2 => ?_)]
    refine sI_zero (fun j hj => ?_)
    have := z.2.2.1 l (j / 45) (j / 9 % 5) (j % 9) l2 (by omega) (by omega) (by omega) (Or.inl l1)
    rw [show 204 + 360 * l + j = 204 + 9 * (5 * (8 * l + j / 45) + j / 9 % 5) + j % 9 by omega]
    exact this
  · simp (disch := decide) only [sw_get0, List.getElem?_cons_succ, List.getElem?_cons_zero, Option.getD_some]
    simp (disch := omega) only [bd_some, bd_none, lt_eq, lk_eq, fa_lit, nI_add, nI_mul, nI_sub, nle_t, nle_f, nlt_t, nlt_f, neq_t, neq_f, neg_ne, neg_ne', if_true, if_false, ite_true, ite_false, Nat.zero_add, Nat.add_zero, ld0, ld1, ld2, ld3, ld4, ld5, ld6, ld7, ld8, ld9, ld10, ld11, ld12, ld13, ld14, ld15, ld16, ld17, ld18, ld19, ld20, ld21, ld22, ld23, ld24, ld25, ld26, ld27, ld28, ld29, ld30, ld31, ld32, ld33, ld34, ld35, ld36, ld37, ld38, ld39, ld40, ld41, ld42, ld43, ld44, ld45, ld46, ld47, ld48, ld100, ld101, ld102, ld103, ld104, ld105, Rp_isLand_t h, Mo_isLand_t h1.mr h1.ro, Rp_isPlayer_t h, Mo_isPlayer_t h1.mr h1.ro, Rp_isSession_t h, Mo_isSession_t h1.mr h1.ro, Rp_isSeat_t h, Mo_isSeat_t h1.mr h1.ro, Rp_isChoice_t, Mo_isRole_t, h.q0, h.cr.L, h.cr.P, h.cr.S, h.cr.kp, h.cr.ld, h1.mr.L, h1.mr.P, h1.mr.S, h1.mr.kp, h1.mr.ld, en, s4]
    refine ⟨_, s1, run (fun l => σ.1 34 0 (192 + l)) (fun l hl => by unfold Rp_moneyOfLand; simp (disch := decide) only [sw_get0, List.getElem?_cons_succ, List.getElem?_cons_zero, Option.getD_some]; simp (disch := omega) only [bd_some, bd_none, lt_eq, lk_eq, fa_lit, nI_add, nI_mul, nI_sub, nle_t, nle_f, nlt_t, nlt_f, neq_t, neq_f, neg_ne, neg_ne', if_true, if_false, ite_true, ite_false, Nat.zero_add, Nat.add_zero, ld0, ld1, ld2, ld3, ld4, ld5, ld6, ld7, ld8, ld9, ld10, ld11, ld12, ld13, ld14, ld15, ld16, ld17, ld18, ld19, ld20, ld21, ld22, ld23, ld24, ld25, ld26, ld27, ld28, ld29, ld30, ld31, ld32, ld33, ld34, ld35, ld36, ld37, ld38, ld39, ld40, ld41, ld42, ld43, ld44, ld45, ld46, ld47, ld48, ld100, ld101, ld102, ld103, ld104, ld105, h.br.bx]), ?_, hc⟩
    rw [sI_tail o1 (fun l l1 l2 => (z.2.1 l l2 l1).1)]
  · simp (disch := decide) only [sw_get0, List.getElem?_cons_succ, List.getElem?_cons_zero, Option.getD_some]
    simp (disch := omega) only [bd_some, bd_none, lt_eq, lk_eq, fa_lit, nI_add, nI_mul, nI_sub, nle_t, nle_f, nlt_t, nlt_f, neq_t, neq_f, neg_ne, neg_ne', if_true, if_false, ite_true, ite_false, Nat.zero_add, Nat.add_zero, ld0, ld1, ld2, ld3, ld4, ld5, ld6, ld7, ld8, ld9, ld10, ld11, ld12, ld13, ld14, ld15, ld16, ld17, ld18, ld19, ld20, ld21, ld22, ld23, ld24, ld25, ld26, ld27, ld28, ld29, ld30, ld31, ld32, ld33, ld34, ld35, ld36, ld37, ld38, ld39, ld40, ld41, ld42, ld43, ld44, ld45, ld46, ld47, ld48, ld100, ld101, ld102, ld103, ld104, ld105, Rp_isLand_t h, Mo_isLand_t h1.mr h1.ro, Rp_isPlayer_t h, Mo_isPlayer_t h1.mr h1.ro, Rp_isSession_t h, Mo_isSession_t h1.mr h1.ro, Rp_isSeat_t h, Mo_isSeat_t h1.mr h1.ro, Rp_isChoice_t, Mo_isRole_t, h.q0, h.cr.L, h.cr.P, h.cr.S, h.cr.kp, h.cr.ld, h1.mr.L, h1.mr.P, h1.mr.S, h1.mr.kp, h1.mr.ld, en, s2, s5]
    refine ⟨_, s1, run (fun l => sI (fun p => σ.1 34 0 (6 * p + l) - σ.1 34 0 (96 + 6 * p + l)) (R 0 1)) (fun l hl => by unfold Rp_moneyOfLand; simp (disch := decide) only [sw_get0, List.getElem?_cons_succ, List.getElem?_cons_zero, Option.getD_some]; simp (disch := omega) only [bd_some, bd_none, lt_eq, lk_eq, fa_lit, nI_add, nI_mul, nI_sub, nle_t, nle_f, nlt_t, nlt_f, neq_t, neq_f, neg_ne, neg_ne', if_true, if_false, ite_true, ite_false, Nat.zero_add, Nat.add_zero, ld0, ld1, ld2, ld3, ld4, ld5, ld6, ld7, ld8, ld9, ld10, ld11, ld12, ld13, ld14, ld15, ld16, ld17, ld18, ld19, ld20, ld21, ld22, ld23, ld24, ld25, ld26, ld27, ld28, ld29, ld30, ld31, ld32, ld33, ld34, ld35, ld36, ld37, ld38, ld39, ld40, ld41, ld42, ld43, ld44, ld45, ld46, ld47, ld48, ld100, ld101, ld102, ld103, ld104, ld105, Rp_isLand_t h, Mo_isLand_t h1.mr h1.ro, Rp_isPlayer_t h, Mo_isPlayer_t h1.mr h1.ro, Rp_isSession_t h, Mo_isSession_t h1.mr h1.ro, Rp_isSeat_t h, Mo_isSeat_t h1.mr h1.ro, Rp_isChoice_t, Mo_isRole_t, h.q0, h.cr.L, h.cr.P, h.cr.S, h.cr.kp, h.cr.ld, h1.mr.L, h1.mr.P, h1.mr.S, h1.mr.kp, h1.mr.ld, en, Bk_partsIn_eq h.cr h.br h.ro]), ?_, hc⟩
    simp only [sI_sub]
    rw [paidL, wL]
  · simp (disch := decide) only [sw_get0, List.getElem?_cons_succ, List.getElem?_cons_zero, Option.getD_some]
    simp (disch := omega) only [bd_some, bd_none, lt_eq, lk_eq, fa_lit, nI_add, nI_mul, nI_sub, nle_t, nle_f, nlt_t, nlt_f, neq_t, neq_f, neg_ne, neg_ne', if_true, if_false, ite_true, ite_false, Nat.zero_add, Nat.add_zero, ld0, ld1, ld2, ld3, ld4, ld5, ld6, ld7, ld8, ld9, ld10, ld11, ld12, ld13, ld14, ld15, ld16, ld17, ld18, ld19, ld20, ld21, ld22, ld23, ld24, ld25, ld26, ld27, ld28, ld29, ld30, ld31, ld32, ld33, ld34, ld35, ld36, ld37, ld38, ld39, ld40, ld41, ld42, ld43, ld44, ld45, ld46, ld47, ld48, ld100, ld101, ld102, ld103, ld104, ld105, Rp_isLand_t h, Mo_isLand_t h1.mr h1.ro, Rp_isPlayer_t h, Mo_isPlayer_t h1.mr h1.ro, Rp_isSession_t h, Mo_isSession_t h1.mr h1.ro, Rp_isSeat_t h, Mo_isSeat_t h1.mr h1.ro, Rp_isChoice_t, Mo_isRole_t, h.q0, h.cr.L, h.cr.P, h.cr.S, h.cr.kp, h.cr.ld, h1.mr.L, h1.mr.P, h1.mr.S, h1.mr.kp, h1.mr.ld, en, s6]
    refine ⟨_, s1, run (fun l => sI (fun j => σ.1 34 0 (2364 + 40 * l + j)) 40) (fun l hl => by unfold Rp_moneyOfLand; rw [sw_get0 (by decide)]; show bd_ (Bk_lapsedIn σ 0 (nI l)) _ = _; simp (disch := omega) only [bd_some, bd_none, lt_eq, lk_eq, fa_lit, nI_add, nI_mul, nI_sub, nle_t, nle_f, nlt_t, nlt_f, neq_t, neq_f, neg_ne, neg_ne', if_true, if_false, ite_true, ite_false, Nat.zero_add, Nat.add_zero, ld0, ld1, ld2, ld3, ld4, ld5, ld6, ld7, ld8, ld9, ld10, ld11, ld12, ld13, ld14, ld15, ld16, ld17, ld18, ld19, ld20, ld21, ld22, ld23, ld24, ld25, ld26, ld27, ld28, ld29, ld30, ld31, ld32, ld33, ld34, ld35, ld36, ld37, ld38, ld39, ld40, ld41, ld42, ld43, ld44, ld45, ld46, ld47, ld48, ld100, ld101, ld102, ld103, ld104, ld105, Bk_lapsedIn_eq h.br]), ?_, hc⟩
    have e := sI_rows (fun k => σ.1 34 0 (2364 + k)) 40 6
    rw [show sI (fun k => σ.1 34 0 (2364 + k)) 240 = _ from e]
    have e2 : ∀ a b, 2364 + (a * 40 + b) = 2364 + 40 * a + b := fun a b => by omega
    simp only [e2]
    rw [sI_tail o1 (fun l l1 l2 => ?_)]
    refine sI_zero (fun j hj => ?_)
    have := z.2.2.2 l (j / 5) (j % 5) l2 (by omega) (by omega) (Or.inl l1)
    rw [show 2364 + 40 * l + j = 2364 + 5 * (8 * l + j / 5) + j % 5 by omega]
    exact this
end Q5

/-! ===== queries: what there is, who pays whom ===== -/
section Q1
variable {σ : ST} {R : RT}
theorem sel (x : Int32) (n : Nat) : (∃ j, j < n ∧ x = nI j) ∨ ∀ j, j < n → (x = nI j) = False := by
  by_cases h : ∃ j, j < n ∧ x = nI j
  · exact Or.inl h
  · exact Or.inr (fun j hj => eq_false (fun e => h ⟨j, hj, e⟩))
theorem sw_get {β : Type} (d : Option β) {j : Nat} : ∀ (ps : List (Option β)) (n : Nat), n + j < 2147483648 → sw_ (nI (n + j)) n ps d = (ps[j]?).getD d := by
  induction j with
  | zero =>
    intro ps n h1
    cases ps with
    | nil => rfl
    | cons p ps =>
      show (if nI (n + 0) = nI n then p else _) = _
      rw [if_pos (by rw [Nat.add_zero])]
      rfl
  | succ j ih =>
    intro ps n h1
    cases ps with
    | nil => rfl
    | cons p ps =>
      show (if nI (n + (j + 1)) = nI n then p else sw_ (nI (n + (j + 1))) (n + 1) ps d) = _
      rw [if_neg (fun q => by rw [nI_eq (by omega) (by omega)] at q; omega), show n + (j + 1) = n + 1 + j by omega, ih ps (n + 1) (by omega), List.getElem?_cons_succ]
theorem sw_get0 {β : Type} {d : Option β} {j : Nat} {ps : List (Option β)} (h1 : j < 2147483648) : sw_ (nI j) 0 ps d = (ps[j]?).getD d := by
  have := sw_get d (j := j) ps 0 (by omega)
  rwa [Nat.zero_add] at this
theorem sw_none {β : Type} {x : Int32} {d : Option β} : ∀ (ps : List (Option β)) (n : Nat), (∀ j, n ≤ j → j < n + ps.length → x ≠ nI j) → sw_ x n ps d = d
  | [], _, _ => rfl
  | p :: ps, n, h => by
    show (if x = nI n then p else sw_ x (n + 1) ps d) = d
    rw [if_neg (h n (Nat.le_refl n) (by simp only [List.length_cons]; omega))]
    exact sw_none ps (n + 1) (fun j h1 h2 => h j (by omega) (by simp only [List.length_cons]; omega))
theorem sw_none0 {β : Type} {x : Int32} {N : Nat} {d : Option β} {ps : List (Option β)} (hx : x < nI 0 ∨ nI N ≤ x) (hN : N < 2147483648) (hl : ps.length ≤ N) : sw_ x 0 ps d = d := sw_none ps 0 (fun j _ h2 => of_eq_false (nix_ne hx (show j < N by omega) hN))
theorem q_fault (h : IV σ R) (x : Int32) : QI (Rp_fault σ x) (Mo_fault σ x) σ := by
  obtain ⟨h1, hc, en⟩ := thr h 0
  obtain ⟨-, t1, t2⟩ := h1.2.2.2.2.2.2.2
  have e1 := hc.2 463 0 rfl
  have e2 := hc.2 464 0 rfl
  unfold Rp_fault Mo_fault
  rw [lt_eq]
  generalize setF σ 840 0 0 = s1 at *
  rw [e1] at t1
  rw [e2] at t2
  rcases sel x 2 with ⟨j, hj, rfl⟩ | hx
  · rcases (show j = 0 ∨ j = 1 by omega) with rfl | rfl <;> simp (disch := omega) only [bd_some, bd_none, lt_eq, lk_eq, fa_lit, nI_add, nI_mul, nI_sub, nle_t, nle_f, nlt_t, nlt_f, neq_t, neq_f, neg_ne, neg_ne', if_true, if_false, ite_true, ite_false, Nat.zero_add, Nat.add_zero, ld0, ld1, ld2, ld3, ld4, ld5, ld6, ld7, ld8, ld9, ld10, ld11, ld12, ld13, ld14, ld15, ld16, ld17, ld18, ld19, ld20, ld21, ld22, ld23, ld24, ld25, ld26, ld27, ld28, ld29, ld30, ld31, ld32, ld33, ld34, ld35, ld36, ld37, ld38, ld39, ld40, ld41, ld42, ld43, ld44, ld45, ld46, ld47, ld48, ld100, ld101, ld102, ld103, ld104, ld105, sw_, t1, t2] <;> exact ⟨_, _, rfl, rfl, hc⟩
  · simp (disch := omega) only [bd_some, bd_none, lt_eq, lk_eq, fa_lit, nI_add, nI_mul, nI_sub, nle_t, nle_f, nlt_t, nlt_f, neq_t, neq_f, neg_ne, neg_ne', if_true, if_false, ite_true, ite_false, Nat.zero_add, Nat.add_zero, ld0, ld1, ld2, ld3, ld4, ld5, ld6, ld7, ld8, ld9, ld10, ld11, ld12, ld13, ld14, ld15, ld16, ld17, ld18, ld19, ld20, ld21, ld22, ld23, ld24, ld25, ld26, ld27, ld28, ld29, ld30, ld31, ld32, ld33, ld34, ld35, ld36, ld37, ld38, ld39, ld40, ld41, ld42, ld43, ld44, ld45, ld46, ld47, ld48, ld100, ld101, ld102, ld103, ld104, ld105, sw_, hx]
    exact ⟨_, _, rfl, rfl, hc⟩
theorem q_count (h : IV σ R) (x : Int32) : QI (Rp_count σ x) (Mo_count σ x) σ := by
  obtain ⟨h1, hc, en⟩ := thr h 0
  have ln := h1.mr.2.2.2.1
  obtain ⟨c, t, -, -, k1, k2, -⟩ := h1.2.2.2.2.2.2.1
  obtain ⟨⟨n, -, n1, n2, -⟩, -⟩ := h1.2.2.2.2.2.2.2
  rw [hc.2 330 0 rfl] at k1
  rw [hc.2 652 0 rfl] at n1
  unfold Rp_count Mo_count
  rw [lt_eq]
  generalize setF σ 840 0 0 = s1 at *
  rcases at_or (x := x) (n := 10) (by omega) with ⟨j, hj, rfl⟩ | hx
  · rcases (show j = 0 ∨ j = 1 ∨ j = 2 ∨ j = 3 ∨ j = 4 ∨ j = 5 ∨ j = 6 ∨ j = 7 ∨ j = 8 ∨ j = 9 by omega) with rfl | rfl | rfl | rfl | rfl | rfl | rfl | rfl | rfl | rfl <;> simp (disch := decide) only [sw_get0, List.getElem?_cons_succ, List.getElem?_cons_zero, Option.getD_some] <;> simp (disch := omega) only [bd_some, bd_none, lt_eq, lk_eq, fa_lit, nI_add, nI_mul, nI_sub, nle_t, nle_f, nlt_t, nlt_f, neq_t, neq_f, neg_ne, neg_ne', if_true, if_false, ite_true, ite_false, Nat.zero_add, Nat.add_zero, ld0, ld1, ld2, ld3, ld4, ld5, ld6, ld7, ld8, ld9, ld10, ld11, ld12, ld13, ld14, ld15, ld16, ld17, ld18, ld19, ld20, ld21, ld22, ld23, ld24, ld25, ld26, ld27, ld28, ld29, ld30, ld31, ld32, ld33, ld34, ld35, ld36, ld37, ld38, ld39, ld40, ld41, ld42, ld43, ld44, ld45, ld46, ld47, ld48, ld100, ld101, ld102, ld103, ld104, ld105, h.q0, h.cr.ln, h.cr.L, h.cr.P, h.cr.S, h.cr.ld, h.cr.kp, h.br.yr, h1.mr.L, h1.mr.P, h1.mr.S, h1.mr.ld, h1.mr.kp, ln, Wo_openInAll_eq h.cr h.br.W h.ro h.ho, Mo_openAll_eq h1.mr h1.ro, en, k1, k2, n1, n2] <;> exact ⟨_, _, rfl, rfl, hc⟩
  · rw [sw_none0 hx (by decide), sw_none0 hx (by decide)] <;> first | exact Nat.le_of_ble_eq_true rfl | skip
    simp only [fa_lit]
    exact ⟨_, _, rfl, rfl, hc⟩
theorem q_of (h : IV σ R) (x y z : Int32) : QI (Rp_of σ x y z) (Mo_of σ x y z) σ := by
  obtain ⟨h1, hc, en⟩ := thr h 0
  unfold Rp_of Mo_of
  rw [lt_eq]
  generalize setF σ 840 0 0 = s1 at *
  have o3 := h.ro.S
  rcases at_or (x := x) (n := R 0 2) (by omega) with ⟨s, hs, rfl⟩ | hx
  · have o8 := h.ro.s hs
    simp (disch := omega) only [bd_some, bd_none, lt_eq, lk_eq, fa_lit, nI_add, nI_mul, nI_sub, nle_t, nle_f, nlt_t, nlt_f, neq_t, neq_f, neg_ne, neg_ne', if_true, if_false, ite_true, ite_false, Nat.zero_add, Nat.add_zero, ld0, ld1, ld2, ld3, ld4, ld5, ld6, ld7, ld8, ld9, ld10, ld11, ld12, ld13, ld14, ld15, ld16, ld17, ld18, ld19, ld20, ld21, ld22, ld23, ld24, ld25, ld26, ld27, ld28, ld29, ld30, ld31, ld32, ld33, ld34, ld35, ld36, ld37, ld38, ld39, ld40, ld41, ld42, ld43, ld44, ld45, ld46, ld47, ld48, ld100, ld101, ld102, ld103, ld104, ld105, Rp_isSession_t h hs, Mo_isSession_t h1.mr h1.ro hs]
    rcases at_or (x := y) (n := R 2 s) (by omega) with ⟨k, hk, rfl⟩ | hy
    · simp (disch := omega) only [bd_some, bd_none, lt_eq, lk_eq, fa_lit, nI_add, nI_mul, nI_sub, nle_t, nle_f, nlt_t, nlt_f, neq_t, neq_f, neg_ne, neg_ne', if_true, if_false, ite_true, ite_false, Nat.zero_add, Nat.add_zero, ld0, ld1, ld2, ld3, ld4, ld5, ld6, ld7, ld8, ld9, ld10, ld11, ld12, ld13, ld14, ld15, ld16, ld17, ld18, ld19, ld20, ld21, ld22, ld23, ld24, ld25, ld26, ld27, ld28, ld29, ld30, ld31, ld32, ld33, ld34, ld35, ld36, ld37, ld38, ld39, ld40, ld41, ld42, ld43, ld44, ld45, ld46, ld47, ld48, ld100, ld101, ld102, ld103, ld104, ld105]
      rcases at_or (x := z) (n := 2) (by omega) with ⟨w, hw, rfl⟩ | hz
      · rcases (show w = 0 ∨ w = 1 by omega) with rfl | rfl <;> simp (disch := omega) only [bd_some, bd_none, lt_eq, lk_eq, fa_lit, nI_add, nI_mul, nI_sub, nle_t, nle_f, nlt_t, nlt_f, neq_t, neq_f, neg_ne, neg_ne', if_true, if_false, ite_true, ite_false, Nat.zero_add, Nat.add_zero, ld0, ld1, ld2, ld3, ld4, ld5, ld6, ld7, ld8, ld9, ld10, ld11, ld12, ld13, ld14, ld15, ld16, ld17, ld18, ld19, ld20, ld21, ld22, ld23, ld24, ld25, ld26, ld27, ld28, ld29, ld30, ld31, ld32, ld33, ld34, ld35, ld36, ld37, ld38, ld39, ld40, ld41, ld42, ld43, ld44, ld45, ld46, ld47, ld48, ld100, ld101, ld102, ld103, ld104, ld105, Rp_isChoice_t, h.q0, h.cr.mk hs, h1.mr.mk hs, h.cr.mb' hs hk, h.cr.mr' hs hk, h1.mr.mb hs hk, h1.mr.mr hs hk] <;> exact ⟨_, _, rfl, rfl, hc⟩
      · simp (disch := omega) only [bd_some, bd_none, lt_eq, lk_eq, fa_lit, nI_add, nI_mul, nI_sub, nle_t, nle_f, nlt_t, nlt_f, neq_t, neq_f, neg_ne, neg_ne', if_true, if_false, ite_true, ite_false, Nat.zero_add, Nat.add_zero, ld0, ld1, ld2, ld3, ld4, ld5, ld6, ld7, ld8, ld9, ld10, ld11, ld12, ld13, ld14, ld15, ld16, ld17, ld18, ld19, ld20, ld21, ld22, ld23, ld24, ld25, ld26, ld27, ld28, ld29, ld30, ld31, ld32, ld33, ld34, ld35, ld36, ld37, ld38, ld39, ld40, ld41, ld42, ld43, ld44, ld45, ld46, ld47, ld48, ld100, ld101, ld102, ld103, ld104, ld105, Rp_isChoice_f hz, nix_if hz]
        exact ⟨_, _, rfl, rfl, hc⟩
    · rcases at_or (x := z) (n := 2) (by omega) with ⟨w, hw, rfl⟩ | hz
      · have hlt : (y < nI (R 2 s)) = False ∨ y < nI 0 := by
          rcases hy with q | q
          · exact Or.inr q
          · exact Or.inl (eq_false (fun e => Int32.lt_irrefl (Int32.lt_of_lt_of_le e q)))
        rcases hlt with q | q
        · simp (disch := omega) only [bd_some, bd_none, lt_eq, lk_eq, fa_lit, nI_add, nI_mul, nI_sub, nle_t, nle_f, nlt_t, nlt_f, neq_t, neq_f, neg_ne, neg_ne', if_true, if_false, ite_true, ite_false, Nat.zero_add, Nat.add_zero, ld0, ld1, ld2, ld3, ld4, ld5, ld6, ld7, ld8, ld9, ld10, ld11, ld12, ld13, ld14, ld15, ld16, ld17, ld18, ld19, ld20, ld21, ld22, ld23, ld24, ld25, ld26, ld27, ld28, ld29, ld30, ld31, ld32, ld33, ld34, ld35, ld36, ld37, ld38, ld39, ld40, ld41, ld42, ld43, ld44, ld45, ld46, ld47, ld48, ld100, ld101, ld102, ld103, ld104, ld105, Rp_isChoice_t, h.q0, h.cr.mk hs, h1.mr.mk hs, q]
          by_cases e : y < nI 0 <;> simp only [e, if_true, if_false] <;> exact ⟨_, _, rfl, rfl, hc⟩
        · simp (disch := omega) only [bd_some, bd_none, lt_eq, lk_eq, fa_lit, nI_add, nI_mul, nI_sub, nle_t, nle_f, nlt_t, nlt_f, neq_t, neq_f, neg_ne, neg_ne', if_true, if_false, ite_true, ite_false, Nat.zero_add, Nat.add_zero, ld0, ld1, ld2, ld3, ld4, ld5, ld6, ld7, ld8, ld9, ld10, ld11, ld12, ld13, ld14, ld15, ld16, ld17, ld18, ld19, ld20, ld21, ld22, ld23, ld24, ld25, ld26, ld27, ld28, ld29, ld30, ld31, ld32, ld33, ld34, ld35, ld36, ld37, ld38, ld39, ld40, ld41, ld42, ld43, ld44, ld45, ld46, ld47, ld48, ld100, ld101, ld102, ld103, ld104, ld105, q]
          exact ⟨_, _, rfl, rfl, hc⟩
      · simp (disch := omega) only [bd_some, bd_none, lt_eq, lk_eq, fa_lit, nI_add, nI_mul, nI_sub, nle_t, nle_f, nlt_t, nlt_f, neq_t, neq_f, neg_ne, neg_ne', if_true, if_false, ite_true, ite_false, Nat.zero_add, Nat.add_zero, ld0, ld1, ld2, ld3, ld4, ld5, ld6, ld7, ld8, ld9, ld10, ld11, ld12, ld13, ld14, ld15, ld16, ld17, ld18, ld19, ld20, ld21, ld22, ld23, ld24, ld25, ld26, ld27, ld28, ld29, ld30, ld31, ld32, ld33, ld34, ld35, ld36, ld37, ld38, ld39, ld40, ld41, ld42, ld43, ld44, ld45, ld46, ld47, ld48, ld100, ld101, ld102, ld103, ld104, ld105, Rp_isChoice_f hz, nix_if hz, ite_self]
        exact ⟨_, _, rfl, rfl, hc⟩
  · simp (disch := omega) only [bd_some, bd_none, lt_eq, lk_eq, fa_lit, nI_add, nI_mul, nI_sub, nle_t, nle_f, nlt_t, nlt_f, neq_t, neq_f, neg_ne, neg_ne', if_true, if_false, ite_true, ite_false, Nat.zero_add, Nat.add_zero, ld0, ld1, ld2, ld3, ld4, ld5, ld6, ld7, ld8, ld9, ld10, ld11, ld12, ld13, ld14, ld15, ld16, ld17, ld18, ld19, ld20, ld21, ld22, ld23, ld24, ld25, ld26, ld27, ld28, ld29, ld30, ld31, ld32, ld33, ld34, ld35, ld36, ld37, ld38, ld39, ld40, ld41, ld42, ld43, ld44, ld45, ld46, ld47, ld48, ld100, ld101, ld102, ld103, ld104, ld105, Rp_isSession_f h hx, Mo_isSession_f h1.mr hx]
    exact ⟨_, _, rfl, rfl, hc⟩
theorem q_seat (h : IV σ R) (x y : Int32) : QI (Rp_seat σ x y) (Mo_seat σ x y) σ := by
  obtain ⟨h1, hc, en⟩ := thr h 0
  unfold Rp_seat Mo_seat
  rw [lt_eq]
  generalize setF σ 840 0 0 = s1 at *
  have o3 := h.ro.S
  rcases at_or (x := x) (n := R 0 2) (by omega) with ⟨s, hs, rfl⟩ | hx
  · have o8 := h.ro.s hs
    rcases at_or (x := y) (n := R 3 s) (by omega) with ⟨t, ht, rfl⟩ | hy
    · simp (disch := omega) only [bd_some, bd_none, lt_eq, lk_eq, fa_lit, nI_add, nI_mul, nI_sub, nle_t, nle_f, nlt_t, nlt_f, neq_t, neq_f, neg_ne, neg_ne', if_true, if_false, ite_true, ite_false, Nat.zero_add, Nat.add_zero, ld0, ld1, ld2, ld3, ld4, ld5, ld6, ld7, ld8, ld9, ld10, ld11, ld12, ld13, ld14, ld15, ld16, ld17, ld18, ld19, ld20, ld21, ld22, ld23, ld24, ld25, ld26, ld27, ld28, ld29, ld30, ld31, ld32, ld33, ld34, ld35, ld36, ld37, ld38, ld39, ld40, ld41, ld42, ld43, ld44, ld45, ld46, ld47, ld48, ld100, ld101, ld102, ld103, ld104, ld105, Rp_isSeat_t h hs ht, Mo_isSeat_t h1.mr h1.ro hs ht, h.br.W.ho, Mo_owner_eq, en, hol]
      by_cases e : σ.1 34 0 (2604 + 5 * s + t) = -nI 1 <;> simp only [e, if_true, if_false] <;> exact ⟨_, _, rfl, rfl, hc⟩
    · simp (disch := omega) only [bd_some, bd_none, lt_eq, lk_eq, fa_lit, nI_add, nI_mul, nI_sub, nle_t, nle_f, nlt_t, nlt_f, neq_t, neq_f, neg_ne, neg_ne', if_true, if_false, ite_true, ite_false, Nat.zero_add, Nat.add_zero, ld0, ld1, ld2, ld3, ld4, ld5, ld6, ld7, ld8, ld9, ld10, ld11, ld12, ld13, ld14, ld15, ld16, ld17, ld18, ld19, ld20, ld21, ld22, ld23, ld24, ld25, ld26, ld27, ld28, ld29, ld30, ld31, ld32, ld33, ld34, ld35, ld36, ld37, ld38, ld39, ld40, ld41, ld42, ld43, ld44, ld45, ld46, ld47, ld48, ld100, ld101, ld102, ld103, ld104, ld105, Rp_isSeat_f h hs hy, Mo_isSeat_f h1.mr h1.ro hs hy]
      exact ⟨_, _, rfl, rfl, hc⟩
  · simp (disch := omega) only [bd_some, bd_none, lt_eq, lk_eq, fa_lit, nI_add, nI_mul, nI_sub, nle_t, nle_f, nlt_t, nlt_f, neq_t, neq_f, neg_ne, neg_ne', if_true, if_false, ite_true, ite_false, Nat.zero_add, Nat.add_zero, ld0, ld1, ld2, ld3, ld4, ld5, ld6, ld7, ld8, ld9, ld10, ld11, ld12, ld13, ld14, ld15, ld16, ld17, ld18, ld19, ld20, ld21, ld22, ld23, ld24, ld25, ld26, ld27, ld28, ld29, ld30, ld31, ld32, ld33, ld34, ld35, ld36, ld37, ld38, ld39, ld40, ld41, ld42, ld43, ld44, ld45, ld46, ld47, ld48, ld100, ld101, ld102, ld103, ld104, ld105, Rp_isSeat_g h hx, Mo_isSeat_g h1.mr hx]
    exact ⟨_, _, rfl, rfl, hc⟩
theorem q_role (h : IV σ R) (x y : Int32) : QI (Rp_role σ x y) (Mo_role σ x y) σ := by
  obtain ⟨h1, hc, en⟩ := thr h 0
  unfold Rp_role Mo_role
  rw [lt_eq]
  generalize setF σ 840 0 0 = s1 at *
  have o2 := h.ro.P
  have o3 := h.ro.S
  rcases at_or (x := x) (n := R 0 1) (by omega) with ⟨p, hp, rfl⟩ | hx
  · rcases at_or (x := y) (n := R 0 2) (by omega) with ⟨s, hs, rfl⟩ | hy
    · simp (disch := omega) only [bd_some, bd_none, lt_eq, lk_eq, fa_lit, nI_add, nI_mul, nI_sub, nle_t, nle_f, nlt_t, nlt_f, neq_t, neq_f, neg_ne, neg_ne', if_true, if_false, ite_true, ite_false, Nat.zero_add, Nat.add_zero, ld0, ld1, ld2, ld3, ld4, ld5, ld6, ld7, ld8, ld9, ld10, ld11, ld12, ld13, ld14, ld15, ld16, ld17, ld18, ld19, ld20, ld21, ld22, ld23, ld24, ld25, ld26, ld27, ld28, ld29, ld30, ld31, ld32, ld33, ld34, ld35, ld36, ld37, ld38, ld39, ld40, ld41, ld42, ld43, ld44, ld45, ld46, ld47, ld48, ld100, ld101, ld102, ld103, ld104, ld105, Rp_isPlayer_t h hp, Mo_isPlayer_t h1.mr h1.ro hp, Rp_isSession_t h hs, Mo_isSession_t h1.mr h1.ro hs, h.q0, Wo_roleIn_eq h.cr h.br.W h.ro h.ho hs, Mo_roleOf_eq h1.mr h1.ro hs, en]
      exact ⟨_, _, rfl, rfl, hc⟩
    · simp (disch := omega) only [bd_some, bd_none, lt_eq, lk_eq, fa_lit, nI_add, nI_mul, nI_sub, nle_t, nle_f, nlt_t, nlt_f, neq_t, neq_f, neg_ne, neg_ne', if_true, if_false, ite_true, ite_false, Nat.zero_add, Nat.add_zero, ld0, ld1, ld2, ld3, ld4, ld5, ld6, ld7, ld8, ld9, ld10, ld11, ld12, ld13, ld14, ld15, ld16, ld17, ld18, ld19, ld20, ld21, ld22, ld23, ld24, ld25, ld26, ld27, ld28, ld29, ld30, ld31, ld32, ld33, ld34, ld35, ld36, ld37, ld38, ld39, ld40, ld41, ld42, ld43, ld44, ld45, ld46, ld47, ld48, ld100, ld101, ld102, ld103, ld104, ld105, Rp_isPlayer_t h hp, Mo_isPlayer_t h1.mr h1.ro hp, Rp_isSession_f h hy, Mo_isSession_f h1.mr hy]
      exact ⟨_, _, rfl, rfl, hc⟩
  · simp (disch := omega) only [bd_some, bd_none, lt_eq, lk_eq, fa_lit, nI_add, nI_mul, nI_sub, nle_t, nle_f, nlt_t, nlt_f, neq_t, neq_f, neg_ne, neg_ne', if_true, if_false, ite_true, ite_false, Nat.zero_add, Nat.add_zero, ld0, ld1, ld2, ld3, ld4, ld5, ld6, ld7, ld8, ld9, ld10, ld11, ld12, ld13, ld14, ld15, ld16, ld17, ld18, ld19, ld20, ld21, ld22, ld23, ld24, ld25, ld26, ld27, ld28, ld29, ld30, ld31, ld32, ld33, ld34, ld35, ld36, ld37, ld38, ld39, ld40, ld41, ld42, ld43, ld44, ld45, ld46, ld47, ld48, ld100, ld101, ld102, ld103, ld104, ld105, Rp_isPlayer_f h hx, Mo_isPlayer_f h1.mr hx]
    exact ⟨_, _, rfl, rfl, hc⟩
theorem Mo_isRole_t {a : Nat} (ha : a < 2) : Mo_isRole σ (nI a) = some (nI 1) := by
  unfold Mo_isRole
  rcases (show a = 0 ∨ a = 1 by omega) with rfl | rfl <;> simp (disch := omega) only [bd_some, bd_none, lt_eq, lk_eq, fa_lit, nI_add, nI_mul, nI_sub, nle_t, nle_f, nlt_t, nlt_f, neq_t, neq_f, neg_ne, neg_ne', if_true, if_false, ite_true, ite_false, Nat.zero_add, Nat.add_zero, ld0, ld1, ld2, ld3, ld4, ld5, ld6, ld7, ld8, ld9, ld10, ld11, ld12, ld13, ld14, ld15, ld16, ld17, ld18, ld19, ld20, ld21, ld22, ld23, ld24, ld25, ld26, ld27, ld28, ld29, ld30, ld31, ld32, ld33, ld34, ld35, ld36, ld37, ld38, ld39, ld40, ld41, ld42, ld43, ld44, ld45, ld46, ld47, ld48, ld100, ld101, ld102, ld103, ld104, ld105]
theorem Mo_isRole_f {x : Int32} (hx : x < nI 0 ∨ nI 2 ≤ x) : Mo_isRole σ x = some (nI 0) := by
  unfold Mo_isRole
  simp (disch := omega) only [bd_some, bd_none, lt_eq, lk_eq, fa_lit, nI_add, nI_mul, nI_sub, nle_t, nle_f, nlt_t, nlt_f, neq_t, neq_f, neg_ne, neg_ne', if_true, if_false, ite_true, ite_false, Nat.zero_add, Nat.add_zero, ld0, ld1, ld2, ld3, ld4, ld5, ld6, ld7, ld8, ld9, ld10, ld11, ld12, ld13, ld14, ld15, ld16, ld17, ld18, ld19, ld20, ld21, ld22, ld23, ld24, ld25, ld26, ld27, ld28, ld29, ld30, ld31, ld32, ld33, ld34, ld35, ld36, ld37, ld38, ld39, ld40, ld41, ld42, ld43, ld44, ld45, ld46, ld47, ld48, ld100, ld101, ld102, ld103, ld104, ld105, nix_ne hx]
theorem q_pays (h : IV σ R) (x y z : Int32) : QI (Rp_pays σ x y z) (Mo_pays σ x y z) σ := by
  obtain ⟨h1, hc, en⟩ := thr h 0
  unfold Rp_pays Mo_pays
  rw [lt_eq]
  generalize setF σ 840 0 0 = s1 at *
  have o1 := h.ro.L
  rcases at_or (x := x) (n := R 0 0) (by omega) with ⟨l, hl, rfl⟩ | hx
  · rcases at_or (x := y) (n := R 0 0) (by omega) with ⟨o, hq, rfl⟩ | hy
    · rcases at_or (x := z) (n := 2) (by omega) with ⟨w, hw, rfl⟩ | hz
      · simp (disch := omega) only [bd_some, bd_none, lt_eq, lk_eq, fa_lit, nI_add, nI_mul, nI_sub, nle_t, nle_f, nlt_t, nlt_f, neq_t, neq_f, neg_ne, neg_ne', if_true, if_false, ite_true, ite_false, Nat.zero_add, Nat.add_zero, ld0, ld1, ld2, ld3, ld4, ld5, ld6, ld7, ld8, ld9, ld10, ld11, ld12, ld13, ld14, ld15, ld16, ld17, ld18, ld19, ld20, ld21, ld22, ld23, ld24, ld25, ld26, ld27, ld28, ld29, ld30, ld31, ld32, ld33, ld34, ld35, ld36, ld37, ld38, ld39, ld40, ld41, ld42, ld43, ld44, ld45, ld46, ld47, ld48, ld100, ld101, ld102, ld103, ld104, ld105, Rp_isLand_t h, Mo_isLand_t h1.mr h1.ro, Rp_isChoice_t, Mo_isRole_t, Wo_payable_eq h.br.W h.ro, Mo_doesPay_eq, en, b01_0]
        cases pay (σ.1 34 0) l o w <;> exact ⟨_, _, rfl, rfl, hc⟩
      · simp (disch := omega) only [bd_some, bd_none, lt_eq, lk_eq, fa_lit, nI_add, nI_mul, nI_sub, nle_t, nle_f, nlt_t, nlt_f, neq_t, neq_f, neg_ne, neg_ne', if_true, if_false, ite_true, ite_false, Nat.zero_add, Nat.add_zero, ld0, ld1, ld2, ld3, ld4, ld5, ld6, ld7, ld8, ld9, ld10, ld11, ld12, ld13, ld14, ld15, ld16, ld17, ld18, ld19, ld20, ld21, ld22, ld23, ld24, ld25, ld26, ld27, ld28, ld29, ld30, ld31, ld32, ld33, ld34, ld35, ld36, ld37, ld38, ld39, ld40, ld41, ld42, ld43, ld44, ld45, ld46, ld47, ld48, ld100, ld101, ld102, ld103, ld104, ld105, Rp_isLand_t h, Mo_isLand_t h1.mr h1.ro, Rp_isChoice_f hz, Mo_isRole_f hz]
        exact ⟨_, _, rfl, rfl, hc⟩
    · simp (disch := omega) only [bd_some, bd_none, lt_eq, lk_eq, fa_lit, nI_add, nI_mul, nI_sub, nle_t, nle_f, nlt_t, nlt_f, neq_t, neq_f, neg_ne, neg_ne', if_true, if_false, ite_true, ite_false, Nat.zero_add, Nat.add_zero, ld0, ld1, ld2, ld3, ld4, ld5, ld6, ld7, ld8, ld9, ld10, ld11, ld12, ld13, ld14, ld15, ld16, ld17, ld18, ld19, ld20, ld21, ld22, ld23, ld24, ld25, ld26, ld27, ld28, ld29, ld30, ld31, ld32, ld33, ld34, ld35, ld36, ld37, ld38, ld39, ld40, ld41, ld42, ld43, ld44, ld45, ld46, ld47, ld48, ld100, ld101, ld102, ld103, ld104, ld105, Rp_isLand_t h hl, Mo_isLand_t h1.mr h1.ro hl, Rp_isLand_f h hy, Mo_isLand_f h1.mr hy]
      exact ⟨_, _, rfl, rfl, hc⟩
  · simp (disch := omega) only [bd_some, bd_none, lt_eq, lk_eq, fa_lit, nI_add, nI_mul, nI_sub, nle_t, nle_f, nlt_t, nlt_f, neq_t, neq_f, neg_ne, neg_ne', if_true, if_false, ite_true, ite_false, Nat.zero_add, Nat.add_zero, ld0, ld1, ld2, ld3, ld4, ld5, ld6, ld7, ld8, ld9, ld10, ld11, ld12, ld13, ld14, ld15, ld16, ld17, ld18, ld19, ld20, ld21, ld22, ld23, ld24, ld25, ld26, ld27, ld28, ld29, ld30, ld31, ld32, ld33, ld34, ld35, ld36, ld37, ld38, ld39, ld40, ld41, ld42, ld43, ld44, ld45, ld46, ld47, ld48, ld100, ld101, ld102, ld103, ld104, ld105, Rp_isLand_f h hx, Mo_isLand_f h1.mr hx]
    exact ⟨_, _, rfl, rfl, hc⟩
theorem q_paidBy (h : IV σ R) (x z : Int32) : QI (Rp_paidBy σ x z) (Mo_paidBy σ x z) σ := by
  obtain ⟨h1, hc, en⟩ := thr h 0
  unfold Rp_paidBy Mo_paidBy
  rw [lt_eq]
  generalize setF σ 840 0 0 = s1 at *
  have o1 := h.ro.L
  rcases at_or (x := x) (n := R 0 0) (by omega) with ⟨l, hl, rfl⟩ | hx
  · rcases at_or (x := z) (n := 2) (by omega) with ⟨w, hw, rfl⟩ | hz
    · simp (disch := omega) only [bd_some, bd_none, lt_eq, lk_eq, fa_lit, nI_add, nI_mul, nI_sub, nle_t, nle_f, nlt_t, nlt_f, neq_t, neq_f, neg_ne, neg_ne', if_true, if_false, ite_true, ite_false, Nat.zero_add, Nat.add_zero, ld0, ld1, ld2, ld3, ld4, ld5, ld6, ld7, ld8, ld9, ld10, ld11, ld12, ld13, ld14, ld15, ld16, ld17, ld18, ld19, ld20, ld21, ld22, ld23, ld24, ld25, ld26, ld27, ld28, ld29, ld30, ld31, ld32, ld33, ld34, ld35, ld36, ld37, ld38, ld39, ld40, ld41, ld42, ld43, ld44, ld45, ld46, ld47, ld48, ld100, ld101, ld102, ld103, ld104, ld105, Rp_isLand_t h, Mo_isLand_t h1.mr h1.ro, Rp_isChoice_t, Mo_isRole_t, h.q0, Wo_payers_eq h.cr h.br.W h.ro, Mo_paidByOf_eq h1.mr h1.ro, en]
      exact ⟨_, _, rfl, rfl, hc⟩
    · simp (disch := omega) only [bd_some, bd_none, lt_eq, lk_eq, fa_lit, nI_add, nI_mul, nI_sub, nle_t, nle_f, nlt_t, nlt_f, neq_t, neq_f, neg_ne, neg_ne', if_true, if_false, ite_true, ite_false, Nat.zero_add, Nat.add_zero, ld0, ld1, ld2, ld3, ld4, ld5, ld6, ld7, ld8, ld9, ld10, ld11, ld12, ld13, ld14, ld15, ld16, ld17, ld18, ld19, ld20, ld21, ld22, ld23, ld24, ld25, ld26, ld27, ld28, ld29, ld30, ld31, ld32, ld33, ld34, ld35, ld36, ld37, ld38, ld39, ld40, ld41, ld42, ld43, ld44, ld45, ld46, ld47, ld48, ld100, ld101, ld102, ld103, ld104, ld105, Rp_isLand_t h, Mo_isLand_t h1.mr h1.ro, Rp_isChoice_f hz, Mo_isRole_f hz]
      exact ⟨_, _, rfl, rfl, hc⟩
  · simp (disch := omega) only [bd_some, bd_none, lt_eq, lk_eq, fa_lit, nI_add, nI_mul, nI_sub, nle_t, nle_f, nlt_t, nlt_f, neq_t, neq_f, neg_ne, neg_ne', if_true, if_false, ite_true, ite_false, Nat.zero_add, Nat.add_zero, ld0, ld1, ld2, ld3, ld4, ld5, ld6, ld7, ld8, ld9, ld10, ld11, ld12, ld13, ld14, ld15, ld16, ld17, ld18, ld19, ld20, ld21, ld22, ld23, ld24, ld25, ld26, ld27, ld28, ld29, ld30, ld31, ld32, ld33, ld34, ld35, ld36, ld37, ld38, ld39, ld40, ld41, ld42, ld43, ld44, ld45, ld46, ld47, ld48, ld100, ld101, ld102, ld103, ld104, ld105, Rp_isLand_f h hx, Mo_isLand_f h1.mr hx]
    exact ⟨_, _, rfl, rfl, hc⟩
end Q1

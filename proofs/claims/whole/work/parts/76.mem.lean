/-! ===== a member of a session ===== -/
def SIn (a c : ST) (r S P m : Nat) : Prop := (∀ s, s < S → SE (a.1 17 r) (c.1 45 0) (a.1 18 r) (c.1 46 0) (a.1 19 r) (c.1 43 0) (a.1 20 r) (c.1 44 0) P s) ∧ m ≤ 8 ∧ a.1 17 r S = nI m ∧ c.1 45 0 S = nI m ∧ (∀ j, j < m → ∃ v w, v < P ∧ w < 2 ∧ a.1 19 r (8 * S + j) = nI v ∧ c.1 43 0 (8 * S + j) = nI v ∧ a.1 20 r (8 * S + j) = nI w ∧ c.1 44 0 (8 * S + j) = nI w) ∧ ∀ i j, j < m → i < j → a.1 19 r (8 * S + i) ≠ a.1 19 r (8 * S + j)
def cl (r k i : Nat) : Bool := cc k i || ((decide (k = 17) || (decide (k = 19) || decide (k = 20))) && decide (i = r))
def ml (k i : Nat) : Bool := mc k i || decide (43 ≤ k ∧ k ≤ 45)
theorem clk {r k : Nat} (h : k = 17 ∨ k = 19 ∨ k = 20) : cl r k r = true := by
  unfold cl
  rcases h with rfl | rfl | rfl <;> simp
theorem cc_cl {r : Nat} {a a' : ST} (h : FrK cc a a') : FrK (cl r) a a' := h.mono (fun k i hk => by
  unfold cl at hk
  simp only [Bool.or_eq_false_iff] at hk
  exact hk.1)
theorem mc_ml {c c' : ST} (h : FrK mc c c') : FrK ml c c' := h.mono (fun k i hk => by
  unfold ml at hk
  simp only [Bool.or_eq_false_iff] at hk
  exact hk.1)
theorem clf {r k i : Nat} (h1 : cc k i = false) (h2 : (decide (k = 17) || (decide (k = 19) || decide (k = 20))) = false) : cl r k i = false := by
  unfold cl
  rw [h1, h2]
  rfl
def mTail (a : ST) (r : Nat) (x2 v2 x : Int32) : Option ST := bd_ (Rd_advance a) (fun q7 => bd_ (stI q7 19 r ((x2 * 8) + v2) x) (fun s8 => bd_ (Rd_oneOf s8 12 13) (fun q9 => bd_ (stI q9.2 20 r ((x2 * 8) + v2) q9.1) (fun s10 => bd_ (ldI s10 17 r x2) (fun v11 => bd_ (stI s10 17 r x2 (v11 + 1)) (fun s12 => some s12))))))
section Mem
variable {a c a' c' : ST} {b : Nat → Nat} {n t r L P S m : Nat}
theorem one_fl (h : flM a c) (x y : Int32) : ∃ v, Rd_oneOf a x y = some (v, a) := by
  obtain ⟨e3, _⟩ := bl_fl h 1
  obtain ⟨e4, e5⟩ := ad_fl h
  obtain ⟨f, u, g1, g2, g3, g4, g5, g6, g7⟩ := h
  refine ⟨a.1 22 0 u - x, ?_⟩
  unfold Rd_oneOf
  show bd_ (ldI a 22 0 (a.1 460 0 0)) _ = _
  rw [g7, ld22 (by omega), bd_some]
  simp only [lk_eq, e3, bd_some, e4, ite_self]
theorem sm8 : nI S * 8 + nI m = nI (8 * S + m) := by
  show nI S * nI 8 + nI m = _
  rw [nI_mul, nI_add, Nat.mul_comm]
theorem tail_fl (h : flM a c) (hS : S < 8) (hm : m < 8) (h17 : a.1 17 r S = nI m) (x : Int32) : ∃ a', mTail a r (nI S) (nI m) x = some a' ∧ flM a' c ∧ FrK (cl r) a a' ∧ a'.2.1 = a.2.1 := by
  have fw : flM (setR a 19 r (upd (a.1 19 r) (8 * S + m) x)) c := (flM_w (rd_ne (by decide)) (rd_ne (by decide)) (rd_ne (by decide)) (fun _ _ _ => rfl)).mpr h
  obtain ⟨v, ev⟩ := one_fl fw 12 13
  refine ⟨setR (setR (setR a 19 r (upd (a.1 19 r) (8 * S + m) x)) 20 r (upd ((setR a 19 r (upd (a.1 19 r) (8 * S + m) x)).1 20 r) (8 * S + m) v)) 17 r (upd ((setR (setR a 19 r (upd (a.1 19 r) (8 * S + m) x)) 20 r (upd ((setR a 19 r (upd (a.1 19 r) (8 * S + m) x)).1 20 r) (8 * S + m) v)).1 17 r) S (nI m + 1)), ?_, ?_, ((FrK.setR a _ (clk (by decide))).tr (FrK.setR _ _ (clk (by decide)))).tr (FrK.setR _ _ (clk (by decide))), rfl⟩
  · unfold mTail
    rw [(ad_fl h).1, bd_some, sm8, st19 (by omega), bd_some, ev, bd_some]
    show bd_ (stI (setR a 19 r (upd (a.1 19 r) (8 * S + m) x)) 20 r (nI (8 * S + m)) v) _ = _
    rw [st20 (by omega), bd_some, ld17 hS, bd_some, st17 hS, bd_some]
    simp (disch := decide) only [rd_ne, h17]
  · exact (flM_w ((rd_ne (by decide)).trans (rd_ne (by decide))) ((rd_ne (by decide)).trans (rd_ne (by decide))) ((rd_ne (by decide)).trans (rd_ne (by decide))) (fun _ _ _ => rfl)).mpr fw
theorem roleT {x : Int32} (hS : S < 8) (hm : m ≤ 8) (h17 : a.1 17 r S = nI m) : Rl_roleTold a r x (nI S) = some (if fd (fun j => decide (a.1 19 r (8 * S + j) = x)) m < m then a.1 20 r (8 * S + fd (fun j => decide (a.1 19 r (8 * S + j) = x)) m) else -nI 2) := by
  unfold Rl_roleTold
  refine lp_find m (by omega) (fun j => decide (a.1 19 r (8 * S + j) = x)) (fun k => nI k) (fun rec k hk hq => ?_) (fun rec k hk hq e2 => ?_) (fun rec e2 => ?_)
  · simp only [decide_eq_false_iff_not] at hq
    show bd_ (ldI a 17 r (nI S)) (fun v4 => (if v4 ≤ nI k then _ else bd_ (ldI a 19 r ((nI S * 8) + nI k)) (fun v5 => (if v5 = x then _ else rec (nI k + nI 1))))) = _
    rw [ld17 hS, bd_some, h17, if_neg (of_eq_false (nle_f hk (by omega))), sm8, ld19 (by omega), bd_some, if_neg hq, nI_add]
  · simp only [decide_eq_true_eq] at hq
    rw [← e2, if_pos hk]
    show bd_ (ldI a 17 r (nI S)) (fun v4 => (if v4 ≤ nI k then _ else bd_ (ldI a 19 r ((nI S * 8) + nI k)) (fun v5 => (if v5 = x then bd_ (ldI a 20 r ((nI S * 8) + nI k)) (fun v6 => some v6) else _)))) = _
    rw [ld17 hS, bd_some, h17, if_neg (of_eq_false (nle_f hk (by omega))), sm8, ld19 (by omega), bd_some, if_pos hq, ld20 (by omega), bd_some]
  · rw [e2, if_neg (Nat.lt_irrefl m)]
    show bd_ (ldI a 17 r (nI S)) (fun v4 => (if v4 ≤ nI m then some (-nI 2) else _)) = _
    rw [ld17 hS, bd_some, h17, if_pos (of_eq_true (nle_t (Nat.le_refl m) (by omega)))]
theorem dupL {x : Int32} (K : ST → Option ST) (hS : S < 8) (hm : m ≤ 8) (h45 : c.1 45 0 S = nI m) (h63 : c.1 863 0 0 = nI 0) {c1 : ST} {f : Nat} (ew : Mo_wrong c 3 = some c1) (hf : 0 < f) (hf2 : f < 5) (h631 : c1.1 863 0 0 = nI f) : lp_ (fun rec20 (z19 : ST × Int32) => (if (gF z19.1 863 0) = 0 then bd_ (ldI z19.1 45 0 (nI S)) (fun v22 => (if v22 ≤ z19.2 then K z19.1 else bd_ (ldI z19.1 43 0 ((8 * nI S) + z19.2)) (fun v23 => (if v23 = x then bd_ (Mo_wrong z19.1 3) (fun q24 => rec20 (q24, (z19.2 + 1))) else rec20 (z19.1, (z19.2 + 1)))))) else K z19.1)) FU (c, 0) = if fd (fun j => decide (c.1 43 0 (8 * S + j) = x)) m < m then K c1 else K c := by
  have g63 : gF c 863 0 = nI 0 := h63
  have g631 : gF c1 863 0 = nI f := h631
  have s8 : ∀ k, 8 * nI S + nI k = nI (8 * S + k) := fun k => by show nI 8 * nI S + nI k = _; rw [nI_mul, nI_add]
  generalize hF : fd (fun j => decide (c.1 43 0 (8 * S + j) = x)) m = F at *
  have hFm : F ≤ m := by rw [← hF]; exact fd_le _ _
  have hno : ∀ k, k < F → ¬ c.1 43 0 (8 * S + k) = x := fun k hk => by
    have := fd_no (p := fun j => decide (c.1 43 0 (8 * S + j) = x)) (n := m) (k := k) (by omega)
    simpa using this
  have st : ∀ (rec : ST × Int32 → Option ST) (k : Nat), k < F → (if (gF c 863 0) = 0 then bd_ (ldI c 45 0 (nI S)) (fun v22 => (if v22 ≤ nI k then K c else bd_ (ldI c 43 0 ((8 * nI S) + nI k)) (fun v23 => (if v23 = x then bd_ (Mo_wrong c 3) (fun q24 => rec (q24, (nI k + 1))) else rec (c, (nI k + 1)))))) else K c) = rec (c, nI (k + 1)) := fun rec k hk => by
    rw [g63, if_pos (show nI 0 = (0 : Int32) from rfl), ld45 hS, bd_some, h45, if_neg (of_eq_false (nle_f (by omega) (by omega))), s8, ld43 (by omega), bd_some, if_neg (hno k hk)]
    exact congrArg (fun q => rec (c, q)) (nI_add k 1)
  by_cases cf : F < m
  · rw [if_pos cf]
    have hy : c.1 43 0 (8 * S + F) = x := by
      have := fd_yes (p := fun j => decide (c.1 43 0 (8 * S + j) = x)) (n := m) (by rw [hF]; exact cf)
      rw [hF] at this
      simpa using this
    refine lp_runE (F + 1) (by omega) (fun k => if k ≤ F then (c, nI k) else (c1, nI k)) (by rw [if_pos (Nat.zero_le F)]; rfl) (fun rec k hk => ?_) (fun rec => ?_)
    · rcases Nat.lt_or_ge k F with ck | ck
      · rw [show (if k ≤ F then (c, nI k) else (c1, nI k)) = (c, nI k) from if_pos (by omega), show (if k + 1 ≤ F then (c, nI (k + 1)) else (c1, nI (k + 1))) = (c, nI (k + 1)) from if_pos (by omega)]
        exact st rec k ck
      · have ek : k = F := by omega
        subst ek
        rw [show (if k ≤ k then (c, nI k) else (c1, nI k)) = (c, nI k) from if_pos (Nat.le_refl k), show (if k + 1 ≤ k then (c, nI (k + 1)) else (c1, nI (k + 1))) = (c1, nI (k + 1)) from if_neg (by omega)]
        show (if (gF c 863 0) = 0 then bd_ (ldI c 45 0 (nI S)) (fun v22 => (if v22 ≤ nI k then K c else bd_ (ldI c 43 0 ((8 * nI S) + nI k)) (fun v23 => (if v23 = x then bd_ (Mo_wrong c 3) (fun q24 => rec (q24, (nI k + nI 1))) else rec (c, (nI k + 1)))))) else K c) = _
        rw [g63, if_pos (show nI 0 = (0 : Int32) from rfl), ld45 hS, bd_some, h45, if_neg (of_eq_false (nle_f (by omega) (by omega))), s8, ld43 (by omega), bd_some, if_pos hy, ew, bd_some, nI_add]
    · rw [show (if F + 1 ≤ F then (c, nI (F + 1)) else (c1, nI (F + 1))) = (c1, nI (F + 1)) from if_neg (by omega)]
      show (if (gF c1 863 0) = 0 then _ else K c1) = _
      rw [g631, if_neg (of_eq_false (nf0 hf (by omega)))]
  · rw [if_neg cf]
    refine lp_runE F (by omega) (fun k => (c, nI k)) rfl (fun rec k hk => st rec k hk) (fun rec => ?_)
    show (if (gF c 863 0) = 0 then bd_ (ldI c 45 0 (nI S)) (fun v22 => (if v22 ≤ nI F then K c else _)) else _) = _
    rw [g63, if_pos (show nI 0 = (0 : Int32) from rfl), ld45 hS, bd_some, h45, if_pos (of_eq_true (nle_t (by omega) (by omega)))]
end Mem

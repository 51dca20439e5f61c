/-! ===== the pure part: loops, numbers, rows ===== -/
theorem bd_some {α β : Type} (x : α) (f : α → Option β) : bd_ (some x) f = f x := Eq.trans rfl rfl
theorem bd_none {α β : Type} (f : α → Option β) : bd_ none f = none := Eq.trans rfl rfl
theorem lt_eq {α β : Type} (x : α) (f : α → β) : lt_ x f = f x := Eq.trans rfl rfl
theorem lk_eq {α β : Type} (body : (α → β) → β) (k : α → β) : lk_ body k = body k := Eq.trans rfl rfl
theorem lp_run {τ β : Type} {step : (τ → Option β) → τ → Option β} {r : Option β} (n : Nat) (hn : n < 100000) (x : Nat → τ) (hs : ∀ (rec : τ → Option β) (k : Nat), k < n → step rec (x k) = rec (x (k + 1))) (he : ∀ rec : τ → Option β, step rec (x n) = r) : lp_ step FU (x 0) = r := by
  have key : ∀ (d k m : Nat), k + d = n → d < m → lp_ step m (x k) = r := by
    intro d
    induction d with
    | zero =>
      intro k m hk hm
      cases m with
      | zero => omega
      | succ m =>
        have : k = n := by omega
        subst this
        exact he _
    | succ d ih =>
      intro k m hk hm
      cases m with
      | zero => omega
      | succ m =>
        show step (lp_ step m) (x k) = r
        rw [hs _ k (by omega)]
        exact ih (k + 1) m (by omega) (by omega)
  exact key n 0 FU (by omega) (by unfold FU; omega)
theorem nI_mul (a b : Nat) : nI a * nI b = nI (a * b) := (Int32.ofNat_mul a b).symm
theorem nI_sub {a b : Nat} (h : b ≤ a) : nI a - nI b = nI (a - b) := by
  have : nI a = nI (a - b) + nI b := by rw [nI_add, Nat.sub_add_cancel h]
  rw [this, Int32.add_sub_cancel]
theorem nle_t {a b : Nat} (h : a ≤ b) (hb : b < 2147483648) : (nI a ≤ nI b) = True := eq_true ((nI_leI (by omega) hb).mpr h)
theorem nle_f {a b : Nat} (h : b < a) (hb : a < 2147483648) : (nI a ≤ nI b) = False := eq_false (fun q => by have := (nI_leI hb (by omega)).mp q; omega)
theorem nlt_t {a b : Nat} (h : a < b) (hb : b < 2147483648) : (nI a < nI b) = True := eq_true ((nI_ltI (by omega) hb).mpr h)
theorem nlt_f {a b : Nat} (h : b ≤ a) (hb : a < 2147483648) : (nI a < nI b) = False := eq_false (fun q => by have := (nI_ltI hb (by omega)).mp q; omega)
theorem neq_t {a b : Nat} (h : a = b) : (nI a = nI b) = True := eq_true (by rw [h])
theorem neq_f {a b : Nat} (h : a ≠ b) (ha : a < 2147483648) (hb : b < 2147483648) : (nI a = nI b) = False := eq_false (fun q => h ((nI_eq ha hb).mp q))
theorem neq_i {a b : Nat} (ha : a < 2147483648) (hb : b < 2147483648) : (nI a = nI b) = (a = b) := propext (nI_eq ha hb)
theorem nle_i {a b : Nat} (ha : a < 2147483648) (hb : b < 2147483648) : (nI a ≤ nI b) = (a ≤ b) := propext (nI_leI ha hb)
theorem nlt_i {a b : Nat} (ha : a < 2147483648) (hb : b < 2147483648) : (nI a < nI b) = (a < b) := propext (nI_ltI ha hb)
theorem neg_ne {a b : Nat} (ha : a < 2147483648) (hb : 0 < b ∧ b < 2147483648) : (nI a = -nI b) = False := by
  apply eq_false
  intro q
  have h1 := congrArg Int32.toInt q
  have hb2 : (-nI b).toInt = -(b : Int) := by
    rw [fb_negI (by rw [nI_toInt hb.2]; omega), nI_toInt hb.2]
  rw [nI_toInt ha, hb2] at h1
  omega
theorem neg_ne' {a b : Nat} (ha : a < 2147483648) (hb : 0 < b ∧ b < 2147483648) : (-nI b = nI a) = False := by
  exact eq_false (fun q => of_eq_false (neg_ne ha hb) q.symm)
theorem ldI_in {σ : ST} {k i j n : Nat} (hl : lenI k = n) (hn : n < 2147483648) (h : j < n) : ldI σ k i (nI j) = some (σ.1 k i j) := by
  unfold ldI inB
  rw [nI_clamp (by omega), hl]
  simp only [nI_pos' (show j < 2 ^ 31 by omega), h, decide_true, Bool.and_self, if_true]
theorem stI_in {σ : ST} {k i j n : Nat} {v : Int32} (hl : lenI k = n) (hn : n < 2147483648) (h : j < n) : stI σ k i (nI j) v = some (setR σ k i (upd (σ.1 k i) j v)) := by
  unfold stI inB
  rw [nI_clamp (by omega), hl]
  simp only [nI_pos' (show j < 2 ^ 31 by omega), h, decide_true, Bool.and_self, if_true]
theorem ldL_in {σ : ST} {k i j n : Nat} (hl : lenL k = n) (hn : n < 2147483648) (h : j < n) : ldL σ k i (nI j) = some (σ.2.1 k i j) := by
  unfold ldL inB
  rw [nI_clamp (by omega), hl]
  simp only [nI_pos' (show j < 2 ^ 31 by omega), h, decide_true, Bool.and_self, if_true]
theorem stL_in {σ : ST} {k i j n : Nat} {v : Int64} (hl : lenL k = n) (hn : n < 2147483648) (h : j < n) : stL σ k i (nI j) v = some (setL σ k i (vp_updL (σ.2.1 k i) j v)) := by
  unfold stL inB
  rw [nI_clamp (by omega), hl]
  simp only [nI_pos' (show j < 2 ^ 31 by omega), h, decide_true, Bool.and_self, if_true]
theorem ld0 {σ : ST} {i j : Nat} (h : j < 6) : ldI σ 0 i (nI j) = some (σ.1 0 i j) := ldI_in rfl (by decide) h
theorem st0 {σ : ST} {i j : Nat} {v : Int32} (h : j < 6) : stI σ 0 i (nI j) v = some (setR σ 0 i (upd (σ.1 0 i) j v)) := stI_in rfl (by decide) h
theorem ld1 {σ : ST} {i j : Nat} (h : j < 6) : ldI σ 1 i (nI j) = some (σ.1 1 i j) := ldI_in rfl (by decide) h
theorem st1 {σ : ST} {i j : Nat} {v : Int32} (h : j < 6) : stI σ 1 i (nI j) v = some (setR σ 1 i (upd (σ.1 1 i) j v)) := stI_in rfl (by decide) h
theorem ld2 {σ : ST} {i j : Nat} (h : j < 8) : ldI σ 2 i (nI j) = some (σ.1 2 i j) := ldI_in rfl (by decide) h
theorem st2 {σ : ST} {i j : Nat} {v : Int32} (h : j < 8) : stI σ 2 i (nI j) v = some (setR σ 2 i (upd (σ.1 2 i) j v)) := stI_in rfl (by decide) h
theorem ld3 {σ : ST} {i j : Nat} (h : j < 8) : ldI σ 3 i (nI j) = some (σ.1 3 i j) := ldI_in rfl (by decide) h
theorem st3 {σ : ST} {i j : Nat} {v : Int32} (h : j < 8) : stI σ 3 i (nI j) v = some (setR σ 3 i (upd (σ.1 3 i) j v)) := stI_in rfl (by decide) h
theorem ld4 {σ : ST} {i j : Nat} (h : j < 96) : ldI σ 4 i (nI j) = some (σ.1 4 i j) := ldI_in rfl (by decide) h
theorem st4 {σ : ST} {i j : Nat} {v : Int32} (h : j < 96) : stI σ 4 i (nI j) v = some (setR σ 4 i (upd (σ.1 4 i) j v)) := stI_in rfl (by decide) h
theorem ld5 {σ : ST} {i j : Nat} (h : j < 96) : ldI σ 5 i (nI j) = some (σ.1 5 i j) := ldI_in rfl (by decide) h
theorem st5 {σ : ST} {i j : Nat} {v : Int32} (h : j < 96) : stI σ 5 i (nI j) v = some (setR σ 5 i (upd (σ.1 5 i) j v)) := stI_in rfl (by decide) h
theorem ld6 {σ : ST} {i j : Nat} (h : j < 240) : ldI σ 6 i (nI j) = some (σ.1 6 i j) := ldI_in rfl (by decide) h
theorem st6 {σ : ST} {i j : Nat} {v : Int32} (h : j < 240) : stI σ 6 i (nI j) v = some (setR σ 6 i (upd (σ.1 6 i) j v)) := stI_in rfl (by decide) h
theorem ld7 {σ : ST} {i j : Nat} (h : j < 2160) : ldI σ 7 i (nI j) = some (σ.1 7 i j) := ldI_in rfl (by decide) h
theorem st7 {σ : ST} {i j : Nat} {v : Int32} (h : j < 2160) : stI σ 7 i (nI j) v = some (setR σ 7 i (upd (σ.1 7 i) j v)) := stI_in rfl (by decide) h
theorem ld8 {σ : ST} {i j : Nat} (h : j < 16) : ldI σ 8 i (nI j) = some (σ.1 8 i j) := ldI_in rfl (by decide) h
theorem st8 {σ : ST} {i j : Nat} {v : Int32} (h : j < 16) : stI σ 8 i (nI j) v = some (setR σ 8 i (upd (σ.1 8 i) j v)) := stI_in rfl (by decide) h
theorem ld9 {σ : ST} {i j : Nat} (h : j < 13) : ldI σ 9 i (nI j) = some (σ.1 9 i j) := ldI_in rfl (by decide) h
theorem st9 {σ : ST} {i j : Nat} {v : Int32} (h : j < 13) : stI σ 9 i (nI j) v = some (setR σ 9 i (upd (σ.1 9 i) j v)) := stI_in rfl (by decide) h
theorem ld10 {σ : ST} {i j : Nat} (h : j < 13) : ldI σ 10 i (nI j) = some (σ.1 10 i j) := ldI_in rfl (by decide) h
theorem st10 {σ : ST} {i j : Nat} {v : Int32} (h : j < 13) : stI σ 10 i (nI j) v = some (setR σ 10 i (upd (σ.1 10 i) j v)) := stI_in rfl (by decide) h
theorem ld11 {σ : ST} {i j : Nat} (h : j < 13) : ldI σ 11 i (nI j) = some (σ.1 11 i j) := ldI_in rfl (by decide) h
theorem st11 {σ : ST} {i j : Nat} {v : Int32} (h : j < 13) : stI σ 11 i (nI j) v = some (setR σ 11 i (upd (σ.1 11 i) j v)) := stI_in rfl (by decide) h
theorem ld12 {σ : ST} {i j : Nat} (h : j < 3) : ldI σ 12 i (nI j) = some (σ.1 12 i j) := ldI_in rfl (by decide) h
theorem st12 {σ : ST} {i j : Nat} {v : Int32} (h : j < 3) : stI σ 12 i (nI j) v = some (setR σ 12 i (upd (σ.1 12 i) j v)) := stI_in rfl (by decide) h
theorem ld13 {σ : ST} {i j : Nat} (h : j < 6) : ldI σ 13 i (nI j) = some (σ.1 13 i j) := ldI_in rfl (by decide) h
theorem st13 {σ : ST} {i j : Nat} {v : Int32} (h : j < 6) : stI σ 13 i (nI j) v = some (setR σ 13 i (upd (σ.1 13 i) j v)) := stI_in rfl (by decide) h
theorem ld14 {σ : ST} {i j : Nat} (h : j < 6) : ldI σ 14 i (nI j) = some (σ.1 14 i j) := ldI_in rfl (by decide) h
theorem st14 {σ : ST} {i j : Nat} {v : Int32} (h : j < 6) : stI σ 14 i (nI j) v = some (setR σ 14 i (upd (σ.1 14 i) j v)) := stI_in rfl (by decide) h
theorem ld15 {σ : ST} {i j : Nat} (h : j < 6) : ldI σ 15 i (nI j) = some (σ.1 15 i j) := ldI_in rfl (by decide) h
theorem st15 {σ : ST} {i j : Nat} {v : Int32} (h : j < 6) : stI σ 15 i (nI j) v = some (setR σ 15 i (upd (σ.1 15 i) j v)) := stI_in rfl (by decide) h
theorem ld16 {σ : ST} {i j : Nat} (h : j < 16) : ldI σ 16 i (nI j) = some (σ.1 16 i j) := ldI_in rfl (by decide) h
theorem st16 {σ : ST} {i j : Nat} {v : Int32} (h : j < 16) : stI σ 16 i (nI j) v = some (setR σ 16 i (upd (σ.1 16 i) j v)) := stI_in rfl (by decide) h
theorem ld17 {σ : ST} {i j : Nat} (h : j < 8) : ldI σ 17 i (nI j) = some (σ.1 17 i j) := ldI_in rfl (by decide) h
theorem st17 {σ : ST} {i j : Nat} {v : Int32} (h : j < 8) : stI σ 17 i (nI j) v = some (setR σ 17 i (upd (σ.1 17 i) j v)) := stI_in rfl (by decide) h
theorem ld18 {σ : ST} {i j : Nat} (h : j < 8) : ldI σ 18 i (nI j) = some (σ.1 18 i j) := ldI_in rfl (by decide) h
theorem st18 {σ : ST} {i j : Nat} {v : Int32} (h : j < 8) : stI σ 18 i (nI j) v = some (setR σ 18 i (upd (σ.1 18 i) j v)) := stI_in rfl (by decide) h
theorem ld19 {σ : ST} {i j : Nat} (h : j < 64) : ldI σ 19 i (nI j) = some (σ.1 19 i j) := ldI_in rfl (by decide) h
theorem st19 {σ : ST} {i j : Nat} {v : Int32} (h : j < 64) : stI σ 19 i (nI j) v = some (setR σ 19 i (upd (σ.1 19 i) j v)) := stI_in rfl (by decide) h
theorem ld20 {σ : ST} {i j : Nat} (h : j < 64) : ldI σ 20 i (nI j) = some (σ.1 20 i j) := ldI_in rfl (by decide) h
theorem st20 {σ : ST} {i j : Nat} {v : Int32} (h : j < 64) : stI σ 20 i (nI j) v = some (setR σ 20 i (upd (σ.1 20 i) j v)) := stI_in rfl (by decide) h
theorem ld21 {σ : ST} {i j : Nat} (h : j < 900) : ldI σ 21 i (nI j) = some (σ.1 21 i j) := ldI_in rfl (by decide) h
theorem st21 {σ : ST} {i j : Nat} {v : Int32} (h : j < 900) : stI σ 21 i (nI j) v = some (setR σ 21 i (upd (σ.1 21 i) j v)) := stI_in rfl (by decide) h
theorem ld22 {σ : ST} {i j : Nat} (h : j < 901) : ldI σ 22 i (nI j) = some (σ.1 22 i j) := ldI_in rfl (by decide) h
theorem st22 {σ : ST} {i j : Nat} {v : Int32} (h : j < 901) : stI σ 22 i (nI j) v = some (setR σ 22 i (upd (σ.1 22 i) j v)) := stI_in rfl (by decide) h
theorem ld23 {σ : ST} {i j : Nat} (h : j < 901) : ldI σ 23 i (nI j) = some (σ.1 23 i j) := ldI_in rfl (by decide) h
theorem st23 {σ : ST} {i j : Nat} {v : Int32} (h : j < 901) : stI σ 23 i (nI j) v = some (setR σ 23 i (upd (σ.1 23 i) j v)) := stI_in rfl (by decide) h
theorem ld24 {σ : ST} {i j : Nat} (h : j < 6) : ldI σ 24 i (nI j) = some (σ.1 24 i j) := ldI_in rfl (by decide) h
theorem st24 {σ : ST} {i j : Nat} {v : Int32} (h : j < 6) : stI σ 24 i (nI j) v = some (setR σ 24 i (upd (σ.1 24 i) j v)) := stI_in rfl (by decide) h
theorem ld25 {σ : ST} {i j : Nat} (h : j < 6) : ldI σ 25 i (nI j) = some (σ.1 25 i j) := ldI_in rfl (by decide) h
theorem st25 {σ : ST} {i j : Nat} {v : Int32} (h : j < 6) : stI σ 25 i (nI j) v = some (setR σ 25 i (upd (σ.1 25 i) j v)) := stI_in rfl (by decide) h
theorem ld26 {σ : ST} {i j : Nat} (h : j < 16) : ldI σ 26 i (nI j) = some (σ.1 26 i j) := ldI_in rfl (by decide) h
theorem st26 {σ : ST} {i j : Nat} {v : Int32} (h : j < 16) : stI σ 26 i (nI j) v = some (setR σ 26 i (upd (σ.1 26 i) j v)) := stI_in rfl (by decide) h
theorem ld27 {σ : ST} {i j : Nat} (h : j < 40) : ldI σ 27 i (nI j) = some (σ.1 27 i j) := ldI_in rfl (by decide) h
theorem st27 {σ : ST} {i j : Nat} {v : Int32} (h : j < 40) : stI σ 27 i (nI j) v = some (setR σ 27 i (upd (σ.1 27 i) j v)) := stI_in rfl (by decide) h
theorem ld28 {σ : ST} {i j : Nat} (h : j < 900) : ldI σ 28 i (nI j) = some (σ.1 28 i j) := ldI_in rfl (by decide) h
theorem st28 {σ : ST} {i j : Nat} {v : Int32} (h : j < 900) : stI σ 28 i (nI j) v = some (setR σ 28 i (upd (σ.1 28 i) j v)) := stI_in rfl (by decide) h
theorem ld29 {σ : ST} {i j : Nat} (h : j < 6) : ldI σ 29 i (nI j) = some (σ.1 29 i j) := ldI_in rfl (by decide) h
theorem st29 {σ : ST} {i j : Nat} {v : Int32} (h : j < 6) : stI σ 29 i (nI j) v = some (setR σ 29 i (upd (σ.1 29 i) j v)) := stI_in rfl (by decide) h
theorem ld30 {σ : ST} {i j : Nat} (h : j < 64) : ldI σ 30 i (nI j) = some (σ.1 30 i j) := ldI_in rfl (by decide) h
theorem st30 {σ : ST} {i j : Nat} {v : Int32} (h : j < 64) : stI σ 30 i (nI j) v = some (setR σ 30 i (upd (σ.1 30 i) j v)) := stI_in rfl (by decide) h
theorem ld31 {σ : ST} {i j : Nat} (h : j < 64) : ldI σ 31 i (nI j) = some (σ.1 31 i j) := ldI_in rfl (by decide) h
theorem st31 {σ : ST} {i j : Nat} {v : Int32} (h : j < 64) : stI σ 31 i (nI j) v = some (setR σ 31 i (upd (σ.1 31 i) j v)) := stI_in rfl (by decide) h
theorem ld32 {σ : ST} {i j : Nat} (h : j < 8) : ldI σ 32 i (nI j) = some (σ.1 32 i j) := ldI_in rfl (by decide) h
theorem st32 {σ : ST} {i j : Nat} {v : Int32} (h : j < 8) : stI σ 32 i (nI j) v = some (setR σ 32 i (upd (σ.1 32 i) j v)) := stI_in rfl (by decide) h
theorem ld33 {σ : ST} {i j : Nat} (h : j < 8) : ldI σ 33 i (nI j) = some (σ.1 33 i j) := ldI_in rfl (by decide) h
theorem st33 {σ : ST} {i j : Nat} {v : Int32} (h : j < 8) : stI σ 33 i (nI j) v = some (setR σ 33 i (upd (σ.1 33 i) j v)) := stI_in rfl (by decide) h
theorem ld34 {σ : ST} {i j : Nat} (h : j < 2689) : ldI σ 34 i (nI j) = some (σ.1 34 i j) := ldI_in rfl (by decide) h
theorem st34 {σ : ST} {i j : Nat} {v : Int32} (h : j < 2689) : stI σ 34 i (nI j) v = some (setR σ 34 i (upd (σ.1 34 i) j v)) := stI_in rfl (by decide) h
theorem ld35 {σ : ST} {i j : Nat} (h : j < 32268) : ldI σ 35 i (nI j) = some (σ.1 35 i j) := ldI_in rfl (by decide) h
theorem st35 {σ : ST} {i j : Nat} {v : Int32} (h : j < 32268) : stI σ 35 i (nI j) v = some (setR σ 35 i (upd (σ.1 35 i) j v)) := stI_in rfl (by decide) h
theorem ld36 {σ : ST} {i j : Nat} (h : j < 6) : ldI σ 36 i (nI j) = some (σ.1 36 i j) := ldI_in rfl (by decide) h
theorem st36 {σ : ST} {i j : Nat} {v : Int32} (h : j < 6) : stI σ 36 i (nI j) v = some (setR σ 36 i (upd (σ.1 36 i) j v)) := stI_in rfl (by decide) h
theorem ld37 {σ : ST} {i j : Nat} (h : j < 16) : ldI σ 37 i (nI j) = some (σ.1 37 i j) := ldI_in rfl (by decide) h
theorem st37 {σ : ST} {i j : Nat} {v : Int32} (h : j < 16) : stI σ 37 i (nI j) v = some (setR σ 37 i (upd (σ.1 37 i) j v)) := stI_in rfl (by decide) h
theorem ld38 {σ : ST} {i j : Nat} (h : j < 8) : ldI σ 38 i (nI j) = some (σ.1 38 i j) := ldI_in rfl (by decide) h
theorem st38 {σ : ST} {i j : Nat} {v : Int32} (h : j < 8) : stI σ 38 i (nI j) v = some (setR σ 38 i (upd (σ.1 38 i) j v)) := stI_in rfl (by decide) h
theorem ld39 {σ : ST} {i j : Nat} (h : j < 6) : ldI σ 39 i (nI j) = some (σ.1 39 i j) := ldI_in rfl (by decide) h
theorem st39 {σ : ST} {i j : Nat} {v : Int32} (h : j < 6) : stI σ 39 i (nI j) v = some (setR σ 39 i (upd (σ.1 39 i) j v)) := stI_in rfl (by decide) h
theorem ld40 {σ : ST} {i j : Nat} (h : j < 6) : ldI σ 40 i (nI j) = some (σ.1 40 i j) := ldI_in rfl (by decide) h
theorem st40 {σ : ST} {i j : Nat} {v : Int32} (h : j < 6) : stI σ 40 i (nI j) v = some (setR σ 40 i (upd (σ.1 40 i) j v)) := stI_in rfl (by decide) h
theorem ld41 {σ : ST} {i j : Nat} (h : j < 6) : ldI σ 41 i (nI j) = some (σ.1 41 i j) := ldI_in rfl (by decide) h
theorem st41 {σ : ST} {i j : Nat} {v : Int32} (h : j < 6) : stI σ 41 i (nI j) v = some (setR σ 41 i (upd (σ.1 41 i) j v)) := stI_in rfl (by decide) h
theorem ld42 {σ : ST} {i j : Nat} (h : j < 16) : ldI σ 42 i (nI j) = some (σ.1 42 i j) := ldI_in rfl (by decide) h
theorem st42 {σ : ST} {i j : Nat} {v : Int32} (h : j < 16) : stI σ 42 i (nI j) v = some (setR σ 42 i (upd (σ.1 42 i) j v)) := stI_in rfl (by decide) h
theorem ld43 {σ : ST} {i j : Nat} (h : j < 64) : ldI σ 43 i (nI j) = some (σ.1 43 i j) := ldI_in rfl (by decide) h
theorem st43 {σ : ST} {i j : Nat} {v : Int32} (h : j < 64) : stI σ 43 i (nI j) v = some (setR σ 43 i (upd (σ.1 43 i) j v)) := stI_in rfl (by decide) h
theorem ld44 {σ : ST} {i j : Nat} (h : j < 64) : ldI σ 44 i (nI j) = some (σ.1 44 i j) := ldI_in rfl (by decide) h
theorem st44 {σ : ST} {i j : Nat} {v : Int32} (h : j < 64) : stI σ 44 i (nI j) v = some (setR σ 44 i (upd (σ.1 44 i) j v)) := stI_in rfl (by decide) h
theorem ld45 {σ : ST} {i j : Nat} (h : j < 8) : ldI σ 45 i (nI j) = some (σ.1 45 i j) := ldI_in rfl (by decide) h
theorem st45 {σ : ST} {i j : Nat} {v : Int32} (h : j < 8) : stI σ 45 i (nI j) v = some (setR σ 45 i (upd (σ.1 45 i) j v)) := stI_in rfl (by decide) h
theorem ld46 {σ : ST} {i j : Nat} (h : j < 8) : ldI σ 46 i (nI j) = some (σ.1 46 i j) := ldI_in rfl (by decide) h
theorem st46 {σ : ST} {i j : Nat} {v : Int32} (h : j < 8) : stI σ 46 i (nI j) v = some (setR σ 46 i (upd (σ.1 46 i) j v)) := stI_in rfl (by decide) h
theorem ld47 {σ : ST} {i j : Nat} (h : j < 13) : ldI σ 47 i (nI j) = some (σ.1 47 i j) := ldI_in rfl (by decide) h
theorem st47 {σ : ST} {i j : Nat} {v : Int32} (h : j < 13) : stI σ 47 i (nI j) v = some (setR σ 47 i (upd (σ.1 47 i) j v)) := stI_in rfl (by decide) h
theorem ld48 {σ : ST} {i j : Nat} (h : j < 16) : ldI σ 48 i (nI j) = some (σ.1 48 i j) := ldI_in rfl (by decide) h
theorem st48 {σ : ST} {i j : Nat} {v : Int32} (h : j < 16) : stI σ 48 i (nI j) v = some (setR σ 48 i (upd (σ.1 48 i) j v)) := stI_in rfl (by decide) h
theorem ld100 {σ : ST} {i j : Nat} (h : j < 16) : ldL σ 100 i (nI j) = some (σ.2.1 100 i j) := ldL_in rfl (by decide) h
theorem st100 {σ : ST} {i j : Nat} {v : Int64} (h : j < 16) : stL σ 100 i (nI j) v = some (setL σ 100 i (vp_updL (σ.2.1 100 i) j v)) := stL_in rfl (by decide) h
theorem ld101 {σ : ST} {i j : Nat} (h : j < 6) : ldL σ 101 i (nI j) = some (σ.2.1 101 i j) := ldL_in rfl (by decide) h
theorem st101 {σ : ST} {i j : Nat} {v : Int64} (h : j < 6) : stL σ 101 i (nI j) v = some (setL σ 101 i (vp_updL (σ.2.1 101 i) j v)) := stL_in rfl (by decide) h
theorem ld102 {σ : ST} {i j : Nat} (h : j < 16) : ldL σ 102 i (nI j) = some (σ.2.1 102 i j) := ldL_in rfl (by decide) h
theorem st102 {σ : ST} {i j : Nat} {v : Int64} (h : j < 16) : stL σ 102 i (nI j) v = some (setL σ 102 i (vp_updL (σ.2.1 102 i) j v)) := stL_in rfl (by decide) h
theorem ld103 {σ : ST} {i j : Nat} (h : j < 8) : ldL σ 103 i (nI j) = some (σ.2.1 103 i j) := ldL_in rfl (by decide) h
theorem st103 {σ : ST} {i j : Nat} {v : Int64} (h : j < 8) : stL σ 103 i (nI j) v = some (setL σ 103 i (vp_updL (σ.2.1 103 i) j v)) := stL_in rfl (by decide) h
theorem ld104 {σ : ST} {i j : Nat} (h : j < 901) : ldL σ 104 i (nI j) = some (σ.2.1 104 i j) := ldL_in rfl (by decide) h
theorem st104 {σ : ST} {i j : Nat} {v : Int64} (h : j < 901) : stL σ 104 i (nI j) v = some (setL σ 104 i (vp_updL (σ.2.1 104 i) j v)) := stL_in rfl (by decide) h
theorem ld105 {σ : ST} {i j : Nat} (h : j < 1) : ldL σ 105 i (nI j) = some (σ.2.1 105 i j) := ldL_in rfl (by decide) h
theorem st105 {σ : ST} {i j : Nat} {v : Int64} (h : j < 1) : stL σ 105 i (nI j) v = some (setL σ 105 i (vp_updL (σ.2.1 105 i) j v)) := stL_in rfl (by decide) h
/-- a public number that may be anything: it is a place below n, or it is none -/
theorem at_or {x : Int32} {n : Nat} (hn : n < 2147483648) : (∃ j, j < n ∧ x = nI j) ∨ (x < nI 0 ∨ nI n ≤ x) := by
  by_cases h : x < 0
  · exact Or.inr (Or.inl h)
  · obtain ⟨j, hj, rfl⟩ := nI_of h
    by_cases h2 : j < n
    · exact Or.inl ⟨j, h2, rfl⟩
    · exact Or.inr (Or.inr ((nI_leI hn hj).mpr (by omega)))
/-! sums -/
def sI (g : Nat → Int32) : Nat → Int32
  | 0 => 0
  | n + 1 => sI g n + g n
theorem sI_succ (g : Nat → Int32) (n : Nat) : sI g (n + 1) = sI g n + g n := rfl
theorem sI_0 (g : Nat → Int32) : sI g 0 = nI 0 := rfl
theorem sI_cong {f g : Nat → Int32} : ∀ {n : Nat}, (∀ k, k < n → f k = g k) → sI f n = sI g n
  | 0, _ => rfl
  | n + 1, h => by rw [sI_succ, sI_succ, sI_cong (n := n) (fun k hk => h k (by omega)), h n (by omega)]
theorem sI_zero {g : Nat → Int32} : ∀ {n : Nat}, (∀ k, k < n → g k = 0) → sI g n = 0
  | 0, _ => rfl
  | n + 1, h => by rw [sI_succ, sI_zero (n := n) (fun k hk => h k (by omega)), h n (by omega)]; rfl
theorem sI_add (f g : Nat → Int32) : ∀ n, sI (fun k => f k + g k) n = sI f n + sI g n
  | 0 => rfl
  | n + 1 => by
    rw [sI_succ, sI_succ, sI_succ, sI_add f g n]
    simp only [Int32.add_assoc]
    congr 1
    rw [← Int32.add_assoc, Int32.add_comm (sI g n) (f n), Int32.add_assoc]
theorem sI_sub (f g : Nat → Int32) : ∀ n, sI (fun k => f k - g k) n = sI f n - sI g n
  | 0 => (Int32.sub_self 0).symm
  | n + 1 => by
    rw [sI_succ, sI_succ, sI_succ, sI_sub f g n]
    simp only [Int32.sub_eq_add_neg, Int32.neg_add, Int32.add_assoc]
    congr 1
    rw [← Int32.add_assoc, Int32.add_comm _ (f n), Int32.add_assoc]
theorem sI_split (g : Nat → Int32) (m : Nat) : ∀ n, sI g (m + n) = sI g m + sI (fun k => g (m + k)) n
  | 0 => (Int32.add_zero _).symm
  | n + 1 => by rw [← Nat.add_assoc, sI_succ, sI_succ, sI_split g m n, Int32.add_assoc]
/-- nothing beyond m -/
theorem sI_tail {g : Nat → Int32} {m n : Nat} (hmn : m ≤ n) (h : ∀ k, m ≤ k → k < n → g k = 0) : sI g n = sI g m := by
  obtain ⟨d, rfl⟩ : ∃ d, n = m + d := ⟨n - m, by omega⟩
  rw [sI_split, sI_zero (n := d) (fun k hk => h (m + k) (by omega) (by omega)), Int32.add_zero]
/-- rows of m cells, laid end to end -/
theorem sI_rows (g : Nat → Int32) (m : Nat) : ∀ n, sI g (n * m) = sI (fun a => sI (fun b => g (a * m + b)) m) n
  | 0 => by rw [Nat.zero_mul]; rfl
  | n + 1 => by rw [Nat.succ_mul, sI_split, sI_rows g m n, sI_succ]
theorem sI_swap (g : Nat → Nat → Int32) (m : Nat) : ∀ n, sI (fun a => sI (fun b => g a b) m) n = sI (fun b => sI (fun a => g a b) n) m
  | 0 => by
    show (0 : Int32) = _
    rw [sI_zero (n := m)]
    intro k _
    rfl
  | n + 1 => by
    rw [sI_succ, sI_swap g m n]
    simp only [sI_succ]
    rw [sI_add]
theorem sI_if (c : Prop) [Decidable c] (g : Nat → Int32) (n : Nat) : sI (fun k => if c then g k else 0) n = if c then sI g n else 0 := by
  by_cases h : c
  · simp only [if_pos h]
  · simp only [if_neg h]
    exact sI_zero (fun _ _ => rfl)
/-- the first place below n where p holds; n if none -/
def fd (p : Nat → Bool) : Nat → Nat := fa_first p
theorem lp_find {τ β : Type} {step : (τ → Option β) → τ → Option β} {r : Option β} (n : Nat) (hn : n < 100000) (p : Nat → Bool) (x : Nat → τ) (hs : ∀ (rec : τ → Option β) (k : Nat), k < n → p k = false → step rec (x k) = rec (x (k + 1))) (hf : ∀ (rec : τ → Option β) (k : Nat), k < n → p k = true → k = fd p n → step rec (x k) = r) (he : ∀ rec : τ → Option β, fd p n = n → step rec (x n) = r) : lp_ step FU (x 0) = r := by
  have h1 := fa_first_le p n
  have h2 := fa_first_no p n
  have h3 := fa_first_yes p n
  refine lp_run (fa_first p n) (by omega) x (fun rec k hk => hs rec k (by omega) (h2 k hk)) (fun rec => ?_)
  by_cases h : fa_first p n < n
  · exact hf rec _ h (h3 h) rfl
  · have e : fa_first p n = n := by omega
    rw [e]
    exact he rec e
theorem fd_le (p : Nat → Bool) (n : Nat) : fd p n ≤ n := fa_first_le p n
theorem fd_no {p : Nat → Bool} {n k : Nat} (h : k < fd p n) : p k = false := fa_first_no p n k h
theorem fd_yes {p : Nat → Bool} {n : Nat} (h : fd p n < n) : p (fd p n) = true := fa_first_yes p n h
theorem fd_cong {p q : Nat → Bool} {n : Nat} (h : ∀ k, k < n → p k = q k) : fd p n = fd q n := by
  have a1 := fd_le p n
  have a2 := fd_le q n
  rcases Nat.lt_trichotomy (fd p n) (fd q n) with c | c | c
  · have h1 := fd_no c
    have h2 := fd_yes (p := p) (n := n) (by omega)
    rw [h _ (by omega), h1] at h2
    cases h2
  · exact c
  · have h1 := fd_no c
    have h2 := fd_yes (p := q) (n := n) (by omega)
    rw [← h _ (by omega), h1] at h2
    cases h2
theorem fd_lt {p : Nat → Bool} {n : Nat} : fd p n < n ↔ ∃ k, k < n ∧ p k = true := by
  constructor
  · exact fun h => ⟨_, h, fd_yes h⟩
  · rintro ⟨k, hk, hp⟩
    rcases Nat.lt_or_ge (fd p n) n with c | c
    · exact c
    · rw [fd_no (show k < fd p n by omega)] at hp
      cases hp
theorem and1 (x : Int32) : x &&& 1 = 0 ∨ x &&& 1 = 1 := by
  by_cases h : bt x 0
  · right
    apply b_ext
    intro i hi
    rw [b_and]
    cases i with
    | zero => rw [h]; rfl
    | succ i =>
      have : ∀ i, i < 32 → bt 1 (i + 1) = false := by decide +kernel
      rw [this i (by omega), Bool.and_false]
  · left
    apply b_ext
    intro i hi
    rw [b_and, b_0]
    cases i with
    | zero => rw [ts_nt h]; rfl
    | succ i =>
      have : ∀ i, i < 32 → bt 1 (i + 1) = false := by decide +kernel
      rw [this i (by omega), Bool.and_false]

/-! ===== the text's tokens ===== -/
def isSb (x : Nat) : Bool := decide (x = 10) || decide (x = 32)
def isLb (x : Nat) : Bool := decide (97 ≤ x) && decide (x ≤ 122)
def isDb (x : Nat) : Bool := decide (48 ≤ x) && decide (x ≤ 57)
/-- the end of the run of p from j on -/
def rnE (p : Nat → Bool) (b : Nat → Nat) (n j : Nat) : Nat := j + fd (fun k => !p (b (j + k))) (n - j)
/-- a number's value: no digit more once it is 100000 -/
def nvN (f : Nat → Nat) : Nat → Nat
  | 0 => 0
  | m + 1 => if nvN f m < 100000 then nvN f m * 10 + (f m - 48) else nvN f m
section Run
variable {p : Nat → Bool} {b : Nat → Nat} {n j k : Nat}
theorem rnE_ge : j ≤ rnE p b n j := Nat.le_add_right _ _
theorem rnE_le (h : j ≤ n) : rnE p b n j ≤ n := by
  have := fd_le (fun k => !p (b (j + k))) (n - j)
  unfold rnE
  omega
theorem rnE_in (h1 : j ≤ k) (h2 : k < rnE p b n j) : p (b k) = true := by
  unfold rnE at h2
  have := fd_no (p := fun k => !p (b (j + k))) (n := n - j) (k := k - j) (by omega)
  rw [show j + (k - j) = k by omega] at this
  simpa using this
theorem rnE_out (h : rnE p b n j < n) : p (b (rnE p b n j)) = false := by
  have h3 : fd (fun k => !p (b (j + k))) (n - j) < n - j := by unfold rnE at h; omega
  have := fd_yes h3
  have h4 : (!p (b (rnE p b n j))) = true := this
  simpa using h4
theorem rnE_gt (h : j < n) (hp : p (b j) = true) : j < rnE p b n j := by
  rcases Nat.lt_or_ge j (rnE p b n j) with c | c
  · exact c
  · have e : rnE p b n j = j := Nat.le_antisymm c rnE_ge
    have := rnE_out (p := p) (b := b) (n := n) (j := j) (by omega)
    rw [e, hp] at this
    cases this
theorem nvN_lt (f : Nat → Nat) (hf : ∀ m, f m < 256) : ∀ m, nvN f m < 1000256
  | 0 => by show 0 < 1000256; decide
  | m + 1 => by
    have := nvN_lt f hf m
    have h2 := hf m
    show (if nvN f m < 100000 then nvN f m * 10 + (f m - 48) else nvN f m) < 1000256
    split <;> omega
end Run
/-- a token's end, its kind and its value, by its place -/
def enT (b : Nat → Nat) (n q : Nat) : Nat := if q < n then (if isLb (b q) = true then rnE isLb b n q else if isDb (b q) = true then rnE isDb b n q else q + 1) else q
def m8 (m : Nat) : Nat := if m < 8 then m else 8
def vT (b : Nat → Nat) (n q : Nat) : Nat := if isLb (b q) = true then pkN (fun m => b (q + m) - 96) (m8 (enT b n q - q)) else nvN (fun m => b (q + m)) (enT b n q - q)
def kT (b : Nat → Nat) (n q : Nat) : Nat := if q < n then (if isLb (b q) = true then wkv (vT b n q) (enT b n q - q) else if isDb (b q) = true then 15 else if b q = 59 then 16 else 18) else 17
def atT (b : Nat → Nat) (n : Nat) : Nat → Nat
  | 0 => 0
  | t + 1 => enT b n (rnE isSb b n (atT b n t))
def plT (b : Nat → Nat) (n t : Nat) : Nat := rnE isSb b n (atT b n t)
theorem enT_le {b : Nat → Nat} {n q : Nat} (h : q ≤ n) : enT b n q ≤ n ∧ q ≤ enT b n q ∧ (q < n → q < enT b n q) := by
  unfold enT
  by_cases c : q < n
  · rw [if_pos c]
    by_cases c1 : isLb (b q) = true
    · rw [if_pos c1]
      exact ⟨rnE_le h, rnE_ge, fun _ => rnE_gt c c1⟩
    · rw [if_neg c1]
      by_cases c2 : isDb (b q) = true
      · rw [if_pos c2]
        exact ⟨rnE_le h, rnE_ge, fun _ => rnE_gt c c2⟩
      · rw [if_neg c2]
        omega
  · rw [if_neg c]; omega
theorem atT_le (b : Nat → Nat) (n : Nat) : ∀ t, atT b n t ≤ n
  | 0 => Nat.zero_le n
  | t + 1 => (enT_le (rnE_le (atT_le b n t))).1
theorem plT_le (b : Nat → Nat) (n t : Nat) : plT b n t ≤ n := rnE_le (atT_le b n t)
theorem atT_ge (b : Nat → Nat) (n : Nat) : ∀ t, (∀ u, u < t → plT b n u < n) → t ≤ atT b n t
  | 0, _ => Nat.zero_le _
  | t + 1, h => by
    have i := atT_ge b n t (fun u hu => h u (by omega))
    have h1 := h t (by omega)
    have h2 := (enT_le (b := b) (plT_le b n t)).2.2 h1
    have h3 : atT b n t ≤ plT b n t := rnE_ge
    show t + 1 ≤ enT b n (plT b n t)
    omega
/-- how many tokens there are before the end -/
def nT (b : Nat → Nat) (n : Nat) : Nat := fd (fun t => decide (plT b n t = n)) (n + 1)
theorem nT_ok (b : Nat → Nat) (n : Nat) : nT b n ≤ n ∧ plT b n (nT b n) = n ∧ ∀ t, t < nT b n → plT b n t < n := by
  have h1 := fd_le (fun t => decide (plT b n t = n)) (n + 1)
  have h2 : ∀ t, t < nT b n → plT b n t < n := fun t ht => by
    have := fd_no (p := fun t => decide (plT b n t = n)) (n := n + 1) ht
    have h3 : ¬ plT b n t = n := by simpa using this
    have h4 := plT_le b n t
    omega
  have h5 : nT b n < n + 1 := by
    rcases Nat.lt_or_ge (nT b n) (n + 1) with c | c
    · exact c
    · have e : nT b n = n + 1 := Nat.le_antisymm h1 c
      have := atT_ge b n (n + 1) (fun u hu => h2 u (by omega))
      have := atT_le b n (n + 1)
      omega
  have h6 := fd_yes (p := fun t => decide (plT b n t = n)) (n := n + 1) h5
  have h7 : plT b n (nT b n) = n := by
    have : decide (plT b n (nT b n) = n) = true := h6
    simpa using this
  exact ⟨by omega, h7, h2⟩
/-- the bytes that lie in a row -/
def BY (f : Nat → Int32) (b : Nat → Nat) (n : Nat) : Prop := ∀ j, j < n → f j = nI (b j) ∧ b j < 256
theorem isL_eq {σ : ST} {x : Nat} (h : x < 256) : Tp_isLetter σ (nI x) = some (b01 (isLb x)) ∧ Mo_isSmall σ (nI x) = some (b01 (isLb x)) := by
  unfold Tp_isLetter Mo_isSmall isLb
  simp (disch := omega) only [fa_lit, nlt_i]
  by_cases c : x < 97
  · simp [c, show ¬ 97 ≤ x by omega, b01]
  · by_cases c2 : 122 < x
    · simp [c, c2, show ¬ x ≤ 122 by omega, b01]
    · simp [c, c2, show 97 ≤ x by omega, show x ≤ 122 by omega, b01]
theorem isD_eq {σ : ST} {x : Nat} (h : x < 256) : Tp_isDigit σ (nI x) = some (b01 (isDb x)) ∧ Mo_isDigit σ (nI x) = some (b01 (isDb x)) := by
  unfold Tp_isDigit Mo_isDigit isDb
  simp (disch := omega) only [fa_lit, nlt_i]
  by_cases c : x < 48
  · simp [c, show ¬ 48 ≤ x by omega, b01]
  · by_cases c2 : 57 < x
    · simp [c, c2, show ¬ x ≤ 57 by omega, b01]
    · simp [c, c2, show 48 ≤ x by omega, show x ≤ 57 by omega, b01]
theorem isLb_iff {x : Nat} : isLb x = true ↔ 97 ≤ x ∧ x ≤ 122 := by unfold isLb; simp
theorem isDb_iff {x : Nat} : isDb x = true ↔ 48 ≤ x ∧ x ≤ 57 := by unfold isDb; simp
theorem isSb_iff {x : Nat} : isSb x = true ↔ x = 10 ∨ x = 32 := by unfold isSb; simp
theorem m8_s {m : Nat} : m8 (m + 1) = if 8 ≤ m then m8 m else m + 1 := by unfold m8; split <;> split <;> (try split) <;> omega
theorem m8_lt {m : Nat} (h : ¬ 8 ≤ m) : m8 m = m := by unfold m8; split <;> omega
def f654 (k _i : Nat) : Bool := decide (k = 654)
section Tok
variable {σ : ST} {b : Nat → Nat} {n q t : Nat}
theorem wordLoop (K : ST × Int64 → Option ST) (h3 : σ.1 653 0 0 = nI n) (h4 : σ.1 654 0 0 = nI q) (hq : q ≤ n) (hn : n ≤ 900) (hb : BY (σ.1 21 0) b n) (h23 : σ.1 23 0 t = nI q) (ht : t < 901) : ∃ x, FrK f654 σ x ∧ x.1 654 0 0 = nI (rnE isLb b n q) ∧ x.2.1 = σ.2.1 ∧ lp_ (fun rec9 (z8 : ST × Int64) => (if (gF z8.1 653 0) ≤ (gF z8.1 654 0) then K (z8.1, z8.2) else bd_ (ldI z8.1 21 0 (gF z8.1 654 0)) (fun v11 => bd_ (Tp_isLetter z8.1 v11) (fun q12 => (if q12 = 0 then K (z8.1, z8.2) else bd_ (ldI z8.1 23 0 (nI t)) (fun v13 => (if 8 ≤ ((gF z8.1 654 0) - v13) then lt_ (setF z8.1 654 0 ((gF z8.1 654 0) + 1)) (fun s14 => rec9 (s14, z8.2)) else bd_ (ldI z8.1 21 0 (gF z8.1 654 0)) (fun v15 => bd_ (Tp_withLetter z8.1 z8.2 v15) (fun q16 => lt_ (setF z8.1 654 0 ((gF z8.1 654 0) + 1)) (fun s17 => rec9 (s17, q16))))))))))) FU (σ, 0) = K (x, lN (pkN (fun m => b (q + m) - 96) (m8 (rnE isLb b n q - q)))) := by
  have e1 : q ≤ rnE isLb b n q := rnE_ge
  have e2 : rnE isLb b n q ≤ n := rnE_le hq
  obtain ⟨z, ⟨hz1, hz2, hz3, hz4⟩, rec, ez⟩ := lp_invG (β := ST) (z0 := (σ, (0 : Int64))) (step := fun rec9 (z8 : ST × Int64) => (if (gF z8.1 653 0) ≤ (gF z8.1 654 0) then K (z8.1, z8.2) else bd_ (ldI z8.1 21 0 (gF z8.1 654 0)) (fun v11 => bd_ (Tp_isLetter z8.1 v11) (fun q12 => (if q12 = 0 then K (z8.1, z8.2) else bd_ (ldI z8.1 23 0 (nI t)) (fun v13 => (if 8 ≤ ((gF z8.1 654 0) - v13) then lt_ (setF z8.1 654 0 ((gF z8.1 654 0) + 1)) (fun s14 => rec9 (s14, z8.2)) else bd_ (ldI z8.1 21 0 (gF z8.1 654 0)) (fun v15 => bd_ (Tp_withLetter z8.1 z8.2 v15) (fun q16 => lt_ (setF z8.1 654 0 ((gF z8.1 654 0) + 1)) (fun s17 => rec9 (s17, q16))))))))))) (rnE isLb b n q - q) (by omega) (fun m z => FrK f654 σ z.1 ∧ z.1.1 654 0 0 = nI (q + m) ∧ z.1.2.1 = σ.2.1 ∧ z.2 = lN (pkN (fun m => b (q + m) - 96) (m8 m))) ⟨FrK.rf σ, h4, rfl, rfl⟩ (by
    rintro rec m ⟨x, s⟩ hm ⟨fx, g1, g2, g3⟩
    have g3 : s = lN (pkN (fun m => b (q + m) - 96) (m8 m)) := g3
    subst g3
    have fx : FrK f654 σ x := fx
    have g1 : x.1 654 0 0 = nI (q + m) := g1
    have k1 : x.1 653 0 0 = nI n := by rw [fx.2 653 0 rfl]; exact h3
    have k2 : x.1 21 0 (q + m) = nI (b (q + m)) := by rw [fx.2 21 0 rfl]; exact (hb _ (by omega)).1
    have k3 := (hb (q + m) (by omega)).2
    have k4 : x.1 23 0 t = nI q := by rw [fx.2 23 0 rfl]; exact h23
    have k5 : isLb (b (q + m)) = true := rnE_in (n := n) (j := q) (by omega) (by omega)
    have k6 := isLb_iff.mp k5
    refine ⟨(setF x 654 0 (nI (q + m + 1)), lN (pkN (fun m => b (q + m) - 96) (m8 (m + 1)))), ⟨fx.tr (FrK.setF x _ rfl), rf_eq, g2, rfl⟩, ?_⟩
    simp (disch := omega) only [bd_some, lt_eq, gF, fa_lit, k1, g1, nle_f, if_false, ld21, k2, (isL_eq k3).1, k5, b01_t, n10, ld23, k4, nI_sub, nI_add, withL k6.1 k6.2]
    rw [m8_s]
    by_cases c : 8 ≤ m
    · rw [if_pos (of_eq_true (nle_t (by omega) (by omega))), if_pos c]
    · rw [if_neg (of_eq_false (nle_f (by omega) (by omega))), if_neg c, m8_lt c]
      rfl)
  obtain ⟨x, s⟩ := z
  have fx : FrK f654 σ x := hz1
  have g1 : x.1 654 0 0 = nI (rnE isLb b n q) := by rw [show rnE isLb b n q = q + (rnE isLb b n q - q) by omega]; exact hz2
  have g3 : s = lN (pkN (fun m => b (q + m) - 96) (m8 (rnE isLb b n q - q))) := hz4
  have k1 : x.1 653 0 0 = nI n := by rw [fx.2 653 0 rfl]; exact h3
  refine ⟨x, fx, g1, hz3, ez.trans ?_⟩
  subst g3
  rcases Nat.lt_or_ge (rnE isLb b n q) n with c | c
  · have k2 : x.1 21 0 (rnE isLb b n q) = nI (b (rnE isLb b n q)) := by rw [fx.2 21 0 rfl]; exact (hb _ c).1
    have k3 := (hb _ c).2
    have k5 : isLb (b (rnE isLb b n q)) = false := rnE_out c
    simp (disch := omega) only [bd_some, gF, fa_lit, k1, g1, nle_f, if_false, ld21, k2, (isL_eq k3).1, k5, b01_f, if_true]
  · simp (disch := omega) only [gF, k1, g1, nle_t, if_true]
theorem numLoop (K : ST × Int64 → Option ST) (h3 : σ.1 653 0 0 = nI n) (h4 : σ.1 654 0 0 = nI q) (hq : q ≤ n) (hn : n ≤ 900) (hb : BY (σ.1 21 0) b n) (hb2 : ∀ j, b j < 256) : ∃ x, FrK f654 σ x ∧ x.1 654 0 0 = nI (rnE isDb b n q) ∧ x.2.1 = σ.2.1 ∧ lp_ (fun rec7 (z6 : ST × Int64) => (if (gF z6.1 653 0) ≤ (gF z6.1 654 0) then K (z6.1, z6.2) else bd_ (ldI z6.1 21 0 (gF z6.1 654 0)) (fun v9 => bd_ (Tp_isDigit z6.1 v9) (fun q10 => (if q10 = 0 then K (z6.1, z6.2) else (if 0 ≤ (lg_cmp z6.2 100000) then lt_ (setF z6.1 654 0 ((gF z6.1 654 0) + 1)) (fun s11 => rec7 (s11, z6.2)) else bd_ (ldI z6.1 21 0 (gF z6.1 654 0)) (fun v12 => lt_ ((((z6.2 * 10) + (Int32.toInt64 v12)) - 48)) (fun x13 => lt_ (setF z6.1 654 0 ((gF z6.1 654 0) + 1)) (fun s14 => rec7 (s14, x13)))))))))) FU (σ, 0) = K (x, lN (nvN (fun m => b (q + m)) (rnE isDb b n q - q))) := by
  have e1 : q ≤ rnE isDb b n q := rnE_ge
  have e2 : rnE isDb b n q ≤ n := rnE_le hq
  obtain ⟨z, ⟨hz1, hz2, hz3, hz4⟩, rec, ez⟩ := lp_invG (β := ST) (z0 := (σ, (0 : Int64))) (step := fun rec7 (z6 : ST × Int64) => (if (gF z6.1 653 0) ≤ (gF z6.1 654 0) then K (z6.1, z6.2) else bd_ (ldI z6.1 21 0 (gF z6.1 654 0)) (fun v9 => bd_ (Tp_isDigit z6.1 v9) (fun q10 => (if q10 = 0 then K (z6.1, z6.2) else (if 0 ≤ (lg_cmp z6.2 100000) then lt_ (setF z6.1 654 0 ((gF z6.1 654 0) + 1)) (fun s11 => rec7 (s11, z6.2)) else bd_ (ldI z6.1 21 0 (gF z6.1 654 0)) (fun v12 => lt_ ((((z6.2 * 10) + (Int32.toInt64 v12)) - 48)) (fun x13 => lt_ (setF z6.1 654 0 ((gF z6.1 654 0) + 1)) (fun s14 => rec7 (s14, x13)))))))))) (rnE isDb b n q - q) (by omega) (fun m z => FrK f654 σ z.1 ∧ z.1.1 654 0 0 = nI (q + m) ∧ z.1.2.1 = σ.2.1 ∧ z.2 = lN (nvN (fun m => b (q + m)) m)) ⟨FrK.rf σ, h4, rfl, rfl⟩ (by
    rintro rec m ⟨x, s⟩ hm ⟨fx, g1, g2, g3⟩
    have g3 : s = lN (nvN (fun m => b (q + m)) m) := g3
    subst g3
    have fx : FrK f654 σ x := fx
    have g1 : x.1 654 0 0 = nI (q + m) := g1
    have k1 : x.1 653 0 0 = nI n := by rw [fx.2 653 0 rfl]; exact h3
    have k2 : x.1 21 0 (q + m) = nI (b (q + m)) := by rw [fx.2 21 0 rfl]; exact (hb _ (by omega)).1
    have k3 := (hb (q + m) (by omega)).2
    have k5 : isDb (b (q + m)) = true := rnE_in (n := n) (j := q) (by omega) (by omega)
    have k6 := isDb_iff.mp k5
    have nl := nvN_lt (fun m => b (q + m)) (fun m => hb2 _) m
    refine ⟨(setF x 654 0 (nI (q + m + 1)), lN (nvN (fun m => b (q + m)) (m + 1))), ⟨fx.tr (FrK.setF x _ rfl), rf_eq, g2, rfl⟩, ?_⟩
    simp (disch := omega) only [bd_some, lt_eq, gF, fa_lit, k1, g1, nle_f, if_false, ld21, k2, (isD_eq k3).1, k5, b01_t, n10, nI_add]
    have cm : (nI 0 ≤ lg_cmp (lN (nvN (fun m => b (q + m)) m)) 100000) = (100000 ≤ nvN (fun m => b (q + m)) m) := propext ((lg_cmp_ge _ _).trans (pk_lLE (a := 100000) (by decide) (by omega)))
    show _ = rec (setF x 654 0 (nI (q + m + 1)), lN (if nvN (fun m => b (q + m)) m < 100000 then nvN (fun m => b (q + m)) m * 10 + (b (q + m) - 48) else nvN (fun m => b (q + m)) m))
    by_cases c : 100000 ≤ nvN (fun m => b (q + m)) m
    · rw [if_pos (of_eq_true (cm.trans (eq_true c))), if_neg (by omega)]
    · rw [if_neg (of_eq_false (cm.trans (eq_false c))), if_pos (by omega), wid_l (by omega), show (10 : Int64) = lN 10 from rfl, show (48 : Int64) = lN 48 from rfl, lN_mul, lN_add, lN_sub (by omega)]
      exact congrArg (fun x' => rec (setF x 654 0 (nI (q + m + 1)), lN x')) (by omega))
  obtain ⟨x, s⟩ := z
  have fx : FrK f654 σ x := hz1
  have g1 : x.1 654 0 0 = nI (rnE isDb b n q) := by rw [show rnE isDb b n q = q + (rnE isDb b n q - q) by omega]; exact hz2
  have g3 : s = lN (nvN (fun m => b (q + m)) (rnE isDb b n q - q)) := hz4
  have k1 : x.1 653 0 0 = nI n := by rw [fx.2 653 0 rfl]; exact h3
  refine ⟨x, fx, g1, hz3, ez.trans ?_⟩
  subst g3
  rcases Nat.lt_or_ge (rnE isDb b n q) n with c | c
  · have k2 : x.1 21 0 (rnE isDb b n q) = nI (b (rnE isDb b n q)) := by rw [fx.2 21 0 rfl]; exact (hb _ c).1
    have k3 := (hb _ c).2
    have k5 : isDb (b (rnE isDb b n q)) = false := rnE_out c
    simp (disch := omega) only [bd_some, gF, fa_lit, k1, g1, nle_f, if_false, ld21, k2, (isD_eq k3).1, k5, b01_f, if_true]
  · simp (disch := omega) only [gF, k1, g1, nle_t, if_true]
end Tok

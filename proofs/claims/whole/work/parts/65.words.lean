/-! ===== the text's words ===== -/
def wcN (k : Nat) : Nat := [108, 97, 110, 100, 32, 112, 108, 97, 121, 101, 114, 32, 115, 101, 115, 115, 105, 111, 110, 32, 117, 110, 107, 110, 111, 119, 110, 32, 108, 101, 97, 100, 32, 107, 101, 101, 112, 32, 97, 108, 108, 32, 108, 105, 107, 101, 32, 111, 119, 110, 32, 98, 111, 116, 104, 32, 108, 101, 97, 100, 115, 32, 115, 105, 100, 101, 115, 32, 102, 105, 114, 115, 116, 32, 115, 105, 100, 101, 32].getD k 0
def stN (i : Nat) : Nat := [0, 5, 12, 20, 28, 33, 38, 42, 47, 51, 56, 62, 68, 74, 79].getD i 0
def lnN (i : Nat) : Nat := [4, 6, 7, 7, 4, 4, 3, 4, 3, 4, 5, 5, 5, 4].getD i 0
def lsv : Nat → Nat
  | 0 => 0
  | k + 1 => if wcN k = 32 then 0 else lsv k * 32 + (wcN k - 96)
def nmv : Nat → Nat
  | 0 => 0
  | k + 1 => if wcN k = 32 then nmv k + 1 else nmv k
/-- letters packed -/
def pkN (f : Nat → Nat) : Nat → Nat
  | 0 => 0
  | m + 1 => pkN f m * 32 + f m
theorem chr_eq : ∀ k, k < 79 → Jk_chr zst (nI k) = some (nI (wcN k)) := by decide +kernel
theorem Jk_chr_eq {σ : ST} {k : Nat} (h : k < 79) : Jk_chr σ (nI k) = some (nI (wcN k)) := chr_eq k h
theorem wc_tab : ∀ k, k < 79 → (wcN k = 32 ∨ (97 ≤ wcN k ∧ wcN k ≤ 122)) ∧ lsv k < 34359738368 ∧ nmv k ≤ 14 ∧ (wcN k = 32 → stN (nmv k) + lnN (nmv k) = k ∧ nmv k < 14) := by decide +kernel
theorem wd_tab : ∀ i, i < 14 → stN i + lnN i < 79 ∧ wcN (stN i + lnN i) = 32 ∧ stN (i + 1) = stN i + lnN i + 1 ∧ lnN i ≤ 7 ∧ nmv (stN i + lnN i) = i ∧ (∀ m, m < 7 → m < lnN i → 97 ≤ wcN (stN i + m) ∧ wcN (stN i + m) ≤ 122) ∧ lsv (stN i + lnN i) = pkN (fun m => wcN (stN i + m) - 96) (lnN i) := by decide +kernel
theorem pk_inj {f g : Nat → Nat} : ∀ {m k : Nat}, (∀ j, j < m → 1 ≤ f j ∧ f j < 32) → (∀ j, j < k → 1 ≤ g j ∧ g j < 32) → pkN f m = pkN g k → m = k ∧ ∀ j, j < m → f j = g j
  | 0, 0, _, _, _ => ⟨rfl, fun j hj => absurd hj (Nat.not_lt_zero j)⟩
  | 0, k + 1, _, hg, e => by
    have := hg k (by omega)
    have e : 0 = pkN g k * 32 + g k := e
    omega
  | m + 1, 0, hf, _, e => by
    have := hf m (by omega)
    have e : pkN f m * 32 + f m = 0 := e
    omega
  | m + 1, k + 1, hf, hg, e => by
    have h1 := hf m (by omega)
    have h2 := hg k (by omega)
    have e : pkN f m * 32 + f m = pkN g k * 32 + g k := e
    have e1 : pkN f m = pkN g k := by omega
    have e2 : f m = g k := by omega
    obtain ⟨i1, i2⟩ := pk_inj (m := m) (k := k) (fun j hj => hf j (by omega)) (fun j hj => hg j (by omega)) e1
    subst i1
    refine ⟨rfl, fun j hj => ?_⟩
    by_cases c : j = m
    · subst c; exact e2
    · exact i2 j (by omega)
theorem pkN_lt {f : Nat → Nat} : ∀ {m : Nat}, (∀ j, j < m → f j < 32) → pkN f m < 32 ^ m
  | 0, _ => by show 0 < 1; decide
  | m + 1, h => by
    have i := pkN_lt (m := m) (fun j hj => h j (by omega))
    have h1 := h m (by omega)
    show pkN f m * 32 + f m < 32 ^ (m + 1)
    rw [Nat.pow_succ]
    omega
theorem fd_eq {p : Nat → Bool} {n m : Nat} (hm : m < n) (h1 : p m = true) (h2 : ∀ k, k < m → p k = false) : fd p n = m := by
  have a := fd_le p n
  rcases Nat.lt_trichotomy (fd p n) m with c | c | c
  · have := fd_yes (p := p) (n := n) (by omega)
    rw [h2 _ c] at this; cases this
  · exact c
  · have := fd_no (p := p) (n := n) c
    rw [h1] at this; cases this
theorem fd_none {p : Nat → Bool} {n : Nat} (h : ∀ k, k < n → p k = false) : fd p n = n := by
  have a := fd_le p n
  rcases Nat.lt_or_ge (fd p n) n with c | c
  · have := fd_yes c
    rw [h _ c] at this; cases this
  · omega
def hitW (v k : Nat) : Bool := decide (wcN k = 32) && decide (lsv k = v)
def wkv (v len : Nat) : Nat := if fd (hitW v) 79 < 79 then nmv (fd (hitW v) 79) else if 6 < len then 18 else 14
theorem n32 {x : Nat} (h : x < 256) (h2 : ¬ x = 32) : ¬ nI x = (32 : Int32) := fun z => h2 ((nI_eq (by omega) (by decide)).mp (show nI x = nI 32 from z))
theorem withL {a c : Nat} (hc : 97 ≤ c) (hc2 : c ≤ 122) {σ : ST} : Tp_withLetter σ (lN a) (nI c) = some (lN (a * 32 + (c - 96))) := by
  unfold Tp_withLetter
  rw [wid_l (by omega), show (32 : Int64) = lN 32 from rfl, show (97 : Int64) = lN 97 from rfl, show (1 : Int64) = lN 1 from rfl, lN_mul, lN_add, lN_sub (by omega), lN_add]
  exact congrArg (fun x => some (lN x)) (by omega)
theorem Tp_kindOfWord_eq {σ : ST} {v len : Nat} (hv : v < 9223372036854775808) (hl : len < 1000) : Tp_kindOfWord σ (lN v) (nI len) = some (nI (wkv v len)) := by
  unfold Tp_kindOfWord wkv
  refine lp_find 79 (by decide) (hitW v) (fun k => (nI (nmv k), lN (lsv k), nI k)) (fun rec k hk hq => ?_) (fun rec k hk hq e2 => ?_) (fun rec e2 => ?_)
  · obtain ⟨t1, t2, t3, t4⟩ := wc_tab k hk
    show bd_ (some (nI 79)) (fun q4 => (if q4 ≤ nI k then _ else bd_ (Jk_chr σ (nI k)) (fun q5 => (if q5 = 32 then (if (lg_cmp (lN (lsv k)) (lN v)) = 0 then _ else rec (nI (nmv k) + nI 1, lN 0, nI k + nI 1)) else bd_ (Tp_withLetter σ (lN (lsv k)) q5) (fun q6 => rec (nI (nmv k), q6, nI k + nI 1)))))) = _
    rw [bd_some, if_neg (of_eq_false (nle_f hk (by omega))), Jk_chr_eq hk, bd_some, nI_add]
    have l1 : lsv (k + 1) = if wcN k = 32 then 0 else lsv k * 32 + (wcN k - 96) := rfl
    have l2 : nmv (k + 1) = if wcN k = 32 then nmv k + 1 else nmv k := rfl
    by_cases c : wcN k = 32
    · unfold hitW at hq
      simp only [c, decide_true, Bool.true_and, decide_eq_false_iff_not] at hq
      rw [if_pos (by rw [c]; rfl), if_neg (by rw [lg_cmp_eq, pk_lEQ (by omega) (by omega)]; exact hq), l1, l2, if_pos c, if_pos c, nI_add]
    · rw [if_neg (n32 (x := wcN k) (by omega) c), withL (by omega) (by omega), bd_some, nI_add, l1, l2, if_neg c, if_neg c]
  · obtain ⟨t1, t2, t3, t4⟩ := wc_tab k hk
    unfold hitW at hq
    simp only [Bool.and_eq_true, decide_eq_true_eq] at hq
    rw [← e2, if_pos hk]
    show bd_ (some (nI 79)) (fun q4 => (if q4 ≤ nI k then _ else bd_ (Jk_chr σ (nI k)) (fun q5 => (if q5 = 32 then (if (lg_cmp (lN (lsv k)) (lN v)) = 0 then some (nI (nmv k)) else _) else _)))) = _
    rw [bd_some, if_neg (of_eq_false (nle_f hk (by omega))), Jk_chr_eq hk, bd_some, if_pos (by rw [hq.1]; rfl), if_pos (by rw [lg_cmp_eq, hq.2])]
  · rw [e2]
    show bd_ (some (nI 79)) (fun q4 => (if q4 ≤ nI 79 then (if nI 6 < nI len then some (nI 18) else some (nI 14)) else _)) = _
    rw [bd_some, if_pos (by decide), if_neg (Nat.lt_irrefl 79)]
    by_cases c : 6 < len
    · rw [if_pos (of_eq_true (nlt_t c (by omega))), if_pos c]
    · rw [if_neg (of_eq_false (nlt_f (by omega) (by decide))), if_neg c]
/-! the same, letter by letter -/
def mtW (b : Nat → Nat) (len i : Nat) : Bool := decide (len = lnN i) && decide (fd (fun m => !decide (b m = wcN (stN i + m))) (lnN i) = lnN i)
theorem mtW_iff {b : Nat → Nat} {len i : Nat} : mtW b len i = true ↔ len = lnN i ∧ ∀ m, m < lnN i → b m = wcN (stN i + m) := by
  unfold mtW
  simp only [Bool.and_eq_true, decide_eq_true_eq]
  constructor
  · rintro ⟨h1, h2⟩
    refine ⟨h1, fun m hm => ?_⟩
    have := fd_no (p := fun m => !decide (b m = wcN (stN i + m))) (n := lnN i) (k := m) (by omega)
    simpa using this
  · rintro ⟨h1, h2⟩
    exact ⟨h1, fd_none (fun m hm => by simp [h2 m hm])⟩
theorem wk_mt {b : Nat → Nat} {len : Nat} (hb : ∀ m, m < len → 97 ≤ b m ∧ b m ≤ 122) : wkv (pkN (fun m => b m - 96) (if len < 8 then len else 8)) len = if fd (mtW b len) 14 < 14 then fd (mtW b len) 14 else if 6 < len then 18 else 14 := by
  have key : ∀ i, i < 14 → (lsv (stN i + lnN i) = pkN (fun m => b m - 96) (if len < 8 then len else 8) ↔ mtW b len i = true) := by
    intro i hi
    obtain ⟨w1, w2, w3, w4, w5, w6, w7⟩ := wd_tab i hi
    rw [mtW_iff, w7]
    have hf : ∀ j, j < lnN i → 1 ≤ wcN (stN i + j) - 96 ∧ wcN (stN i + j) - 96 < 32 := fun j hj => by
      have := w6 j (by omega) hj
      omega
    have hg : ∀ j, j < (if len < 8 then len else 8) → 1 ≤ b j - 96 ∧ b j - 96 < 32 := fun j hj => by
      have := hb j (by split at hj <;> omega)
      omega
    constructor
    · intro e
      obtain ⟨e1, e2⟩ := pk_inj hf hg e
      have hl : len = lnN i := by
        split at e1 <;> omega
      refine ⟨hl, fun m hm => ?_⟩
      have := e2 m hm
      have h3 := w6 m (by omega) hm
      have h4 := hb m (by omega)
      omega
    · rintro ⟨e1, e2⟩
      have hl : (if len < 8 then len else 8) = lnN i := by
        split <;> omega
      rw [hl]
      have : ∀ k, k ≤ lnN i → pkN (fun m => wcN (stN i + m) - 96) k = pkN (fun m => b m - 96) k := by
        intro k
        induction k with
        | zero => intro _; rfl
        | succ k ih =>
          intro hk
          show pkN (fun m => wcN (stN i + m) - 96) k * 32 + (wcN (stN i + k) - 96) = pkN (fun m => b m - 96) k * 32 + (b k - 96)
          rw [ih (by omega), e2 k (by omega)]
      exact this _ (Nat.le_refl _)
  generalize pkN (fun m => b m - 96) (if len < 8 then len else 8) = v at *
  unfold wkv
  by_cases c : fd (mtW b len) 14 < 14
  · rw [if_pos c]
    have hy := fd_yes c
    obtain ⟨w1, w2, w3, w4, w5, w6, w7⟩ := wd_tab _ c
    have hf : fd (hitW v) 79 = stN (fd (mtW b len) 14) + lnN (fd (mtW b len) 14) := by
      refine fd_eq w1 ?_ (fun k hk => ?_)
      · unfold hitW
        rw [w2, (key _ c).mpr hy]
        simp
      · apply ts_nt
        intro hh
        unfold hitW at hh
        simp only [Bool.and_eq_true, decide_eq_true_eq] at hh
        obtain ⟨t1, t2, t3, t4⟩ := wc_tab k (by omega)
        obtain ⟨t5, t6⟩ := t4 hh.1
        have hm : mtW b len (nmv k) = true := by
          rw [← key _ t6, t5]
          exact hh.2
        have hlt : nmv k < fd (mtW b len) 14 := by
          rcases Nat.lt_or_ge (nmv k) (fd (mtW b len) 14) with c2 | c2
          · exact c2
          · exfalso
            have mono : ∀ i, i < 14 → ∀ j, j < 14 → i ≤ j → stN i + lnN i ≤ stN j + lnN j := by decide +kernel
            have := mono (fd (mtW b len) 14) c (nmv k) t6 c2
            omega
        rw [fd_no hlt] at hm
        cases hm
    rw [hf, if_pos w1, w5]
  · rw [if_neg c]
    have hn : fd (hitW v) 79 = 79 := fd_none (fun k hk => by
      apply ts_nt
      intro hh
      unfold hitW at hh
      simp only [Bool.and_eq_true, decide_eq_true_eq] at hh
      obtain ⟨t1, t2, t3, t4⟩ := wc_tab k hk
      obtain ⟨t5, t6⟩ := t4 hh.1
      have hm : mtW b len (nmv k) = true := by
        rw [← key _ t6, t5]
        exact hh.2
      exact c (fd_lt.mpr ⟨_, t6, hm⟩))
    rw [hn, if_neg (Nat.lt_irrefl 79)]
theorem Mo_wordHere_eq {σ : ST} {b : Nat → Nat} {q e : Nat} (h8 : σ.1 858 0 0 = nI e) (h9 : σ.1 859 0 0 = nI q) (hqe : q ≤ e) (he : e ≤ 900) (hb : ∀ m, m < e - q → σ.1 28 0 (q + m) = nI (b m) ∧ b m < 256) : Mo_wordHere σ = some (if fd (mtW b (e - q)) 14 < 14 then nI (fd (mtW b (e - q)) 14) else -nI 1) := by
  unfold Mo_wordHere
  have inner : ∀ (i : Nat) (K : Int32 → Option Int32), i < 14 → ∃ j, j ≤ lnN i ∧ (j = lnN i ∨ ¬ (j < e - q ∧ b j = wcN (stN i + j))) ∧ (∀ m, m < j → m < e - q ∧ b m = wcN (stN i + m)) ∧ lp_ (fun rec17 (z16 : Int32) => bd_ (Jk_chr σ (nI (stN i) + z16)) (fun q19 => (if q19 = 32 then K z16 else (if (gF σ 858 0) ≤ ((gF σ 859 0) + z16) then K z16 else bd_ (ldI σ 28 0 ((gF σ 859 0) + z16)) (fun v20 => bd_ (Jk_chr σ (nI (stN i) + z16)) (fun q21 => (if v20 = q21 then rec17 (z16 + 1) else K z16))))))) FU 0 = K (nI j) := by
    intro i K hi
    obtain ⟨w1, w2, w3, w4, w5, w6, w7⟩ := wd_tab i hi
    generalize hp : (fun m => !(decide (m < e - q) && decide (b m = wcN (stN i + m)))) = pr
    have hp2 : ∀ m, pr m = !(decide (m < e - q) && decide (b m = wcN (stN i + m))) := fun m => by rw [← hp]
    refine ⟨fd pr (lnN i), fd_le _ _, ?_, fun m hm => ?_, ?_⟩
    · rcases Nat.lt_or_ge (fd pr (lnN i)) (lnN i) with c | c
      · right
        have := fd_yes c
        rw [hp2] at this
        simp only [Bool.not_eq_true', Bool.and_eq_false_iff, decide_eq_false_iff_not] at this
        rintro ⟨a1, a2⟩
        rcases this with this | this
        · exact this a1
        · exact this a2
      · left
        have := fd_le pr (lnN i)
        omega
    · have := fd_no hm
      rw [hp2] at this
      simp only [Bool.not_eq_false', Bool.and_eq_true, decide_eq_true_eq] at this
      exact this
    · refine lp_find (lnN i) (by omega) pr (fun m => nI m) (fun rec m hm hq => ?_) (fun rec m hm hq e2 => ?_) (fun rec e2 => ?_)
      · rw [hp2] at hq
        simp only [Bool.not_eq_false', Bool.and_eq_true, decide_eq_true_eq] at hq
        have h6 := w6 m (by omega) hm
        show bd_ (Jk_chr σ (nI (stN i) + nI m)) (fun q19 => (if q19 = 32 then _ else (if (gF σ 858 0) ≤ ((gF σ 859 0) + nI m) then _ else bd_ (ldI σ 28 0 ((gF σ 859 0) + nI m)) (fun v20 => bd_ (Jk_chr σ (nI (stN i) + nI m)) (fun q21 => (if v20 = q21 then rec (nI m + nI 1) else _)))))) = _
        rw [nI_add, Jk_chr_eq (by omega), bd_some, if_neg (n32 (x := wcN (stN i + m)) (by omega) (by omega)), show gF σ 859 0 = _ from h9, show gF σ 858 0 = _ from h8, nI_add, if_neg (of_eq_false (nle_f (by omega) (by omega))), ld28 (by omega), bd_some, bd_some, (hb m hq.1).1, if_pos (by rw [hq.2]), nI_add]
      · rw [hp2] at hq
        simp only [Bool.not_eq_true', Bool.and_eq_false_iff, decide_eq_false_iff_not] at hq
        have h6 := w6 m (by omega) hm
        rw [← e2]
        show bd_ (Jk_chr σ (nI (stN i) + nI m)) (fun q19 => (if q19 = 32 then _ else (if (gF σ 858 0) ≤ ((gF σ 859 0) + nI m) then K (nI m) else bd_ (ldI σ 28 0 ((gF σ 859 0) + nI m)) (fun v20 => bd_ (Jk_chr σ (nI (stN i) + nI m)) (fun q21 => (if v20 = q21 then _ else K (nI m))))))) = _
        rw [nI_add, Jk_chr_eq (by omega), bd_some, if_neg (n32 (x := wcN (stN i + m)) (by omega) (by omega)), show gF σ 859 0 = _ from h9, show gF σ 858 0 = _ from h8, nI_add]
        by_cases c : m < e - q
        · have h7 := hb m c
          rw [if_neg (of_eq_false (nle_f (by omega) (by omega))), ld28 (by omega), bd_some, bd_some, h7.1, if_neg (fun z => by
            have := (nI_eq (by omega) (by omega)).mp z
            rcases hq with hq | hq
            · exact hq c
            · exact hq this)]
        · rw [if_pos (of_eq_true (nle_t (by omega) (by omega)))]
      · rw [e2]
        show bd_ (Jk_chr σ (nI (stN i) + nI (lnN i))) (fun q19 => (if q19 = 32 then K (nI (lnN i)) else _)) = _
        rw [nI_add, Jk_chr_eq w1, bd_some, if_pos (by rw [w2]; rfl)]
  have skip : ∀ (i : Nat) (rec2 : Int32 × Int32 → Option Int32), i < 14 → lp_ (fun rec13 (z12 : Int32) => bd_ (Jk_chr σ z12) (fun q15 => (if q15 = 32 then rec2 ((nI i + 1), (z12 + 1)) else rec13 (z12 + 1)))) FU (nI (stN i)) = rec2 (nI (i + 1), nI (stN (i + 1))) := by
    intro i rec2 hi
    obtain ⟨w1, w2, w3, w4, w5, w6, w7⟩ := wd_tab i hi
    refine lp_runE (lnN i) (by omega) (fun m => nI (stN i + m)) rfl (fun rec m hm => ?_) (fun rec => ?_)
    · have h6 := w6 m (by omega) hm
      show bd_ (Jk_chr σ (nI (stN i + m))) (fun q15 => (if q15 = 32 then _ else rec (nI (stN i + m) + nI 1))) = _
      rw [Jk_chr_eq (by omega), bd_some, if_neg (n32 (x := wcN (stN i + m)) (by omega) (by omega)), nI_add, Nat.add_assoc]
    · show bd_ (Jk_chr σ (nI (stN i + lnN i))) (fun q15 => (if q15 = 32 then rec2 (nI i + nI 1, nI (stN i + lnN i) + nI 1) else _)) = _
      rw [Jk_chr_eq w1, bd_some, if_pos (by rw [w2]; rfl), nI_add, nI_add, w3]
  refine lp_find 14 (by decide) (mtW b (e - q)) (fun i => (nI i, nI (stN i))) (fun rec i hi hq => ?_) (fun rec i hi hq e2 => ?_) (fun rec e2 => ?_)
  · obtain ⟨w1, w2, w3, w4, w5, w6, w7⟩ := wd_tab i hi
    show bd_ (some (nI 79)) (fun q4 => (if q4 ≤ nI (stN i) then _ else _)) = _
    rw [bd_some, if_neg (of_eq_false (nle_f (by omega) (by omega))), lk_eq]
    obtain ⟨j, j1, j2, j3, ej⟩ := inner i _ hi
    refine ej.trans ?_
    have nm : ¬ (j = lnN i ∧ q + j = e) := by
      rintro ⟨a1, a2⟩
      have : mtW b (e - q) i = true := mtW_iff.mpr ⟨by omega, fun m hm => (j3 m (by omega)).2⟩
      rw [hq] at this
      cases this
    show bd_ (Jk_chr σ (nI (stN i) + nI j)) (fun q8 => lk_ (fun kk10 => (if q8 = 32 then (if ((gF σ 859 0) + nI j) = (gF σ 858 0) then some (nI i) else kk10 ()) else kk10 ())) (fun (j9 : Unit) => lp_ (fun rec13 (z12 : Int32) => bd_ (Jk_chr σ z12) (fun q15 => (if q15 = 32 then rec ((nI i + 1), (z12 + 1)) else rec13 (z12 + 1)))) FU (nI (stN i)))) = _
    rw [nI_add, Jk_chr_eq (by omega), bd_some, lk_eq, skip i rec hi, show gF σ 859 0 = _ from h9, show gF σ 858 0 = _ from h8, nI_add]
    by_cases c1 : j = lnN i
    · rw [if_pos (by rw [c1, w2]; rfl), if_neg (fun z => nm ⟨c1, (nI_eq (by omega) (by omega)).mp z⟩)]
    · have h6 := w6 j (by omega) (by omega)
      rw [if_neg (n32 (x := wcN (stN i + j)) (by omega) (by omega))]
  · obtain ⟨w1, w2, w3, w4, w5, w6, w7⟩ := wd_tab i hi
    rw [← e2, if_pos hi]
    rw [mtW_iff] at hq
    show bd_ (some (nI 79)) (fun q4 => (if q4 ≤ nI (stN i) then _ else _)) = _
    rw [bd_some, if_neg (of_eq_false (nle_f (by omega) (by omega))), lk_eq]
    obtain ⟨j, j1, j2, j3, ej⟩ := inner i _ hi
    refine ej.trans ?_
    have je : j = lnN i := by
      rcases j2 with j2 | j2
      · exact j2
      · rcases Nat.lt_or_ge j (lnN i) with c | c
        · exact absurd ⟨by omega, hq.2 j c⟩ j2
        · omega
    show bd_ (Jk_chr σ (nI (stN i) + nI j)) (fun q8 => lk_ (fun kk10 => (if q8 = 32 then (if ((gF σ 859 0) + nI j) = (gF σ 858 0) then some (nI i) else kk10 ()) else kk10 ())) _) = _
    rw [nI_add, Jk_chr_eq (by omega), bd_some, lk_eq, show gF σ 859 0 = _ from h9, show gF σ 858 0 = _ from h8, nI_add, if_pos (by rw [je, w2]; rfl), if_pos (by rw [je, ← hq.1]; exact congrArg nI (by omega))]
  · rw [e2]
    show bd_ (some (nI 79)) (fun q4 => (if q4 ≤ nI 79 then some (-nI 1) else _)) = _
    rw [bd_some, if_pos (by decide), if_neg (Nat.lt_irrefl 14)]

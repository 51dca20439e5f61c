/-! ===== rings of lands ===== -/
def pas (A : Nat → Nat → Bool) (S : Nat → Bool) : Nat → Nat → Bool
  | 0 => S
  | a + 1 => if pas A S a a then (fun b => pas A S a b || A a b) else pas A S a
def rnd (A : Nat → Nat → Bool) (n : Nat) (S : Nat → Bool) : Nat → Nat → Bool
  | 0 => S
  | k + 1 => pas A (rnd A n S k) n
def bf (A : Nat → Nat → Bool) (S : Nat → Bool) : Nat → Nat → Bool
  | 0 => S
  | a + 1 => fun b => bf A S a b || (S a && A a b)
def bfs (A : Nat → Nat → Bool) (n : Nat) (S : Nat → Bool) : Nat → Nat → Bool
  | 0 => S
  | k + 1 => bf A (bfs A n S k) n
def clo (A : Nat → Nat → Bool) (n : Nat) (S : Nat → Bool) : Prop := ∀ a b, a < n → b < n → S a = true → A a b = true → S b = true
theorem ct_lt {p q : Nat → Bool} {n b : Nat} (h : ∀ k, k < n → p k = true → q k = true) (hb : b < n) (hp : p b = false) (hq : q b = true) : fb_ct p n < fb_ct q n := by
  have h1 := fb_ct_upd p true hb
  rw [hp] at h1
  simp only [Bool.false_eq_true, if_false, if_true] at h1
  have h2 := fb_ct_sub (p := fun k => if k = b then true else p k) (q := q) (n := n) (fun k hk e => by
    by_cases c : k = b
    · subst c; exact hq
    · simp only [c, if_false] at e
      exact h k hk e)
  omega
section RingP
variable {A : Nat → Nat → Bool} {S T : Nat → Bool} {n : Nat}
theorem pas_up {a b : Nat} (h : pas A S a b = true) : pas A S (a + 1) b = true := by
  show (if pas A S a a then (fun b => pas A S a b || A a b) else pas A S a) b = true
  split
  · simp [h]
  · exact h
theorem pas_mono {a b : Nat} : ∀ {d : Nat}, pas A S a b = true → pas A S (a + d) b = true
  | 0, h => h
  | d + 1, h => pas_up (pas_mono (d := d) h)
theorem pas_sup {a b : Nat} (h : S b = true) : pas A S a b = true := by
  have := pas_mono (A := A) (S := S) (a := 0) (b := b) (d := a) h
  rwa [Nat.zero_add] at this
theorem pas_adj {a a0 b : Nat} (ha : a0 < a) (h : S a0 = true) (hA : A a0 b = true) : pas A S a b = true := by
  have h1 : pas A S (a0 + 1) b = true := by
    show (if pas A S a0 a0 then (fun b => pas A S a0 b || A a0 b) else pas A S a0) b = true
    rw [if_pos (pas_sup h)]
    simp [hA]
  have := pas_mono (A := A) (S := S) (a := a0 + 1) (b := b) (d := a - (a0 + 1)) h1
  rwa [show a0 + 1 + (a - (a0 + 1)) = a by omega] at this
theorem pas_sub (h : ∀ b, b < n → S b = true → T b = true) (hc : clo A n T) : ∀ {a : Nat}, a ≤ n → ∀ b, b < n → pas A S a b = true → T b = true
  | 0, _, b, hb, e => h b hb e
  | a + 1, ha, b, hb, e => by
    have ih := pas_sub h hc (a := a) (by omega)
    have e : (if pas A S a a then (fun b => pas A S a b || A a b) else pas A S a) b = true := e
    by_cases c : pas A S a a = true
    · rw [if_pos c] at e
      simp only [Bool.or_eq_true] at e
      rcases e with e | e
      · exact ih b hb e
      · exact hc a b (by omega) hb (ih a (by omega) c) e
    · rw [if_neg c] at e
      exact ih b hb e
theorem rnd_sub (h : ∀ b, b < n → S b = true → T b = true) (hc : clo A n T) : ∀ {k : Nat} (b : Nat), b < n → rnd A n S k b = true → T b = true
  | 0, b, hb, e => h b hb e
  | k + 1, b, hb, e => pas_sub (rnd_sub h hc (k := k)) hc (Nat.le_refl n) b hb e
theorem rnd_sup {b : Nat} (h : S b = true) : ∀ {k : Nat}, rnd A n S k b = true
  | 0 => h
  | k + 1 => pas_sup (rnd_sup h (k := k))
theorem rnd_grow {l : Nat} (hl : l < n) (h : S l = true) : ∀ {k : Nat}, clo A n (rnd A n S k) ∨ k + 1 ≤ fb_ct (rnd A n S k) n
  | 0 => Or.inr (fb_ct_pos.mpr ⟨l, hl, h⟩)
  | k + 1 => by
    by_cases c : clo A n (rnd A n S k)
    · left
      have e : ∀ b, b < n → (rnd A n S (k + 1) b = true ↔ rnd A n S k b = true) := fun b hb => ⟨pas_sub (fun _ _ q => q) c (Nat.le_refl n) b hb, pas_sup⟩
      intro a b ha hb h1 h2
      exact (e b hb).mpr (c a b ha hb ((e a ha).mp h1) h2)
    · rcases rnd_grow hl h (k := k) with d | d
      · exact absurd d c
      · right
        unfold clo at c
        simp only [Classical.not_forall] at c
        obtain ⟨a, b, ha, hb, h1, h2, h3⟩ := c
        have := ct_lt (p := rnd A n S k) (q := rnd A n S (k + 1)) (n := n) (b := b) (fun k' hk' q => pas_sup q) hb (ts_nt h3) (pas_adj ha h1 h2)
        omega
theorem rnd_clo {l : Nat} (hl : l < n) (h : S l = true) : clo A n (rnd A n S n) := by
  rcases rnd_grow (A := A) hl h (k := n) with c | c
  · exact c
  · have := fb_ct_le (rnd A n S n) n
    omega
theorem bf_sup {b : Nat} (h : S b = true) : ∀ {a : Nat}, bf A S a b = true
  | 0 => h
  | a + 1 => by
    show (bf A S a b || (S a && A a b)) = true
    rw [bf_sup h (a := a)]; rfl
theorem bf_adj {a0 b : Nat} (h : S a0 = true) (hA : A a0 b = true) : ∀ {a : Nat}, a0 < a → bf A S a b = true
  | 0, q => absurd q (Nat.not_lt_zero _)
  | a + 1, q => by
    show (bf A S a b || (S a && A a b)) = true
    by_cases c : a0 = a
    · subst c; simp [h, hA]
    · rw [bf_adj h hA (a := a) (by omega)]; rfl
theorem bf_sub (h : ∀ b, b < n → S b = true → T b = true) (hc : clo A n T) : ∀ {a : Nat}, a ≤ n → ∀ b, b < n → bf A S a b = true → T b = true
  | 0, _, b, hb, e => h b hb e
  | a + 1, ha, b, hb, e => by
    have e : (bf A S a b || (S a && A a b)) = true := e
    rw [Bool.or_eq_true, Bool.and_eq_true] at e
    rcases e with e | ⟨e1, e2⟩
    · exact bf_sub h hc (a := a) (by omega) b hb e
    · exact hc a b (by omega) hb (h a (by omega) e1) e2
theorem bfs_sub (h : ∀ b, b < n → S b = true → T b = true) (hc : clo A n T) : ∀ {k : Nat} (b : Nat), b < n → bfs A n S k b = true → T b = true
  | 0, b, hb, e => h b hb e
  | k + 1, b, hb, e => bf_sub (bfs_sub h hc (k := k)) hc (Nat.le_refl n) b hb e
theorem bfs_sup {b : Nat} (h : S b = true) : ∀ {k : Nat}, bfs A n S k b = true
  | 0 => h
  | k + 1 => bf_sup (bfs_sup h (k := k))
theorem bset_inj {p q : Nat → Bool} (h : bset p n = bset q n) {b : Nat} (hb : b < n) : p b = q b := by
  have h1 := bset_tb p n b
  have h2 := bset_tb q n b
  rw [h, h2] at h1
  simpa [hb] using h1.symm
theorem bfs_grow {l : Nat} (hl : l < n) (h : S l = true) : ∀ {k : Nat}, (∀ j, j < k → ¬ bset (bfs A n S (j + 1)) n = bset (bfs A n S j) n) → k + 1 ≤ fb_ct (bfs A n S k) n
  | 0, _ => fb_ct_pos.mpr ⟨l, hl, h⟩
  | k + 1, hd => by
    have ih := bfs_grow hl h (k := k) (fun j hj => hd j (by omega))
    have h1 := hd k (by omega)
    have : ∃ b, b < n ∧ bfs A n S k b = false ∧ bfs A n S (k + 1) b = true := by
      refine Classical.byContradiction fun hh => h1 (bset_cong (fun b hb => ?_))
      cases e1 : bfs A n S k b
      · cases e2 : bfs A n S (k + 1) b
        · rfl
        · exact absurd ⟨b, hb, e1, e2⟩ hh
      · exact bf_sup e1
    obtain ⟨b, hb, e1, e2⟩ := this
    have := ct_lt (p := bfs A n S k) (q := bfs A n S (k + 1)) (n := n) (fun k' hk' q => bf_sup q) hb e1 e2
    omega
theorem bfs_clo {k : Nat} (h : bset (bfs A n S (k + 1)) n = bset (bfs A n S k) n) : clo A n (bfs A n S (k + 1)) := by
  intro a b ha hb h1 h2
  rw [bset_inj h ha] at h1
  exact bf_adj h1 h2 ha
theorem bset_or (p q : Nat → Bool) (n : Nat) : nI (bset p n) ||| nI (bset q n) = nI (bset (fun b => p b || q b) n) := by
  rw [fa_or]
  congr 1
  apply Nat.eq_of_testBit_eq
  intro j
  rw [Nat.testBit_or, bset_tb, bset_tb, bset_tb]
  cases decide (j < n) <;> simp
theorem bset_one {l : Nat} (hl : l < n) : bset (fun b => decide (b = l)) n = 2 ^ l := by
  apply Nat.eq_of_testBit_eq
  intro j
  rw [bset_tb, Nat.testBit_two_pow]
  by_cases c : l = j
  · subst c; simp [hl]
  · simp [c, show ¬ j = l from fun e => c e.symm]
theorem bset_add {p : Nat → Bool} {k : Nat} (hk : k < n) : nI (bset p n) ||| nI (2 ^ k) = nI (bset (fun b => p b || decide (b = k)) n) := by
  rw [← bset_one hk, bset_or]
theorem sh_key : ∀ a, a < 6 → ∀ m, m < 64 → decide ((nI m >>> (nI a &&& nI 31)) &&& nI 1 = nI 1) = m.testBit a := by decide +kernel
theorem sh_bit (hn : n ≤ 6) {p : Nat → Bool} {a : Nat} (ha : a < n) : ((nI (bset p n) >>> (nI a &&& nI 31)) &&& nI 1 = nI 1) = (p a = true) := by
  have h1 := bset_lt p n
  have h2 : (2 : Nat) ^ n ≤ 2 ^ 6 := Nat.pow_le_pow_right (by decide) hn
  have h3 := sh_key a (by omega) (bset p n) (by omega)
  rw [bset_tb] at h3
  simp only [ha, decide_true, Bool.true_and] at h3
  rw [← h3]
  simp
end RingP
section Ring
variable {σ : ST} {R : RT} {ν : NU} {r i : Nat}
def ringP (R : RT) (ν : NU) (l : Nat) : Nat := bset (rnd (answ ν) (R 0 0) (fun b => decide (b = l)) (R 0 0)) (R 0 0)
theorem Wo_ringBits_eq {l : Nat} (c : CR σ r R) (w : WR σ i R ν) (ho : RO R) (ht : TO R ν) (hl : l < R 0 0) : Wo_ringBits σ i r (nI l) = some (nI (ringP R ν l)) := by
  have o1 := ho.L
  unfold Wo_ringBits ringP
  simp (disch := omega) only [bd_some, bd_none, lt_eq, lk_eq, fa_lit, nI_add, nI_mul, nI_sub, nle_t, nle_f, nlt_t, nlt_f, neq_t, neq_f, neg_ne, neg_ne', if_true, if_false, ite_true, ite_false, Nat.zero_add, Nat.add_zero, ld0, ld1, ld2, ld3, ld4, ld5, ld6, ld7, ld8, ld9, ld10, ld11, ld12, ld13, ld14, ld15, ld16, ld17, ld18, ld19, ld20, ld21, ld22, ld23, ld24, ld25, ld26, ld27, ld28, ld29, ld30, ld31, ld32, ld33, ld34, ld35, ld36, ld37, ld38, ld39, ld40, ld41, ld42, ld43, ld44, ld45, ld46, ld47, ld48, ld100, ld101, ld102, ld103, ld104, ld105, shl1]
  rw [← bset_one hl]
  refine lp_run (R 0 0) (by omega) (fun k => (nI (bset (rnd (answ ν) (R 0 0) (fun b => decide (b = l)) k) (R 0 0)), nI k)) (fun rec k hk => ?_) (fun rec => ?_)
  · simp (disch := omega) only [bd_some, bd_none, lt_eq, lk_eq, fa_lit, nI_add, nI_mul, nI_sub, nle_t, nle_f, nlt_t, nlt_f, neq_t, neq_f, neg_ne, neg_ne', if_true, if_false, ite_true, ite_false, Nat.zero_add, Nat.add_zero, ld0, ld1, ld2, ld3, ld4, ld5, ld6, ld7, ld8, ld9, ld10, ld11, ld12, ld13, ld14, ld15, ld16, ld17, ld18, ld19, ld20, ld21, ld22, ld23, ld24, ld25, ld26, ld27, ld28, ld29, ld30, ld31, ld32, ld33, ld34, ld35, ld36, ld37, ld38, ld39, ld40, ld41, ld42, ld43, ld44, ld45, ld46, ld47, ld48, ld100, ld101, ld102, ld103, ld104, ld105, c.L]
    refine lp_run (R 0 0) (by omega) (fun a => (nI (bset (pas (answ ν) (rnd (answ ν) (R 0 0) (fun b => decide (b = l)) k) a) (R 0 0)), nI a)) (fun rec2 a ha => ?_) (fun rec2 => ?_)
    · have e : (fun o => decide (a = o) || answ ν a o) = answ ν a := funext fun o => answ_or ht o ha
      simp (disch := omega) only [bd_some, bd_none, lt_eq, lk_eq, fa_lit, nI_add, nI_mul, nI_sub, nle_t, nle_f, nlt_t, nlt_f, neq_t, neq_f, neg_ne, neg_ne', if_true, if_false, ite_true, ite_false, Nat.zero_add, Nat.add_zero, ld0, ld1, ld2, ld3, ld4, ld5, ld6, ld7, ld8, ld9, ld10, ld11, ld12, ld13, ld14, ld15, ld16, ld17, ld18, ld19, ld20, ld21, ld22, ld23, ld24, ld25, ld26, ld27, ld28, ld29, ld30, ld31, ld32, ld33, ld34, ld35, ld36, ld37, ld38, ld39, ld40, ld41, ld42, ld43, ld44, ld45, ld46, ld47, ld48, ld100, ld101, ld102, ld103, ld104, ld105, c.L, sh_bit o1 ha, Wo_answerBits_eq c w ho ha, e, bset_or]
      rw [pas]
      cases pas (answ ν) (rnd (answ ν) (R 0 0) (fun b => decide (b = l)) k) a a <;> simp
    · simp (disch := omega) only [bd_some, bd_none, lt_eq, lk_eq, fa_lit, nI_add, nI_mul, nI_sub, nle_t, nle_f, nlt_t, nlt_f, neq_t, neq_f, neg_ne, neg_ne', if_true, if_false, ite_true, ite_false, Nat.zero_add, Nat.add_zero, ld0, ld1, ld2, ld3, ld4, ld5, ld6, ld7, ld8, ld9, ld10, ld11, ld12, ld13, ld14, ld15, ld16, ld17, ld18, ld19, ld20, ld21, ld22, ld23, ld24, ld25, ld26, ld27, ld28, ld29, ld30, ld31, ld32, ld33, ld34, ld35, ld36, ld37, ld38, ld39, ld40, ld41, ld42, ld43, ld44, ld45, ld46, ld47, ld48, ld100, ld101, ld102, ld103, ld104, ld105, c.L]
      rfl
  · simp (disch := omega) only [bd_some, bd_none, lt_eq, lk_eq, fa_lit, nI_add, nI_mul, nI_sub, nle_t, nle_f, nlt_t, nlt_f, neq_t, neq_f, neg_ne, neg_ne', if_true, if_false, ite_true, ite_false, Nat.zero_add, Nat.add_zero, ld0, ld1, ld2, ld3, ld4, ld5, ld6, ld7, ld8, ld9, ld10, ld11, ld12, ld13, ld14, ld15, ld16, ld17, ld18, ld19, ld20, ld21, ld22, ld23, ld24, ld25, ld26, ld27, ld28, ld29, ld30, ld31, ld32, ld33, ld34, ld35, ld36, ld37, ld38, ld39, ld40, ld41, ld42, ld43, ld44, ld45, ld46, ld47, ld48, ld100, ld101, ld102, ld103, ld104, ld105, c.L]
theorem Mo_ringOf_eq {l : Nat} (h : MR σ R) (ho : RO R) (hl : l < R 0 0) : Mo_ringOf σ (nI l) = some (nI (ringP R (σ.1 34 0) l)) := by
  have o1 := ho.L
  have h26 : (2 : Nat) ^ R 0 0 ≤ 2 ^ 6 := Nat.pow_le_pow_right (by decide) o1
  unfold Mo_ringOf
  simp (disch := omega) only [bd_some, bd_none, lt_eq, lk_eq, fa_lit, nI_add, nI_mul, nI_sub, nle_t, nle_f, nlt_t, nlt_f, neq_t, neq_f, neg_ne, neg_ne', if_true, if_false, ite_true, ite_false, Nat.zero_add, Nat.add_zero, ld0, ld1, ld2, ld3, ld4, ld5, ld6, ld7, ld8, ld9, ld10, ld11, ld12, ld13, ld14, ld15, ld16, ld17, ld18, ld19, ld20, ld21, ld22, ld23, ld24, ld25, ld26, ld27, ld28, ld29, ld30, ld31, ld32, ld33, ld34, ld35, ld36, ld37, ld38, ld39, ld40, ld41, ld42, ld43, ld44, ld45, ld46, ld47, ld48, ld100, ld101, ld102, ld103, ld104, ld105, shl1]
  rw [← bset_one hl]
  generalize hA : answ (σ.1 34 0) = A
  generalize hS : (fun b => decide (b = l)) = S
  have hSl : S l = true := by rw [← hS]; simp
  have lt6 : ∀ p : Nat → Bool, bset p (R 0 0) < 64 := fun p => Nat.lt_of_lt_of_le (bset_lt p _) h26
  have pos : 0 < bset S (R 0 0) := by rw [← hS, bset_one hl]; exact Nat.two_pow_pos l
  generalize hp : (fun k => decide (bset (bfs A (R 0 0) S k) (R 0 0) = if k = 0 then 0 else bset (bfs A (R 0 0) S (k - 1)) (R 0 0))) = pr
  have hp2 : ∀ k, (bset (bfs A (R 0 0) S k) (R 0 0) = if k = 0 then 0 else bset (bfs A (R 0 0) S (k - 1)) (R 0 0)) = (pr k = true) := fun k => by rw [← hp]; simp
  have p0 : pr 0 = false := by
    apply ts_nt
    rw [← hp2 0, if_pos rfl]
    exact Nat.ne_of_gt pos
  have fin : fd pr 8 < 8 := by
    refine Classical.byContradiction fun q => ?_
    have e : fd pr 8 = 8 := by have := fd_le pr 8; omega
    have g := bfs_grow (A := A) hl hSl (k := 7) (fun j hj q2 => by
      have := fd_no (p := pr) (n := 8) (k := j + 1) (by omega)
      have h2 := hp2 (j + 1)
      rw [if_neg (Nat.succ_ne_zero j), Nat.add_sub_cancel, this] at h2
      exact absurd (h2.mp q2) (by decide))
    have := fb_ct_le (bfs A (R 0 0) S 7) (R 0 0)
    omega
  have yes := fd_yes fin
  have fpos : fd pr 8 ≠ 0 := fun e => by rw [e, p0] at yes; cases yes
  obtain ⟨m, hm⟩ : ∃ m, fd pr 8 = m + 1 := ⟨fd pr 8 - 1, by omega⟩
  have res : bset (bfs A (R 0 0) S (fd pr 8)) (R 0 0) = ringP R (σ.1 34 0) l := by
    rw [← hp2, if_neg fpos, hm, Nat.add_sub_cancel] at yes
    have c1 := bfs_clo yes
    have c2 := rnd_clo (A := A) hl hSl
    unfold ringP
    rw [hA, hS, hm]
    refine bset_cong (fun b hb => ?_)
    have e : bfs A (R 0 0) S (m + 1) b = true ↔ rnd A (R 0 0) S (R 0 0) b = true := by
      constructor
      · exact bfs_sub (fun b hb q => by rw [← hS] at q; simp only [decide_eq_true_eq] at q; subst q; exact rnd_sup hSl) c2 b hb
      · exact rnd_sub (fun b hb q => by rw [← hS] at q; simp only [decide_eq_true_eq] at q; subst q; exact bfs_sup hSl) c1 b hb
    cases e1 : bfs A (R 0 0) S (m + 1) b <;> cases e2 : rnd A (R 0 0) S (R 0 0) b <;> simp_all
  rw [← res]
  refine lp_find 8 (by decide) pr (fun k => (nI (bset (bfs A (R 0 0) S k) (R 0 0)), nI (if k = 0 then 0 else bset (bfs A (R 0 0) S (k - 1)) (R 0 0)))) (fun rec k hk hq => ?_) (fun rec k hk hq e2 => ?_) (fun rec e2 => ?_)
  · have l1 := lt6 (bfs A (R 0 0) S k)
    have l2 := lt6 (bfs A (R 0 0) S (k - 1))
    have n1 : ¬ nI (bset (bfs A (R 0 0) S k) (R 0 0)) = nI (if k = 0 then 0 else bset (bfs A (R 0 0) S (k - 1)) (R 0 0)) := by
      rw [nI_eq (by omega) (by split <;> omega), hp2, hq]
      decide
    simp only [n1, if_false]
    refine lp_run (R 0 0) (by omega) (fun a => (nI (bset (bf A (bfs A (R 0 0) S k) a) (R 0 0)), nI a)) (fun rec2 a ha => ?_) (fun rec2 => ?_)
    · simp (disch := omega) only [bd_some, bd_none, lt_eq, lk_eq, fa_lit, nI_add, nI_mul, nI_sub, nle_t, nle_f, nlt_t, nlt_f, neq_t, neq_f, neg_ne, neg_ne', if_true, if_false, ite_true, ite_false, Nat.zero_add, Nat.add_zero, ld0, ld1, ld2, ld3, ld4, ld5, ld6, ld7, ld8, ld9, ld10, ld11, ld12, ld13, ld14, ld15, ld16, ld17, ld18, ld19, ld20, ld21, ld22, ld23, ld24, ld25, ld26, ld27, ld28, ld29, ld30, ld31, ld32, ld33, ld34, ld35, ld36, ld37, ld38, ld39, ld40, ld41, ld42, ld43, ld44, ld45, ld46, ld47, ld48, ld100, ld101, ld102, ld103, ld104, ld105, h.L]
      have e0 : bset (bf A (bfs A (R 0 0) S k) a) (R 0 0) = bset (fun b => bf A (bfs A (R 0 0) S k) a b || (decide (b < 0) && (bfs A (R 0 0) S k a && A a b))) (R 0 0) := bset_cong (fun b hb => by simp)
      rw [e0]
      refine lp_run (R 0 0) (by omega) (fun c => (nI (bset (fun b => bf A (bfs A (R 0 0) S k) a b || (decide (b < c) && (bfs A (R 0 0) S k a && A a b))) (R 0 0)), nI c)) (fun rec3 c hc => ?_) (fun rec3 => ?_)
      · simp (disch := omega) only [bd_some, bd_none, lt_eq, lk_eq, fa_lit, nI_add, nI_mul, nI_sub, nle_t, nle_f, nlt_t, nlt_f, neq_t, neq_f, neg_ne, neg_ne', if_true, if_false, ite_true, ite_false, Nat.zero_add, Nat.add_zero, ld0, ld1, ld2, ld3, ld4, ld5, ld6, ld7, ld8, ld9, ld10, ld11, ld12, ld13, ld14, ld15, ld16, ld17, ld18, ld19, ld20, ld21, ld22, ld23, ld24, ld25, ld26, ld27, ld28, ld29, ld30, ld31, ld32, ld33, ld34, ld35, ld36, ld37, ld38, ld39, ld40, ld41, ld42, ld43, ld44, ld45, ld46, ld47, ld48, ld100, ld101, ld102, ld103, ld104, ld105, h.L, sh_bit o1 ha, Mo_doAnswer_eq, hA, b01_0, shl1, bset_add]
        have st : ∀ v : Bool, (bfs A (R 0 0) S k a && A a c) = v → bset (fun b => bf A (bfs A (R 0 0) S k) a b || (decide (b < c + 1) && (bfs A (R 0 0) S k a && A a b))) (R 0 0) = bset (fun b => (bf A (bfs A (R 0 0) S k) a b || (decide (b < c) && (bfs A (R 0 0) S k a && A a b))) || (v && decide (b = c))) (R 0 0) := by
          intro v hv
          refine bset_cong (fun b hb => ?_)
          by_cases c1 : b = c
          · subst c1
            simp [hv]
          · have c2 : (b < c + 1) = (b < c) := propext (by omega)
            simp [c1, c2]
        rw [st _ rfl]
        by_cases e1 : bfs A (R 0 0) S k a = true <;> by_cases e2 : A a c = true <;> simp [e1, e2]
      · simp (disch := omega) only [bd_some, bd_none, lt_eq, lk_eq, fa_lit, nI_add, nI_mul, nI_sub, nle_t, nle_f, nlt_t, nlt_f, neq_t, neq_f, neg_ne, neg_ne', if_true, if_false, ite_true, ite_false, Nat.zero_add, Nat.add_zero, ld0, ld1, ld2, ld3, ld4, ld5, ld6, ld7, ld8, ld9, ld10, ld11, ld12, ld13, ld14, ld15, ld16, ld17, ld18, ld19, ld20, ld21, ld22, ld23, ld24, ld25, ld26, ld27, ld28, ld29, ld30, ld31, ld32, ld33, ld34, ld35, ld36, ld37, ld38, ld39, ld40, ld41, ld42, ld43, ld44, ld45, ld46, ld47, ld48, ld100, ld101, ld102, ld103, ld104, ld105, h.L]
        congr 3
        refine bset_cong (fun b hb => ?_)
        simp only [hb, decide_true, Bool.true_and]
        rfl
    · simp (disch := omega) only [bd_some, bd_none, lt_eq, lk_eq, fa_lit, nI_add, nI_mul, nI_sub, nle_t, nle_f, nlt_t, nlt_f, neq_t, neq_f, neg_ne, neg_ne', if_true, if_false, ite_true, ite_false, Nat.zero_add, Nat.add_zero, ld0, ld1, ld2, ld3, ld4, ld5, ld6, ld7, ld8, ld9, ld10, ld11, ld12, ld13, ld14, ld15, ld16, ld17, ld18, ld19, ld20, ld21, ld22, ld23, ld24, ld25, ld26, ld27, ld28, ld29, ld30, ld31, ld32, ld33, ld34, ld35, ld36, ld37, ld38, ld39, ld40, ld41, ld42, ld43, ld44, ld45, ld46, ld47, ld48, ld100, ld101, ld102, ld103, ld104, ld105, h.L, Nat.add_sub_cancel, show ¬ k + 1 = 0 from Nat.succ_ne_zero k]
      rfl
  · rw [← e2]
    rw [← hp2] at hq
    simp only [← hq, if_true]
  · omega
theorem q_ring (h : IV σ R) (x : Int32) : QI (Rp_ring σ x) (Mo_ring σ x) σ := by
  obtain ⟨h1, hc, en⟩ := thr h 0
  have o1 := h.ro.L
  have o2 := h.ro.P
  have o3 := h.ro.S
  unfold Rp_ring Mo_ring
  rw [lt_eq]
  generalize setF σ 840 0 0 = s1 at *
  rcases at_or (x := x) (n := R 0 0) (by omega) with ⟨l, hl, rfl⟩ | hx
  rotate_left
  · simp (disch := omega) only [bd_some, bd_none, lt_eq, lk_eq, fa_lit, nI_add, nI_mul, nI_sub, nle_t, nle_f, nlt_t, nlt_f, neq_t, neq_f, neg_ne, neg_ne', if_true, if_false, ite_true, ite_false, Nat.zero_add, Nat.add_zero, ld0, ld1, ld2, ld3, ld4, ld5, ld6, ld7, ld8, ld9, ld10, ld11, ld12, ld13, ld14, ld15, ld16, ld17, ld18, ld19, ld20, ld21, ld22, ld23, ld24, ld25, ld26, ld27, ld28, ld29, ld30, ld31, ld32, ld33, ld34, ld35, ld36, ld37, ld38, ld39, ld40, ld41, ld42, ld43, ld44, ld45, ld46, ld47, ld48, ld100, ld101, ld102, ld103, ld104, ld105, Rp_isLand_t h, Mo_isLand_t h1.mr h1.ro, Rp_isPlayer_t h, Mo_isPlayer_t h1.mr h1.ro, Rp_isSession_t h, Mo_isSession_t h1.mr h1.ro, Rp_isSeat_t h, Mo_isSeat_t h1.mr h1.ro, Rp_isChoice_t, Mo_isRole_t, h.q0, h.cr.L, h.cr.P, h.cr.S, h.cr.kp, h.cr.ld, h1.mr.L, h1.mr.P, h1.mr.S, h1.mr.kp, h1.mr.ld, en, Rp_isLand_f h hx, Mo_isLand_f h1.mr hx]
    exact ⟨_, _, rfl, rfl, hc⟩
  simp (disch := omega) only [bd_some, bd_none, lt_eq, lk_eq, fa_lit, nI_add, nI_mul, nI_sub, nle_t, nle_f, nlt_t, nlt_f, neq_t, neq_f, neg_ne, neg_ne', if_true, if_false, ite_true, ite_false, Nat.zero_add, Nat.add_zero, ld0, ld1, ld2, ld3, ld4, ld5, ld6, ld7, ld8, ld9, ld10, ld11, ld12, ld13, ld14, ld15, ld16, ld17, ld18, ld19, ld20, ld21, ld22, ld23, ld24, ld25, ld26, ld27, ld28, ld29, ld30, ld31, ld32, ld33, ld34, ld35, ld36, ld37, ld38, ld39, ld40, ld41, ld42, ld43, ld44, ld45, ld46, ld47, ld48, ld100, ld101, ld102, ld103, ld104, ld105, Rp_isLand_t h, Mo_isLand_t h1.mr h1.ro, Rp_isPlayer_t h, Mo_isPlayer_t h1.mr h1.ro, Rp_isSession_t h, Mo_isSession_t h1.mr h1.ro, Rp_isSeat_t h, Mo_isSeat_t h1.mr h1.ro, Rp_isChoice_t, Mo_isRole_t, h.q0, h.cr.L, h.cr.P, h.cr.S, h.cr.kp, h.cr.ld, h1.mr.L, h1.mr.P, h1.mr.S, h1.mr.kp, h1.mr.ld, en, Wo_ringBits_eq h.cr h.br.W h.ro h.to, Mo_ringOf_eq h1.mr h1.ro]
  exact ⟨_, _, rfl, rfl, hc⟩
def zst : ST := (fun _ _ _ => 0, fun _ _ _ => 0, fun _ => 0)
theorem ntz_key : ∀ l, l < 6 → ∀ m, m < 64 → m.testBit l = true → decide (Jk_numberOfTrailingZeros zst (nI m) = some (nI l)) = decide (nI m &&& (nI (2 ^ l) - nI 1) = nI 0) ∧ (Jk_numberOfTrailingZeros zst (nI m)).isSome = true := by decide +kernel
theorem q_rings (h : IV σ R) : QI (Rp_rings σ) (Mo_rings σ) σ := by
  obtain ⟨h1, hc, en⟩ := thr h 0
  have o1 := h.ro.L
  have o2 := h.ro.P
  have o3 := h.ro.S
  unfold Rp_rings Mo_rings
  rw [lt_eq]
  generalize setF σ 840 0 0 = s1 at *
  have lt6 : ∀ l, ringP R (σ.1 34 0) l < 64 := fun l => Nat.lt_of_lt_of_le (bset_lt _ _) (Nat.pow_le_pow_right (by decide) o1)
  have tb : ∀ l, l < R 0 0 → (ringP R (σ.1 34 0) l).testBit l = true := fun l hl => by
    unfold ringP
    rw [bset_tb, rnd_sup (b := l) (by simp)]
    simp [hl]
  generalize hp : (fun l => decide (nI (ringP R (σ.1 34 0) l) &&& (nI (2 ^ l) - nI 1) = nI 0)) = pr
  have hp2 : ∀ l, (nI (ringP R (σ.1 34 0) l) &&& (nI (2 ^ l) - nI 1) = nI 0) = (pr l = true) := fun k => by rw [← hp]; simp
  refine ⟨sI (fun l => b01 (pr l)) (R 0 0), s1, ?_, ?_, hc⟩
  · refine lp_run (R 0 0) (by omega) (fun k => (sI (fun l => b01 (pr l)) k, nI k)) (fun rec k hk => ?_) (fun rec => ?_)
    · obtain ⟨z1, z2⟩ := ntz_key k (by omega) _ (lt6 k) (tb k hk)
      obtain ⟨q, hq⟩ := Option.isSome_iff_exists.mp z2
      have hq2 : Jk_numberOfTrailingZeros σ (nI (ringP R (σ.1 34 0) k)) = some q := hq
      rw [hq] at z1
      have z3 : (q = nI k) = (pr k = true) := by
        rw [← hp2 k]
        have := decide_eq_decide.mp z1
        rw [Option.some.injEq] at this
        exact propext this
      simp (disch := omega) only [bd_some, bd_none, lt_eq, lk_eq, fa_lit, nI_add, nI_mul, nI_sub, nle_t, nle_f, nlt_t, nlt_f, neq_t, neq_f, neg_ne, neg_ne', if_true, if_false, ite_true, ite_false, Nat.zero_add, Nat.add_zero, ld0, ld1, ld2, ld3, ld4, ld5, ld6, ld7, ld8, ld9, ld10, ld11, ld12, ld13, ld14, ld15, ld16, ld17, ld18, ld19, ld20, ld21, ld22, ld23, ld24, ld25, ld26, ld27, ld28, ld29, ld30, ld31, ld32, ld33, ld34, ld35, ld36, ld37, ld38, ld39, ld40, ld41, ld42, ld43, ld44, ld45, ld46, ld47, ld48, ld100, ld101, ld102, ld103, ld104, ld105, Rp_isLand_t h, Mo_isLand_t h1.mr h1.ro, Rp_isPlayer_t h, Mo_isPlayer_t h1.mr h1.ro, Rp_isSession_t h, Mo_isSession_t h1.mr h1.ro, Rp_isSeat_t h, Mo_isSeat_t h1.mr h1.ro, Rp_isChoice_t, Mo_isRole_t, h.q0, h.cr.L, h.cr.P, h.cr.S, h.cr.kp, h.cr.ld, h1.mr.L, h1.mr.P, h1.mr.S, h1.mr.kp, h1.mr.ld, en, Wo_ringBits_eq h.cr h.br.W h.ro h.to, hq2, z3, sI_succ]
      cases pr k <;> simp [b01, add_n0]
    · simp (disch := omega) only [bd_some, bd_none, lt_eq, lk_eq, fa_lit, nI_add, nI_mul, nI_sub, nle_t, nle_f, nlt_t, nlt_f, neq_t, neq_f, neg_ne, neg_ne', if_true, if_false, ite_true, ite_false, Nat.zero_add, Nat.add_zero, ld0, ld1, ld2, ld3, ld4, ld5, ld6, ld7, ld8, ld9, ld10, ld11, ld12, ld13, ld14, ld15, ld16, ld17, ld18, ld19, ld20, ld21, ld22, ld23, ld24, ld25, ld26, ld27, ld28, ld29, ld30, ld31, ld32, ld33, ld34, ld35, ld36, ld37, ld38, ld39, ld40, ld41, ld42, ld43, ld44, ld45, ld46, ld47, ld48, ld100, ld101, ld102, ld103, ld104, ld105, Rp_isLand_t h, Mo_isLand_t h1.mr h1.ro, Rp_isPlayer_t h, Mo_isPlayer_t h1.mr h1.ro, Rp_isSession_t h, Mo_isSession_t h1.mr h1.ro, Rp_isSeat_t h, Mo_isSeat_t h1.mr h1.ro, Rp_isChoice_t, Mo_isRole_t, h.q0, h.cr.L, h.cr.P, h.cr.S, h.cr.kp, h.cr.ld, h1.mr.L, h1.mr.P, h1.mr.S, h1.mr.kp, h1.mr.ld, en]
  · refine lp_run (R 0 0) (by omega) (fun k => (sI (fun l => b01 (pr l)) k, nI k)) (fun rec k hk => ?_) (fun rec => ?_)
    · have h6 : 1 ≤ 2 ^ k := Nat.one_le_two_pow
      have e1 : nI 1 <<< (nI k &&& nI 31) = nI (2 ^ k) := shl1 (by omega)
      have e2 := hp2 k
      simp only [h1.mr.L, fa_lit, Mo_ringOf_eq h1.mr h1.ro hk, en, bd_some, lt_eq, e1, e2, sI_succ, nI_add]
      simp only [nle_f hk (show R 0 0 < 2147483648 by omega), if_false]
      cases pr k <;> simp [b01]
    · simp (disch := omega) only [bd_some, bd_none, lt_eq, lk_eq, fa_lit, nI_add, nI_mul, nI_sub, nle_t, nle_f, nlt_t, nlt_f, neq_t, neq_f, neg_ne, neg_ne', if_true, if_false, ite_true, ite_false, Nat.zero_add, Nat.add_zero, ld0, ld1, ld2, ld3, ld4, ld5, ld6, ld7, ld8, ld9, ld10, ld11, ld12, ld13, ld14, ld15, ld16, ld17, ld18, ld19, ld20, ld21, ld22, ld23, ld24, ld25, ld26, ld27, ld28, ld29, ld30, ld31, ld32, ld33, ld34, ld35, ld36, ld37, ld38, ld39, ld40, ld41, ld42, ld43, ld44, ld45, ld46, ld47, ld48, ld100, ld101, ld102, ld103, ld104, ld105, Rp_isLand_t h, Mo_isLand_t h1.mr h1.ro, Rp_isPlayer_t h, Mo_isPlayer_t h1.mr h1.ro, Rp_isSession_t h, Mo_isSession_t h1.mr h1.ro, Rp_isSeat_t h, Mo_isSeat_t h1.mr h1.ro, Rp_isChoice_t, Mo_isRole_t, h.q0, h.cr.L, h.cr.P, h.cr.S, h.cr.kp, h.cr.ld, h1.mr.L, h1.mr.P, h1.mr.S, h1.mr.kp, h1.mr.ld, en]
end Ring

/-! ===== what shares add up to ===== -/
def sumFP (R : RT) (ν : NU) (l s m f : Nat) : Int32 := sI (fun k => if ftP R ν l s k = f then nI (shP R s m k) else nI 0) (hdP R s)
def oneP (R : RT) (ν : NU) (l s m p : Nat) : Int32 := sI (fun k => if whP R ν s k = nI p ∧ ftP R ν l s k = 0 then nI (shP R s m k) else nI 0) (hdP R s)
def homeP (R : RT) (ν : NU) (l s m h : Nat) : Int32 := sI (fun k => if ftP R ν l s k = 0 ∧ hmP ν (whP R ν s k) = h then nI (shP R s m k) else nI 0) (hdP R s)
def opnP (R : RT) (ν : NU) (l s m f : Nat) : Int32 := sI (fun k => if whP R ν s k = -nI 1 ∧ ftP R ν l s k = f then nI (shP R s m k) else nI 0) (hdP R s)
def toP (R : RT) (ν : NU) (h : Nat) : Int32 := sI (fun l => sI (fun s => homeP R ν l s (1000 * R 1 l) h) (R 0 2)) (R 0 0)
def rndP (R : RT) (ν : NU) (p : Nat) : Int32 := sI (fun l => sI (fun s => oneP R ν l s (1000 * R 1 l) p) (R 0 2)) (R 0 0)
def unkP (R : RT) (ν : NU) (f : Nat) : Int32 := sI (fun l => sI (fun s => opnP R ν l s (1000 * R 1 l) f) (R 0 2)) (R 0 0)
def inlP (R : RT) (ν : NU) (l f : Nat) : Int32 := sI (fun s => sumFP R ν l s (1000 * R 1 l) f) (R 0 2)
section Out2
variable {σ τ : ST} {R : RT} {ν : NU} {r i o : Nat}
theorem ft0_wh {l s k : Nat} (h : ftP R ν l s k = 0) : ¬ whP R ν s k = -nI 1 := by
  intro q
  unfold ftP at h
  rw [if_pos q] at h
  split at h <;> cases h
theorem ft_open {l s k : Nat} (h : whP R ν s k = -nI 1) : ftP R ν l s k = 1 ∨ ftP R ν l s k = 2 := by
  unfold ftP
  rw [if_pos h]
  split
  · exact Or.inl rfl
  · exact Or.inr rfl
theorem n_ft0 (l s k : Nat) : (nI (ftP R ν l s k) = nI 0) = (ftP R ν l s k = 0) := neq_i (by have := ft_lt (R := R) (ν := ν) l s k; omega) (by omega)
theorem n_ft (l s k : Nat) {f : Nat} (hf : f < 3) : (nI (ftP R ν l s k) = nI f) = (ftP R ν l s k = f) := neq_i (by have := ft_lt (R := R) (ν := ν) l s k; omega) (by omega)
theorem Oc_headsPaid_eq {l s m : Nat} (ho : RO R) (hs : s < R 0 2) (q : OQ τ o R ν l s m) : Oc_headsPaid τ o = some (sI (fun k => b01 (decide (ftP R ν l s k = 0))) (hdP R s)) := by
  have h13 := hd_le ho hs
  obtain ⟨q1, q2, q3, q4, q5, q6, q7⟩ := q
  unfold Oc_headsPaid
  refine lp_run (hdP R s) (by omega) (fun k => (sI (fun k => b01 (decide (ftP R ν l s k = 0))) k, nI k)) (fun rec k hk => ?_) (fun rec => ?_)
  · simp (disch := omega) only [bd_some, bd_none, lt_eq, lk_eq, fa_lit, nI_add, nI_mul, nI_sub, nle_t, nle_f, nlt_t, nlt_f, neq_t, neq_f, neg_ne, neg_ne', if_true, if_false, ite_true, ite_false, Nat.zero_add, Nat.add_zero, ld0, ld1, ld2, ld3, ld4, ld5, ld6, ld7, ld8, ld9, ld10, ld11, ld12, ld13, ld14, ld15, ld16, ld17, ld18, ld19, ld20, ld21, ld22, ld23, ld24, ld25, ld26, ld27, ld28, ld29, ld30, ld31, ld32, ld33, ld34, ld35, ld36, ld37, ld38, ld39, ld40, ld41, ld42, ld43, ld44, ld45, ld46, ld47, ld48, ld100, ld101, ld102, ld103, ld104, ld105, gF, q1, q6 k hk, n_ft0, sI_succ]
    by_cases e : ftP R ν l s k = 0 <;> simp [e, b01, add_n0]
  · simp (disch := omega) only [bd_some, bd_none, lt_eq, lk_eq, fa_lit, nI_add, nI_mul, nI_sub, nle_t, nle_f, nlt_t, nlt_f, neq_t, neq_f, neg_ne, neg_ne', if_true, if_false, ite_true, ite_false, Nat.zero_add, Nat.add_zero, ld0, ld1, ld2, ld3, ld4, ld5, ld6, ld7, ld8, ld9, ld10, ld11, ld12, ld13, ld14, ld15, ld16, ld17, ld18, ld19, ld20, ld21, ld22, ld23, ld24, ld25, ld26, ld27, ld28, ld29, ld30, ld31, ld32, ld33, ld34, ld35, ld36, ld37, ld38, ld39, ld40, ld41, ld42, ld43, ld44, ld45, ld46, ld47, ld48, ld100, ld101, ld102, ld103, ld104, ld105, gF, q1]
theorem Oc_paidToOne_eq {l s m p : Nat} (ho : RO R) (hs : s < R 0 2) (hp : p < 16) (q : OQ τ o R ν l s m) : Oc_paidToOne τ o (nI p) = some (oneP R ν l s m p) := by
  have h13 := hd_le ho hs
  obtain ⟨q1, q2, q3, q4, q5, q6, q7⟩ := q
  unfold Oc_paidToOne oneP
  refine lp_run (hdP R s) (by omega) (fun k => (sI (fun k => if whP R ν s k = nI p ∧ ftP R ν l s k = 0 then nI (shP R s m k) else nI 0) k, nI k)) (fun rec k hk => ?_) (fun rec => ?_)
  · simp (disch := omega) only [bd_some, bd_none, lt_eq, lk_eq, fa_lit, nI_add, nI_mul, nI_sub, nle_t, nle_f, nlt_t, nlt_f, neq_t, neq_f, neg_ne, neg_ne', if_true, if_false, ite_true, ite_false, Nat.zero_add, Nat.add_zero, ld0, ld1, ld2, ld3, ld4, ld5, ld6, ld7, ld8, ld9, ld10, ld11, ld12, ld13, ld14, ld15, ld16, ld17, ld18, ld19, ld20, ld21, ld22, ld23, ld24, ld25, ld26, ld27, ld28, ld29, ld30, ld31, ld32, ld33, ld34, ld35, ld36, ld37, ld38, ld39, ld40, ld41, ld42, ld43, ld44, ld45, ld46, ld47, ld48, ld100, ld101, ld102, ld103, ld104, ld105, gF, q1, q4 k hk, q5 k hk, q6 k hk, n_ft0, hol_p, sI_succ]
    by_cases e : ftP R ν l s k = 0 <;> by_cases e2 : whP R ν s k = nI p <;> simp [e, e2, add_n0]
  · simp (disch := omega) only [bd_some, bd_none, lt_eq, lk_eq, fa_lit, nI_add, nI_mul, nI_sub, nle_t, nle_f, nlt_t, nlt_f, neq_t, neq_f, neg_ne, neg_ne', if_true, if_false, ite_true, ite_false, Nat.zero_add, Nat.add_zero, ld0, ld1, ld2, ld3, ld4, ld5, ld6, ld7, ld8, ld9, ld10, ld11, ld12, ld13, ld14, ld15, ld16, ld17, ld18, ld19, ld20, ld21, ld22, ld23, ld24, ld25, ld26, ld27, ld28, ld29, ld30, ld31, ld32, ld33, ld34, ld35, ld36, ld37, ld38, ld39, ld40, ld41, ld42, ld43, ld44, ld45, ld46, ld47, ld48, ld100, ld101, ld102, ld103, ld104, ld105, gF, q1]
theorem Oc_openMoney_eq {l s m f : Nat} (ho : RO R) (hv : HO R ν) (hs : s < R 0 2) (hf : f < 3) (q : OQ τ o R ν l s m) : Oc_openMoney τ o (nI f) = some (opnP R ν l s m f) := by
  have h13 := hd_le ho hs
  have o2 := ho.P
  obtain ⟨q1, q2, q3, q4, q5, q6, q7⟩ := q
  unfold Oc_openMoney opnP
  refine lp_run (hdP R s) (by omega) (fun k => (sI (fun k => if whP R ν s k = -nI 1 ∧ ftP R ν l s k = f then nI (shP R s m k) else nI 0) k, nI k)) (fun rec k hk => ?_) (fun rec => ?_)
  · have hw : (hol (whP R ν s k) = -nI 2) = (whP R ν s k = -nI 1) := hol_m2 _ (by
      rcases wh_or ho hv hs hk with e | ⟨p, d, hp, hd, e, ed⟩
      · exact Or.inl e
      · exact Or.inr ⟨p, by omega, e⟩)
    simp (disch := omega) only [bd_some, bd_none, lt_eq, lk_eq, fa_lit, nI_add, nI_mul, nI_sub, nle_t, nle_f, nlt_t, nlt_f, neq_t, neq_f, neg_ne, neg_ne', if_true, if_false, ite_true, ite_false, Nat.zero_add, Nat.add_zero, ld0, ld1, ld2, ld3, ld4, ld5, ld6, ld7, ld8, ld9, ld10, ld11, ld12, ld13, ld14, ld15, ld16, ld17, ld18, ld19, ld20, ld21, ld22, ld23, ld24, ld25, ld26, ld27, ld28, ld29, ld30, ld31, ld32, ld33, ld34, ld35, ld36, ld37, ld38, ld39, ld40, ld41, ld42, ld43, ld44, ld45, ld46, ld47, ld48, ld100, ld101, ld102, ld103, ld104, ld105, gF, q1, q4 k hk, q5 k hk, q6 k hk, n_ft, hw, sI_succ]
    by_cases e : ftP R ν l s k = f <;> by_cases e2 : whP R ν s k = -nI 1 <;> simp [e, e2, add_n0]
  · simp (disch := omega) only [bd_some, bd_none, lt_eq, lk_eq, fa_lit, nI_add, nI_mul, nI_sub, nle_t, nle_f, nlt_t, nlt_f, neq_t, neq_f, neg_ne, neg_ne', if_true, if_false, ite_true, ite_false, Nat.zero_add, Nat.add_zero, ld0, ld1, ld2, ld3, ld4, ld5, ld6, ld7, ld8, ld9, ld10, ld11, ld12, ld13, ld14, ld15, ld16, ld17, ld18, ld19, ld20, ld21, ld22, ld23, ld24, ld25, ld26, ld27, ld28, ld29, ld30, ld31, ld32, ld33, ld34, ld35, ld36, ld37, ld38, ld39, ld40, ld41, ld42, ld43, ld44, ld45, ld46, ld47, ld48, ld100, ld101, ld102, ld103, ld104, ld105, gF, q1]
theorem Oc_paidToHome_eq {l s m h : Nat} (w : WR τ i R ν) (ho : RO R) (hv : HO R ν) (hs : s < R 0 2) (hh : h < 6) (q : OQ τ o R ν l s m) : Oc_paidToHome τ o i (nI h) = some (homeP R ν l s m h) := by
  have h13 := hd_le ho hs
  have o1 := ho.L
  have o2 := ho.P
  obtain ⟨q1, q2, q3, q4, q5, q6, q7⟩ := q
  unfold Oc_paidToHome homeP
  refine lp_run (hdP R s) (by omega) (fun k => (sI (fun k => if ftP R ν l s k = 0 ∧ hmP ν (whP R ν s k) = h then nI (shP R s m k) else nI 0) k, nI k)) (fun rec k hk => ?_) (fun rec => ?_)
  · simp (disch := omega) only [bd_some, bd_none, lt_eq, lk_eq, fa_lit, nI_add, nI_mul, nI_sub, nle_t, nle_f, nlt_t, nlt_f, neq_t, neq_f, neg_ne, neg_ne', if_true, if_false, ite_true, ite_false, Nat.zero_add, Nat.add_zero, ld0, ld1, ld2, ld3, ld4, ld5, ld6, ld7, ld8, ld9, ld10, ld11, ld12, ld13, ld14, ld15, ld16, ld17, ld18, ld19, ld20, ld21, ld22, ld23, ld24, ld25, ld26, ld27, ld28, ld29, ld30, ld31, ld32, ld33, ld34, ld35, ld36, ld37, ld38, ld39, ld40, ld41, ld42, ld43, ld44, ld45, ld46, ld47, ld48, ld100, ld101, ld102, ld103, ld104, ld105, gF, q1, q4 k hk, q5 k hk, q6 k hk, n_ft0, sI_succ]
    by_cases e : ftP R ν l s k = 0
    · rcases wh_or ho hv hs hk with e2 | ⟨p, d, hp, hd, e2, ed⟩
      · exact absurd e2 (ft0_wh e)
      · have e3 := hm_eq (show p < 16 by omega) (show d < 6 by omega) ed
        simp (disch := omega) only [bd_some, bd_none, lt_eq, lk_eq, fa_lit, nI_add, nI_mul, nI_sub, nle_t, nle_f, nlt_t, nlt_f, neq_t, neq_f, neg_ne, neg_ne', if_true, if_false, ite_true, ite_false, Nat.zero_add, Nat.add_zero, ld0, ld1, ld2, ld3, ld4, ld5, ld6, ld7, ld8, ld9, ld10, ld11, ld12, ld13, ld14, ld15, ld16, ld17, ld18, ld19, ld20, ld21, ld22, ld23, ld24, ld25, ld26, ld27, ld28, ld29, ld30, ld31, ld32, ld33, ld34, ld35, ld36, ld37, ld38, ld39, ld40, ld41, ld42, ld43, ld44, ld45, ld46, ld47, ld48, ld100, ld101, ld102, ld103, ld104, ld105, gF, e, e2, e3, hol_n, w.hm hp, ed, neq_i]
        by_cases e4 : d = h <;> simp [e4, add_n0]
    · simp [e, add_n0]
  · simp (disch := omega) only [bd_some, bd_none, lt_eq, lk_eq, fa_lit, nI_add, nI_mul, nI_sub, nle_t, nle_f, nlt_t, nlt_f, neq_t, neq_f, neg_ne, neg_ne', if_true, if_false, ite_true, ite_false, Nat.zero_add, Nat.add_zero, ld0, ld1, ld2, ld3, ld4, ld5, ld6, ld7, ld8, ld9, ld10, ld11, ld12, ld13, ld14, ld15, ld16, ld17, ld18, ld19, ld20, ld21, ld22, ld23, ld24, ld25, ld26, ld27, ld28, ld29, ld30, ld31, ld32, ld33, ld34, ld35, ld36, ld37, ld38, ld39, ld40, ld41, ld42, ld43, ld44, ld45, ld46, ld47, ld48, ld100, ld101, ld102, ld103, ld104, ld105, gF, q1]
/-! the reference's shares -/
def shS (σ : ST) (R : RT) (s m : Nat) : ST := setR σ 47 0 (fa_fill (fun k => nI (shP R s m k)) (σ.1 47 0) (hdP R s))
def r47 (k _i : Nat) : Bool := decide (k = 47)
theorem r47_cor : ∀ k i, cor k i = true → r47 k i = false := by
  intro k i c
  cases e : r47 k i
  · rfl
  · simp only [r47, decide_eq_true_eq] at e
    subst e
    rw [show cor 47 i = false from rfl] at c; cases c
theorem shS_fr (s m : Nat) : FrK r47 σ (shS σ R s m) := FrK.setR σ _ rfl
theorem MR.f47 (h : MR σ R) (f : FrK r47 σ τ) : MR τ R := h.core (f.core r47_cor)
theorem shS_at {s m k : Nat} (hk : k < hdP R s) : (shS σ R s m).1 47 0 k = nI (shP R s m k) := by
  unfold shS
  rw [rd_eq, fa_fill_in hk]
theorem shS_34 (s m : Nat) : (shS σ R s m).1 34 0 = σ.1 34 0 := (shS_fr s m).2 34 0 rfl
theorem Mo_laysShares_eq {s m : Nat} (h : MR σ R) (ho : RO R) (hs : s < R 0 2) (hm : m < 1073741824) : Mo_laysShares σ (nI s) (nI m) = some (shS σ R s m) := by
  have h13 := hd_le ho hs
  have o3 := ho.S
  have hfm := fm_le (s := s) (m := m) ho
  have hld := ho.2.2.2.2.1
  have hlm : m * R 0 4 ≤ m * 100 := Nat.mul_le_mul_left m hld
  have hlead : Mo_manyOf σ (nI s) (nI 0) = some (nI (fsP R s)) := by rw [Mo_manyOf_eq h ho hs (by decide), sI_b01]; rfl
  have hwh : Mo_whole σ (nI s) = some (nI (hdP R s)) := Mo_whole_eq h ho hs
  have step : ∀ K : Int32 → Option ST, lk_ (fun kk5 => (if nI (fsP R s) = 0 then kk5 0 else (if nI (hdP R s - fsP R s) = 0 then kk5 (nI m) else bd_ (ldv ((Int32.toInt64 (nI m)) * (Int32.toInt64 (gF σ 848 0))) 100) (fun v21 => kk5 (Int64.toInt32 v21))))) K = K (nI (fmP R s m)) := by
    intro K
    unfold fmP
    simp (disch := omega) only [lk_eq, fa_lit, neq_i]
    by_cases e1 : fsP R s = 0
    · simp only [e1, if_true]
    · by_cases e2 : hdP R s - fsP R s = 0
      · simp only [e1, e2, if_true, if_false]
      · simp only [e1, e2, if_false]
        rw [show gF σ 848 0 = _ from h.ld, wid_l (by omega), wid_l (by omega), lN_mul, show (100 : Int64) = lN 100 from rfl, div_l (by decide) (by omega) (by decide), bd_some, lN_i]
  unfold Mo_laysShares
  rw [show (0 : Int32) = nI 0 from rfl, hlead, bd_some, hwh, bd_some, lt_eq, nI_sub (by omega), ← show (0 : Int32) = nI 0 from rfl, step]
  have hmr : ∀ f, MR (setR σ 47 0 f) R := fun f => h.core (Core.setR σ f rfl)
  have hwf : ∀ f, Mo_whole (setR σ 47 0 f) (nI s) = some (nI (hdP R s)) := fun f => Mo_whole_eq (hmr f) ho hs
  have e0 : (σ, nI 0, nI 0, nI 0) = (setR σ 47 0 (fa_fill (fun k => nI (shP R s m k)) (σ.1 47 0) 0), nI (ctP R s 0 0), nI (ctP R s 1 0), nI 0) := by rw [fa_fill_0, setR_self]; rfl
  refine Eq.trans (congrArg _ e0) ?_
  refine lp_run (hdP R s) (by omega) (fun k => (setR σ 47 0 (fa_fill (fun k => nI (shP R s m k)) (σ.1 47 0) k), nI (ctP R s 0 k), nI (ctP R s 1 k), nI k)) (fun rec k hk => ?_) (fun rec => ?_)
  · have hra : ∀ f, Mo_roleAt (setR σ 47 0 f) (nI s) (nI k) = some (nI (rlP R s k)) := fun f => Mo_roleAt_eq (hmr f) ho hs hk
    have l0 : ctP R s 0 k ≤ k := fb_ct_le _ k
    have l1 : ctP R s 1 k ≤ k := fb_ct_le _ k
    have hrl := rlP_lt (k := k) ho hs
    have cts : ∀ a, ctP R s a (k + 1) = ctP R s a k + if rlP R s k = a then 1 else 0 := fun a => by
      unfold ctP
      rw [fb_ct_succ]
      simp
    have g0 : rlP R s k = 0 → 0 < fsP R s := fun e => by
      rw [← ct0 (R := R) s]
      exact fb_ct_pos.mpr ⟨k, hk, by simp [e]⟩
    have g1 : rlP R s k = 1 → 0 < hdP R s - fsP R s := fun e => by
      rw [← ct1 ho hs]
      exact fb_ct_pos.mpr ⟨k, hk, by simp [e]⟩
    have key : ∀ v, v = nI (shP R s m k) → setR σ 47 0 (upd (fa_fill (fun k => nI (shP R s m k)) (σ.1 47 0) k) k v) = setR σ 47 0 (fa_fill (fun k => nI (shP R s m k)) (σ.1 47 0) (k + 1)) := by
      rintro v rfl
      rw [← fa_fill_succ (fun k => nI (shP R s m k))]
    rcases (show rlP R s k = 0 ∨ rlP R s k = 1 by omega) with e | e
    · have := g0 e
      have hml : fmP R s m % fsP R s < fsP R s := Nat.mod_lt _ this
      rw [cts 0, cts 1, e]
      simp (disch := omega) only [bd_some, bd_none, lt_eq, lk_eq, fa_lit, nI_add, nI_mul, nI_sub, nle_t, nle_f, nlt_t, nlt_f, neq_t, neq_f, neg_ne, neg_ne', if_true, if_false, ite_true, ite_false, Nat.zero_add, Nat.add_zero, ld0, ld1, ld2, ld3, ld4, ld5, ld6, ld7, ld8, ld9, ld10, ld11, ld12, ld13, ld14, ld15, ld16, ld17, ld18, ld19, ld20, ld21, ld22, ld23, ld24, ld25, ld26, ld27, ld28, ld29, ld30, ld31, ld32, ld33, ld34, ld35, ld36, ld37, ld38, ld39, ld40, ld41, ld42, ld43, ld44, ld45, ld46, ld47, ld48, ld100, ld101, ld102, ld103, ld104, ld105, gF, hwf, hra, e, div_i, rem_i, st47, rd_eq, setR_setR, nle_i]
      by_cases e2 : fmP R s m % fsP R s ≤ ctP R s 0 k
      · rw [if_pos e2, key _ (by unfold shP; rw [if_pos e, if_neg (by omega), Nat.add_zero])]
        simp
      · rw [if_neg e2, key _ (by unfold shP; rw [if_pos e, if_pos (by omega)])]
        simp
    · have := g1 e
      have hml : (m - fmP R s m) % (hdP R s - fsP R s) < (hdP R s - fsP R s) := Nat.mod_lt _ this
      rw [cts 0, cts 1, e]
      simp (disch := omega) only [bd_some, bd_none, lt_eq, lk_eq, fa_lit, nI_add, nI_mul, nI_sub, nle_t, nle_f, nlt_t, nlt_f, neq_t, neq_f, neg_ne, neg_ne', if_true, if_false, ite_true, ite_false, Nat.zero_add, Nat.add_zero, ld0, ld1, ld2, ld3, ld4, ld5, ld6, ld7, ld8, ld9, ld10, ld11, ld12, ld13, ld14, ld15, ld16, ld17, ld18, ld19, ld20, ld21, ld22, ld23, ld24, ld25, ld26, ld27, ld28, ld29, ld30, ld31, ld32, ld33, ld34, ld35, ld36, ld37, ld38, ld39, ld40, ld41, ld42, ld43, ld44, ld45, ld46, ld47, ld48, ld100, ld101, ld102, ld103, ld104, ld105, gF, hwf, hra, e, div_i, rem_i, st47, rd_eq, setR_setR, nle_i]
      by_cases e2 : (m - fmP R s m) % (hdP R s - fsP R s) ≤ ctP R s 1 k
      · rw [if_pos e2, key _ (by unfold shP; rw [if_neg (by omega), if_neg (by omega), Nat.add_zero])]
        simp
      · rw [if_neg e2, key _ (by unfold shP; rw [if_neg (by omega), if_pos (by omega)])]
        simp
  · simp (disch := omega) only [bd_some, bd_none, lt_eq, lk_eq, fa_lit, nI_add, nI_mul, nI_sub, nle_t, nle_f, nlt_t, nlt_f, neq_t, neq_f, neg_ne, neg_ne', if_true, if_false, ite_true, ite_false, Nat.zero_add, Nat.add_zero, ld0, ld1, ld2, ld3, ld4, ld5, ld6, ld7, ld8, ld9, ld10, ld11, ld12, ld13, ld14, ld15, ld16, ld17, ld18, ld19, ld20, ld21, ld22, ld23, ld24, ld25, ld26, ld27, ld28, ld29, ld30, ld31, ld32, ld33, ld34, ld35, ld36, ld37, ld38, ld39, ld40, ld41, ld42, ld43, ld44, ld45, ld46, ld47, ld48, ld100, ld101, ld102, ld103, ld104, ld105, gF, hwf]
    rfl
theorem Mo_sumOf_eq {l s m f : Nat} (h : MR σ R) (ho : RO R) (hv : HO R (σ.1 34 0)) (hl : l < R 0 0) (hs : s < R 0 2) (hm : m < 1073741824) (hf : f < 3) : Mo_sumOf σ (nI l) (nI s) (nI m) (nI f) = some (sumFP R (σ.1 34 0) l s m f, shS σ R s m) := by
  have h13 := hd_le ho hs
  have h2 := h.f47 (shS_fr (R := R) s m)
  have hw : Mo_whole (shS σ R s m) (nI s) = some (nI (hdP R s)) := Mo_whole_eq h2 ho hs
  unfold Mo_sumOf sumFP
  rw [Mo_laysShares_eq h ho hs hm, bd_some]
  refine lp_run (hdP R s) (by omega) (fun k => (sI (fun k => if ftP R (σ.1 34 0) l s k = f then nI (shP R s m k) else nI 0) k, nI k)) (fun rec k hk => ?_) (fun rec => ?_)
  · simp (disch := omega) only [bd_some, bd_none, lt_eq, lk_eq, fa_lit, nI_add, nI_mul, nI_sub, nle_t, nle_f, nlt_t, nlt_f, neq_t, neq_f, neg_ne, neg_ne', if_true, if_false, ite_true, ite_false, Nat.zero_add, Nat.add_zero, ld0, ld1, ld2, ld3, ld4, ld5, ld6, ld7, ld8, ld9, ld10, ld11, ld12, ld13, ld14, ld15, ld16, ld17, ld18, ld19, ld20, ld21, ld22, ld23, ld24, ld25, ld26, ld27, ld28, ld29, ld30, ld31, ld32, ld33, ld34, ld35, ld36, ld37, ld38, ld39, ld40, ld41, ld42, ld43, ld44, ld45, ld46, ld47, ld48, ld100, ld101, ld102, ld103, ld104, ld105, gF, hw, Mo_where_eq h2 ho (by rw [shS_34]; exact hv) hl hs hk, shS_34, n_ft, shS_at hk, sI_succ]
    by_cases e : ftP R (σ.1 34 0) l s k = f <;> simp [e]
  · simp (disch := omega) only [bd_some, bd_none, lt_eq, lk_eq, fa_lit, nI_add, nI_mul, nI_sub, nle_t, nle_f, nlt_t, nlt_f, neq_t, neq_f, neg_ne, neg_ne', if_true, if_false, ite_true, ite_false, Nat.zero_add, Nat.add_zero, ld0, ld1, ld2, ld3, ld4, ld5, ld6, ld7, ld8, ld9, ld10, ld11, ld12, ld13, ld14, ld15, ld16, ld17, ld18, ld19, ld20, ld21, ld22, ld23, ld24, ld25, ld26, ld27, ld28, ld29, ld30, ld31, ld32, ld33, ld34, ld35, ld36, ld37, ld38, ld39, ld40, ld41, ld42, ld43, ld44, ld45, ld46, ld47, ld48, ld100, ld101, ld102, ld103, ld104, ld105, gF, hw]
theorem Mo_paidTo_eq {l s m p : Nat} (h : MR σ R) (ho : RO R) (hv : HO R (σ.1 34 0)) (hl : l < R 0 0) (hs : s < R 0 2) (hm : m < 1073741824) : Mo_paidTo σ (nI p) (nI l) (nI s) (nI m) = some (oneP R (σ.1 34 0) l s m p, shS σ R s m) := by
  have h13 := hd_le ho hs
  have h2 := h.f47 (shS_fr (R := R) s m)
  have hw : Mo_whole (shS σ R s m) (nI s) = some (nI (hdP R s)) := Mo_whole_eq h2 ho hs
  unfold Mo_paidTo oneP
  rw [Mo_laysShares_eq h ho hs hm, bd_some]
  refine lp_run (hdP R s) (by omega) (fun k => (sI (fun k => if whP R (σ.1 34 0) s k = nI p ∧ ftP R (σ.1 34 0) l s k = 0 then nI (shP R s m k) else nI 0) k, nI k)) (fun rec k hk => ?_) (fun rec => ?_)
  · simp (disch := omega) only [bd_some, bd_none, lt_eq, lk_eq, fa_lit, nI_add, nI_mul, nI_sub, nle_t, nle_f, nlt_t, nlt_f, neq_t, neq_f, neg_ne, neg_ne', if_true, if_false, ite_true, ite_false, Nat.zero_add, Nat.add_zero, ld0, ld1, ld2, ld3, ld4, ld5, ld6, ld7, ld8, ld9, ld10, ld11, ld12, ld13, ld14, ld15, ld16, ld17, ld18, ld19, ld20, ld21, ld22, ld23, ld24, ld25, ld26, ld27, ld28, ld29, ld30, ld31, ld32, ld33, ld34, ld35, ld36, ld37, ld38, ld39, ld40, ld41, ld42, ld43, ld44, ld45, ld46, ld47, ld48, ld100, ld101, ld102, ld103, ld104, ld105, gF, hw, Mo_whose_eq h2 ho hs hk, Mo_where_eq h2 ho (by rw [shS_34]; exact hv) hl hs hk, shS_34, n_ft0, shS_at hk, sI_succ]
    by_cases e : ftP R (σ.1 34 0) l s k = 0 <;> by_cases e2 : whP R (σ.1 34 0) s k = nI p <;> simp [e, e2]
  · simp (disch := omega) only [bd_some, bd_none, lt_eq, lk_eq, fa_lit, nI_add, nI_mul, nI_sub, nle_t, nle_f, nlt_t, nlt_f, neq_t, neq_f, neg_ne, neg_ne', if_true, if_false, ite_true, ite_false, Nat.zero_add, Nat.add_zero, ld0, ld1, ld2, ld3, ld4, ld5, ld6, ld7, ld8, ld9, ld10, ld11, ld12, ld13, ld14, ld15, ld16, ld17, ld18, ld19, ld20, ld21, ld22, ld23, ld24, ld25, ld26, ld27, ld28, ld29, ld30, ld31, ld32, ld33, ld34, ld35, ld36, ld37, ld38, ld39, ld40, ld41, ld42, ld43, ld44, ld45, ld46, ld47, ld48, ld100, ld101, ld102, ld103, ld104, ld105, gF, hw]
/-! public numbers -/
theorem cp_or (x : Int32) : (∃ n, 1 ≤ n ∧ n ≤ 99999 ∧ x = nI n) ∨ ∀ σ, Rp_isCopies σ x = some (nI 0) ∧ Mo_areCopies σ x = some (nI 0) := by
  rcases at_or (x := x) (n := 100000) (by omega) with ⟨n, hn, rfl⟩ | hx
  · by_cases e : n < 1
    · right
      intro σ
      unfold Rp_isCopies Mo_areCopies
      simp (disch := omega) only [bd_some, bd_none, lt_eq, lk_eq, fa_lit, nI_add, nI_mul, nI_sub, nle_t, nle_f, nlt_t, nlt_f, neq_t, neq_f, neg_ne, neg_ne', if_true, if_false, ite_true, ite_false, Nat.zero_add, Nat.add_zero, ld0, ld1, ld2, ld3, ld4, ld5, ld6, ld7, ld8, ld9, ld10, ld11, ld12, ld13, ld14, ld15, ld16, ld17, ld18, ld19, ld20, ld21, ld22, ld23, ld24, ld25, ld26, ld27, ld28, ld29, ld30, ld31, ld32, ld33, ld34, ld35, ld36, ld37, ld38, ld39, ld40, ld41, ld42, ld43, ld44, ld45, ld46, ld47, ld48, ld100, ld101, ld102, ld103, ld104, ld105, gF]
      exact ⟨trivial, trivial⟩
    · exact Or.inl ⟨n, by omega, by omega, rfl⟩
  · right
    intro σ
    unfold Rp_isCopies Mo_areCopies
    simp only [fa_lit]
    by_cases e : x < nI 1
    · simp only [e, if_true]; exact ⟨trivial, trivial⟩
    · have e2 : nI 99999 < x := by
        rcases hx with q | q
        · exfalso
          apply e
          rw [fa_lt, nI_toInt (by decide)] at q ⊢
          omega
        · exact fa_of_nle (fun q2 => of_eq_false (nle_f (show 99999 < 100000 by decide) (by decide)) (Int32.le_trans q q2))
      simp only [e, e2, if_true, if_false]; exact ⟨trivial, trivial⟩
theorem nix_or {x : Int32} {n : Nat} (hx : x < nI 0 ∨ nI (n + 1) ≤ x) (hn : n < 2147483647) : x < nI 0 ∨ (¬ x < nI 0 ∧ ¬ x ≤ nI n) := by
  by_cases e : x < nI 0
  · exact Or.inl e
  · refine Or.inr ⟨e, fun q => ?_⟩
    rcases hx with q2 | q2
    · exact e q2
    · exact of_eq_false (nle_f (show n < n + 1 by omega) (by omega)) (Int32.le_trans q2 q)
theorem Rp_isCopies_t {n : Nat} (h1 : 1 ≤ n) (h2 : n ≤ 99999) : Rp_isCopies σ (nI n) = some (nI 1) := by
  unfold Rp_isCopies
  simp (disch := omega) only [bd_some, bd_none, lt_eq, lk_eq, fa_lit, nI_add, nI_mul, nI_sub, nle_t, nle_f, nlt_t, nlt_f, neq_t, neq_f, neg_ne, neg_ne', if_true, if_false, ite_true, ite_false, Nat.zero_add, Nat.add_zero, ld0, ld1, ld2, ld3, ld4, ld5, ld6, ld7, ld8, ld9, ld10, ld11, ld12, ld13, ld14, ld15, ld16, ld17, ld18, ld19, ld20, ld21, ld22, ld23, ld24, ld25, ld26, ld27, ld28, ld29, ld30, ld31, ld32, ld33, ld34, ld35, ld36, ld37, ld38, ld39, ld40, ld41, ld42, ld43, ld44, ld45, ld46, ld47, ld48, ld100, ld101, ld102, ld103, ld104, ld105, gF]
theorem Mo_areCopies_t {n : Nat} (h1 : 1 ≤ n) (h2 : n ≤ 99999) : Mo_areCopies σ (nI n) = some (nI 1) := by
  unfold Mo_areCopies
  simp (disch := omega) only [bd_some, bd_none, lt_eq, lk_eq, fa_lit, nI_add, nI_mul, nI_sub, nle_t, nle_f, nlt_t, nlt_f, neq_t, neq_f, neg_ne, neg_ne', if_true, if_false, ite_true, ite_false, Nat.zero_add, Nat.add_zero, ld0, ld1, ld2, ld3, ld4, ld5, ld6, ld7, ld8, ld9, ld10, ld11, ld12, ld13, ld14, ld15, ld16, ld17, ld18, ld19, ld20, ld21, ld22, ld23, ld24, ld25, ld26, ld27, ld28, ld29, ld30, ld31, ld32, ld33, ld34, ld35, ld36, ld37, ld38, ld39, ld40, ld41, ld42, ld43, ld44, ld45, ld46, ld47, ld48, ld100, ld101, ld102, ld103, ld104, ld105, gF]
theorem tm_or (x y : Int32) : (∃ a b, a < 3 ∧ 1 ≤ b ∧ b ≤ 3 ∧ x = nI a ∧ y = nI b) ∨ ∀ σ, Rp_areTerms σ x y = some (nI 0) ∧ Mo_areTerms σ x y = some (nI 0) := by
  by_cases c : ∃ a b, a < 3 ∧ 1 ≤ b ∧ b ≤ 3 ∧ x = nI a ∧ y = nI b
  · exact Or.inl c
  · right
    intro σ
    unfold Rp_areTerms Mo_areTerms
    simp only [fa_lit]
    by_cases e1 : x < nI 0
    · simp only [e1, if_true]; exact ⟨trivial, trivial⟩
    · by_cases e2 : nI 2 < x
      · simp only [e1, e2, if_true, if_false]; exact ⟨trivial, trivial⟩
      · by_cases e3 : y < nI 1
        · simp only [e1, e2, e3, if_true, if_false]; exact ⟨trivial, trivial⟩
        · by_cases e4 : nI 3 < y
          · simp only [e1, e2, e3, e4, if_true, if_false]; exact ⟨trivial, trivial⟩
          · exfalso
            obtain ⟨a, ha, rfl⟩ := nI_of e1
            have e5 : ¬ y < nI 0 := fun q => e3 (by rw [fa_lt, nI_toInt (by decide)] at q ⊢; omega)
            obtain ⟨b, hb, rfl⟩ := nI_of e5
            rw [nlt_i (by omega) (by omega)] at e2
            rw [nlt_i (by omega) (by omega)] at e3
            rw [nlt_i (by omega) (by omega)] at e4
            exact c ⟨a, b, by omega, by omega, by omega, rfl, rfl⟩
theorem Rp_areTerms_t {a b : Nat} (h1 : a < 3) (h2 : 1 ≤ b) (h3 : b ≤ 3) : Rp_areTerms σ (nI a) (nI b) = some (nI 1) := by
  unfold Rp_areTerms
  simp (disch := omega) only [bd_some, bd_none, lt_eq, lk_eq, fa_lit, nI_add, nI_mul, nI_sub, nle_t, nle_f, nlt_t, nlt_f, neq_t, neq_f, neg_ne, neg_ne', if_true, if_false, ite_true, ite_false, Nat.zero_add, Nat.add_zero, ld0, ld1, ld2, ld3, ld4, ld5, ld6, ld7, ld8, ld9, ld10, ld11, ld12, ld13, ld14, ld15, ld16, ld17, ld18, ld19, ld20, ld21, ld22, ld23, ld24, ld25, ld26, ld27, ld28, ld29, ld30, ld31, ld32, ld33, ld34, ld35, ld36, ld37, ld38, ld39, ld40, ld41, ld42, ld43, ld44, ld45, ld46, ld47, ld48, ld100, ld101, ld102, ld103, ld104, ld105, gF]
theorem Mo_areTerms_t {a b : Nat} (h1 : a < 3) (h2 : 1 ≤ b) (h3 : b ≤ 3) : Mo_areTerms σ (nI a) (nI b) = some (nI 1) := by
  unfold Mo_areTerms
  simp (disch := omega) only [bd_some, bd_none, lt_eq, lk_eq, fa_lit, nI_add, nI_mul, nI_sub, nle_t, nle_f, nlt_t, nlt_f, neq_t, neq_f, neg_ne, neg_ne', if_true, if_false, ite_true, ite_false, Nat.zero_add, Nat.add_zero, ld0, ld1, ld2, ld3, ld4, ld5, ld6, ld7, ld8, ld9, ld10, ld11, ld12, ld13, ld14, ld15, ld16, ld17, ld18, ld19, ld20, ld21, ld22, ld23, ld24, ld25, ld26, ld27, ld28, ld29, ld30, ld31, ld32, ld33, ld34, ld35, ld36, ld37, ld38, ld39, ld40, ld41, ld42, ld43, ld44, ld45, ld46, ld47, ld48, ld100, ld101, ld102, ld103, ld104, ld105, gF]
def QP (f : Option (Int32 × ST)) (g : ST → Option (Int32 × ST)) (σ : ST) : Prop := ∃ v τ υ, f = some (v, τ) ∧ Core σ τ ∧ g τ = some (v, υ) ∧ Core τ υ
theorem QPf {f : Option (Int32 × ST)} {g : ST → Option (Int32 × ST)} {v : Int32} (hf : f = some (v, σ)) (hg : g σ = some (v, setF σ 840 0 (nI 0))) : QP f g σ := ⟨v, σ, _, hf, Core.rf σ, hg, Core.setF σ _ rfl⟩
end Out2

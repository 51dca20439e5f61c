/-! ===== text without a fault ===== -/
section Text3
variable {σ : ST} {R : RT}
theorem txK_ok {c : ST} (h : c.1 863 0 0 = nI 0) : txK c = bd_ (Mo_takesText (setF (setF (setF c 842 0 0) 865 0 (nI 0)) 866 0 (-nI 1))) (fun q23 => some ((gF q23 853 0), q23)) := by
  have g1 : gF (setF c 842 0 0) 863 0 = nI 0 := by show (setF c 842 0 0).1 863 0 0 = _; rw [rf_ne (by decide)]; exact h
  have g2 : gF (setF (setF c 842 0 0) 865 0 (nI 0)) 863 0 = nI 0 := by show (setF (setF c 842 0 0) 865 0 (nI 0)).1 863 0 0 = _; rw [rf_ne (by decide), rf_ne (by decide)]; exact h
  have g4 : ∀ v, gF (setF (setF (setF c 842 0 0) 865 0 (nI 0)) 866 0 v) 863 0 = nI 0 := fun v => by show (setF (setF (setF c 842 0 0) 865 0 (nI 0)) 866 0 v).1 863 0 0 = _; rw [rf_ne (by decide), rf_ne (by decide), rf_ne (by decide)]; exact h
  unfold txK
  simp only [lt_eq, lk_eq, g1, g2, i00, if_true, g4]
  rfl
theorem newR {a c : ST} {r L P S ln : Nat} (d : D a c r L P S) (hln : ln ≤ 900) (l1 : a.1 528 r 0 = nI ln) (l2 : c.1 870 0 0 = nI ln) : ∃ ld kq F1 F2 F3 F4 F5, RO (mkR L P S ln ld kq F1 F2 F3 F4 F5) ∧ CR a r (mkR L P S ln ld kq F1 F2 F3 F4 F5) ∧ c.1 871 0 0 = nI ld ∧ c.1 872 0 0 = nI kq ∧ (∀ l, l < L → c.1 41 0 l = nI (F1 l)) ∧ (∀ s, s < S → c.1 45 0 s = nI (F2 s) ∧ c.1 46 0 s = nI (F3 s) ∧ F2 s ≤ 8 ∧ F3 s ≤ 5) ∧ ∀ s k, s < S → k < F2 s → c.1 43 0 (8 * s + k) = nI (F4 (8 * s + k)) ∧ c.1 44 0 (8 * s + k) = nI (F5 (8 * s + k)) := by
  obtain ⟨d1, d2, d3, d4, d5, d6, d7, d8, d9, d10, d11, d12, d13, d14, d15, d16, d17, d18, d19, d20, d21, d22⟩ := d
  obtain ⟨ld, b1, b2, b3⟩ := d11 0 (by decide)
  obtain ⟨kq, b4, b5, b6⟩ := d12 0 (by decide)
  obtain ⟨F1, hF1⟩ := ex_fun (p := fun k v => k < L → (1 ≤ v ∧ v ≤ 999) ∧ a.1 13 r k = nI v ∧ c.1 41 0 k = nI v) (fun k => by
    by_cases q : k < L
    · obtain ⟨v, hv⟩ := d20 k q
      exact ⟨v, fun _ => hv⟩
    · exact ⟨0, fun z => absurd z q⟩)
  obtain ⟨F2, hF2⟩ := ex_fun (p := fun s m => s < S → ∃ h, m ≤ 8 ∧ h ≤ 5 ∧ 1 ≤ m + h ∧ a.1 17 r s = nI m ∧ c.1 45 0 s = nI m ∧ a.1 18 r s = nI h ∧ c.1 46 0 s = nI h ∧ (∀ j, j < m → ∃ v w, v < P ∧ w < 2 ∧ a.1 19 r (8 * s + j) = nI v ∧ c.1 43 0 (8 * s + j) = nI v ∧ a.1 20 r (8 * s + j) = nI w ∧ c.1 44 0 (8 * s + j) = nI w) ∧ ∀ i j, j < m → i < j → a.1 19 r (8 * s + i) ≠ a.1 19 r (8 * s + j)) (fun s => by
    by_cases q : s < S
    · obtain ⟨m, hm⟩ := d22 s q
      exact ⟨m, fun _ => hm⟩
    · exact ⟨0, fun z => absurd z q⟩)
  obtain ⟨F3, hF3⟩ := ex_fun (p := fun s h => s < S → F2 s ≤ 8 ∧ h ≤ 5 ∧ 1 ≤ F2 s + h ∧ a.1 17 r s = nI (F2 s) ∧ c.1 45 0 s = nI (F2 s) ∧ a.1 18 r s = nI h ∧ c.1 46 0 s = nI h ∧ (∀ j, j < F2 s → ∃ v w, v < P ∧ w < 2 ∧ a.1 19 r (8 * s + j) = nI v ∧ c.1 43 0 (8 * s + j) = nI v ∧ a.1 20 r (8 * s + j) = nI w ∧ c.1 44 0 (8 * s + j) = nI w) ∧ ∀ i j, j < F2 s → i < j → a.1 19 r (8 * s + i) ≠ a.1 19 r (8 * s + j)) (fun s => by
    by_cases q : s < S
    · obtain ⟨h, hh⟩ := hF2 s q
      exact ⟨h, fun _ => hh⟩
    · exact ⟨0, fun z => absurd z q⟩)
  have mem : ∀ e, e / 8 < S → e % 8 < F2 (e / 8) → ∃ v w, v < P ∧ w < 2 ∧ a.1 19 r e = nI v ∧ c.1 43 0 e = nI v ∧ a.1 20 r e = nI w ∧ c.1 44 0 e = nI w := fun e q1 q2 => by
    have := (hF3 (e / 8) q1).2.2.2.2.2.2.2.1 (e % 8) q2
    rw [show 8 * (e / 8) + e % 8 = e by omega] at this
    exact this
  obtain ⟨F4, hF4⟩ := ex_fun (p := fun e v => e / 8 < S → e % 8 < F2 (e / 8) → ∃ w, v < P ∧ w < 2 ∧ a.1 19 r e = nI v ∧ c.1 43 0 e = nI v ∧ a.1 20 r e = nI w ∧ c.1 44 0 e = nI w) (fun e => by
    by_cases q : e / 8 < S ∧ e % 8 < F2 (e / 8)
    · obtain ⟨v, hv⟩ := mem e q.1 q.2
      exact ⟨v, fun _ _ => hv⟩
    · exact ⟨0, fun z1 z2 => absurd ⟨z1, z2⟩ q⟩)
  obtain ⟨F5, hF5⟩ := ex_fun (p := fun e w => e / 8 < S → e % 8 < F2 (e / 8) → F4 e < P ∧ w < 2 ∧ a.1 19 r e = nI (F4 e) ∧ c.1 43 0 e = nI (F4 e) ∧ a.1 20 r e = nI w ∧ c.1 44 0 e = nI w) (fun e => by
    by_cases q : e / 8 < S ∧ e % 8 < F2 (e / 8)
    · obtain ⟨v, hv⟩ := hF4 e q.1 q.2
      exact ⟨v, fun _ _ => hv⟩
    · exact ⟨0, fun z1 z2 => absurd ⟨z1, z2⟩ q⟩)
  have m5 : ∀ s k, s < S → k < F2 s → F4 (8 * s + k) < P ∧ F5 (8 * s + k) < 2 ∧ a.1 19 r (8 * s + k) = nI (F4 (8 * s + k)) ∧ c.1 43 0 (8 * s + k) = nI (F4 (8 * s + k)) ∧ a.1 20 r (8 * s + k) = nI (F5 (8 * s + k)) ∧ c.1 44 0 (8 * s + k) = nI (F5 (8 * s + k)) := fun s k hs hk => by
    have h8 := (hF3 s hs).1
    have e1 : (8 * s + k) / 8 = s := by omega
    have e2 : (8 * s + k) % 8 = k := by omega
    exact hF5 (8 * s + k) (by rw [e1]; exact hs) (by rw [e1, e2]; exact hk)
  refine ⟨ld, kq, F1, F2, F3, F4, F5, ⟨d1, d2, d3, hln, b1, b4, fun l hl => (hF1 l hl).1, fun s hs => ?_, fun s k hs hk => ?_, fun s k j hs hj hkj => ?_, d4⟩, ⟨d5, d7, d9, l1, b2, b5, fun l hl => (hF1 l hl).2.1, fun s hs => ?_, fun s hs => ?_, fun s k hs hk => (m5 s k hs hk).2.2.1, fun s k hs hk => (m5 s k hs hk).2.2.2.2.1⟩, b3, b6, fun l hl => (hF1 l hl).2.2, fun s hs => ?_, fun s k hs hk => ⟨(m5 s k hs hk).2.2.2.1, (m5 s k hs hk).2.2.2.2.2⟩⟩
  · obtain ⟨q1, q2, q3, _⟩ := hF3 s hs
    exact ⟨q1, q2, q3⟩
  · exact ⟨(m5 s k hs hk).1, (m5 s k hs hk).2.1⟩
  · intro z
    have hs : s < S := hs
    have hj : j < F2 s := hj
    have z : F4 (8 * s + k) = F4 (8 * s + j) := z
    have := (hF3 s hs).2.2.2.2.2.2.2.2 k j hj hkj
    rw [(m5 s k hs (by omega)).2.2.1, (m5 s j hs hj).2.2.1, z] at this
    exact this rfl
  · exact (hF3 s hs).2.2.2.1
  · exact (hF3 s hs).2.2.2.2.2.1
  · obtain ⟨q1, q2, q3, q4, q5, q6, q7, _⟩ := hF3 s hs
    exact ⟨q5, q7, q1, q2⟩
theorem q_text_ok (h : IV σ R) {N n : Nat} {b : Nat → Nat} (hN : N ≤ 900) (hn : n ≤ N) (n1 : σ.1 652 0 0 = nI N) (n2 : σ.1 842 0 0 = nI N) (hb : BY (σ.1 21 0) b n) (hbt : BY (σ.1 28 0) b n) (hb2 : ∀ j, b j < 256) {aE : ST} (e1 : Rd_readText σ (σ.2.2 1) (nI n) = (if (gF aE 463 0) = 0 then some (1, aE) else some (0, aE))) (f1 : FrK (ca (σ.2.2 1)) σ aE) (hf : aE.1 463 0 0 = nI 0) : QA (Rp_text σ (nI n)) (fun τ => Mo_text τ (nI n)) := by
  generalize hr : σ.2.2 1 = r at *
  have r2 : r < 2 := by rw [← hr]; exact h.2.2.1.2.1
  obtain ⟨w, ew, fw, w24, w25, w26, w27, w0, w1, w2, w3, w4, w5, w6, w7, w209⟩ := Bk_open_eq (σ := setQ (setQ aE 0 r) 1 (σ.2.2 0)) (r := r)
  have fb : ∀ k i, bo k i = false → k ≠ 330 → (setF w 330 0 0).1 k i = aE.1 k i := fun k i q1 q2 => by rw [rf_ne q2, fw.2 k i q1]; rfl
  have hb21 : BY ((setF (setF w 330 0 0) 840 0 0).1 28 0) b n := by rw [rf_ne (by decide), fb 28 0 rfl (by decide), f1.2 28 0 (by unfold ca cb cc dk f23; simp)]; exact hbt
  obtain ⟨aE', cE, e1', k, f1', g1, s52, m⟩ := readBoth (σ := σ) (τ := setF (setF w 330 0 0) 840 0 0) (r := r) n1 hN hn hb hb21 hb2
  have ea : aE' = aE := by
    rw [e1] at e1'
    split at e1' <;> split at e1' <;> first | exact (Prod.mk.inj (Option.some.inj e1')).2.symm
  subst ea
  obtain ⟨m1, m2, m3, ⟨L, P, S, d⟩, ln, hln, l1, l2⟩ : aE'.1 463 0 0 = nI 0 ∧ aE'.1 464 0 0 = -nI 1 ∧ cE.1 863 0 0 = nI 0 ∧ DL r aE' cE 900 := by
    rcases m with m | m
    · obtain ⟨f, u, q1, q2, q3, q4, _⟩ := m
      rw [hf] at q4
      have := (nI_eq (by decide) (by omega)).mp q4
      omega
    · exact m
  have a42 : (setF w 330 0 0).1 842 0 0 = nI N := by rw [fb 842 0 rfl (by decide), f1.2 842 0 (by unfold ca cb cc dk f23; simp)]; exact n2
  have hs : ∃ s22, s22 = setF (setF (setF cE 842 0 0) 865 0 (nI 0)) 866 0 (-nI 1) := ⟨_, rfl⟩
  obtain ⟨s22, hs22⟩ := hs
  have ks : ∀ k i, k ≠ 842 → k ≠ 865 → k ≠ 866 → s22.1 k i = cE.1 k i := fun k i q1 q2 q3 => by rw [hs22, rf_ne q3, rf_ne q2, rf_ne q1]
  obtain ⟨ld, kq, F1, F2, F3, F4, F5, ro, cr, c71, c72, c41, cs, cm⟩ := newR d hln l1 l2
  obtain ⟨d1, d2, d3, d4, d5, d6, d7, d8, d9, d10, d11, d12, d13, d14, d15, d16, d17, d18, d19, d20, d21, d22⟩ := d
  obtain ⟨υ, eu, fu, u34, u29, u30, u31, u32, u33, u50, u51, u52, u53, u48, u49, u56⟩ := Mo_takesText_eq (σ := s22) (L := L) (P := P) d1 d2 (by rw [ks 867 0 (by decide) (by decide) (by decide)]; exact d6) (by rw [ks 868 0 (by decide) (by decide) (by decide)]; exact d8)
  have ku : ∀ k i, mt k i = false → ma k i = false → bo k i = false → k ≠ 840 → k ≠ 842 → k ≠ 865 → k ≠ 866 → k ≠ 330 → υ.1 k i = aE'.1 k i := fun k i q1 q2 q3 q4 q5 q6 q7 q8 => by
    rw [fu.2 k i q1, ks k i q5 q6 q7, g1.2 k i q2, rf_ne q4, fb k i q3 q8]
  have kw : ∀ k, mt k 0 = false → ma k 0 = false → k ≠ 840 → k ≠ 842 → k ≠ 865 → k ≠ 866 → k ≠ 330 → υ.1 k 0 = w.1 k 0 := fun k q1 q2 q4 q5 q6 q7 q8 => by
    rw [fu.2 k 0 q1, ks k 0 q5 q6 q7, g1.2 k 0 q2, rf_ne q4, rf_ne q8]
  have hν : ∀ j, j < 2689 → υ.1 34 0 j = txP (cE.1 39 0) (cE.1 40 0) (cE.1 42 0) L P j := fun j hj => by
    rw [u34 j hj, ks 39 0 (by decide) (by decide) (by decide), ks 40 0 (by decide) (by decide) (by decide), ks 42 0 (by decide) (by decide) (by decide)]
  have zz : ∀ j, j < 2604 ∨ (2644 ≤ j ∧ j < 2660) ∨ j = 2688 → υ.1 34 0 j = nI 0 := fun j hj => by
    rw [hν j (by omega)]; exact tx_z hj d1 d2
  have q22 : υ.2.2 = (setQ (setQ aE' 0 r) 1 (σ.2.2 0)).2.2 := by
    rw [fu.1, hs22]
    show cE.2.2 = _
    rw [g1.1]
    show w.2.2 = _
    rw [fw.1]
  have bof : ∀ k i, (dk k = true ∨ k = 652 ∨ k = 463 ∨ k = 464 ∨ k = 329) → bo k i = false := fun k i q => by
    unfold bo
    unfold dk at q
    simp only [Bool.or_eq_true, decide_eq_true_eq] at q
    simp only [Bool.and_eq_false_iff, Bool.or_eq_false_iff, decide_eq_false_iff_not]
    right
    omega
  have kc : ∀ k i, (dk k = true ∨ k = 652 ∨ k = 463 ∨ k = 464 ∨ k = 329) → υ.1 k i = aE'.1 k i := fun k i q => by
    have q' := q
    unfold dk at q'
    simp only [Bool.or_eq_true, decide_eq_true_eq] at q'
    refine ku k i ?_ ?_ (bof k i q) (by omega) (by omega) (by omega) (by omega) (by omega)
    · unfold mt
      simp only [Bool.or_eq_false_iff, decide_eq_false_iff_not]
      omega
    · unfold ma mb
      simp only [Bool.or_eq_false_iff, decide_eq_false_iff_not]
      omega
  refine ⟨nI ln, setF w 330 0 0, υ, mkR L P S ln ld kq F1 F2 F3 F4 F5, ?_, ?_, ro, ?_, ?_, ?_, ?_, ?_, ?_, ?_⟩
  · have hq1 : ldQ σ 1 = some r := by unfold ldQ; rw [hr, if_pos r2]
    have ae2 : aE'.2.2 = σ.2.2 := f1.1
    have hq2 : ldQ aE' 0 = some (σ.2.2 0) := by unfold ldQ; rw [ae2, if_pos h.2.2.1.1]
    have hq3 : ldQ aE' 1 = some r := by unfold ldQ; rw [ae2, hr, if_pos r2]
    have hq4 : ldQ (setQ (setQ aE' 0 r) 1 (σ.2.2 0)) 0 = some r := if_pos r2
    have hq5 : ldQ (setF w 330 0 0) 0 = some r := by
      unfold ldQ
      rw [show (setF w 330 0 0).2.2 = (setQ (setQ aE' 0 r) 1 (σ.2.2 0)).2.2 from fw.1]
      exact if_pos r2
    have g28 : gF (setF w 330 0 0) 528 r = nI ln := by
      show (setF w 330 0 0).1 528 r 0 = _
      rw [fb 528 r (bof 528 r (Or.inl rfl)) (by decide)]
      exact l1
    unfold Rp_text Hi_forget
    rw [if_neg (show ¬ nI n < (0 : Int32) from of_eq_false (nlt_f (b := 0) (Nat.zero_le n) (by omega))), show gF σ 652 0 = _ from n1, if_pos (of_eq_true (nle_t hn (by omega))), hq1, bd_some, e1', if_pos (show gF aE' 463 0 = (0 : Int32) from hf), bd_some, if_neg (show ¬ (1 : Int32) = 0 by decide), hq2, bd_some, hq3, bd_some, lt_eq, lt_eq, hq4, bd_some, ew, bd_some, lt_eq, bd_some, hq5, bd_some, g28]
  · refine (Mo_text_sh (setF w 330 0 0) a42 hN hn k).trans ?_
    rw [txK_ok m3, ← hs22, eu, bd_some]
    show some (υ.1 853 0 0, υ) = _
    rw [u53, ks 870 0 (by decide) (by decide) (by decide), l2]
  · refine ⟨?_, ?_, ?_, ?_, ?_, ?_, fun l hl => ?_, fun s hs => ?_, fun s hs => ?_, fun s k' hs hk' => ?_, fun s k' hs hk' => ?_⟩
    · rw [u50, ks 867 0 (by decide) (by decide) (by decide)]; exact d6
    · rw [u51, ks 868 0 (by decide) (by decide) (by decide)]; exact d8
    · rw [u52, ks 869 0 (by decide) (by decide) (by decide)]; exact d10
    · rw [u53, ks 870 0 (by decide) (by decide) (by decide)]; exact l2
    · rw [u48, ks 871 0 (by decide) (by decide) (by decide)]; exact c71
    · rw [u49, ks 872 0 (by decide) (by decide) (by decide)]; exact c72
    · have hl : l < L := hl
      rw [u29 l hl, ks 41 0 (by decide) (by decide) (by decide)]; exact c41 l hl
    · have hs : s < S := hs
      rw [u32 s (by omega), ks 45 0 (by decide) (by decide) (by decide)]; exact (cs s hs).1
    · have hs : s < S := hs
      rw [u33 s (by omega), ks 46 0 (by decide) (by decide) (by decide)]; exact (cs s hs).2.1
    · have hs : s < S := hs
      have hk' : k' < F2 s := hk'
      have := (cs s hs).2.2.1
      rw [u30 _ (by omega), ks 43 0 (by decide) (by decide) (by decide)]; exact (cm s k' hs hk').1
    · have hs : s < S := hs
      have hk' : k' < F2 s := hk'
      have := (cs s hs).2.2.1
      rw [u31 _ (by omega), ks 44 0 (by decide) (by decide) (by decide)]; exact (cm s k' hs hk').2
  · unfold QO
    rw [q22]
    exact ⟨r2, h.2.2.1.1, fun z => h.2.2.1.2.2 (by rw [hr]; exact z.symm)⟩
  · rw [show υ.2.2 0 = r by rw [q22]; rfl]
    unfold CR at cr ⊢
    rw [kc 529 r (Or.inl rfl), kc 530 r (Or.inl rfl), kc 531 r (Or.inl rfl), kc 528 r (Or.inl rfl), kc 532 r (Or.inl rfl), kc 533 r (Or.inl rfl), kc 13 r (Or.inl rfl), kc 17 r (Or.inl rfl), kc 18 r (Or.inl rfl), kc 19 r (Or.inl rfl), kc 20 r (Or.inl rfl)]
    exact cr
  · have kk : ∀ k, mt k 0 = false → ma k 0 = false → k ≠ 840 → k ≠ 842 → k ≠ 865 → k ≠ 866 → k ≠ 330 → υ.1 k 0 = w.1 k 0 := kw
    refine ⟨⟨fun l hl => ?_, fun l hl => ?_, fun p hp => ?_, fun j hj => ?_⟩, fun l hl => ?_, fun l hl => ?_, fun s hs => ?_, fun s hs => ?_, fun j hj => ?_, fun j hj => ?_, fun j hj => ?_, fun j hj => ?_, ?_⟩
    · have hl : l < L := hl
      obtain ⟨v, v1, v2, v3⟩ := d18 l hl
      rw [kk 24 rfl rfl (by decide) (by decide) (by decide) (by decide) (by decide), w24 l (by omega), hν _ (by omega), tx_A hl d1]
      show aE'.1 14 r l = _
      rw [v2, v3]
    · have hl : l < L := hl
      obtain ⟨v, v1, v2, v3⟩ := d19 l hl
      rw [kk 25 rfl rfl (by decide) (by decide) (by decide) (by decide) (by decide), w25 l (by omega), hν _ (by omega), tx_B hl d1]
      show aE'.1 15 r l = _
      rw [v2, v3]
    · have hp : p < P := hp
      obtain ⟨v, v1, v2, v3⟩ := d21 p hp
      rw [kk 26 rfl rfl (by decide) (by decide) (by decide) (by decide) (by decide), w26 p (by omega), hν _ (by omega), tx_C hp]
      show aE'.1 16 r p = _
      rw [v2, v3]
    · have hj : j < 5 * S := hj
      have hj : j < 40 := by omega
      rw [kk 27 rfl rfl (by decide) (by decide) (by decide) (by decide) (by decide), w27 j hj, hν _ (by omega), tx_m hj d1 d2, hol_m1]
    · rw [kk 0 rfl rfl (by decide) (by decide) (by decide) (by decide) (by decide), w0 l hl, zz _ (by omega)]
    · rw [kk 1 rfl rfl (by decide) (by decide) (by decide) (by decide) (by decide), w1 l hl, zz _ (by omega)]
    · rw [kk 2 rfl rfl (by decide) (by decide) (by decide) (by decide) (by decide), w2 s hs, zz _ (by omega)]
    · rw [kk 3 rfl rfl (by decide) (by decide) (by decide) (by decide) (by decide), w3 s hs, zz _ (by omega)]
    · rw [kk 4 rfl rfl (by decide) (by decide) (by decide) (by decide) (by decide), w4 j hj, zz _ (by omega)]
    · rw [kk 5 rfl rfl (by decide) (by decide) (by decide) (by decide) (by decide), w5 j hj, zz _ (by omega), zz _ (by omega)]
      rfl
    · rw [kk 6 rfl rfl (by decide) (by decide) (by decide) (by decide) (by decide), w6 j hj, zz _ (by omega)]
    · rw [kk 7 rfl rfl (by decide) (by decide) (by decide) (by decide) (by decide), w7 j hj, zz _ (by omega)]
    · rw [kk 209 rfl rfl (by decide) (by decide) (by decide) (by decide) (by decide), w209, zz _ (by omega)]
  · exact newV d1 d2 d3 (fun s hs => (cs s hs).2.2.2) hν (fun l hl => by
      obtain ⟨v, v1, v2, v3⟩ := d19 l hl
      exact ⟨v, v1.1, v1.2, v3⟩) (fun p hp => by
      obtain ⟨v, v1, v2, v3⟩ := d21 p hp
      exact ⟨v, v1, v3⟩)
  · obtain ⟨c, t, z1, z2, z3, z4, z5, z6⟩ := h.2.2.2.2.2.2.1
    refine ⟨0, t, by decide, z2, ?_, u56, ?_, fun j hj => absurd hj (Nat.not_lt_zero j)⟩
    · rw [fu.2 330 0 rfl, ks 330 0 (by decide) (by decide) (by decide), g1.2 330 0 rfl, rf_ne (by decide), rf_eq]
      rfl
    · rw [kc 329 0 (by decide), f1.2 329 0 (by unfold ca cb cc dk f23; simp)]
      exact z5
  · refine ⟨⟨0, by decide, ?_, ?_, fun j hj => absurd hj (Nat.not_lt_zero j)⟩, ?_, ?_⟩
    · rw [kc 652 0 (by decide)]; exact s52
    · rw [fu.2 842 0 rfl, hs22, rf_ne (by decide), rf_ne (by decide), rf_eq]
      rfl
    · rw [kc 463 0 (by decide), fu.2 865 0 rfl, hs22, rf_ne (by decide), rf_eq]
      exact m1
    · rw [kc 464 0 (by decide), fu.2 866 0 rfl, hs22, rf_eq]
      exact m2
theorem q_text (h : IV σ R) (x : Int32) : QA (Rp_text σ x) (fun τ => Mo_text τ x) := by
  obtain ⟨i1, i2, i3, i4, i5, i6, i7, ⟨N, hN, n1, n2, n3⟩, p1, p2⟩ := id h
  rcases at_or (x := x) (n := N + 1) (by omega) with ⟨n, hn, rfl⟩ | hx
  rotate_left
  · have m2 : gF (setF σ 840 0 0) 842 0 = nI N := by show (setF σ 840 0 0).1 842 0 0 = _; rw [rf_ne (by decide)]; exact n2
    refine QAf (v := -nI 2) h ?_ ?_
    · unfold Rp_text
      rw [show gF σ 652 0 = _ from n1]
      rcases nix_or hx (by omega) with q | ⟨q, q2⟩
      · rw [if_pos (show x < (0 : Int32) from q)]; rfl
      · rw [if_neg (show ¬ x < (0 : Int32) from q), if_neg q2]; rfl
    · show Mo_text σ x = _
      unfold Mo_text
      rw [lt_eq, m2]
      rcases nix_or hx (by omega) with q | ⟨q, q2⟩
      · rw [if_pos (show x < (0 : Int32) from q)]; rfl
      · rw [if_neg (show ¬ x < (0 : Int32) from q), if_neg q2]; rfl
  obtain ⟨b, hb⟩ := ex_fun (p := fun j v => v < 256 ∧ (j < N → σ.1 28 0 j = nI v)) (fun j => by
    by_cases q : j < N
    · obtain ⟨_, v, v1, v2⟩ := n3 j q
      exact ⟨v, v1, fun _ => v2⟩
    · exact ⟨0, by decide, fun z => absurd z q⟩)
  have hb28 : BY (σ.1 28 0) b n := fun j hj => ⟨(hb j).2 (by omega), (hb j).1⟩
  have hb21 : BY (σ.1 21 0) b n := fun j hj => ⟨(n3 j (by omega)).1.trans ((hb j).2 (by omega)), (hb j).1⟩
  obtain ⟨aE, cE0, e1, _, f1, _, _, _⟩ := readBoth (σ := σ) (τ := σ) (r := σ.2.2 1) n1 hN (by omega) hb21 hb28 (fun j => (hb j).1)
  by_cases hf : aE.1 463 0 0 = nI 0
  · exact q_text_ok h hN (by omega) n1 n2 hb21 hb28 (fun j => (hb j).1) e1 f1 hf
  · exact q_text_fl h hN (by omega) n1 n2 hb21 hb28 (fun j => (hb j).1) e1 f1 hf
end Text3

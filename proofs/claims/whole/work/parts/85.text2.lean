/-! ===== text ===== -/
theorem ex_fun {p : Nat → Nat → Prop} (h : ∀ k, ∃ v, p k v) : ∃ F : Nat → Nat, ∀ k, p k (F k) := ⟨fun k => Classical.choose (h k), fun k => Classical.choose_spec (h k)⟩
def txK (c : ST) : Option (Int32 × ST) := lt_ (setF c 842 0 0) (fun s17 => lt_ (setF s17 865 0 (gF s17 863 0)) (fun s18 => lk_ (fun kk20 => (if (gF s18 863 0) = 0 then kk20 (-1) else kk20 (gF s18 864 0))) (fun (j19 : Int32) => lt_ (setF s18 866 0 j19) (fun s22 => (if (gF s22 863 0) = 0 then bd_ (Mo_takesText s22) (fun q23 => some ((gF q23 853 0), q23)) else some ((-1), s22))))))
section Text2
variable {σ τ υ : ST} {R : RT} {ν : NU} {r i : Nat}
/-- the state of the reference once a text with a fault is read -/
theorem txK_fl {a c : ST} (h : flM a c) : ∃ f, a.1 463 0 0 = nI f ∧ txK c = some (-nI 1, setF (setF (setF c 842 0 0) 865 0 (nI f)) 866 0 (a.1 464 0 0)) := by
  obtain ⟨f, u, h1, h2, h3, h4, h5, h6, h7⟩ := h
  refine ⟨f, h4, ?_⟩
  have g1 : gF (setF c 842 0 0) 863 0 = nI f := by show (setF c 842 0 0).1 863 0 0 = _; rw [rf_ne (by decide)]; exact h5
  have g2 : gF (setF (setF c 842 0 0) 865 0 (nI f)) 863 0 = nI f := by show (setF (setF c 842 0 0) 865 0 (nI f)).1 863 0 0 = _; rw [rf_ne (by decide), rf_ne (by decide)]; exact h5
  have g3 : gF (setF (setF c 842 0 0) 865 0 (nI f)) 864 0 = a.1 464 0 0 := by show (setF (setF c 842 0 0) 865 0 (nI f)).1 864 0 0 = _; rw [rf_ne (by decide), rf_ne (by decide)]; exact h6.symm
  have g4 : ∀ v, gF (setF (setF (setF c 842 0 0) 865 0 (nI f)) 866 0 v) 863 0 = nI f := fun v => by show (setF (setF (setF c 842 0 0) 865 0 (nI f)) 866 0 v).1 863 0 0 = _; rw [rf_ne (by decide), rf_ne (by decide), rf_ne (by decide)]; exact h5
  unfold txK
  simp only [lt_eq, lk_eq, g1, g2, nf0 h1 (by omega), if_false, g3, g4]
  rfl
theorem Mo_text_sh {N n : Nat} (c : ST) (h42 : c.1 842 0 0 = nI N) (hN : N ≤ 900) (hn : n ≤ N) {cE : ST} (hK : ∀ K : ST → Option (Int32 × ST), lt_ (setF (setF c 840 0 0) 867 0 0) (fun s2 => lt_ (setF s2 868 0 0) (fun s3 => lt_ (setF s3 869 0 0) (fun s4 => lt_ (setF s4 870 0 0) (fun s5 => lt_ (setF s5 871 0 60) (fun s6 => lt_ (setF s6 872 0 3) (fun s7 => lt_ (setF s7 873 0 0) (fun s8 => lt_ (setF s8 874 0 0) (fun s9 => lt_ (setF s9 857 0 (nI n)) (fun s10 => lt_ (setF s10 858 0 0) (fun s11 => lt_ (setF s11 863 0 0) (fun s12 => bd_ (Mo_token s12) (fun q13 => lk_ (fun kk15 => lp_ (fun rec25 (z24 : ST) => (if (gF z24 863 0) = 0 then (if (gF z24 860 0) = 3 then kk15 z24 else bd_ (Mo_readLine z24) (fun q27 => rec25 q27)) else kk15 z24)) FU q13) K)))))))))))) = K cE) : Mo_text c (nI n) = txK cE := by
  have g : gF (setF c 840 0 0) 842 0 = nI N := by show (setF c 840 0 0).1 842 0 0 = _; rw [rf_ne (by decide)]; exact h42
  unfold Mo_text
  rw [lt_eq, if_neg (show ¬ nI n < (0 : Int32) from of_eq_false (nlt_f (b := 0) (Nat.zero_le n) (by omega))), g, if_pos (of_eq_true (nle_t hn (by omega)))]
  exact hK txK
theorem q_text_fl (h : IV σ R) {N n : Nat} {b : Nat → Nat} (hN : N ≤ 900) (hn : n ≤ N) (n1 : σ.1 652 0 0 = nI N) (n2 : σ.1 842 0 0 = nI N) (hb : BY (σ.1 21 0) b n) (hbt : BY (σ.1 28 0) b n) (hb2 : ∀ j, b j < 256) {aE : ST} (e1 : Rd_readText σ (σ.2.2 1) (nI n) = (if (gF aE 463 0) = 0 then some (1, aE) else some (0, aE))) (f1 : FrK (ca (σ.2.2 1)) σ aE) (hf : ¬ aE.1 463 0 0 = nI 0) : QA (Rp_text σ (nI n)) (fun τ => Mo_text τ (nI n)) := by
  have hb21 : BY ((setF aE 840 0 0).1 28 0) b n := by rw [rf_ne (by decide), f1.2 28 0 (by unfold ca cb cc dk f23; simp)]; exact hbt
  obtain ⟨aE', cE, e1', k, f1', g1, s52, m⟩ := readBoth (σ := σ) (τ := setF aE 840 0 0) (r := σ.2.2 1) n1 hN hn hb hb21 hb2
  have ea : aE' = aE := by
    rw [e1] at e1'
    split at e1' <;> split at e1' <;> first | exact (Prod.mk.inj (Option.some.inj e1')).2.symm
  subst ea
  have fl : flM aE' cE := by
    rcases m with m | m
    · exact m
    · exact absurd m.1 hf
  obtain ⟨f, q1, q2⟩ := txK_fl fl
  have hq1 : ldQ σ 1 = some (σ.2.2 1) := if_pos h.2.2.1.2.1
  have a42 : aE'.1 842 0 0 = nI N := by rw [f1.2 842 0 (by unfold ca cb cc dk f23; simp)]; exact n2
  refine ⟨-nI 1, aE', setF (setF (setF cE 842 0 0) 865 0 (nI f)) 866 0 (aE'.1 464 0 0), R, ?_, (Mo_text_sh aE' a42 hN hn k).trans q2, ?_⟩
  · unfold Rp_text
    rw [if_neg (show ¬ nI n < (0 : Int32) from of_eq_false (nlt_f (b := 0) (Nat.zero_le n) (by omega))), show gF σ 652 0 = _ from n1, if_pos (of_eq_true (nle_t hn (by omega))), hq1, bd_some, e1', if_neg (show ¬ gF aE' 463 0 = (0 : Int32) from hf), bd_some]
    rfl
  · have key : ∀ k i, kp (σ.2.2 1) k i = true → (setF (setF (setF cE 842 0 0) 865 0 (nI f)) 866 0 (aE'.1 464 0 0)).1 k i = σ.1 k i := fun k i hk => by
      obtain ⟨z1, z2, z3, z4, z5⟩ := ma_kp hk
      rw [rf_ne z5, rf_ne z4, rf_ne z3, g1.2 k i z1, rf_ne z2, f1.2 k i (ca_kp hk)]
    refine IV_keep h rfl ?_ key ⟨⟨0, by decide, ?_, ?_, fun j hj => absurd hj (Nat.not_lt_zero j)⟩, ?_, ?_⟩
    · show cE.2.2 = _
      rw [g1.1]
      exact f1.1
    · rw [rf_ne (by decide), rf_ne (by decide), rf_ne (by decide), g1.2 652 0 rfl, rf_ne (by decide)]
      exact s52
    · rw [rf_ne (by decide), rf_ne (by decide), rf_eq]
      rfl
    · rw [rf_ne (by decide), rf_ne (by decide), rf_ne (by decide), g1.2 463 0 rfl, rf_ne (by decide), rf_ne (by decide), rf_eq]
      exact q1
    · rw [rf_ne (by decide), rf_ne (by decide), rf_ne (by decide), g1.2 464 0 rfl, rf_ne (by decide), rf_eq]
end Text2

/-! ===== a member, both sides ===== -/
section Mem2
variable {a c a' c' : ST} {b : Nat → Nat} {n t r L P S m : Nat}
theorem Rd_readMember_sh (x : Int32) : Rd_readMember a r x = bd_ (Rd_oldName a 102 0 (gF a 530 r)) (fun q1 => bd_ (ldI q1.2 17 r x) (fun v2 => (if v2 < 8 then bd_ (Rl_roleTold q1.2 r q1.1 x) (fun q3 => lk_ (fun kk5 => (if q3 < 0 then kk5 q1.2 else bd_ (Rd_blame q1.2 3) (fun q13 => kk5 q13))) (fun (j4 : ST) => mTail j4 r x v2 q1.1)) else bd_ (Rd_blame q1.2 2) (fun q14 => some q14)))) := rfl
theorem member (hn : n ≤ 900) (hb2 : ∀ j, b j < 256) (hA : TA a b n) (hC : CN c b n) (h : okM a c b n t) (hk : kT b n (plT b n t) = 14) (hS : S < 8) (hP : P ≤ 16) (y1 : a.1 530 r 0 = nI P) (y2 : c.1 868 0 0 = nI P) (hr : RWL (a.2.1 102 0) (c.1 37 0) P) (si : SIn a c r S P m) : ∃ a' c', Rd_readMember a r (nI S) = some a' ∧ Mo_readOne c (nI S) = some c' ∧ FrK (cl r) a a' ∧ a'.2.1 = a.2.1 ∧ FrK ml c c' ∧ XM a' c' b n ∧ ∀ t', okM a' c' b n t' → t' = t + 2 ∧ m < 8 ∧ SIn a' c' r S P (m + 1) := by
  have tn := (nT_ok b n).1
  have x1 : gF a 530 r = nI P := y1
  have x2 : gF c 868 0 = nI P := y2
  obtain ⟨s1, s2, s3, s4, s5, s6⟩ := id si
  have ia : Rd_isAt a 14 = _ := isAt_eq hn hA h (x := 14) (by decide)
  rw [decide_eq_true hk, b01_t] at ia
  have vl := vT_14 hk
  obtain ⟨p1, p2, p3⟩ := kT_14 hk
  obtain ⟨b1, b2, b3⟩ := hA t h.2.2.1
  have hv := b3 p1 (Or.inl p2)
  have h62 : c.1 862 0 0 = nI (vT b n (plT b n t)) := (h.2.2.2.2.2.2.2.1 hk).2.2
  have t1 := h.2.2.1
  have n1 := find_eq (a := a) (c := c) (K := 102) (k1 := 37) (L := 16) (e := P) (t := t) rfl (by decide) rfl hP hr vl (by omega) h.2.2.2.1 hv h62
  have g63 : gF c 863 0 = nI 0 := h.2.1
  rcases fnd_or (g := c.1 37 0) (u := vT b n (plT b n t)) (e := P) with o | ⟨k, hkP, o⟩
  · rw [o] at n1
    obtain ⟨a2, c2, f1, f2, pr2, fl⟩ := bl_ok hn hA h (f := 1) (by decide) (by decide)
    have f1' : Rd_blame a 1 = some a2 := f1
    have f2' : Mo_wrong c 1 = some c2 := f2
    have eo : Rd_oldName a 102 0 (nI P) = some (-nI 1, a2) := by
      unfold Rd_oldName
      rw [ia, bd_some]
      simp only [lk_eq, i10, if_false, n1.1, bd_some, f1']
      rw [if_neg (by decide)]
    have h17 : a2.1 17 r S = nI m := by rw [pr2.1.2 17 r rfl]; exact s3
    have ref : Mo_readOne c (nI S) = some c2 := by
      obtain ⟨f, u', l1, l2, l3, l4, l5, l6, l7⟩ := id fl
      have g632 : gF c2 863 0 = nI f := l5
      unfold Mo_readOne
      simp only [x2, n1.2, bd_some, lk_eq, im1, if_true, f2', g632, nf0 l1 (by omega), if_false]
      refine lp_runE 0 (by decide) (fun _ => (c2, (0 : Int32))) rfl (fun rec k hk => absurd hk (Nat.not_lt_zero k)) (fun rec => ?_)
      simp only [g632, nf0 l1 (by omega), if_false]
    rcases Nat.lt_or_ge m 8 with cm | cm
    · obtain ⟨a', e', fl', fr', l'⟩ := tail_fl (r := r) fl hS cm h17 (-nI 1)
      refine ⟨a', c2, ?_, ref, (cc_cl pr2.1).tr fr', l'.trans pr2.2.1, mc_ml pr2.2.2, Or.inr fl', fun t ht => absurd fl' ht.nf⟩
      rw [Rd_readMember_sh, x1, eo, bd_some]
      show bd_ (ldI a2 17 r (nI S)) _ = _
      rw [ld17 hS, bd_some, h17, if_pos (show nI m < (8 : Int32) from of_eq_true (nlt_t (b := 8) cm (by decide)))]
      show bd_ (Rl_roleTold a2 r (-nI 1) (nI S)) _ = _
      rw [roleT hS s2 h17, bd_some]
      simp only [lk_eq, (bl_fl fl 3).1, bd_some, e', ite_self]
    · refine ⟨a2, c2, ?_, ref, cc_cl pr2.1, pr2.2.1, mc_ml pr2.2.2, Or.inr fl, fun t ht => absurd fl ht.nf⟩
      rw [Rd_readMember_sh, x1, eo, bd_some]
      show bd_ (ldI a2 17 r (nI S)) _ = _
      rw [ld17 hS, bd_some, h17, if_neg (show ¬ nI m < (8 : Int32) from of_eq_false (nlt_f (b := 8) cm (by omega)))]
      show bd_ (Rd_blame a2 2) _ = _
      rw [(bl_fl fl 2).1, bd_some]
  · rw [o] at n1
    have eo : Rd_oldName a 102 0 (nI P) = some (nI k, a) := by
      unfold Rd_oldName
      rw [ia, bd_some]
      simp only [lk_eq, i10, if_false, n1.1, bd_some]
      rw [if_pos (ge0n k (by omega))]
    rcases Nat.lt_or_ge m 8 with cm | cm
    rotate_left
    · have em : m = 8 := by omega
      obtain ⟨a2, c2, f1, f2, pr2, fl⟩ := bl_ok hn hA h (f := 2) (by decide) (by decide)
      have f1' : Rd_blame a 2 = some a2 := f1
      have f2' : Mo_wrong c 2 = some c2 := f2
      refine ⟨a2, c2, ?_, ?_, cc_cl pr2.1, pr2.2.1, mc_ml pr2.2.2, Or.inr fl, fun t ht => absurd fl ht.nf⟩
      · rw [Rd_readMember_sh, x1, eo, bd_some]
        show bd_ (ldI a 17 r (nI S)) _ = _
        rw [ld17 hS, bd_some, s3, if_neg (show ¬ nI m < (8 : Int32) from of_eq_false (nlt_f (b := 8) cm (by omega)))]
        show bd_ (Rd_blame a 2) _ = _
        rw [f1', bd_some]
      · obtain ⟨f, u', l1, l2, l3, l4, l5, l6, l7⟩ := id fl
        have g632 : gF c2 863 0 = nI f := l5
        have e8 : (nI 8 = (8 : Int32)) = True := eq_true rfl
        unfold Mo_readOne
        simp only [x2, n1.2, bd_some, lk_eq, nm1 (k := k) (by omega), if_false, g63, i00, if_true, ld45 hS, s4, em, e8, f2', g632, nf0 l1 (by omega)]
        refine lp_runE 0 (by decide) (fun _ => (c2, (0 : Int32))) rfl (fun rec k hk => absurd hk (Nat.not_lt_zero k)) (fun rec => ?_)
        simp only [g632, nf0 l1 (by omega), if_false]
    obtain ⟨a2, c2, f1, f2, pr2, fl⟩ := bl_ok hn hA h (f := 3) (by decide) (by decide)
    have f1' : Rd_blame a 3 = some a2 := f1
    have f2' : Mo_wrong c 3 = some c2 := f2
    have ne8 : (nI m = (8 : Int32)) = False := neq_f (b := 8) (by omega) (by omega) (by decide)
    have fdE : fd (fun j => decide (a.1 19 r (8 * S + j) = nI k)) m = fd (fun j => decide (c.1 43 0 (8 * S + j) = nI k)) m := fd_cong (fun j hj => by
      obtain ⟨v, w, z1, z2, z3, z4, z5⟩ := s5 j hj
      rw [z3, z4])
    obtain ⟨f, u', l1, l2, l3, l4, l5, l6, l7⟩ := id fl
    have g632 : gF c2 863 0 = nI f := l5
    have rl : Mo_readOne c (nI S) = (if fd (fun j => decide (c.1 43 0 (8 * S + j) = nI k)) m < m then some c2 else bd_ (Mo_goOn c) (fun q13 => bd_ (stI q13 43 0 (nI (8 * S + m)) (nI k)) (fun s14 => bd_ (Mo_among s14 12 2) (fun q15 => bd_ (stI q15.2 44 0 (nI (8 * S + m)) q15.1) (fun s16 => bd_ (ldI s16 45 0 (nI S)) (fun v17 => bd_ (stI s16 45 0 (nI S) (v17 + 1)) (fun s18 => some s18))))))) := by
      have s8 : 8 * nI S + nI m = nI (8 * S + m) := by show nI 8 * nI S + nI m = _; rw [nI_mul, nI_add]
      have l45 : ldI c 45 0 (nI S) = some (nI m) := by rw [ld45 hS, s4]
      unfold Mo_readOne
      simp only [x2, n1.2, bd_some, lk_eq, nm1 (k := k) (by omega), if_false, g63, i00, if_true, l45, ne8]
      refine (dupL (c := c) (m := m) (S := S) (x := nI k) (fun (j8 : ST) => (if (gF j8 863 0) = 0 then bd_ (ldI j8 45 0 (nI S)) (fun v11 => lt_ (((8 * nI S) + v11)) (fun x12 => bd_ (Mo_goOn j8) (fun q13 => bd_ (stI q13 43 0 x12 (nI k)) (fun s14 => bd_ (Mo_among s14 12 2) (fun q15 => bd_ (stI q15.2 44 0 x12 q15.1) (fun s16 => bd_ (ldI s16 45 0 (nI S)) (fun v17 => bd_ (stI s16 45 0 (nI S) (v17 + 1)) (fun s18 => some s18)))))))) else some j8)) hS s2 s4 h.2.1 f2' l1 l2 l5).trans ?_
      simp only [g632, nf0 l1 (by omega), if_false, g63, i00, if_true, l45, bd_some, lt_eq, s8]
    by_cases cd : fd (fun j => decide (c.1 43 0 (8 * S + j) = nI k)) m < m
    · obtain ⟨v, w, z1, z2, z3, z4, z5, z6⟩ := s5 _ cd
      have h17 : a2.1 17 r S = nI m := by rw [pr2.1.2 17 r rfl]; exact s3
      obtain ⟨a', e', fl', fr', l'⟩ := tail_fl (r := r) fl hS cm h17 (nI k)
      refine ⟨a', c2, ?_, by rw [rl, if_pos cd], (cc_cl pr2.1).tr fr', l'.trans pr2.2.1, mc_ml pr2.2.2, Or.inr fl', fun t ht => absurd fl' ht.nf⟩
      rw [Rd_readMember_sh, x1, eo, bd_some]
      show bd_ (ldI a 17 r (nI S)) _ = _
      rw [ld17 hS, bd_some, s3, if_pos (show nI m < (8 : Int32) from of_eq_true (nlt_t (b := 8) cm (by decide)))]
      show bd_ (Rl_roleTold a r (nI k) (nI S)) _ = _
      rw [roleT hS s2 s3, bd_some, fdE, if_pos cd, z5, lk_eq, if_neg (show ¬ nI w < (0 : Int32) from of_eq_false (nlt_f (b := 0) (Nat.zero_le w) (by omega)))]
      show bd_ (Rd_blame a 3) _ = _
      rw [f1', bd_some]
      exact e'
    · obtain ⟨a3, c3, e3, e4, pr3, ok3⟩ := ad_ok hn hb2 hC h (by rw [hk]; decide)
      have hA4 : TA (setR a3 19 r (upd (a3.1 19 r) (8 * S + m) (nI k))) b n := (hA.pr pr3.1 pr3.2.1).w (rd_ne (by decide)) (rd_ne (by decide)) rfl
      have hC4 : CN (setR c3 43 0 (upd (c3.1 43 0) (8 * S + m) (nI k))) b n := (hC.pr pr3.2.2).w (rd_ne (by decide)) (rd_ne (by decide))
      have k4 : ∀ k', 858 ≤ k' → k' ≤ 864 → (setR c3 43 0 (upd (c3.1 43 0) (8 * S + m) (nI k))).1 k' 0 = c3.1 k' 0 := fun k' h1 h2 => rd_ne (by omega)
      have ok4 : okM (setR a3 19 r (upd (a3.1 19 r) (8 * S + m) (nI k))) (setR c3 43 0 (upd (c3.1 43 0) (8 * S + m) (nI k))) b n (t + 1) := (okM_w (rd_ne (by decide)) (rd_ne (by decide)) k4).mpr ok3
      obtain ⟨v, w, a5, c5, e5, e6, pr5, X5, I5⟩ := ones hn hb2 hA4 hC4 (Or.inl ⟨_, ok4⟩) (x := 12) (m := 2) (by decide) (by decide)
      have k6 : ∀ k', 858 ≤ k' → k' ≤ 864 → (setR (setR c5 44 0 (upd (c5.1 44 0) (8 * S + m) w)) 45 0 (upd (c5.1 45 0) S (nI (m + 1)))).1 k' 0 = c5.1 k' 0 := fun k' h1 h2 => (rd_ne (by omega)).trans (rd_ne (by omega))
      have z17 : a5.1 17 r = a.1 17 r := by rw [pr5.1.2 17 r rfl, rd_ne (by decide), pr3.1.2 17 r rfl]
      have z18 : a5.1 18 r = a.1 18 r := by rw [pr5.1.2 18 r rfl, rd_ne (by decide), pr3.1.2 18 r rfl]
      have z19 : a5.1 19 r = upd (a.1 19 r) (8 * S + m) (nI k) := by rw [pr5.1.2 19 r rfl, rd_eq, pr3.1.2 19 r rfl]
      have z20 : a5.1 20 r = a.1 20 r := by rw [pr5.1.2 20 r rfl, rd_ne (by decide), pr3.1.2 20 r rfl]
      have z43 : c5.1 43 0 = upd (c.1 43 0) (8 * S + m) (nI k) := by rw [pr5.2.2.2 43 0 rfl, rd_eq, pr3.2.2.2 43 0 rfl]
      have z44 : c5.1 44 0 = c.1 44 0 := by rw [pr5.2.2.2 44 0 rfl, rd_ne (by decide), pr3.2.2.2 44 0 rfl]
      have z45 : c5.1 45 0 = c.1 45 0 := by rw [pr5.2.2.2 45 0 rfl, rd_ne (by decide), pr3.2.2.2 45 0 rfl]
      have z46 : c5.1 46 0 = c.1 46 0 := by rw [pr5.2.2.2 46 0 rfl, rd_ne (by decide), pr3.2.2.2 46 0 rfl]
      refine ⟨setR (setR a5 20 r (upd (a5.1 20 r) (8 * S + m) v)) 17 r (upd (a5.1 17 r) S (nI (m + 1))), setR (setR c5 44 0 (upd (c5.1 44 0) (8 * S + m) w)) 45 0 (upd (c5.1 45 0) S (nI (m + 1))), ?_, ?_, ((((cc_cl pr3.1).tr (FrK.setR a3 _ (clk (by decide)))).tr (cc_cl pr5.1)).tr (FrK.setR a5 _ (clk (by decide)))).tr (FrK.setR _ _ (clk (by decide))), pr5.2.1.trans pr3.2.1, ((((mc_ml pr3.2.2).tr (FrK.setR c3 _ rfl)).tr (mc_ml pr5.2.2)).tr (FrK.setR c5 _ rfl)).tr (FrK.setR _ _ rfl), XM_w ((rd_ne (by decide)).trans (rd_ne (by decide))) ((rd_ne (by decide)).trans (rd_ne (by decide))) ((rd_ne (by decide)).trans (rd_ne (by decide))) k6 X5, fun t' ht' => ?_⟩
      · have e5' : Rd_oneOf (setR a3 19 r (upd (a3.1 19 r) (8 * S + m) (nI k))) 12 13 = some (v, a5) := e5
        rw [Rd_readMember_sh, x1, eo, bd_some]
        show bd_ (ldI a 17 r (nI S)) _ = _
        rw [ld17 hS, bd_some, s3, if_pos (show nI m < (8 : Int32) from of_eq_true (nlt_t (b := 8) cm (by decide)))]
        show bd_ (Rl_roleTold a r (nI k) (nI S)) _ = _
        rw [roleT hS s2 s3, bd_some, fdE, if_neg cd, lk_eq, if_pos (by decide)]
        show mTail a r (nI S) (nI m) (nI k) = _
        unfold mTail
        rw [e3, bd_some, sm8, st19 (by omega), bd_some, e5', bd_some]
        show bd_ (stI a5 20 r (nI (8 * S + m)) v) _ = _
        have w17 : (setR a5 20 r (upd (a5.1 20 r) (8 * S + m) v)).1 17 r = a5.1 17 r := rd_ne (by decide)
        rw [st20 (by omega), bd_some, ld17 hS, bd_some, st17 hS, bd_some, w17, show a5.1 17 r S + 1 = nI (m + 1) by rw [z17, s3]; exact nI_add _ _]
      · have e6' : Mo_among (setR c3 43 0 (upd (c3.1 43 0) (8 * S + m) (nI k))) 12 2 = some (w, c5) := e6
        rw [rl, if_neg cd, e4, bd_some, st43 (by omega), bd_some, e6', bd_some]
        show bd_ (stI c5 44 0 (nI (8 * S + m)) w) _ = _
        have w45 : (setR c5 44 0 (upd (c5.1 44 0) (8 * S + m) w)).1 45 0 = c5.1 45 0 := rd_ne (by decide)
        rw [st44 (by omega), bd_some, ld45 hS, bd_some, st45 hS, bd_some, w45, show c5.1 45 0 S + 1 = nI (m + 1) by rw [z45, s4]; exact nI_add _ _]
      · obtain ⟨t5, u1, q3, ok5, b4, rfl, rfl⟩ := I5 t' ((okM_w ((rd_ne (by decide)).trans (rd_ne (by decide))) ((rd_ne (by decide)).trans (rd_ne (by decide))) k6).mp ht')
        have w1 := ok5.2.2.2.1
        rw [ok4.2.2.2.1] at w1
        have w2 := (nI_eq (by have := ok4.2.2.1; omega) (by have := ok5.2.2.1; omega)).mp w1
        refine ⟨by omega, cm, ?_⟩
        unfold SIn
        simp (disch := decide) only [rd_eq, rd_ne, z17, z18, z19, z20, z43, z44, z45, z46]
        refine ⟨fun s hs => ?_, by omega, upd_eq, upd_eq, fun j hj => ?_, fun i j hj hij => ?_⟩
        · obtain ⟨m', h', m1, m2, m3, m4, m6, m8, m9, m10, m11⟩ := s1 s hs
          refine ⟨m', h', m1, m2, m3, ?_, ?_, m8, m9, fun j hj => ?_, fun i j hj hij => ?_⟩
          · rw [upd_ne (by omega)]; exact m4
          · rw [upd_ne (by omega)]; exact m6
          · rw [upd_ne (by omega), upd_ne (by omega), upd_ne (by omega), upd_ne (by omega)]
            exact m10 j hj
          · rw [upd_ne (by omega), upd_ne (by omega)]
            exact m11 i j hj hij
        · rw [upd_at, upd_at, upd_at, upd_at]
          by_cases cj : j = m
          · rw [if_pos (by omega), if_pos (by omega), if_pos (by omega), if_pos (by omega)]
            exact ⟨k, u1, hkP, b4, rfl, rfl, rfl, rfl⟩
          · rw [if_neg (by omega), if_neg (by omega), if_neg (by omega), if_neg (by omega)]
            exact s5 j (by omega)
        · rw [upd_at, upd_at, if_neg (by omega)]
          by_cases cj : j = m
          · rw [if_pos (by omega)]
            intro z
            have q : c.1 43 0 (8 * S + i) = nI k := by
              obtain ⟨v, w, z1, z2, z3, z4, z5⟩ := s5 i (by omega)
              rw [z4, ← z3]; exact z
            exact cd (fd_lt.mpr ⟨i, by omega, decide_eq_true q⟩)
          · rw [if_neg (by omega)]
            exact s6 i j (by omega) hij
end Mem2

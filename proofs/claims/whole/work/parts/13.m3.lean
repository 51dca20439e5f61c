theorem lk_RX9_303 : LkV RX9 303 RX0 yX0_passYear cX0_passYear 6 (some .int) 1 := ⟨wd_898, wd_899, wd_900, wd_86, wd_901, by decide +kernel, by decide⟩
def T_X9_year : List (Nat × Instr × Nat) := [(0, .aload_n 0, 1), (1, .getfield 19, 3), (4, .getfield 241, 3), (7, .sipush 9999, 3), (10, .if_icmp .lt 6, 3), (13, .bipush (-2), 2), (15, .ireturn, 1), (16, .aload_n 0, 1), (17, .getfield 26, 3), (20, .aload_n 0, 1), (21, .getfield 19, 3), (24, .invokevirtual 292, 3), (27, .aload_n 0, 1), (28, .getfield 19, 3), (31, .aload_n 0, 1), (32, .getfield 61, 3), (35, .invokevirtual 303, 3), (38, .ireturn, 1)]
theorem D_X9_year : dchk cX9_year T_X9_year = true := by decide +kernel
def Rp_year (σ : ST)  : Option (Int32 × ST) :=
  (if (gF σ 209 0) < 9999 then bd_ (Hi_remember (σ) 0) (fun q1 => bd_ (ldQ q1 0) (fun rr2 => bd_ (Bk_passYear q1 0 rr2) (fun q3 => some (q3.1, q3.2)))) else some ((-2), σ))
set_option maxHeartbeats 4000000 in
set_option maxRecDepth 100000 in
theorem c_X9_year {G : GW} (hG : Good G) {l : Launch} (σ : ST)  : Ctr G l yX9_year cX9_year 1 (some .int) 4 [.ref (ga G 130 0)] σ oP (Rp_year σ ) := by
  refine ctr_of hG (by decide) (Nat.le_of_ble_eq_true rfl) ?_
  intro X hXl hR hX
  have hX : Ok G X cX9_year 1 RX9 4 := hX
  unfold Rp_year
  show Sim G X 1 (MQX G X oP) σ 0 [(0, .ref (ga G 130 0))] [] _
  refine s_aload_n 0 (n := 1) hX (dec_of D_X9_year (i := 0) rfl) rfl rfl rfl ?_
  refine s_getC (c := 9) (p := 1) (n := 4) 121 0 hX cls9 (vk130 (by omega)) (dec_of D_X9_year (i := 1) rfl) rfl rfl (by decide) wd_442 ?_
  refine s_getI (c := 0) (p := 9) (id := 209) (n := 7) hX cls0 (vk121 (by omega)) (dec_of D_X9_year (i := 2) rfl) rfl rfl wd_239 ?_
  refine s_sipush (v := 9999) (n := 10) hX (dec_of D_X9_year (i := 3) rfl) rfl (by decide) ?_
  refine s_icmp_lt (tgt := 16) (n := 13) hX (dec_of D_X9_year (i := 4) rfl) rfl rfl ?_ ?_
  · refine s_aload_n 0 (n := 17) hX (dec_of D_X9_year (i := 7) rfl) rfl rfl rfl ?_
    refine s_getC (c := 9) (p := 2) (n := 20) 123 0 hX cls9 (vk130 (by omega)) (dec_of D_X9_year (i := 8) rfl) rfl rfl (by decide) wd_443 ?_
    refine s_aload_n 0 (n := 21) hX (dec_of D_X9_year (i := 9) rfl) rfl rfl rfl ?_
    refine s_getC (c := 9) (p := 1) (n := 24) 121 0 hX cls9 (vk130 (by omega)) (dec_of D_X9_year (i := 10) rfl) rfl rfl (by decide) wd_442 ?_
    refine s_callVV (c := 2) (n := 27) hX cls2 (vk123 (by omega)) lk_RX9_292 (dec_of D_X9_year (i := 11) rfl) rfl (by decide) (c_X2_remember (l := _) hG _ _ (by omega)) rfl rfl (Nat.le_of_ble_eq_true rfl) (fun q1 => ?_)
    refine s_aload_n 0 (n := 28) hX (dec_of D_X9_year (i := 12) rfl) rfl rfl rfl ?_
    refine s_getC (c := 9) (p := 1) (n := 31) 121 0 hX cls9 (vk130 (by omega)) (dec_of D_X9_year (i := 13) rfl) rfl rfl (by decide) wd_442 ?_
    refine s_aload_n 0 (n := 32) hX (dec_of D_X9_year (i := 14) rfl) rfl rfl rfl ?_
    refine s_getQ (c := 9) (p := 7) (j := 0) (n := 35) hX cls9 (vk130 (by omega)) (dec_of D_X9_year (i := 15) rfl) rfl rfl wd_448 (fun rr2 hrr2 => ?_)
    refine s_callVP (c := 0) (n := 38) hX cls0 (vk121 (by omega)) lk_RX9_303 (dec_of D_X9_year (i := 16) rfl) rfl (by decide) (c_X0_passYear (l := _) hG _ _ (by omega) _ (by omega)) rfl rfl (Nat.le_of_ble_eq_true rfl) (fun q3 => ?_)
    exact s_iret hX hR (dec_of D_X9_year (i := 17) rfl) rfl
  · refine s_bipush (v := (-2)) (n := 15) hX (dec_of D_X9_year (i := 5) rfl) rfl (by decide) ?_
    exact s_iret hX hR (dec_of D_X9_year (i := 6) rfl) rfl
theorem lk_RX9_310 : LkV RX9 310 RX8 yX8_firstOpen cX8_firstOpen 4 (some .int) 2 := ⟨wd_914, wd_915, wd_916, wd_87, wd_917, by decide +kernel, by decide⟩
def T_X9_claimBar : List (Nat × Instr × Nat) := [(0, .aload_n 0, 1), (1, .iload_n 1, 1), (2, .invokevirtual 148, 3), (5, .ifCond .eq 11, 3), (8, .aload_n 0, 1), (9, .iload_n 2, 1), (10, .invokevirtual 174, 3), (13, .ifCond .ne 5, 3), (16, .iconst (-1), 1), (17, .ireturn, 1), (18, .aload_n 0, 1), (19, .getfield 19, 3), (22, .getfield 113, 3), (25, .aload_n 0, 1), (26, .getfield 61, 3), (29, .iload_n 1, 1), (30, .iload_n 2, 1), (31, .invokevirtual 223, 3), (34, .ifCond .lt 6, 3), (37, .bipush (-2), 2), (39, .ireturn, 1), (40, .aload_n 0, 1), (41, .getfield 19, 3), (44, .getfield 113, 3), (47, .aload_n 0, 1), (48, .getfield 61, 3), (51, .iload_n 2, 1), (52, .invokevirtual 310, 3), (55, .ifCond .ge 8, 3), (58, .bipush (-3), 2), (60, .goto 4, 3), (63, .iconst 0, 1), (64, .ireturn, 1)]
theorem D_X9_claimBar : dchk cX9_claimBar T_X9_claimBar = true := by decide +kernel
def Rp_claimBar (σ : ST) (a1 : Int32) (a2 : Int32) : Option Int32 :=
  bd_ (Rp_isPlayer (σ) a1) (fun q1 => (if q1 = 0 then some (-1) else bd_ (Rp_isSession (σ) a2) (fun q2 => (if q2 = 0 then some (-1) else bd_ (ldQ σ 0) (fun rr3 => bd_ (Wo_roleIn (σ) 0 rr3 a1 a2) (fun q4 => (if q4 < 0 then bd_ (ldQ σ 0) (fun rr5 => bd_ (Wo_firstOpen (σ) 0 rr5 a2) (fun q6 => (if 0 ≤ q6 then some 0 else some (-3)))) else some (-2))))))))
set_option maxHeartbeats 4000000 in
set_option maxRecDepth 100000 in
theorem c_X9_claimBar {G : GW} (hG : Good G) {l : Launch} (σ : ST) (a1 : Int32) (a2 : Int32) : Ctr G l yX9_claimBar cX9_claimBar 3 (some .int) 2 [.ref (ga G 130 0), .int a1, .int a2] σ (oI σ) (Rp_claimBar σ a1 a2) := by
  refine ctr_of hG (by decide) (Nat.le_of_ble_eq_true rfl) ?_
  intro X hXl hR hX
  have hX : Ok G X cX9_claimBar 3 RX9 2 := hX
  unfold Rp_claimBar
  show Sim G X 3 (MQX G X (oI σ)) σ 0 [(0, .ref (ga G 130 0)), (1, .int a1), (2, .int a2)] [] _
  refine s_aload_n 0 (n := 1) hX (dec_of D_X9_claimBar (i := 0) rfl) rfl rfl rfl ?_
  refine s_iload_n 1 (n := 2) hX (dec_of D_X9_claimBar (i := 1) rfl) rfl rfl rfl ?_
  refine s_callVI (c := 9) (n := 5) hX cls9 (vk130 (by omega)) lk_RX9_148 (dec_of D_X9_claimBar (i := 2) rfl) rfl (by decide) (c_X9_isPlayer (l := _) hG _ _) rfl rfl (Nat.le_of_ble_eq_true rfl) (fun q1 => ?_)
  refine s_if_eq (tgt := 16) (n := 8) hX (dec_of D_X9_claimBar (i := 3) rfl) rfl rfl ?_ ?_
  · refine s_iconst (v := (-1)) (n := 17) hX (dec_of D_X9_claimBar (i := 8) rfl) rfl (by decide) ?_
    exact s_iret hX hR (dec_of D_X9_claimBar (i := 9) rfl) rfl
  · refine s_aload_n 0 (n := 9) hX (dec_of D_X9_claimBar (i := 4) rfl) rfl rfl rfl ?_
    refine s_iload_n 2 (n := 10) hX (dec_of D_X9_claimBar (i := 5) rfl) rfl rfl rfl ?_
    refine s_callVI (c := 9) (n := 13) hX cls9 (vk130 (by omega)) lk_RX9_174 (dec_of D_X9_claimBar (i := 6) rfl) rfl (by decide) (c_X9_isSession (l := _) hG _ _) rfl rfl (Nat.le_of_ble_eq_true rfl) (fun q2 => ?_)
    refine s_if_ne (tgt := 18) (n := 16) hX (dec_of D_X9_claimBar (i := 7) rfl) rfl rfl ?_ ?_
    · refine s_aload_n 0 (n := 19) hX (dec_of D_X9_claimBar (i := 10) rfl) rfl rfl rfl ?_
      refine s_getC (c := 9) (p := 1) (n := 22) 121 0 hX cls9 (vk130 (by omega)) (dec_of D_X9_claimBar (i := 11) rfl) rfl rfl (by decide) wd_442 ?_
      refine s_getR (c := 0) (p := 0) (k' := 129) (n := 25) hX cls0 (vk121 (by omega)) (dec_of D_X9_claimBar (i := 12) rfl) rfl rfl wd_219 ?_
      refine s_aload_n 0 (n := 26) hX (dec_of D_X9_claimBar (i := 13) rfl) rfl rfl rfl ?_
      refine s_getQ (c := 9) (p := 7) (j := 0) (n := 29) hX cls9 (vk130 (by omega)) (dec_of D_X9_claimBar (i := 14) rfl) rfl rfl wd_448 (fun rr3 hrr3 => ?_)
      refine s_iload_n 1 (n := 30) hX (dec_of D_X9_claimBar (i := 15) rfl) rfl rfl rfl ?_
      refine s_iload_n 2 (n := 31) hX (dec_of D_X9_claimBar (i := 16) rfl) rfl rfl rfl ?_
      refine s_callVI (c := 8) (n := 34) hX cls8 (vk129 (by omega)) lk_RX9_223 (dec_of D_X9_claimBar (i := 17) rfl) rfl (by decide) (c_X8_roleIn (l := _) hG _ _ (by omega) _ (by omega) _ _) rfl rfl (Nat.le_of_ble_eq_true rfl) (fun q4 => ?_)
      refine s_if_lt (tgt := 40) (n := 37) hX (dec_of D_X9_claimBar (i := 18) rfl) rfl rfl ?_ ?_
      · refine s_aload_n 0 (n := 41) hX (dec_of D_X9_claimBar (i := 21) rfl) rfl rfl rfl ?_
        refine s_getC (c := 9) (p := 1) (n := 44) 121 0 hX cls9 (vk130 (by omega)) (dec_of D_X9_claimBar (i := 22) rfl) rfl rfl (by decide) wd_442 ?_
        refine s_getR (c := 0) (p := 0) (k' := 129) (n := 47) hX cls0 (vk121 (by omega)) (dec_of D_X9_claimBar (i := 23) rfl) rfl rfl wd_219 ?_
        refine s_aload_n 0 (n := 48) hX (dec_of D_X9_claimBar (i := 24) rfl) rfl rfl rfl ?_
        refine s_getQ (c := 9) (p := 7) (j := 0) (n := 51) hX cls9 (vk130 (by omega)) (dec_of D_X9_claimBar (i := 25) rfl) rfl rfl wd_448 (fun rr5 hrr5 => ?_)
        refine s_iload_n 2 (n := 52) hX (dec_of D_X9_claimBar (i := 26) rfl) rfl rfl rfl ?_
        refine s_callVI (c := 8) (n := 55) hX cls8 (vk129 (by omega)) lk_RX9_310 (dec_of D_X9_claimBar (i := 27) rfl) rfl (by decide) (c_X8_firstOpen (l := _) hG _ _ (by omega) _ (by omega) _) rfl rfl (Nat.le_of_ble_eq_true rfl) (fun q6 => ?_)
        refine s_if_ge (tgt := 63) (n := 58) hX (dec_of D_X9_claimBar (i := 28) rfl) rfl rfl ?_ ?_
        · refine s_iconst (v := 0) (n := 64) hX (dec_of D_X9_claimBar (i := 31) rfl) rfl (by decide) ?_
          exact s_iret hX hR (dec_of D_X9_claimBar (i := 32) rfl) rfl
        · refine s_bipush (v := (-3)) (n := 60) hX (dec_of D_X9_claimBar (i := 29) rfl) rfl (by decide) ?_
          refine s_goto (n := 64) hX (dec_of D_X9_claimBar (i := 30) rfl) rfl ?_
          exact s_iret hX hR (dec_of D_X9_claimBar (i := 32) rfl) rfl
      · refine s_bipush (v := (-2)) (n := 39) hX (dec_of D_X9_claimBar (i := 19) rfl) rfl (by decide) ?_
        exact s_iret hX hR (dec_of D_X9_claimBar (i := 20) rfl) rfl
    · refine s_iconst (v := (-1)) (n := 17) hX (dec_of D_X9_claimBar (i := 8) rfl) rfl (by decide) ?_
      exact s_iret hX hR (dec_of D_X9_claimBar (i := 9) rfl) rfl
theorem lk_RX9_306 : LkV RX9 306 RX9 yX9_claimBar cX9_claimBar 3 (some .int) 2 := ⟨wd_910, wd_912, wd_6, wd_83, wd_913, by decide +kernel, by decide⟩
theorem lk_RX9_313 : LkV RX9 313 RX0 yX0_enterClaim cX0_enterClaim 9 (some .int) 4 := ⟨wd_918, wd_919, wd_920, wd_86, wd_921, by decide +kernel, by decide⟩
def T_X9_claim : List (Nat × Instr × Nat) := [(0, .aload_n 0, 1), (1, .iload_n 1, 1), (2, .iload_n 2, 1), (3, .invokevirtual 306, 3), (6, .istore_n 3, 1), (7, .iload_n 3, 1), (8, .ifCond .eq 5, 3), (11, .iload_n 3, 1), (12, .ireturn, 1), (13, .aload_n 0, 1), (14, .getfield 26, 3), (17, .aload_n 0, 1), (18, .getfield 19, 3), (21, .invokevirtual 292, 3), (24, .aload_n 0, 1), (25, .getfield 19, 3), (28, .aload_n 0, 1), (29, .getfield 61, 3), (32, .iload_n 1, 1), (33, .iload_n 2, 1), (34, .aload_n 0, 1), (35, .getfield 19, 3), (38, .getfield 113, 3), (41, .aload_n 0, 1), (42, .getfield 61, 3), (45, .iload_n 2, 1), (46, .invokevirtual 310, 3), (49, .invokevirtual 313, 3), (52, .ireturn, 1)]
theorem D_X9_claim : dchk cX9_claim T_X9_claim = true := by decide +kernel
def Rp_claim (σ : ST) (a1 : Int32) (a2 : Int32) : Option (Int32 × ST) :=
  bd_ (Rp_claimBar (σ) a1 a2) (fun q1 => (if q1 = 0 then bd_ (Hi_remember (σ) 0) (fun q2 => bd_ (ldQ q2 0) (fun rr3 => bd_ (ldQ q2 0) (fun rr4 => bd_ (Wo_firstOpen q2 0 rr4 a2) (fun q5 => bd_ (Bk_enterClaim q2 0 rr3 a1 a2 q5) (fun q6 => some (q6.1, q6.2)))))) else some (q1, σ)))
set_option maxHeartbeats 4000000 in
set_option maxRecDepth 100000 in
theorem c_X9_claim {G : GW} (hG : Good G) {l : Launch} (σ : ST) (a1 : Int32) (a2 : Int32) : Ctr G l yX9_claim cX9_claim 4 (some .int) 4 [.ref (ga G 130 0), .int a1, .int a2] σ oP (Rp_claim σ a1 a2) := by
  refine ctr_of hG (by decide) (Nat.le_of_ble_eq_true rfl) ?_
  intro X hXl hR hX
  have hX : Ok G X cX9_claim 4 RX9 4 := hX
  unfold Rp_claim
  show Sim G X 4 (MQX G X oP) σ 0 [(0, .ref (ga G 130 0)), (1, .int a1), (2, .int a2)] [] _
  refine s_aload_n 0 (n := 1) hX (dec_of D_X9_claim (i := 0) rfl) rfl rfl rfl ?_
  refine s_iload_n 1 (n := 2) hX (dec_of D_X9_claim (i := 1) rfl) rfl rfl rfl ?_
  refine s_iload_n 2 (n := 3) hX (dec_of D_X9_claim (i := 2) rfl) rfl rfl rfl ?_
  refine s_callVI (c := 9) (n := 6) hX cls9 (vk130 (by omega)) lk_RX9_306 (dec_of D_X9_claim (i := 3) rfl) rfl (by decide) (c_X9_claimBar (l := _) hG _ _ _) rfl rfl (Nat.le_of_ble_eq_true rfl) (fun q1 => ?_)
  refine s_istore_n (lv' := [(0, _), (1, _), (2, _), (3, _)]) [1, 2, 3, 0] (n := 7) hX (dec_of D_X9_claim (i := 4) rfl) rfl rfl (by decide) rfl ?_
  refine s_iload_n 3 (n := 8) hX (dec_of D_X9_claim (i := 5) rfl) rfl rfl rfl ?_
  refine s_if_eq (tgt := 13) (n := 11) hX (dec_of D_X9_claim (i := 6) rfl) rfl rfl ?_ ?_
  · refine s_aload_n 0 (n := 14) hX (dec_of D_X9_claim (i := 9) rfl) rfl rfl rfl ?_
    refine s_getC (c := 9) (p := 2) (n := 17) 123 0 hX cls9 (vk130 (by omega)) (dec_of D_X9_claim (i := 10) rfl) rfl rfl (by decide) wd_443 ?_
    refine s_aload_n 0 (n := 18) hX (dec_of D_X9_claim (i := 11) rfl) rfl rfl rfl ?_
    refine s_getC (c := 9) (p := 1) (n := 21) 121 0 hX cls9 (vk130 (by omega)) (dec_of D_X9_claim (i := 12) rfl) rfl rfl (by decide) wd_442 ?_
    refine s_callVV (c := 2) (n := 24) hX cls2 (vk123 (by omega)) lk_RX9_292 (dec_of D_X9_claim (i := 13) rfl) rfl (by decide) (c_X2_remember (l := _) hG _ _ (by omega)) rfl rfl (Nat.le_of_ble_eq_true rfl) (fun q2 => ?_)
    refine s_aload_n 0 (n := 25) hX (dec_of D_X9_claim (i := 14) rfl) rfl rfl rfl ?_
    refine s_getC (c := 9) (p := 1) (n := 28) 121 0 hX cls9 (vk130 (by omega)) (dec_of D_X9_claim (i := 15) rfl) rfl rfl (by decide) wd_442 ?_
    refine s_aload_n 0 (n := 29) hX (dec_of D_X9_claim (i := 16) rfl) rfl rfl rfl ?_
    refine s_getQ (c := 9) (p := 7) (j := 0) (n := 32) hX cls9 (vk130 (by omega)) (dec_of D_X9_claim (i := 17) rfl) rfl rfl wd_448 (fun rr3 hrr3 => ?_)
    refine s_iload_n 1 (n := 33) hX (dec_of D_X9_claim (i := 18) rfl) rfl rfl rfl ?_
    refine s_iload_n 2 (n := 34) hX (dec_of D_X9_claim (i := 19) rfl) rfl rfl rfl ?_
    refine s_aload_n 0 (n := 35) hX (dec_of D_X9_claim (i := 20) rfl) rfl rfl rfl ?_
    refine s_getC (c := 9) (p := 1) (n := 38) 121 0 hX cls9 (vk130 (by omega)) (dec_of D_X9_claim (i := 21) rfl) rfl rfl (by decide) wd_442 ?_
    refine s_getR (c := 0) (p := 0) (k' := 129) (n := 41) hX cls0 (vk121 (by omega)) (dec_of D_X9_claim (i := 22) rfl) rfl rfl wd_219 ?_
    refine s_aload_n 0 (n := 42) hX (dec_of D_X9_claim (i := 23) rfl) rfl rfl rfl ?_
    refine s_getQ (c := 9) (p := 7) (j := 0) (n := 45) hX cls9 (vk130 (by omega)) (dec_of D_X9_claim (i := 24) rfl) rfl rfl wd_448 (fun rr4 hrr4 => ?_)
    refine s_iload_n 2 (n := 46) hX (dec_of D_X9_claim (i := 25) rfl) rfl rfl rfl ?_
    refine s_callVI (c := 8) (n := 49) hX cls8 (vk129 (by omega)) lk_RX9_310 (dec_of D_X9_claim (i := 26) rfl) rfl (by decide) (c_X8_firstOpen (l := _) hG _ _ (by omega) _ (by omega) _) rfl rfl (Nat.le_of_ble_eq_true rfl) (fun q5 => ?_)
    refine s_callVP (c := 0) (n := 52) hX cls0 (vk121 (by omega)) lk_RX9_313 (dec_of D_X9_claim (i := 27) rfl) rfl (by decide) (c_X0_enterClaim (l := _) hG _ _ (by omega) _ (by omega) _ _ _) rfl rfl (Nat.le_of_ble_eq_true rfl) (fun q6 => ?_)
    exact s_iret hX hR (dec_of D_X9_claim (i := 28) rfl) rfl
  · refine s_iload_n 3 (n := 12) hX (dec_of D_X9_claim (i := 7) rfl) rfl rfl rfl ?_
    exact s_iret hX hR (dec_of D_X9_claim (i := 8) rfl) rfl
theorem lk_RX9_427 : LkV RX9 427 RX0 yX0_weightIn cX0_weightIn 5 (some .int) 2 := ⟨wd_943, wd_944, wd_945, wd_86, wd_946, by decide +kernel, by decide⟩
def T_X9_partBar : List (Nat × Instr × Nat) := [(0, .aload_n 0, 1), (1, .iload_n 1, 1), (2, .invokevirtual 102, 3), (5, .ifCond .ne 5, 3), (8, .iconst (-1), 1), (9, .ireturn, 1), (10, .aload_n 0, 1), (11, .getfield 19, 3), (14, .getfield 126, 3), (17, .iload_n 1, 1), (18, .iaload, 1), (19, .ifCond .ne 6, 3), (22, .bipush (-2), 2), (24, .ireturn, 1), (25, .aload_n 0, 1), (26, .getfield 19, 3), (29, .aload_n 0, 1), (30, .getfield 61, 3), (33, .iload_n 1, 1), (34, .invokevirtual 427, 3), (37, .ifCond .ne 8, 3), (40, .bipush (-3), 2), (42, .goto 4, 3), (45, .iconst 0, 1), (46, .ireturn, 1)]
theorem D_X9_partBar : dchk cX9_partBar T_X9_partBar = true := by decide +kernel
def Rp_partBar (σ : ST) (a1 : Int32) : Option Int32 :=
  bd_ (Rp_isLand (σ) a1) (fun q1 => (if q1 = 0 then some (-1) else bd_ (ldI σ 0 0 a1) (fun v2 => (if v2 = 0 then some (-2) else bd_ (ldQ σ 0) (fun rr3 => bd_ (Bk_weightIn (σ) 0 rr3 a1) (fun q4 => (if q4 = 0 then some (-3) else some 0)))))))
set_option maxHeartbeats 4000000 in
set_option maxRecDepth 100000 in
theorem c_X9_partBar {G : GW} (hG : Good G) {l : Launch} (σ : ST) (a1 : Int32) : Ctr G l yX9_partBar cX9_partBar 2 (some .int) 1 [.ref (ga G 130 0), .int a1] σ (oI σ) (Rp_partBar σ a1) := by
  refine ctr_of hG (by decide) (Nat.le_of_ble_eq_true rfl) ?_
  intro X hXl hR hX
  have hX : Ok G X cX9_partBar 2 RX9 1 := hX
  unfold Rp_partBar
  show Sim G X 2 (MQX G X (oI σ)) σ 0 [(0, .ref (ga G 130 0)), (1, .int a1)] [] _
  refine s_aload_n 0 (n := 1) hX (dec_of D_X9_partBar (i := 0) rfl) rfl rfl rfl ?_
  refine s_iload_n 1 (n := 2) hX (dec_of D_X9_partBar (i := 1) rfl) rfl rfl rfl ?_
  refine s_callVI (c := 9) (n := 5) hX cls9 (vk130 (by omega)) lk_RX9_102 (dec_of D_X9_partBar (i := 2) rfl) rfl (by decide) (c_X9_isLand (l := _) hG _ _) rfl rfl (Nat.le_of_ble_eq_true rfl) (fun q1 => ?_)
  refine s_if_ne (tgt := 10) (n := 8) hX (dec_of D_X9_partBar (i := 3) rfl) rfl rfl ?_ ?_
  · refine s_aload_n 0 (n := 11) hX (dec_of D_X9_partBar (i := 6) rfl) rfl rfl rfl ?_
    refine s_getC (c := 9) (p := 1) (n := 14) 121 0 hX cls9 (vk130 (by omega)) (dec_of D_X9_partBar (i := 7) rfl) rfl rfl (by decide) wd_442 ?_
    refine s_getR (c := 0) (p := 1) (k' := 0) (n := 17) hX cls0 (vk121 (by omega)) (dec_of D_X9_partBar (i := 8) rfl) rfl rfl wd_222 ?_
    refine s_iload_n 1 (n := 18) hX (dec_of D_X9_partBar (i := 9) rfl) rfl rfl rfl ?_
    refine s_iald (n := 19) hX (vk0 (by omega)) (by decide) (dec_of D_X9_partBar (i := 10) rfl) rfl (fun v2 => ?_)
    refine s_if_ne (tgt := 25) (n := 22) hX (dec_of D_X9_partBar (i := 11) rfl) rfl rfl ?_ ?_
    · refine s_aload_n 0 (n := 26) hX (dec_of D_X9_partBar (i := 14) rfl) rfl rfl rfl ?_
      refine s_getC (c := 9) (p := 1) (n := 29) 121 0 hX cls9 (vk130 (by omega)) (dec_of D_X9_partBar (i := 15) rfl) rfl rfl (by decide) wd_442 ?_
      refine s_aload_n 0 (n := 30) hX (dec_of D_X9_partBar (i := 16) rfl) rfl rfl rfl ?_
      refine s_getQ (c := 9) (p := 7) (j := 0) (n := 33) hX cls9 (vk130 (by omega)) (dec_of D_X9_partBar (i := 17) rfl) rfl rfl wd_448 (fun rr3 hrr3 => ?_)
      refine s_iload_n 1 (n := 34) hX (dec_of D_X9_partBar (i := 18) rfl) rfl rfl rfl ?_
      refine s_callVI (c := 0) (n := 37) hX cls0 (vk121 (by omega)) lk_RX9_427 (dec_of D_X9_partBar (i := 19) rfl) rfl (by decide) (c_X0_weightIn (l := _) hG _ _ (by omega) _ (by omega) _) rfl rfl (Nat.le_of_ble_eq_true rfl) (fun q4 => ?_)
      refine s_if_ne (tgt := 45) (n := 40) hX (dec_of D_X9_partBar (i := 20) rfl) rfl rfl ?_ ?_
      · refine s_iconst (v := 0) (n := 46) hX (dec_of D_X9_partBar (i := 23) rfl) rfl (by decide) ?_
        exact s_iret hX hR (dec_of D_X9_partBar (i := 24) rfl) rfl
      · refine s_bipush (v := (-3)) (n := 42) hX (dec_of D_X9_partBar (i := 21) rfl) rfl (by decide) ?_
        refine s_goto (n := 46) hX (dec_of D_X9_partBar (i := 22) rfl) rfl ?_
        exact s_iret hX hR (dec_of D_X9_partBar (i := 24) rfl) rfl
    · refine s_bipush (v := (-2)) (n := 24) hX (dec_of D_X9_partBar (i := 12) rfl) rfl (by decide) ?_
      exact s_iret hX hR (dec_of D_X9_partBar (i := 13) rfl) rfl
  · refine s_iconst (v := (-1)) (n := 9) hX (dec_of D_X9_partBar (i := 4) rfl) rfl (by decide) ?_
    exact s_iret hX hR (dec_of D_X9_partBar (i := 5) rfl) rfl
theorem lk_RX9_395 : LkV RX9 395 RX1 yX1_reckon cX1_reckon 10 none 3 := ⟨wd_951, wd_952, wd_953, wd_91, wd_954, by decide +kernel, by decide⟩
theorem lk_RX9_430 : LkV RX9 430 RX0 yX0_enterPart cX0_enterPart 6 (some .int) 3 := ⟨wd_962, wd_963, wd_964, wd_86, wd_965, by decide +kernel, by decide⟩
def T_X9_partBox : List (Nat × Instr × Nat) := [(0, .aload_n 0, 1), (1, .getfield 54, 3), (4, .aload_n 0, 1), (5, .getfield 61, 3), (8, .aload_n 0, 1), (9, .getfield 19, 3), (12, .iload_n 1, 1), (13, .invokevirtual 395, 3), (16, .aload_n 0, 1), (17, .getfield 19, 3), (20, .aload_n 0, 1), (21, .getfield 61, 3), (24, .aload_n 0, 1), (25, .getfield 54, 3), (28, .iload_n 1, 1), (29, .invokevirtual 430, 3), (32, .ireturn, 1)]
theorem D_X9_partBox : dchk cX9_partBox T_X9_partBox = true := by decide +kernel
def Rp_partBox (σ : ST) (a1 : Int32) : Option (Int32 × ST) :=
  bd_ (ldQ σ 0) (fun rr1 => bd_ (Bs_reckon (σ) rr1 0 a1) (fun q2 => bd_ (ldQ q2 0) (fun rr3 => bd_ (Bk_enterPart q2 0 rr3 a1) (fun q4 => some (q4.1, q4.2)))))
set_option maxHeartbeats 4000000 in
set_option maxRecDepth 100000 in
theorem c_X9_partBox {G : GW} (hG : Good G) {l : Launch} (σ : ST) (a1 : Int32) : Ctr G l yX9_partBox cX9_partBox 2 (some .int) 2 [.ref (ga G 130 0), .int a1] σ oP (Rp_partBox σ a1) := by
  refine ctr_of hG (by decide) (Nat.le_of_ble_eq_true rfl) ?_
  intro X hXl hR hX
  have hX : Ok G X cX9_partBox 2 RX9 2 := hX
  unfold Rp_partBox
  show Sim G X 2 (MQX G X oP) σ 0 [(0, .ref (ga G 130 0)), (1, .int a1)] [] _
  refine s_aload_n 0 (n := 1) hX (dec_of D_X9_partBox (i := 0) rfl) rfl rfl rfl ?_
  refine s_getC (c := 9) (p := 6) (n := 4) 122 0 hX cls9 (vk130 (by omega)) (dec_of D_X9_partBox (i := 1) rfl) rfl rfl (by decide) wd_447 ?_
  refine s_aload_n 0 (n := 5) hX (dec_of D_X9_partBox (i := 2) rfl) rfl rfl rfl ?_
  refine s_getQ (c := 9) (p := 7) (j := 0) (n := 8) hX cls9 (vk130 (by omega)) (dec_of D_X9_partBox (i := 3) rfl) rfl rfl wd_448 (fun rr1 hrr1 => ?_)
  refine s_aload_n 0 (n := 9) hX (dec_of D_X9_partBox (i := 4) rfl) rfl rfl rfl ?_
  refine s_getC (c := 9) (p := 1) (n := 12) 121 0 hX cls9 (vk130 (by omega)) (dec_of D_X9_partBox (i := 5) rfl) rfl rfl (by decide) wd_442 ?_
  refine s_iload_n 1 (n := 13) hX (dec_of D_X9_partBox (i := 6) rfl) rfl rfl rfl ?_
  refine s_callVV (c := 1) (n := 16) hX cls1 (vk122 (by omega)) lk_RX9_395 (dec_of D_X9_partBox (i := 7) rfl) rfl (by decide) (c_X1_reckon (l := _) hG _ _ (by omega) _ (by omega) _) rfl rfl (Nat.le_of_ble_eq_true rfl) (fun q2 => ?_)
  refine s_aload_n 0 (n := 17) hX (dec_of D_X9_partBox (i := 8) rfl) rfl rfl rfl ?_
  refine s_getC (c := 9) (p := 1) (n := 20) 121 0 hX cls9 (vk130 (by omega)) (dec_of D_X9_partBox (i := 9) rfl) rfl rfl (by decide) wd_442 ?_
  refine s_aload_n 0 (n := 21) hX (dec_of D_X9_partBox (i := 10) rfl) rfl rfl rfl ?_
  refine s_getQ (c := 9) (p := 7) (j := 0) (n := 24) hX cls9 (vk130 (by omega)) (dec_of D_X9_partBox (i := 11) rfl) rfl rfl wd_448 (fun rr3 hrr3 => ?_)
  refine s_aload_n 0 (n := 25) hX (dec_of D_X9_partBox (i := 12) rfl) rfl rfl rfl ?_
  refine s_getC (c := 9) (p := 6) (n := 28) 122 0 hX cls9 (vk130 (by omega)) (dec_of D_X9_partBox (i := 13) rfl) rfl rfl (by decide) wd_447 ?_
  refine s_iload_n 1 (n := 29) hX (dec_of D_X9_partBox (i := 14) rfl) rfl rfl rfl ?_
  refine s_callVP (c := 0) (n := 32) hX cls0 (vk121 (by omega)) lk_RX9_430 (dec_of D_X9_partBox (i := 15) rfl) rfl (by decide) (c_X0_enterPart (l := _) hG _ _ (by omega) _ (by omega) _) rfl rfl (Nat.le_of_ble_eq_true rfl) (fun q4 => ?_)
  exact s_iret hX hR (dec_of D_X9_partBox (i := 16) rfl) rfl
theorem lk_RX9_317 : LkV RX9 317 RX9 yX9_partBar cX9_partBar 2 (some .int) 1 := ⟨wd_939, wd_941, wd_7, wd_83, wd_942, by decide +kernel, by decide⟩
theorem lk_RX9_320 : LkV RX9 320 RX9 yX9_partBox cX9_partBox 2 (some .int) 1 := ⟨wd_947, wd_949, wd_8, wd_83, wd_950, by decide +kernel, by decide⟩
def T_X9_part : List (Nat × Instr × Nat) := [(0, .aload_n 0, 1), (1, .iload_n 1, 1), (2, .invokevirtual 317, 3), (5, .istore_n 2, 1), (6, .iload_n 2, 1), (7, .ifCond .eq 5, 3), (10, .iload_n 2, 1), (11, .ireturn, 1), (12, .aload_n 0, 1), (13, .getfield 26, 3), (16, .aload_n 0, 1), (17, .getfield 19, 3), (20, .invokevirtual 292, 3), (23, .aload_n 0, 1), (24, .iload_n 1, 1), (25, .invokevirtual 320, 3), (28, .ireturn, 1)]
theorem D_X9_part : dchk cX9_part T_X9_part = true := by decide +kernel
def Rp_part (σ : ST) (a1 : Int32) : Option (Int32 × ST) :=
  bd_ (Rp_partBar (σ) a1) (fun q1 => (if q1 = 0 then bd_ (Hi_remember (σ) 0) (fun q2 => bd_ (Rp_partBox q2 a1) (fun q3 => some (q3.1, q3.2))) else some (q1, σ)))
set_option maxHeartbeats 4000000 in
set_option maxRecDepth 100000 in
theorem c_X9_part {G : GW} (hG : Good G) {l : Launch} (σ : ST) (a1 : Int32) : Ctr G l yX9_part cX9_part 3 (some .int) 4 [.ref (ga G 130 0), .int a1] σ oP (Rp_part σ a1) := by
  refine ctr_of hG (by decide) (Nat.le_of_ble_eq_true rfl) ?_
  intro X hXl hR hX
  have hX : Ok G X cX9_part 3 RX9 4 := hX
  unfold Rp_part
  show Sim G X 3 (MQX G X oP) σ 0 [(0, .ref (ga G 130 0)), (1, .int a1)] [] _
  refine s_aload_n 0 (n := 1) hX (dec_of D_X9_part (i := 0) rfl) rfl rfl rfl ?_
  refine s_iload_n 1 (n := 2) hX (dec_of D_X9_part (i := 1) rfl) rfl rfl rfl ?_
  refine s_callVI (c := 9) (n := 5) hX cls9 (vk130 (by omega)) lk_RX9_317 (dec_of D_X9_part (i := 2) rfl) rfl (by decide) (c_X9_partBar (l := _) hG _ _) rfl rfl (Nat.le_of_ble_eq_true rfl) (fun q1 => ?_)
  refine s_istore_n (lv' := [(0, _), (1, _), (2, _)]) [1, 2, 0] (n := 6) hX (dec_of D_X9_part (i := 3) rfl) rfl rfl (by decide) rfl ?_
  refine s_iload_n 2 (n := 7) hX (dec_of D_X9_part (i := 4) rfl) rfl rfl rfl ?_
  refine s_if_eq (tgt := 12) (n := 10) hX (dec_of D_X9_part (i := 5) rfl) rfl rfl ?_ ?_
  · refine s_aload_n 0 (n := 13) hX (dec_of D_X9_part (i := 8) rfl) rfl rfl rfl ?_
    refine s_getC (c := 9) (p := 2) (n := 16) 123 0 hX cls9 (vk130 (by omega)) (dec_of D_X9_part (i := 9) rfl) rfl rfl (by decide) wd_443 ?_
    refine s_aload_n 0 (n := 17) hX (dec_of D_X9_part (i := 10) rfl) rfl rfl rfl ?_
    refine s_getC (c := 9) (p := 1) (n := 20) 121 0 hX cls9 (vk130 (by omega)) (dec_of D_X9_part (i := 11) rfl) rfl rfl (by decide) wd_442 ?_
    refine s_callVV (c := 2) (n := 23) hX cls2 (vk123 (by omega)) lk_RX9_292 (dec_of D_X9_part (i := 12) rfl) rfl (by decide) (c_X2_remember (l := _) hG _ _ (by omega)) rfl rfl (Nat.le_of_ble_eq_true rfl) (fun q2 => ?_)
    refine s_aload_n 0 (n := 24) hX (dec_of D_X9_part (i := 13) rfl) rfl rfl rfl ?_
    refine s_iload_n 1 (n := 25) hX (dec_of D_X9_part (i := 14) rfl) rfl rfl rfl ?_
    refine s_callVP (c := 9) (n := 28) hX cls9 (vk130 (by omega)) lk_RX9_320 (dec_of D_X9_part (i := 15) rfl) rfl (by decide) (c_X9_partBox (l := _) hG _ _) rfl rfl (Nat.le_of_ble_eq_true rfl) (fun q3 => ?_)
    exact s_iret hX hR (dec_of D_X9_part (i := 16) rfl) rfl
  · refine s_iload_n 2 (n := 11) hX (dec_of D_X9_part (i := 6) rfl) rfl rfl rfl ?_
    exact s_iret hX hR (dec_of D_X9_part (i := 7) rfl) rfl
def T_X9_partAll : List (Nat × Instr × Nat) := [(0, .iconst 0, 1), (1, .istore_n 1, 1), (2, .iconst 0, 1), (3, .istore_n 2, 1), (4, .iload_n 2, 1), (5, .aload_n 0, 1), (6, .getfield 61, 3), (9, .getfield 229, 3), (12, .if_icmp .ge 27, 3), (15, .iload_n 1, 1), (16, .ifCond .ne 11, 3), (19, .aload_n 0, 1), (20, .iload_n 2, 1), (21, .invokevirtual 317, 3), (24, .ifCond .ne 7, 3), (27, .iconst 1, 1), (28, .goto 4, 3), (31, .iconst 0, 1), (32, .istore_n 1, 1), (33, .iinc 2 1, 3), (36, .goto (-32), 3), (39, .iload_n 1, 1), (40, .ifCond .ne 6, 3), (43, .bipush (-2), 2), (45, .ireturn, 1), (46, .aload_n 0, 1), (47, .getfield 26, 3), (50, .aload_n 0, 1), (51, .getfield 19, 3), (54, .invokevirtual 292, 3), (57, .iconst 0, 1), (58, .istore_n 2, 1), (59, .iconst 0, 1), (60, .istore_n 3, 1), (61, .iload_n 3, 1), (62, .aload_n 0, 1), (63, .getfield 61, 3), (66, .getfield 229, 3), (69, .if_icmp .ge 25, 3), (72, .aload_n 0, 1), (73, .iload_n 3, 1), (74, .invokevirtual 317, 3), (77, .ifCond .ne 11, 3), (80, .iload_n 2, 1), (81, .aload_n 0, 1), (82, .iload_n 3, 1), (83, .invokevirtual 320, 3), (86, .iadd, 1), (87, .istore_n 2, 1), (88, .iinc 3 1, 3), (91, .goto (-30), 3), (94, .iload_n 2, 1), (95, .ireturn, 1)]
theorem D_X9_partAll : dchk cX9_partAll T_X9_partAll = true := by decide +kernel
def Rp_partAll (σ : ST)  : Option (Int32 × ST) :=
  lp_ (fun rec2 (z1 : Int32 × Int32) => bd_ (ldQ σ 0) (fun rr4 => (if (gF σ 529 rr4) ≤ z1.2 then (if z1.1 = 0 then some ((-2), σ) else bd_ (Hi_remember (σ) 0) (fun q5 => lp_ (fun rec7 (z6 : ST × Int32 × Int32) => bd_ (ldQ z6.1 0) (fun rr9 => (if (gF z6.1 529 rr9) ≤ z6.2.2 then some (z6.2.1, z6.1) else bd_ (Rp_partBar z6.1 z6.2.2) (fun q10 => (if q10 = 0 then bd_ (Rp_partBox z6.1 z6.2.2) (fun q11 => lt_ ((z6.2.1 + q11.1)) (fun x12 => rec7 (q11.2, x12, (z6.2.2 + 1)))) else rec7 (z6.1, z6.2.1, (z6.2.2 + 1))))))) FU (q5, 0, 0))) else (if z1.1 = 0 then bd_ (Rp_partBar (σ) z1.2) (fun q13 => (if q13 = 0 then rec2 (1, (z1.2 + 1)) else rec2 (0, (z1.2 + 1)))) else rec2 (1, (z1.2 + 1)))))) FU (0, 0)
set_option maxHeartbeats 4000000 in
set_option maxRecDepth 100000 in
theorem c_X9_partAll {G : GW} (hG : Good G) {l : Launch} (σ : ST)  : Ctr G l yX9_partAll cX9_partAll 4 (some .int) 4 [.ref (ga G 130 0)] σ oP (Rp_partAll σ ) := by
  refine ctr_of hG (by decide) (Nat.le_of_ble_eq_true rfl) ?_
  intro X hXl hR hX
  have hX : Ok G X cX9_partAll 4 RX9 4 := hX
  unfold Rp_partAll
  show Sim G X 4 (MQX G X oP) σ 0 [(0, .ref (ga G 130 0))] [] _
  refine s_iconst (v := 0) (n := 1) hX (dec_of D_X9_partAll (i := 0) rfl) rfl (by decide) ?_
  refine s_istore_n (lv' := [(0, _), (1, _)]) [1, 0] (n := 2) hX (dec_of D_X9_partAll (i := 1) rfl) rfl rfl (by decide) rfl ?_
  refine s_iconst (v := 0) (n := 3) hX (dec_of D_X9_partAll (i := 2) rfl) rfl (by decide) ?_
  refine s_istore_n (lv' := [(0, _), (1, _), (2, _)]) [1, 2, 0] (n := 4) hX (dec_of D_X9_partAll (i := 3) rfl) rfl rfl (by decide) rfl ?_
  refine s_sub [0, 1, 2] rfl (s_lp (pc := 4) (Sf := fun (z1 : Int32 × Int32) => σ) (lvf := fun (z1 : Int32 × Int32) => [(0, .ref (ga G 130 0)), (1, .int z1.1), (2, .int z1.2)]) (fun rec2 hre3 z1 => ?_) FU (0, 0))
  refine s_iload_n 2 (n := 5) hX (dec_of D_X9_partAll (i := 4) rfl) rfl rfl rfl ?_
  refine s_aload_n 0 (n := 6) hX (dec_of D_X9_partAll (i := 5) rfl) rfl rfl rfl ?_
  refine s_getQ (c := 9) (p := 7) (j := 0) (n := 9) hX cls9 (vk130 (by omega)) (dec_of D_X9_partAll (i := 6) rfl) rfl rfl wd_448 (fun rr4 hrr4 => ?_)
  refine s_getI (c := 5) (p := 9) (id := 529) (n := 12) hX cls5 (vk126 (by omega)) (dec_of D_X9_partAll (i := 7) rfl) rfl rfl wd_392 ?_
  refine s_icmp_ge (tgt := 39) (n := 15) hX (dec_of D_X9_partAll (i := 8) rfl) rfl rfl ?_ ?_
  · refine s_iload_n 1 (n := 40) hX (dec_of D_X9_partAll (i := 21) rfl) rfl rfl rfl ?_
    refine s_if_ne (tgt := 46) (n := 43) hX (dec_of D_X9_partAll (i := 22) rfl) rfl rfl ?_ ?_
    · refine s_aload_n 0 (n := 47) hX (dec_of D_X9_partAll (i := 25) rfl) rfl rfl rfl ?_
      refine s_getC (c := 9) (p := 2) (n := 50) 123 0 hX cls9 (vk130 (by omega)) (dec_of D_X9_partAll (i := 26) rfl) rfl rfl (by decide) wd_443 ?_
      refine s_aload_n 0 (n := 51) hX (dec_of D_X9_partAll (i := 27) rfl) rfl rfl rfl ?_
      refine s_getC (c := 9) (p := 1) (n := 54) 121 0 hX cls9 (vk130 (by omega)) (dec_of D_X9_partAll (i := 28) rfl) rfl rfl (by decide) wd_442 ?_
      refine s_callVV (c := 2) (n := 57) hX cls2 (vk123 (by omega)) lk_RX9_292 (dec_of D_X9_partAll (i := 29) rfl) rfl (by decide) (c_X2_remember (l := _) hG _ _ (by omega)) rfl rfl (Nat.le_of_ble_eq_true rfl) (fun q5 => ?_)
      refine s_iconst (v := 0) (n := 58) hX (dec_of D_X9_partAll (i := 30) rfl) rfl (by decide) ?_
      refine s_istore_n (lv' := [(0, _), (1, _), (2, _)]) [1, 2, 0] (n := 59) hX (dec_of D_X9_partAll (i := 31) rfl) rfl rfl (by decide) rfl ?_
      refine s_iconst (v := 0) (n := 60) hX (dec_of D_X9_partAll (i := 32) rfl) rfl (by decide) ?_
      refine s_istore_n (lv' := [(0, _), (1, _), (2, _), (3, _)]) [1, 2, 3, 0] (n := 61) hX (dec_of D_X9_partAll (i := 33) rfl) rfl rfl (by decide) rfl ?_
      refine s_sub [0, 2, 3] rfl (s_lp (pc := 61) (Sf := fun (z6 : ST × Int32 × Int32) => z6.1) (lvf := fun (z6 : ST × Int32 × Int32) => [(0, .ref (ga G 130 0)), (2, .int z6.2.1), (3, .int z6.2.2)]) (fun rec7 hre8 z6 => ?_) FU (q5, 0, 0))
      refine s_iload_n 2 (n := 62) hX (dec_of D_X9_partAll (i := 34) rfl) rfl rfl rfl ?_
      refine s_aload_n 0 (n := 63) hX (dec_of D_X9_partAll (i := 35) rfl) rfl rfl rfl ?_
      refine s_getQ (c := 9) (p := 7) (j := 0) (n := 66) hX cls9 (vk130 (by omega)) (dec_of D_X9_partAll (i := 36) rfl) rfl rfl wd_448 (fun rr9 hrr9 => ?_)
      refine s_getI (c := 5) (p := 9) (id := 529) (n := 69) hX cls5 (vk126 (by omega)) (dec_of D_X9_partAll (i := 37) rfl) rfl rfl wd_392 ?_
      refine s_icmp_ge (tgt := 94) (n := 72) hX (dec_of D_X9_partAll (i := 38) rfl) rfl rfl ?_ ?_
      · refine s_iload_n 1 (n := 95) hX (dec_of D_X9_partAll (i := 51) rfl) rfl rfl rfl ?_
        exact s_iret hX hR (dec_of D_X9_partAll (i := 52) rfl) rfl
      · refine s_aload_n 0 (n := 73) hX (dec_of D_X9_partAll (i := 39) rfl) rfl rfl rfl ?_
        refine s_iload_n 2 (n := 74) hX (dec_of D_X9_partAll (i := 40) rfl) rfl rfl rfl ?_
        refine s_callVI (c := 9) (n := 77) hX cls9 (vk130 (by omega)) lk_RX9_317 (dec_of D_X9_partAll (i := 41) rfl) rfl (by decide) (c_X9_partBar (l := _) hG _ _) rfl rfl (Nat.le_of_ble_eq_true rfl) (fun q10 => ?_)
        refine s_if_ne (tgt := 88) (n := 80) hX (dec_of D_X9_partAll (i := 42) rfl) rfl rfl ?_ ?_
        · refine s_iinc (v := z6.2.2 + 1) (lv' := [(0, _), (2, _), (3, _)]) 2 [1, 2, 0] (n := 91) hX (dec_of D_X9_partAll (i := 49) rfl) rfl rfl rfl (by decide) rfl ?_
          refine s_goto (n := 61) hX (dec_of D_X9_partAll (i := 50) rfl) rfl ?_
          exact s_sub [0, 1, 2] rfl (hre8 (z6.1, z6.2.1, (z6.2.2 + 1)))
        · refine s_iload_n 1 (n := 81) hX (dec_of D_X9_partAll (i := 43) rfl) rfl rfl rfl ?_
          refine s_aload_n 0 (n := 82) hX (dec_of D_X9_partAll (i := 44) rfl) rfl rfl rfl ?_
          refine s_iload_n 2 (n := 83) hX (dec_of D_X9_partAll (i := 45) rfl) rfl rfl rfl ?_
          refine s_callVP (c := 9) (n := 86) hX cls9 (vk130 (by omega)) lk_RX9_320 (dec_of D_X9_partAll (i := 46) rfl) rfl (by decide) (c_X9_partBox (l := _) hG _ _) rfl rfl (Nat.le_of_ble_eq_true rfl) (fun q11 => ?_)
          refine s_iadd (n := 87) hX (dec_of D_X9_partAll (i := 47) rfl) rfl ?_
          refine s_topi (fun x12 => ?_)
          refine s_istore_n (lv' := [(0, _), (2, _), (3, _)]) [1, 0, 2] (n := 88) hX (dec_of D_X9_partAll (i := 48) rfl) rfl rfl (by decide) rfl ?_
          refine s_iinc (v := z6.2.2 + 1) (lv' := [(0, _), (2, _), (3, _)]) 2 [1, 2, 0] (n := 91) hX (dec_of D_X9_partAll (i := 49) rfl) rfl rfl rfl (by decide) rfl ?_
          refine s_goto (n := 61) hX (dec_of D_X9_partAll (i := 50) rfl) rfl ?_
          exact s_sub [0, 1, 2] rfl (hre8 (q11.2, x12, (z6.2.2 + 1)))
    · refine s_bipush (v := (-2)) (n := 45) hX (dec_of D_X9_partAll (i := 23) rfl) rfl (by decide) ?_
      exact s_iret hX hR (dec_of D_X9_partAll (i := 24) rfl) rfl
  · refine s_iload_n 1 (n := 16) hX (dec_of D_X9_partAll (i := 9) rfl) rfl rfl rfl ?_
    refine s_if_ne (tgt := 27) (n := 19) hX (dec_of D_X9_partAll (i := 10) rfl) rfl rfl ?_ ?_
    · refine s_iconst (v := 1) (n := 28) hX (dec_of D_X9_partAll (i := 15) rfl) rfl (by decide) ?_
      refine s_goto (n := 32) hX (dec_of D_X9_partAll (i := 16) rfl) rfl ?_
      refine s_istore_n (lv' := [(0, _), (1, _), (2, _)]) [1, 0, 2] (n := 33) hX (dec_of D_X9_partAll (i := 18) rfl) rfl rfl (by decide) rfl ?_
      refine s_iinc (v := z1.2 + 1) (lv' := [(0, _), (1, _), (2, _)]) 2 [1, 2, 0] (n := 36) hX (dec_of D_X9_partAll (i := 19) rfl) rfl rfl rfl (by decide) rfl ?_
      refine s_goto (n := 4) hX (dec_of D_X9_partAll (i := 20) rfl) rfl ?_
      exact s_sub [0, 1, 2] rfl (hre3 (1, (z1.2 + 1)))
    · refine s_aload_n 0 (n := 20) hX (dec_of D_X9_partAll (i := 11) rfl) rfl rfl rfl ?_
      refine s_iload_n 2 (n := 21) hX (dec_of D_X9_partAll (i := 12) rfl) rfl rfl rfl ?_
      refine s_callVI (c := 9) (n := 24) hX cls9 (vk130 (by omega)) lk_RX9_317 (dec_of D_X9_partAll (i := 13) rfl) rfl (by decide) (c_X9_partBar (l := _) hG _ _) rfl rfl (Nat.le_of_ble_eq_true rfl) (fun q13 => ?_)
      refine s_if_ne (tgt := 31) (n := 27) hX (dec_of D_X9_partAll (i := 14) rfl) rfl rfl ?_ ?_
      · refine s_iconst (v := 0) (n := 32) hX (dec_of D_X9_partAll (i := 17) rfl) rfl (by decide) ?_
        refine s_istore_n (lv' := [(0, _), (1, _), (2, _)]) [1, 0, 2] (n := 33) hX (dec_of D_X9_partAll (i := 18) rfl) rfl rfl (by decide) rfl ?_
        refine s_iinc (v := z1.2 + 1) (lv' := [(0, _), (1, _), (2, _)]) 2 [1, 2, 0] (n := 36) hX (dec_of D_X9_partAll (i := 19) rfl) rfl rfl rfl (by decide) rfl ?_
        refine s_goto (n := 4) hX (dec_of D_X9_partAll (i := 20) rfl) rfl ?_
        exact s_sub [0, 1, 2] rfl (hre3 (0, (z1.2 + 1)))
      · refine s_iconst (v := 1) (n := 28) hX (dec_of D_X9_partAll (i := 15) rfl) rfl (by decide) ?_
        refine s_goto (n := 32) hX (dec_of D_X9_partAll (i := 16) rfl) rfl ?_
        refine s_istore_n (lv' := [(0, _), (1, _), (2, _)]) [1, 0, 2] (n := 33) hX (dec_of D_X9_partAll (i := 18) rfl) rfl rfl (by decide) rfl ?_
        refine s_iinc (v := z1.2 + 1) (lv' := [(0, _), (1, _), (2, _)]) 2 [1, 2, 0] (n := 36) hX (dec_of D_X9_partAll (i := 19) rfl) rfl rfl rfl (by decide) rfl ?_
        refine s_goto (n := 4) hX (dec_of D_X9_partAll (i := 20) rfl) rfl ?_
        exact s_sub [0, 1, 2] rfl (hre3 (1, (z1.2 + 1)))
theorem lk_RX9_323 : LkV RX9 323 RX8 yX8_hasTerms cX8_hasTerms 4 (some .boolean) 3 := ⟨wd_974, wd_975, wd_976, wd_87, wd_977, by decide +kernel, by decide⟩
def T_X9_terms : List (Nat × Instr × Nat) := [(0, .aload_n 0, 1), (1, .iload_n 1, 1), (2, .invokevirtual 102, 3), (5, .ifCond .eq 27, 3), (8, .iload_n 2, 1), (9, .iload_n 3, 1), (10, .invokestatic 267, 3), (13, .ifCond .eq 19, 3), (16, .aload_n 0, 1), (17, .getfield 19, 3), (20, .getfield 113, 3), (23, .iload_n 1, 1), (24, .iload_n 2, 1), (25, .iload_n 3, 1), (26, .invokevirtual 323, 3), (29, .ifCond .eq 5, 3), (32, .iconst 0, 1), (33, .ireturn, 1), (34, .aload_n 0, 1), (35, .getfield 26, 3), (38, .aload_n 0, 1), (39, .getfield 19, 3), (42, .invokevirtual 292, 3), (45, .aload_n 0, 1), (46, .getfield 19, 3), (49, .getfield 113, 3), (52, .iload_n 1, 1), (53, .iload_n 2, 1), (54, .iload_n 3, 1), (55, .invokevirtual 274, 3), (58, .iconst 1, 1), (59, .ireturn, 1)]
theorem D_X9_terms : dchk cX9_terms T_X9_terms = true := by decide +kernel
def Rp_terms (σ : ST) (a1 : Int32) (a2 : Int32) (a3 : Int32) : Option (Int32 × ST) :=
  bd_ (Rp_isLand (σ) a1) (fun q1 => (if q1 = 0 then some (0, σ) else bd_ (Rp_areTerms (σ) a2 a3) (fun q2 => (if q2 = 0 then some (0, σ) else bd_ (Wo_hasTerms (σ) 0 a1 a2 a3) (fun q3 => (if q3 = 0 then bd_ (Hi_remember (σ) 0) (fun q4 => bd_ (Wo_setTerms q4 0 a1 a2 a3) (fun q5 => some (1, q5))) else some (0, σ)))))))
set_option maxHeartbeats 4000000 in
set_option maxRecDepth 100000 in
theorem c_X9_terms {G : GW} (hG : Good G) {l : Launch} (σ : ST) (a1 : Int32) (a2 : Int32) (a3 : Int32) : Ctr G l yX9_terms cX9_terms 4 (some .boolean) 4 [.ref (ga G 130 0), .int a1, .int a2, .int a3] σ oP (Rp_terms σ a1 a2 a3) := by
  refine ctr_of hG (by decide) (Nat.le_of_ble_eq_true rfl) ?_
  intro X hXl hR hX
  have hX : Ok G X cX9_terms 4 RX9 4 := hX
  unfold Rp_terms
  show Sim G X 4 (MQX G X oP) σ 0 [(0, .ref (ga G 130 0)), (1, .int a1), (2, .int a2), (3, .int a3)] [] _
  refine s_aload_n 0 (n := 1) hX (dec_of D_X9_terms (i := 0) rfl) rfl rfl rfl ?_
  refine s_iload_n 1 (n := 2) hX (dec_of D_X9_terms (i := 1) rfl) rfl rfl rfl ?_
  refine s_callVI (c := 9) (n := 5) hX cls9 (vk130 (by omega)) lk_RX9_102 (dec_of D_X9_terms (i := 2) rfl) rfl (by decide) (c_X9_isLand (l := _) hG _ _) rfl rfl (Nat.le_of_ble_eq_true rfl) (fun q1 => ?_)
  refine s_if_eq (tgt := 32) (n := 8) hX (dec_of D_X9_terms (i := 3) rfl) rfl rfl ?_ ?_
  · refine s_iconst (v := 0) (n := 33) hX (dec_of D_X9_terms (i := 16) rfl) rfl (by decide) ?_
    exact s_zret hX hR (dec_of D_X9_terms (i := 17) rfl) rfl rfl
  · refine s_iload_n 2 (n := 9) hX (dec_of D_X9_terms (i := 4) rfl) rfl rfl rfl ?_
    refine s_iload_n 3 (n := 10) hX (dec_of D_X9_terms (i := 5) rfl) rfl rfl rfl ?_
    refine s_callSI (n := 13) hX lk_RX9_267 (dec_of D_X9_terms (i := 6) rfl) rfl (by decide) (c_X9_areTerms (l := _) hG _ _ _) rfl rfl (Nat.le_of_ble_eq_true rfl) (fun q2 => ?_)
    refine s_if_eq (tgt := 32) (n := 16) hX (dec_of D_X9_terms (i := 7) rfl) rfl rfl ?_ ?_
    · refine s_iconst (v := 0) (n := 33) hX (dec_of D_X9_terms (i := 16) rfl) rfl (by decide) ?_
      exact s_zret hX hR (dec_of D_X9_terms (i := 17) rfl) rfl rfl
    · refine s_aload_n 0 (n := 17) hX (dec_of D_X9_terms (i := 8) rfl) rfl rfl rfl ?_
      refine s_getC (c := 9) (p := 1) (n := 20) 121 0 hX cls9 (vk130 (by omega)) (dec_of D_X9_terms (i := 9) rfl) rfl rfl (by decide) wd_442 ?_
      refine s_getR (c := 0) (p := 0) (k' := 129) (n := 23) hX cls0 (vk121 (by omega)) (dec_of D_X9_terms (i := 10) rfl) rfl rfl wd_219 ?_
      refine s_iload_n 1 (n := 24) hX (dec_of D_X9_terms (i := 11) rfl) rfl rfl rfl ?_
      refine s_iload_n 2 (n := 25) hX (dec_of D_X9_terms (i := 12) rfl) rfl rfl rfl ?_
      refine s_iload_n 3 (n := 26) hX (dec_of D_X9_terms (i := 13) rfl) rfl rfl rfl ?_
      refine s_callVI (c := 8) (n := 29) hX cls8 (vk129 (by omega)) lk_RX9_323 (dec_of D_X9_terms (i := 14) rfl) rfl (by decide) (c_X8_hasTerms (l := _) hG _ _ (by omega) _ _ _) rfl rfl (Nat.le_of_ble_eq_true rfl) (fun q3 => ?_)
      refine s_if_eq (tgt := 34) (n := 32) hX (dec_of D_X9_terms (i := 15) rfl) rfl rfl ?_ ?_
      · refine s_aload_n 0 (n := 35) hX (dec_of D_X9_terms (i := 18) rfl) rfl rfl rfl ?_
        refine s_getC (c := 9) (p := 2) (n := 38) 123 0 hX cls9 (vk130 (by omega)) (dec_of D_X9_terms (i := 19) rfl) rfl rfl (by decide) wd_443 ?_
        refine s_aload_n 0 (n := 39) hX (dec_of D_X9_terms (i := 20) rfl) rfl rfl rfl ?_
        refine s_getC (c := 9) (p := 1) (n := 42) 121 0 hX cls9 (vk130 (by omega)) (dec_of D_X9_terms (i := 21) rfl) rfl rfl (by decide) wd_442 ?_
        refine s_callVV (c := 2) (n := 45) hX cls2 (vk123 (by omega)) lk_RX9_292 (dec_of D_X9_terms (i := 22) rfl) rfl (by decide) (c_X2_remember (l := _) hG _ _ (by omega)) rfl rfl (Nat.le_of_ble_eq_true rfl) (fun q4 => ?_)
        refine s_aload_n 0 (n := 46) hX (dec_of D_X9_terms (i := 23) rfl) rfl rfl rfl ?_
        refine s_getC (c := 9) (p := 1) (n := 49) 121 0 hX cls9 (vk130 (by omega)) (dec_of D_X9_terms (i := 24) rfl) rfl rfl (by decide) wd_442 ?_
        refine s_getR (c := 0) (p := 0) (k' := 129) (n := 52) hX cls0 (vk121 (by omega)) (dec_of D_X9_terms (i := 25) rfl) rfl rfl wd_219 ?_
        refine s_iload_n 1 (n := 53) hX (dec_of D_X9_terms (i := 26) rfl) rfl rfl rfl ?_
        refine s_iload_n 2 (n := 54) hX (dec_of D_X9_terms (i := 27) rfl) rfl rfl rfl ?_
        refine s_iload_n 3 (n := 55) hX (dec_of D_X9_terms (i := 28) rfl) rfl rfl rfl ?_
        refine s_callVV (c := 8) (n := 58) hX cls8 (vk129 (by omega)) lk_RX9_274 (dec_of D_X9_terms (i := 29) rfl) rfl (by decide) (c_X8_setTerms (l := _) hG _ _ (by omega) _ _ _) rfl rfl (Nat.le_of_ble_eq_true rfl) (fun q5 => ?_)
        refine s_iconst (v := 1) (n := 59) hX (dec_of D_X9_terms (i := 30) rfl) rfl (by decide) ?_
        exact s_zret hX hR (dec_of D_X9_terms (i := 31) rfl) rfl rfl
      · refine s_iconst (v := 0) (n := 33) hX (dec_of D_X9_terms (i := 16) rfl) rfl (by decide) ?_
        exact s_zret hX hR (dec_of D_X9_terms (i := 17) rfl) rfl rfl
def T_X9_move : List (Nat × Instr × Nat) := [(0, .aload_n 0, 1), (1, .iload_n 1, 1), (2, .invokevirtual 148, 3), (5, .ifCond .eq 27, 3), (8, .aload_n 0, 1), (9, .iload_n 2, 1), (10, .invokevirtual 102, 3), (13, .ifCond .eq 19, 3), (16, .aload_n 0, 1), (17, .getfield 19, 3), (20, .getfield 113, 3), (23, .getfield 153, 3), (26, .iload_n 1, 1), (27, .iaload, 1), (28, .iload_n 2, 1), (29, .if_icmp .ne 5, 3), (32, .iconst 0, 1), (33, .ireturn, 1), (34, .aload_n 0, 1), (35, .getfield 26, 3), (38, .aload_n 0, 1), (39, .getfield 19, 3), (42, .invokevirtual 292, 3), (45, .aload_n 0, 1), (46, .getfield 19, 3), (49, .getfield 113, 3), (52, .getfield 153, 3), (55, .iload_n 1, 1), (56, .iload_n 2, 1), (57, .iastore, 1), (58, .iconst 1, 1), (59, .ireturn, 1)]
theorem D_X9_move : dchk cX9_move T_X9_move = true := by decide +kernel
def Rp_move (σ : ST) (a1 : Int32) (a2 : Int32) : Option (Int32 × ST) :=
  bd_ (Rp_isPlayer (σ) a1) (fun q1 => (if q1 = 0 then some (0, σ) else bd_ (Rp_isLand (σ) a2) (fun q2 => (if q2 = 0 then some (0, σ) else bd_ (ldI σ 26 0 a1) (fun v3 => (if v3 = a2 then some (0, σ) else bd_ (Hi_remember (σ) 0) (fun q4 => bd_ (stI q4 26 0 a1 a2) (fun s5 => some (1, s5)))))))))
set_option maxHeartbeats 4000000 in
set_option maxRecDepth 100000 in
theorem c_X9_move {G : GW} (hG : Good G) {l : Launch} (σ : ST) (a1 : Int32) (a2 : Int32) : Ctr G l yX9_move cX9_move 3 (some .boolean) 4 [.ref (ga G 130 0), .int a1, .int a2] σ oP (Rp_move σ a1 a2) := by
  refine ctr_of hG (by decide) (Nat.le_of_ble_eq_true rfl) ?_
  intro X hXl hR hX
  have hX : Ok G X cX9_move 3 RX9 4 := hX
  unfold Rp_move
  show Sim G X 3 (MQX G X oP) σ 0 [(0, .ref (ga G 130 0)), (1, .int a1), (2, .int a2)] [] _
  refine s_aload_n 0 (n := 1) hX (dec_of D_X9_move (i := 0) rfl) rfl rfl rfl ?_
  refine s_iload_n 1 (n := 2) hX (dec_of D_X9_move (i := 1) rfl) rfl rfl rfl ?_
  refine s_callVI (c := 9) (n := 5) hX cls9 (vk130 (by omega)) lk_RX9_148 (dec_of D_X9_move (i := 2) rfl) rfl (by decide) (c_X9_isPlayer (l := _) hG _ _) rfl rfl (Nat.le_of_ble_eq_true rfl) (fun q1 => ?_)
  refine s_if_eq (tgt := 32) (n := 8) hX (dec_of D_X9_move (i := 3) rfl) rfl rfl ?_ ?_
  · refine s_iconst (v := 0) (n := 33) hX (dec_of D_X9_move (i := 16) rfl) rfl (by decide) ?_
    exact s_zret hX hR (dec_of D_X9_move (i := 17) rfl) rfl rfl
  · refine s_aload_n 0 (n := 9) hX (dec_of D_X9_move (i := 4) rfl) rfl rfl rfl ?_
    refine s_iload_n 2 (n := 10) hX (dec_of D_X9_move (i := 5) rfl) rfl rfl rfl ?_
    refine s_callVI (c := 9) (n := 13) hX cls9 (vk130 (by omega)) lk_RX9_102 (dec_of D_X9_move (i := 6) rfl) rfl (by decide) (c_X9_isLand (l := _) hG _ _) rfl rfl (Nat.le_of_ble_eq_true rfl) (fun q2 => ?_)
    refine s_if_eq (tgt := 32) (n := 16) hX (dec_of D_X9_move (i := 7) rfl) rfl rfl ?_ ?_
    · refine s_iconst (v := 0) (n := 33) hX (dec_of D_X9_move (i := 16) rfl) rfl (by decide) ?_
      exact s_zret hX hR (dec_of D_X9_move (i := 17) rfl) rfl rfl
    · refine s_aload_n 0 (n := 17) hX (dec_of D_X9_move (i := 8) rfl) rfl rfl rfl ?_
      refine s_getC (c := 9) (p := 1) (n := 20) 121 0 hX cls9 (vk130 (by omega)) (dec_of D_X9_move (i := 9) rfl) rfl rfl (by decide) wd_442 ?_
      refine s_getR (c := 0) (p := 0) (k' := 129) (n := 23) hX cls0 (vk121 (by omega)) (dec_of D_X9_move (i := 10) rfl) rfl rfl wd_219 ?_
      refine s_getR (c := 8) (p := 2) (k' := 26) (n := 26) hX cls8 (vk129 (by omega)) (dec_of D_X9_move (i := 11) rfl) rfl rfl wd_203 ?_
      refine s_iload_n 1 (n := 27) hX (dec_of D_X9_move (i := 12) rfl) rfl rfl rfl ?_
      refine s_iald (n := 28) hX (vk26 (by omega)) (by decide) (dec_of D_X9_move (i := 13) rfl) rfl (fun v3 => ?_)
      refine s_iload_n 2 (n := 29) hX (dec_of D_X9_move (i := 14) rfl) rfl rfl rfl ?_
      refine s_icmp_ne (tgt := 34) (n := 32) hX (dec_of D_X9_move (i := 15) rfl) rfl rfl ?_ ?_
      · refine s_aload_n 0 (n := 35) hX (dec_of D_X9_move (i := 18) rfl) rfl rfl rfl ?_
        refine s_getC (c := 9) (p := 2) (n := 38) 123 0 hX cls9 (vk130 (by omega)) (dec_of D_X9_move (i := 19) rfl) rfl rfl (by decide) wd_443 ?_
        refine s_aload_n 0 (n := 39) hX (dec_of D_X9_move (i := 20) rfl) rfl rfl rfl ?_
        refine s_getC (c := 9) (p := 1) (n := 42) 121 0 hX cls9 (vk130 (by omega)) (dec_of D_X9_move (i := 21) rfl) rfl rfl (by decide) wd_442 ?_
        refine s_callVV (c := 2) (n := 45) hX cls2 (vk123 (by omega)) lk_RX9_292 (dec_of D_X9_move (i := 22) rfl) rfl (by decide) (c_X2_remember (l := _) hG _ _ (by omega)) rfl rfl (Nat.le_of_ble_eq_true rfl) (fun q4 => ?_)
        refine s_aload_n 0 (n := 46) hX (dec_of D_X9_move (i := 23) rfl) rfl rfl rfl ?_
        refine s_getC (c := 9) (p := 1) (n := 49) 121 0 hX cls9 (vk130 (by omega)) (dec_of D_X9_move (i := 24) rfl) rfl rfl (by decide) wd_442 ?_
        refine s_getR (c := 0) (p := 0) (k' := 129) (n := 52) hX cls0 (vk121 (by omega)) (dec_of D_X9_move (i := 25) rfl) rfl rfl wd_219 ?_
        refine s_getR (c := 8) (p := 2) (k' := 26) (n := 55) hX cls8 (vk129 (by omega)) (dec_of D_X9_move (i := 26) rfl) rfl rfl wd_203 ?_
        refine s_iload_n 1 (n := 56) hX (dec_of D_X9_move (i := 27) rfl) rfl rfl rfl ?_
        refine s_iload_n 2 (n := 57) hX (dec_of D_X9_move (i := 28) rfl) rfl rfl rfl ?_
        refine s_iast (n := 58) hX (vk26 (by omega)) (by decide) (dec_of D_X9_move (i := 29) rfl) rfl (fun s5 => ?_)
        refine s_iconst (v := 1) (n := 59) hX (dec_of D_X9_move (i := 30) rfl) rfl (by decide) ?_
        exact s_zret hX hR (dec_of D_X9_move (i := 31) rfl) rfl rfl
      · refine s_iconst (v := 0) (n := 33) hX (dec_of D_X9_move (i := 16) rfl) rfl (by decide) ?_
        exact s_zret hX hR (dec_of D_X9_move (i := 17) rfl) rfl rfl
def T_X9_giveBack : List (Nat × Instr × Nat) := [(0, .aload_n 0, 1), (1, .iload_n 1, 1), (2, .iload_n 2, 1), (3, .invokevirtual 217, 3), (6, .ifCond .ne 5, 3), (9, .iconst (-1), 1), (10, .ireturn, 1), (11, .iload_n 1, 1), (12, .iconst 5, 1), (13, .imul, 1), (14, .iload_n 2, 1), (15, .iadd, 1), (16, .istore_n 3, 1), (17, .aload_n 0, 1), (18, .getfield 19, 3), (21, .getfield 113, 3), (24, .getfield 220, 3), (27, .iload_n 3, 1), (28, .iaload, 1), (29, .istore 4, 2), (31, .iload 4, 2), (33, .bipush (-2), 2), (35, .if_icmp .ne 6, 3), (38, .bipush (-2), 2), (40, .ireturn, 1), (41, .aload_n 0, 1), (42, .getfield 26, 3), (45, .aload_n 0, 1), (46, .getfield 19, 3), (49, .invokevirtual 292, 3), (52, .aload_n 0, 1), (53, .getfield 19, 3), (56, .getfield 113, 3), (59, .getfield 220, 3), (62, .iload_n 3, 1), (63, .bipush (-2), 2), (65, .iastore, 1), (66, .iload 4, 2), (68, .ireturn, 1)]
theorem D_X9_giveBack : dchk cX9_giveBack T_X9_giveBack = true := by decide +kernel
def Rp_giveBack (σ : ST) (a1 : Int32) (a2 : Int32) : Option (Int32 × ST) :=
  bd_ (Rp_isSeat (σ) a1 a2) (fun q1 => (if q1 = 0 then some ((-1), σ) else lt_ (((a1 * 5) + a2)) (fun x2 => bd_ (ldI σ 27 0 x2) (fun v3 => (if v3 = (-2) then some ((-2), σ) else bd_ (Hi_remember (σ) 0) (fun q4 => bd_ (stI q4 27 0 x2 (-2)) (fun s5 => some (v3, s5))))))))
set_option maxHeartbeats 4000000 in
set_option maxRecDepth 100000 in
theorem c_X9_giveBack {G : GW} (hG : Good G) {l : Launch} (σ : ST) (a1 : Int32) (a2 : Int32) : Ctr G l yX9_giveBack cX9_giveBack 5 (some .int) 4 [.ref (ga G 130 0), .int a1, .int a2] σ oP (Rp_giveBack σ a1 a2) := by
  refine ctr_of hG (by decide) (Nat.le_of_ble_eq_true rfl) ?_
  intro X hXl hR hX
  have hX : Ok G X cX9_giveBack 5 RX9 4 := hX
  unfold Rp_giveBack
  show Sim G X 5 (MQX G X oP) σ 0 [(0, .ref (ga G 130 0)), (1, .int a1), (2, .int a2)] [] _
  refine s_aload_n 0 (n := 1) hX (dec_of D_X9_giveBack (i := 0) rfl) rfl rfl rfl ?_
  refine s_iload_n 1 (n := 2) hX (dec_of D_X9_giveBack (i := 1) rfl) rfl rfl rfl ?_
  refine s_iload_n 2 (n := 3) hX (dec_of D_X9_giveBack (i := 2) rfl) rfl rfl rfl ?_
  refine s_callVI (c := 9) (n := 6) hX cls9 (vk130 (by omega)) lk_RX9_217 (dec_of D_X9_giveBack (i := 3) rfl) rfl (by decide) (c_X9_isSeat (l := _) hG _ _ _) rfl rfl (Nat.le_of_ble_eq_true rfl) (fun q1 => ?_)
  refine s_if_ne (tgt := 11) (n := 9) hX (dec_of D_X9_giveBack (i := 4) rfl) rfl rfl ?_ ?_
  · refine s_iload_n 1 (n := 12) hX (dec_of D_X9_giveBack (i := 7) rfl) rfl rfl rfl ?_
    refine s_iconst (v := 5) (n := 13) hX (dec_of D_X9_giveBack (i := 8) rfl) rfl (by decide) ?_
    refine s_imul (n := 14) hX (dec_of D_X9_giveBack (i := 9) rfl) rfl ?_
    refine s_iload_n 2 (n := 15) hX (dec_of D_X9_giveBack (i := 10) rfl) rfl rfl rfl ?_
    refine s_iadd (n := 16) hX (dec_of D_X9_giveBack (i := 11) rfl) rfl ?_
    refine s_topi (fun x2 => ?_)
    refine s_istore_n (lv' := [(0, _), (1, _), (2, _), (3, _)]) [1, 2, 3, 0] (n := 17) hX (dec_of D_X9_giveBack (i := 12) rfl) rfl rfl (by decide) rfl ?_
    refine s_aload_n 0 (n := 18) hX (dec_of D_X9_giveBack (i := 13) rfl) rfl rfl rfl ?_
    refine s_getC (c := 9) (p := 1) (n := 21) 121 0 hX cls9 (vk130 (by omega)) (dec_of D_X9_giveBack (i := 14) rfl) rfl rfl (by decide) wd_442 ?_
    refine s_getR (c := 0) (p := 0) (k' := 129) (n := 24) hX cls0 (vk121 (by omega)) (dec_of D_X9_giveBack (i := 15) rfl) rfl rfl wd_219 ?_
    refine s_getR (c := 8) (p := 3) (k' := 27) (n := 27) hX cls8 (vk129 (by omega)) (dec_of D_X9_giveBack (i := 16) rfl) rfl rfl wd_208 ?_
    refine s_iload_n 3 (n := 28) hX (dec_of D_X9_giveBack (i := 17) rfl) rfl rfl rfl ?_
    refine s_iald (n := 29) hX (vk27 (by omega)) (by decide) (dec_of D_X9_giveBack (i := 18) rfl) rfl (fun v3 => ?_)
    refine s_istore (lv' := [(0, _), (1, _), (2, _), (3, _), (4, _)]) [1, 2, 3, 4, 0] (n := 31) hX (dec_of D_X9_giveBack (i := 19) rfl) rfl (by decide) rfl ?_
    refine s_iload 4 (n := 33) hX (dec_of D_X9_giveBack (i := 20) rfl) rfl rfl ?_
    refine s_bipush (v := (-2)) (n := 35) hX (dec_of D_X9_giveBack (i := 21) rfl) rfl (by decide) ?_
    refine s_icmp_ne (tgt := 41) (n := 38) hX (dec_of D_X9_giveBack (i := 22) rfl) rfl rfl ?_ ?_
    · refine s_aload_n 0 (n := 42) hX (dec_of D_X9_giveBack (i := 25) rfl) rfl rfl rfl ?_
      refine s_getC (c := 9) (p := 2) (n := 45) 123 0 hX cls9 (vk130 (by omega)) (dec_of D_X9_giveBack (i := 26) rfl) rfl rfl (by decide) wd_443 ?_
      refine s_aload_n 0 (n := 46) hX (dec_of D_X9_giveBack (i := 27) rfl) rfl rfl rfl ?_
      refine s_getC (c := 9) (p := 1) (n := 49) 121 0 hX cls9 (vk130 (by omega)) (dec_of D_X9_giveBack (i := 28) rfl) rfl rfl (by decide) wd_442 ?_
      refine s_callVV (c := 2) (n := 52) hX cls2 (vk123 (by omega)) lk_RX9_292 (dec_of D_X9_giveBack (i := 29) rfl) rfl (by decide) (c_X2_remember (l := _) hG _ _ (by omega)) rfl rfl (Nat.le_of_ble_eq_true rfl) (fun q4 => ?_)
      refine s_aload_n 0 (n := 53) hX (dec_of D_X9_giveBack (i := 30) rfl) rfl rfl rfl ?_
      refine s_getC (c := 9) (p := 1) (n := 56) 121 0 hX cls9 (vk130 (by omega)) (dec_of D_X9_giveBack (i := 31) rfl) rfl rfl (by decide) wd_442 ?_
      refine s_getR (c := 0) (p := 0) (k' := 129) (n := 59) hX cls0 (vk121 (by omega)) (dec_of D_X9_giveBack (i := 32) rfl) rfl rfl wd_219 ?_
      refine s_getR (c := 8) (p := 3) (k' := 27) (n := 62) hX cls8 (vk129 (by omega)) (dec_of D_X9_giveBack (i := 33) rfl) rfl rfl wd_208 ?_
      refine s_iload_n 3 (n := 63) hX (dec_of D_X9_giveBack (i := 34) rfl) rfl rfl rfl ?_
      refine s_bipush (v := (-2)) (n := 65) hX (dec_of D_X9_giveBack (i := 35) rfl) rfl (by decide) ?_
      refine s_iast (n := 66) hX (vk27 (by omega)) (by decide) (dec_of D_X9_giveBack (i := 36) rfl) rfl (fun s5 => ?_)
      refine s_iload 4 (n := 68) hX (dec_of D_X9_giveBack (i := 37) rfl) rfl rfl ?_
      exact s_iret hX hR (dec_of D_X9_giveBack (i := 38) rfl) rfl
    · refine s_bipush (v := (-2)) (n := 40) hX (dec_of D_X9_giveBack (i := 23) rfl) rfl (by decide) ?_
      exact s_iret hX hR (dec_of D_X9_giveBack (i := 24) rfl) rfl
  · refine s_iconst (v := (-1)) (n := 10) hX (dec_of D_X9_giveBack (i := 5) rfl) rfl (by decide) ?_
    exact s_iret hX hR (dec_of D_X9_giveBack (i := 6) rfl) rfl
theorem lk_RX9_326 : LkV RX9 326 RX2 yX2_recall cX2_recall 2 (some .boolean) 1 := ⟨wd_990, wd_991, wd_992, wd_88, wd_993, by decide +kernel, by decide⟩
def T_X9_undo : List (Nat × Instr × Nat) := [(0, .aload_n 0, 1), (1, .getfield 26, 3), (4, .aload_n 0, 1), (5, .getfield 19, 3), (8, .invokevirtual 326, 3), (11, .ifCond .eq 13, 3), (14, .aload_n 0, 1), (15, .getfield 26, 3), (18, .getfield 248, 3), (21, .goto 4, 3), (24, .iconst (-1), 1), (25, .ireturn, 1)]
theorem D_X9_undo : dchk cX9_undo T_X9_undo = true := by decide +kernel
def Rp_undo (σ : ST)  : Option (Int32 × ST) :=
  bd_ (Hi_recall (σ) 0) (fun q1 => (if q1.1 = 0 then some ((-1), q1.2) else some ((gF q1.2 330 0), q1.2)))
set_option maxHeartbeats 4000000 in
set_option maxRecDepth 100000 in
theorem c_X9_undo {G : GW} (hG : Good G) {l : Launch} (σ : ST)  : Ctr G l yX9_undo cX9_undo 1 (some .int) 4 [.ref (ga G 130 0)] σ oP (Rp_undo σ ) := by
  refine ctr_of hG (by decide) (Nat.le_of_ble_eq_true rfl) ?_
  intro X hXl hR hX
  have hX : Ok G X cX9_undo 1 RX9 4 := hX
  unfold Rp_undo
  show Sim G X 1 (MQX G X oP) σ 0 [(0, .ref (ga G 130 0))] [] _
  refine s_aload_n 0 (n := 1) hX (dec_of D_X9_undo (i := 0) rfl) rfl rfl rfl ?_
  refine s_getC (c := 9) (p := 2) (n := 4) 123 0 hX cls9 (vk130 (by omega)) (dec_of D_X9_undo (i := 1) rfl) rfl rfl (by decide) wd_443 ?_
  refine s_aload_n 0 (n := 5) hX (dec_of D_X9_undo (i := 2) rfl) rfl rfl rfl ?_
  refine s_getC (c := 9) (p := 1) (n := 8) 121 0 hX cls9 (vk130 (by omega)) (dec_of D_X9_undo (i := 3) rfl) rfl rfl (by decide) wd_442 ?_
  refine s_callVP (c := 2) (n := 11) hX cls2 (vk123 (by omega)) lk_RX9_326 (dec_of D_X9_undo (i := 4) rfl) rfl (by decide) (c_X2_recall (l := _) hG _ _ (by omega)) rfl rfl (Nat.le_of_ble_eq_true rfl) (fun q1 => ?_)
  refine s_if_eq (tgt := 24) (n := 14) hX (dec_of D_X9_undo (i := 5) rfl) rfl rfl ?_ ?_
  · refine s_iconst (v := (-1)) (n := 25) hX (dec_of D_X9_undo (i := 10) rfl) rfl (by decide) ?_
    exact s_iret hX hR (dec_of D_X9_undo (i := 11) rfl) rfl
  · refine s_aload_n 0 (n := 15) hX (dec_of D_X9_undo (i := 6) rfl) rfl rfl rfl ?_
    refine s_getC (c := 9) (p := 2) (n := 18) 123 0 hX cls9 (vk130 (by omega)) (dec_of D_X9_undo (i := 7) rfl) rfl rfl (by decide) wd_443 ?_
    refine s_getI (c := 2) (p := 2) (id := 330) (n := 21) hX cls2 (vk123 (by omega)) (dec_of D_X9_undo (i := 8) rfl) rfl rfl wd_273 ?_
    refine s_goto (n := 25) hX (dec_of D_X9_undo (i := 9) rfl) rfl ?_
    exact s_iret hX hR (dec_of D_X9_undo (i := 11) rfl) rfl
theorem lk_RX9_330 : LkV RX9 330 RX0 yX0_paidBoth cX0_paidBoth 3 (some .int) 2 := ⟨wd_998, wd_724, wd_725, wd_86, wd_726, by decide +kernel, by decide⟩
def T_X9_paid : List (Nat × Instr × Nat) := [(0, .aload_n 0, 1), (1, .iload_n 1, 1), (2, .invokevirtual 148, 3), (5, .ifCond .eq 11, 3), (8, .aload_n 0, 1), (9, .iload_n 2, 1), (10, .invokevirtual 102, 3), (13, .ifCond .ne 5, 3), (16, .iconst (-1), 1), (17, .ireturn, 1), (18, .iload_n 3, 1), (19, .tableswitch 65 0 2 #[25, 35, 50], 25), (44, .aload_n 0, 1), (45, .getfield 19, 3), (48, .iload_n 1, 1), (49, .iload_n 2, 1), (50, .invokevirtual 330, 3), (53, .ireturn, 1), (54, .aload_n 0, 1), (55, .getfield 19, 3), (58, .getfield 333, 3), (61, .iload_n 1, 1), (62, .bipush 6, 2), (64, .imul, 1), (65, .iload_n 2, 1), (66, .iadd, 1), (67, .iaload, 1), (68, .ireturn, 1), (69, .aload_n 0, 1), (70, .getfield 19, 3), (73, .getfield 336, 3), (76, .iload_n 1, 1), (77, .bipush 6, 2), (79, .imul, 1), (80, .iload_n 2, 1), (81, .iadd, 1), (82, .iaload, 1), (83, .ireturn, 1), (84, .iconst (-1), 1), (85, .ireturn, 1)]
theorem D_X9_paid : dchk cX9_paid T_X9_paid = true := by decide +kernel
def Rp_paid (σ : ST) (a1 : Int32) (a2 : Int32) (a3 : Int32) : Option Int32 :=
  bd_ (Rp_isPlayer (σ) a1) (fun q1 => (if q1 = 0 then some (-1) else bd_ (Rp_isLand (σ) a2) (fun q2 => (if q2 = 0 then some (-1) else sw_ a3 0 [bd_ (Bk_paidBoth (σ) 0 a1 a2) (fun q3 => some q3), bd_ (ldI σ 4 0 ((a1 * 6) + a2)) (fun v4 => some v4), bd_ (ldI σ 5 0 ((a1 * 6) + a2)) (fun v5 => some v5)] (some (-1))))))
set_option maxHeartbeats 4000000 in
set_option maxRecDepth 100000 in
theorem c_X9_paid {G : GW} (hG : Good G) {l : Launch} (σ : ST) (a1 : Int32) (a2 : Int32) (a3 : Int32) : Ctr G l yX9_paid cX9_paid 4 (some .int) 1 [.ref (ga G 130 0), .int a1, .int a2, .int a3] σ (oI σ) (Rp_paid σ a1 a2 a3) := by
  refine ctr_of hG (by decide) (Nat.le_of_ble_eq_true rfl) ?_
  intro X hXl hR hX
  have hX : Ok G X cX9_paid 4 RX9 1 := hX
  unfold Rp_paid
  show Sim G X 4 (MQX G X (oI σ)) σ 0 [(0, .ref (ga G 130 0)), (1, .int a1), (2, .int a2), (3, .int a3)] [] _
  refine s_aload_n 0 (n := 1) hX (dec_of D_X9_paid (i := 0) rfl) rfl rfl rfl ?_
  refine s_iload_n 1 (n := 2) hX (dec_of D_X9_paid (i := 1) rfl) rfl rfl rfl ?_
  refine s_callVI (c := 9) (n := 5) hX cls9 (vk130 (by omega)) lk_RX9_148 (dec_of D_X9_paid (i := 2) rfl) rfl (by decide) (c_X9_isPlayer (l := _) hG _ _) rfl rfl (Nat.le_of_ble_eq_true rfl) (fun q1 => ?_)
  refine s_if_eq (tgt := 16) (n := 8) hX (dec_of D_X9_paid (i := 3) rfl) rfl rfl ?_ ?_
  · refine s_iconst (v := (-1)) (n := 17) hX (dec_of D_X9_paid (i := 8) rfl) rfl (by decide) ?_
    exact s_iret hX hR (dec_of D_X9_paid (i := 9) rfl) rfl
  · refine s_aload_n 0 (n := 9) hX (dec_of D_X9_paid (i := 4) rfl) rfl rfl rfl ?_
    refine s_iload_n 2 (n := 10) hX (dec_of D_X9_paid (i := 5) rfl) rfl rfl rfl ?_
    refine s_callVI (c := 9) (n := 13) hX cls9 (vk130 (by omega)) lk_RX9_102 (dec_of D_X9_paid (i := 6) rfl) rfl (by decide) (c_X9_isLand (l := _) hG _ _) rfl rfl (Nat.le_of_ble_eq_true rfl) (fun q2 => ?_)
    refine s_if_ne (tgt := 18) (n := 16) hX (dec_of D_X9_paid (i := 7) rfl) rfl rfl ?_ ?_
    · refine s_iload_n 3 (n := 19) hX (dec_of D_X9_paid (i := 10) rfl) rfl rfl rfl ?_
      refine s_tsw (lo' := 0) (Ps := [_, _, _]) hX (dec_of D_X9_paid (i := 11) rfl) rfl 3 rfl (by decide) (by decide) [44, 54, 69] 84 rfl rfl (by decide +kernel) ?_ ?_
      · skip
        refine swS_cons ?_ ?_
        · refine s_aload_n 0 (n := 45) hX (dec_of D_X9_paid (i := 12) rfl) rfl rfl rfl ?_
          refine s_getC (c := 9) (p := 1) (n := 48) 121 0 hX cls9 (vk130 (by omega)) (dec_of D_X9_paid (i := 13) rfl) rfl rfl (by decide) wd_442 ?_
          refine s_iload_n 1 (n := 49) hX (dec_of D_X9_paid (i := 14) rfl) rfl rfl rfl ?_
          refine s_iload_n 2 (n := 50) hX (dec_of D_X9_paid (i := 15) rfl) rfl rfl rfl ?_
          refine s_callVI (c := 0) (n := 53) hX cls0 (vk121 (by omega)) lk_RX9_330 (dec_of D_X9_paid (i := 16) rfl) rfl (by decide) (c_X0_paidBoth (l := _) hG _ _ (by omega) _ _) rfl rfl (Nat.le_of_ble_eq_true rfl) (fun q3 => ?_)
          exact s_iret hX hR (dec_of D_X9_paid (i := 17) rfl) rfl
        refine swS_cons ?_ ?_
        · refine s_aload_n 0 (n := 55) hX (dec_of D_X9_paid (i := 18) rfl) rfl rfl rfl ?_
          refine s_getC (c := 9) (p := 1) (n := 58) 121 0 hX cls9 (vk130 (by omega)) (dec_of D_X9_paid (i := 19) rfl) rfl rfl (by decide) wd_442 ?_
          refine s_getR (c := 0) (p := 5) (k' := 4) (n := 61) hX cls0 (vk121 (by omega)) (dec_of D_X9_paid (i := 20) rfl) rfl rfl wd_231 ?_
          refine s_iload_n 1 (n := 62) hX (dec_of D_X9_paid (i := 21) rfl) rfl rfl rfl ?_
          refine s_bipush (v := 6) (n := 64) hX (dec_of D_X9_paid (i := 22) rfl) rfl (by decide) ?_
          refine s_imul (n := 65) hX (dec_of D_X9_paid (i := 23) rfl) rfl ?_
          refine s_iload_n 2 (n := 66) hX (dec_of D_X9_paid (i := 24) rfl) rfl rfl rfl ?_
          refine s_iadd (n := 67) hX (dec_of D_X9_paid (i := 25) rfl) rfl ?_
          refine s_iald (n := 68) hX (vk4 (by omega)) (by decide) (dec_of D_X9_paid (i := 26) rfl) rfl (fun v4 => ?_)
          exact s_iret hX hR (dec_of D_X9_paid (i := 27) rfl) rfl
        refine swS_cons ?_ ?_
        · refine s_aload_n 0 (n := 70) hX (dec_of D_X9_paid (i := 28) rfl) rfl rfl rfl ?_
          refine s_getC (c := 9) (p := 1) (n := 73) 121 0 hX cls9 (vk130 (by omega)) (dec_of D_X9_paid (i := 29) rfl) rfl rfl (by decide) wd_442 ?_
          refine s_getR (c := 0) (p := 6) (k' := 5) (n := 76) hX cls0 (vk121 (by omega)) (dec_of D_X9_paid (i := 30) rfl) rfl rfl wd_233 ?_
          refine s_iload_n 1 (n := 77) hX (dec_of D_X9_paid (i := 31) rfl) rfl rfl rfl ?_
          refine s_bipush (v := 6) (n := 79) hX (dec_of D_X9_paid (i := 32) rfl) rfl (by decide) ?_
          refine s_imul (n := 80) hX (dec_of D_X9_paid (i := 33) rfl) rfl ?_
          refine s_iload_n 2 (n := 81) hX (dec_of D_X9_paid (i := 34) rfl) rfl rfl rfl ?_
          refine s_iadd (n := 82) hX (dec_of D_X9_paid (i := 35) rfl) rfl ?_
          refine s_iald (n := 83) hX (vk5 (by omega)) (by decide) (dec_of D_X9_paid (i := 36) rfl) rfl (fun v5 => ?_)
          exact s_iret hX hR (dec_of D_X9_paid (i := 37) rfl) rfl
        exact swS_nil
      · refine s_iconst (v := (-1)) (n := 85) hX (dec_of D_X9_paid (i := 38) rfl) rfl (by decide) ?_
        exact s_iret hX hR (dec_of D_X9_paid (i := 39) rfl) rfl
    · refine s_iconst (v := (-1)) (n := 17) hX (dec_of D_X9_paid (i := 8) rfl) rfl (by decide) ?_
      exact s_iret hX hR (dec_of D_X9_paid (i := 9) rfl) rfl
theorem lk_RX9_339 : LkS RX9 339 yX9_slotOf cX9_slotOf 3 (some .int) 3 := ⟨wd_1003, wd_892, wd_83, wd_893, by decide +kernel, by decide⟩
theorem lk_RX9_343 : LkV RX9 343 RX0 yX0_keptAtSlot cX0_keptAtSlot 4 (some .int) 1 := ⟨wd_1004, wd_928, wd_929, wd_86, wd_930, by decide +kernel, by decide⟩
def T_X9_kept : List (Nat × Instr × Nat) := [(0, .aload_n 0, 1), (1, .iload_n 1, 1), (2, .invokevirtual 102, 3), (5, .ifCond .eq 18, 3), (8, .aload_n 0, 1), (9, .iload_n 2, 1), (10, .iload_n 3, 1), (11, .invokevirtual 217, 3), (14, .ifCond .eq 9, 3), (17, .iload 4, 2), (19, .iconst (-1), 1), (20, .if_icmp .ge 5, 3), (23, .iconst (-1), 1), (24, .ireturn, 1), (25, .iload_n 1, 1), (26, .iload_n 2, 1), (27, .iload_n 3, 1), (28, .invokestatic 339, 3), (31, .istore 5, 2), (33, .iload 4, 2), (35, .iconst (-1), 1), (36, .if_icmp .ne 13, 3), (39, .aload_n 0, 1), (40, .getfield 19, 3), (43, .iload 5, 2), (45, .invokevirtual 343, 3), (48, .ireturn, 1), (49, .iload 4, 2), (51, .bipush 9, 2), (53, .if_icmp .ge 22, 3), (56, .aload_n 0, 1), (57, .getfield 19, 3), (60, .getfield 346, 3), (63, .iload 5, 2), (65, .bipush 9, 2), (67, .imul, 1), (68, .iload 4, 2), (70, .iadd, 1), (71, .iaload, 1), (72, .goto 4, 3), (75, .iconst 0, 1), (76, .ireturn, 1)]
theorem D_X9_kept : dchk cX9_kept T_X9_kept = true := by decide +kernel
def Rp_kept (σ : ST) (a1 : Int32) (a2 : Int32) (a3 : Int32) (a4 : Int32) : Option Int32 :=
  bd_ (Rp_isLand (σ) a1) (fun q1 => (if q1 = 0 then some (-1) else bd_ (Rp_isSeat (σ) a2 a3) (fun q2 => (if q2 = 0 then some (-1) else (if (-1) ≤ a4 then bd_ (Rp_slotOf (σ) a1 a2 a3) (fun q3 => (if a4 = (-1) then bd_ (Bk_keptAtSlot (σ) 0 q3) (fun q5 => some q5) else (if 9 ≤ a4 then some 0 else bd_ (ldI σ 7 0 ((q3 * 9) + a4)) (fun v4 => some v4)))) else some (-1))))))
set_option maxHeartbeats 4000000 in
set_option maxRecDepth 100000 in
theorem c_X9_kept {G : GW} (hG : Good G) {l : Launch} (σ : ST) (a1 : Int32) (a2 : Int32) (a3 : Int32) (a4 : Int32) : Ctr G l yX9_kept cX9_kept 6 (some .int) 2 [.ref (ga G 130 0), .int a1, .int a2, .int a3, .int a4] σ (oI σ) (Rp_kept σ a1 a2 a3 a4) := by
  refine ctr_of hG (by decide) (Nat.le_of_ble_eq_true rfl) ?_
  intro X hXl hR hX
  have hX : Ok G X cX9_kept 6 RX9 2 := hX
  unfold Rp_kept
  show Sim G X 6 (MQX G X (oI σ)) σ 0 [(0, .ref (ga G 130 0)), (1, .int a1), (2, .int a2), (3, .int a3), (4, .int a4)] [] _
  refine s_aload_n 0 (n := 1) hX (dec_of D_X9_kept (i := 0) rfl) rfl rfl rfl ?_
  refine s_iload_n 1 (n := 2) hX (dec_of D_X9_kept (i := 1) rfl) rfl rfl rfl ?_
  refine s_callVI (c := 9) (n := 5) hX cls9 (vk130 (by omega)) lk_RX9_102 (dec_of D_X9_kept (i := 2) rfl) rfl (by decide) (c_X9_isLand (l := _) hG _ _) rfl rfl (Nat.le_of_ble_eq_true rfl) (fun q1 => ?_)
  refine s_if_eq (tgt := 23) (n := 8) hX (dec_of D_X9_kept (i := 3) rfl) rfl rfl ?_ ?_
  · refine s_iconst (v := (-1)) (n := 24) hX (dec_of D_X9_kept (i := 12) rfl) rfl (by decide) ?_
    exact s_iret hX hR (dec_of D_X9_kept (i := 13) rfl) rfl
  · refine s_aload_n 0 (n := 9) hX (dec_of D_X9_kept (i := 4) rfl) rfl rfl rfl ?_
    refine s_iload_n 2 (n := 10) hX (dec_of D_X9_kept (i := 5) rfl) rfl rfl rfl ?_
    refine s_iload_n 3 (n := 11) hX (dec_of D_X9_kept (i := 6) rfl) rfl rfl rfl ?_
    refine s_callVI (c := 9) (n := 14) hX cls9 (vk130 (by omega)) lk_RX9_217 (dec_of D_X9_kept (i := 7) rfl) rfl (by decide) (c_X9_isSeat (l := _) hG _ _ _) rfl rfl (Nat.le_of_ble_eq_true rfl) (fun q2 => ?_)
    refine s_if_eq (tgt := 23) (n := 17) hX (dec_of D_X9_kept (i := 8) rfl) rfl rfl ?_ ?_
    · refine s_iconst (v := (-1)) (n := 24) hX (dec_of D_X9_kept (i := 12) rfl) rfl (by decide) ?_
      exact s_iret hX hR (dec_of D_X9_kept (i := 13) rfl) rfl
    · refine s_iload 4 (n := 19) hX (dec_of D_X9_kept (i := 9) rfl) rfl rfl ?_
      refine s_iconst (v := (-1)) (n := 20) hX (dec_of D_X9_kept (i := 10) rfl) rfl (by decide) ?_
      refine s_icmp_ge (tgt := 25) (n := 23) hX (dec_of D_X9_kept (i := 11) rfl) rfl rfl ?_ ?_
      · refine s_iload_n 1 (n := 26) hX (dec_of D_X9_kept (i := 14) rfl) rfl rfl rfl ?_
        refine s_iload_n 2 (n := 27) hX (dec_of D_X9_kept (i := 15) rfl) rfl rfl rfl ?_
        refine s_iload_n 3 (n := 28) hX (dec_of D_X9_kept (i := 16) rfl) rfl rfl rfl ?_
        refine s_callSI (n := 31) hX lk_RX9_339 (dec_of D_X9_kept (i := 17) rfl) rfl (by decide) (c_X9_slotOf (l := _) hG _ _ _ _) rfl rfl (Nat.le_of_ble_eq_true rfl) (fun q3 => ?_)
        refine s_istore (lv' := [(0, _), (1, _), (2, _), (3, _), (4, _), (5, _)]) [1, 2, 3, 4, 5, 0] (n := 33) hX (dec_of D_X9_kept (i := 18) rfl) rfl (by decide) rfl ?_
        refine s_iload 4 (n := 35) hX (dec_of D_X9_kept (i := 19) rfl) rfl rfl ?_
        refine s_iconst (v := (-1)) (n := 36) hX (dec_of D_X9_kept (i := 20) rfl) rfl (by decide) ?_
        refine s_icmp_ne (tgt := 49) (n := 39) hX (dec_of D_X9_kept (i := 21) rfl) rfl rfl ?_ ?_
        · refine s_iload 4 (n := 51) hX (dec_of D_X9_kept (i := 27) rfl) rfl rfl ?_
          refine s_bipush (v := 9) (n := 53) hX (dec_of D_X9_kept (i := 28) rfl) rfl (by decide) ?_
          refine s_icmp_ge (tgt := 75) (n := 56) hX (dec_of D_X9_kept (i := 29) rfl) rfl rfl ?_ ?_
          · refine s_iconst (v := 0) (n := 76) hX (dec_of D_X9_kept (i := 40) rfl) rfl (by decide) ?_
            exact s_iret hX hR (dec_of D_X9_kept (i := 41) rfl) rfl
          · refine s_aload_n 0 (n := 57) hX (dec_of D_X9_kept (i := 30) rfl) rfl rfl rfl ?_
            refine s_getC (c := 9) (p := 1) (n := 60) 121 0 hX cls9 (vk130 (by omega)) (dec_of D_X9_kept (i := 31) rfl) rfl rfl (by decide) wd_442 ?_
            refine s_getR (c := 0) (p := 8) (k' := 7) (n := 63) hX cls0 (vk121 (by omega)) (dec_of D_X9_kept (i := 32) rfl) rfl rfl wd_237 ?_
            refine s_iload 5 (n := 65) hX (dec_of D_X9_kept (i := 33) rfl) rfl rfl ?_
            refine s_bipush (v := 9) (n := 67) hX (dec_of D_X9_kept (i := 34) rfl) rfl (by decide) ?_
            refine s_imul (n := 68) hX (dec_of D_X9_kept (i := 35) rfl) rfl ?_
            refine s_iload 4 (n := 70) hX (dec_of D_X9_kept (i := 36) rfl) rfl rfl ?_
            refine s_iadd (n := 71) hX (dec_of D_X9_kept (i := 37) rfl) rfl ?_
            refine s_iald (n := 72) hX (vk7 (by omega)) (by decide) (dec_of D_X9_kept (i := 38) rfl) rfl (fun v4 => ?_)
            refine s_goto (n := 76) hX (dec_of D_X9_kept (i := 39) rfl) rfl ?_
            exact s_iret hX hR (dec_of D_X9_kept (i := 41) rfl) rfl
        · refine s_aload_n 0 (n := 40) hX (dec_of D_X9_kept (i := 22) rfl) rfl rfl rfl ?_
          refine s_getC (c := 9) (p := 1) (n := 43) 121 0 hX cls9 (vk130 (by omega)) (dec_of D_X9_kept (i := 23) rfl) rfl rfl (by decide) wd_442 ?_
          refine s_iload 5 (n := 45) hX (dec_of D_X9_kept (i := 24) rfl) rfl rfl ?_
          refine s_callVI (c := 0) (n := 48) hX cls0 (vk121 (by omega)) lk_RX9_343 (dec_of D_X9_kept (i := 25) rfl) rfl (by decide) (c_X0_keptAtSlot (l := _) hG _ _ (by omega) _) rfl rfl (Nat.le_of_ble_eq_true rfl) (fun q5 => ?_)
          exact s_iret hX hR (dec_of D_X9_kept (i := 26) rfl) rfl
      · refine s_iconst (v := (-1)) (n := 24) hX (dec_of D_X9_kept (i := 12) rfl) rfl (by decide) ?_
        exact s_iret hX hR (dec_of D_X9_kept (i := 13) rfl) rfl
def T_X9_lapsed : List (Nat × Instr × Nat) := [(0, .aload_n 0, 1), (1, .iload_n 1, 1), (2, .invokevirtual 102, 3), (5, .ifCond .eq 12, 3), (8, .aload_n 0, 1), (9, .iload_n 2, 1), (10, .iload_n 3, 1), (11, .invokevirtual 217, 3), (14, .ifCond .ne 5, 3), (17, .iconst (-1), 1), (18, .ireturn, 1), (19, .aload_n 0, 1), (20, .getfield 19, 3), (23, .getfield 349, 3), (26, .iload_n 1, 1), (27, .iload_n 2, 1), (28, .iload_n 3, 1), (29, .invokestatic 339, 3), (32, .iaload, 1), (33, .ireturn, 1)]
theorem D_X9_lapsed : dchk cX9_lapsed T_X9_lapsed = true := by decide +kernel
def Rp_lapsed (σ : ST) (a1 : Int32) (a2 : Int32) (a3 : Int32) : Option Int32 :=
  bd_ (Rp_isLand (σ) a1) (fun q1 => (if q1 = 0 then some (-1) else bd_ (Rp_isSeat (σ) a2 a3) (fun q2 => (if q2 = 0 then some (-1) else bd_ (Rp_slotOf (σ) a1 a2 a3) (fun q3 => bd_ (ldI σ 6 0 q3) (fun v4 => some v4))))))
set_option maxHeartbeats 4000000 in
set_option maxRecDepth 100000 in
theorem c_X9_lapsed {G : GW} (hG : Good G) {l : Launch} (σ : ST) (a1 : Int32) (a2 : Int32) (a3 : Int32) : Ctr G l yX9_lapsed cX9_lapsed 4 (some .int) 2 [.ref (ga G 130 0), .int a1, .int a2, .int a3] σ (oI σ) (Rp_lapsed σ a1 a2 a3) := by
  refine ctr_of hG (by decide) (Nat.le_of_ble_eq_true rfl) ?_
  intro X hXl hR hX
  have hX : Ok G X cX9_lapsed 4 RX9 2 := hX
  unfold Rp_lapsed
  show Sim G X 4 (MQX G X (oI σ)) σ 0 [(0, .ref (ga G 130 0)), (1, .int a1), (2, .int a2), (3, .int a3)] [] _
  refine s_aload_n 0 (n := 1) hX (dec_of D_X9_lapsed (i := 0) rfl) rfl rfl rfl ?_
  refine s_iload_n 1 (n := 2) hX (dec_of D_X9_lapsed (i := 1) rfl) rfl rfl rfl ?_
  refine s_callVI (c := 9) (n := 5) hX cls9 (vk130 (by omega)) lk_RX9_102 (dec_of D_X9_lapsed (i := 2) rfl) rfl (by decide) (c_X9_isLand (l := _) hG _ _) rfl rfl (Nat.le_of_ble_eq_true rfl) (fun q1 => ?_)
  refine s_if_eq (tgt := 17) (n := 8) hX (dec_of D_X9_lapsed (i := 3) rfl) rfl rfl ?_ ?_
  · refine s_iconst (v := (-1)) (n := 18) hX (dec_of D_X9_lapsed (i := 9) rfl) rfl (by decide) ?_
    exact s_iret hX hR (dec_of D_X9_lapsed (i := 10) rfl) rfl
  · refine s_aload_n 0 (n := 9) hX (dec_of D_X9_lapsed (i := 4) rfl) rfl rfl rfl ?_
    refine s_iload_n 2 (n := 10) hX (dec_of D_X9_lapsed (i := 5) rfl) rfl rfl rfl ?_
    refine s_iload_n 3 (n := 11) hX (dec_of D_X9_lapsed (i := 6) rfl) rfl rfl rfl ?_
    refine s_callVI (c := 9) (n := 14) hX cls9 (vk130 (by omega)) lk_RX9_217 (dec_of D_X9_lapsed (i := 7) rfl) rfl (by decide) (c_X9_isSeat (l := _) hG _ _ _) rfl rfl (Nat.le_of_ble_eq_true rfl) (fun q2 => ?_)
    refine s_if_ne (tgt := 19) (n := 17) hX (dec_of D_X9_lapsed (i := 8) rfl) rfl rfl ?_ ?_
    · refine s_aload_n 0 (n := 20) hX (dec_of D_X9_lapsed (i := 11) rfl) rfl rfl rfl ?_
      refine s_getC (c := 9) (p := 1) (n := 23) 121 0 hX cls9 (vk130 (by omega)) (dec_of D_X9_lapsed (i := 12) rfl) rfl rfl (by decide) wd_442 ?_
      refine s_getR (c := 0) (p := 7) (k' := 6) (n := 26) hX cls0 (vk121 (by omega)) (dec_of D_X9_lapsed (i := 13) rfl) rfl rfl wd_235 ?_
      refine s_iload_n 1 (n := 27) hX (dec_of D_X9_lapsed (i := 14) rfl) rfl rfl rfl ?_
      refine s_iload_n 2 (n := 28) hX (dec_of D_X9_lapsed (i := 15) rfl) rfl rfl rfl ?_
      refine s_iload_n 3 (n := 29) hX (dec_of D_X9_lapsed (i := 16) rfl) rfl rfl rfl ?_
      refine s_callSI (n := 32) hX lk_RX9_339 (dec_of D_X9_lapsed (i := 17) rfl) rfl (by decide) (c_X9_slotOf (l := _) hG _ _ _ _) rfl rfl (Nat.le_of_ble_eq_true rfl) (fun q3 => ?_)
      refine s_iald (n := 33) hX (vk6 (by omega)) (by decide) (dec_of D_X9_lapsed (i := 18) rfl) rfl (fun v4 => ?_)
      exact s_iret hX hR (dec_of D_X9_lapsed (i := 19) rfl) rfl
    · refine s_iconst (v := (-1)) (n := 18) hX (dec_of D_X9_lapsed (i := 9) rfl) rfl (by decide) ?_
      exact s_iret hX hR (dec_of D_X9_lapsed (i := 10) rfl) rfl
theorem lk_RX9_352 : LkV RX9 352 RX0 yX0_keptSince cX0_keptSince 6 (some .int) 2 := ⟨wd_1013, wd_1014, wd_1015, wd_86, wd_1016, by decide +kernel, by decide⟩
def T_X9_lapses : List (Nat × Instr × Nat) := [(0, .aload_n 0, 1), (1, .iload_n 1, 1), (2, .invokevirtual 102, 3), (5, .ifCond .eq 14, 3), (8, .iload_n 2, 1), (9, .iconst 1, 1), (10, .if_icmp .lt 9, 3), (13, .iload_n 2, 1), (14, .bipush 9, 2), (16, .if_icmp .le 5, 3), (19, .iconst (-1), 1), (20, .ireturn, 1), (21, .aload_n 0, 1), (22, .getfield 19, 3), (25, .iload_n 1, 1), (26, .aload_n 0, 1), (27, .getfield 61, 3), (30, .getfield 238, 3), (33, .iload_n 2, 1), (34, .isub, 1), (35, .invokevirtual 352, 3), (38, .ireturn, 1)]
theorem D_X9_lapses : dchk cX9_lapses T_X9_lapses = true := by decide +kernel
def Rp_lapses (σ : ST) (a1 : Int32) (a2 : Int32) : Option Int32 :=
  bd_ (Rp_isLand (σ) a1) (fun q1 => (if q1 = 0 then some (-1) else (if a2 < 1 then some (-1) else (if a2 ≤ 9 then bd_ (ldQ σ 0) (fun rr2 => bd_ (Bk_keptSince (σ) 0 a1 ((gF σ 533 rr2) - a2)) (fun q3 => some q3)) else some (-1)))))
set_option maxHeartbeats 4000000 in
set_option maxRecDepth 100000 in
theorem c_X9_lapses {G : GW} (hG : Good G) {l : Launch} (σ : ST) (a1 : Int32) (a2 : Int32) : Ctr G l yX9_lapses cX9_lapses 3 (some .int) 2 [.ref (ga G 130 0), .int a1, .int a2] σ (oI σ) (Rp_lapses σ a1 a2) := by
  refine ctr_of hG (by decide) (Nat.le_of_ble_eq_true rfl) ?_
  intro X hXl hR hX
  have hX : Ok G X cX9_lapses 3 RX9 2 := hX
  unfold Rp_lapses
  show Sim G X 3 (MQX G X (oI σ)) σ 0 [(0, .ref (ga G 130 0)), (1, .int a1), (2, .int a2)] [] _
  refine s_aload_n 0 (n := 1) hX (dec_of D_X9_lapses (i := 0) rfl) rfl rfl rfl ?_
  refine s_iload_n 1 (n := 2) hX (dec_of D_X9_lapses (i := 1) rfl) rfl rfl rfl ?_
  refine s_callVI (c := 9) (n := 5) hX cls9 (vk130 (by omega)) lk_RX9_102 (dec_of D_X9_lapses (i := 2) rfl) rfl (by decide) (c_X9_isLand (l := _) hG _ _) rfl rfl (Nat.le_of_ble_eq_true rfl) (fun q1 => ?_)
  refine s_if_eq (tgt := 19) (n := 8) hX (dec_of D_X9_lapses (i := 3) rfl) rfl rfl ?_ ?_
  · refine s_iconst (v := (-1)) (n := 20) hX (dec_of D_X9_lapses (i := 10) rfl) rfl (by decide) ?_
    exact s_iret hX hR (dec_of D_X9_lapses (i := 11) rfl) rfl
  · refine s_iload_n 2 (n := 9) hX (dec_of D_X9_lapses (i := 4) rfl) rfl rfl rfl ?_
    refine s_iconst (v := 1) (n := 10) hX (dec_of D_X9_lapses (i := 5) rfl) rfl (by decide) ?_
    refine s_icmp_lt (tgt := 19) (n := 13) hX (dec_of D_X9_lapses (i := 6) rfl) rfl rfl ?_ ?_
    · refine s_iconst (v := (-1)) (n := 20) hX (dec_of D_X9_lapses (i := 10) rfl) rfl (by decide) ?_
      exact s_iret hX hR (dec_of D_X9_lapses (i := 11) rfl) rfl
    · refine s_iload_n 2 (n := 14) hX (dec_of D_X9_lapses (i := 7) rfl) rfl rfl rfl ?_
      refine s_bipush (v := 9) (n := 16) hX (dec_of D_X9_lapses (i := 8) rfl) rfl (by decide) ?_
      refine s_icmp_le (tgt := 21) (n := 19) hX (dec_of D_X9_lapses (i := 9) rfl) rfl rfl ?_ ?_
      · refine s_aload_n 0 (n := 22) hX (dec_of D_X9_lapses (i := 12) rfl) rfl rfl rfl ?_
        refine s_getC (c := 9) (p := 1) (n := 25) 121 0 hX cls9 (vk130 (by omega)) (dec_of D_X9_lapses (i := 13) rfl) rfl rfl (by decide) wd_442 ?_
        refine s_iload_n 1 (n := 26) hX (dec_of D_X9_lapses (i := 14) rfl) rfl rfl rfl ?_
        refine s_aload_n 0 (n := 27) hX (dec_of D_X9_lapses (i := 15) rfl) rfl rfl rfl ?_
        refine s_getQ (c := 9) (p := 7) (j := 0) (n := 30) hX cls9 (vk130 (by omega)) (dec_of D_X9_lapses (i := 16) rfl) rfl rfl wd_448 (fun rr2 hrr2 => ?_)
        refine s_getI (c := 5) (p := 13) (id := 533) (n := 33) hX cls5 (vk126 (by omega)) (dec_of D_X9_lapses (i := 17) rfl) rfl rfl wd_411 ?_
        refine s_iload_n 2 (n := 34) hX (dec_of D_X9_lapses (i := 18) rfl) rfl rfl rfl ?_
        refine s_isub (n := 35) hX (dec_of D_X9_lapses (i := 19) rfl) rfl ?_
        refine s_callVI (c := 0) (n := 38) hX cls0 (vk121 (by omega)) lk_RX9_352 (dec_of D_X9_lapses (i := 20) rfl) rfl (by decide) (c_X0_keptSince (l := _) hG _ _ (by omega) _ _) rfl rfl (Nat.le_of_ble_eq_true rfl) (fun q3 => ?_)
        exact s_iret hX hR (dec_of D_X9_lapses (i := 21) rfl) rfl
      · refine s_iconst (v := (-1)) (n := 20) hX (dec_of D_X9_lapses (i := 10) rfl) rfl (by decide) ?_
        exact s_iret hX hR (dec_of D_X9_lapses (i := 11) rfl) rfl
theorem lk_RX9_355 : LkV RX9 355 RX0 yX0_eldestKept cX0_eldestKept 3 (some .int) 1 := ⟨wd_1024, wd_1025, wd_1026, wd_86, wd_1027, by decide +kernel, by decide⟩
def T_X9_nextLapse : List (Nat × Instr × Nat) := [(0, .aload_n 0, 1), (1, .iload_n 1, 1), (2, .invokevirtual 102, 3), (5, .ifCond .ne 5, 3), (8, .iconst (-1), 1), (9, .ireturn, 1), (10, .aload_n 0, 1), (11, .getfield 19, 3), (14, .iload_n 1, 1), (15, .invokevirtual 355, 3), (18, .istore_n 2, 1), (19, .iload_n 2, 1), (20, .ifCond .ge 8, 3), (23, .bipush (-2), 2), (25, .goto 12, 3), (28, .aload_n 0, 1), (29, .getfield 61, 3), (32, .getfield 238, 3), (35, .iload_n 2, 1), (36, .isub, 1), (37, .ireturn, 1)]
theorem D_X9_nextLapse : dchk cX9_nextLapse T_X9_nextLapse = true := by decide +kernel
def Rp_nextLapse (σ : ST) (a1 : Int32) : Option Int32 :=
  bd_ (Rp_isLand (σ) a1) (fun q1 => (if q1 = 0 then some (-1) else bd_ (Bk_eldestKept (σ) 0 a1) (fun q2 => (if 0 ≤ q2 then bd_ (ldQ σ 0) (fun rr3 => some ((gF σ 533 rr3) - q2)) else some (-2)))))
set_option maxHeartbeats 4000000 in
set_option maxRecDepth 100000 in
theorem c_X9_nextLapse {G : GW} (hG : Good G) {l : Launch} (σ : ST) (a1 : Int32) : Ctr G l yX9_nextLapse cX9_nextLapse 3 (some .int) 3 [.ref (ga G 130 0), .int a1] σ (oI σ) (Rp_nextLapse σ a1) := by
  refine ctr_of hG (by decide) (Nat.le_of_ble_eq_true rfl) ?_
  intro X hXl hR hX
  have hX : Ok G X cX9_nextLapse 3 RX9 3 := hX
  unfold Rp_nextLapse
  show Sim G X 3 (MQX G X (oI σ)) σ 0 [(0, .ref (ga G 130 0)), (1, .int a1)] [] _
  refine s_aload_n 0 (n := 1) hX (dec_of D_X9_nextLapse (i := 0) rfl) rfl rfl rfl ?_
  refine s_iload_n 1 (n := 2) hX (dec_of D_X9_nextLapse (i := 1) rfl) rfl rfl rfl ?_
  refine s_callVI (c := 9) (n := 5) hX cls9 (vk130 (by omega)) lk_RX9_102 (dec_of D_X9_nextLapse (i := 2) rfl) rfl (by decide) (c_X9_isLand (l := _) hG _ _) rfl rfl (Nat.le_of_ble_eq_true rfl) (fun q1 => ?_)
  refine s_if_ne (tgt := 10) (n := 8) hX (dec_of D_X9_nextLapse (i := 3) rfl) rfl rfl ?_ ?_
  · refine s_aload_n 0 (n := 11) hX (dec_of D_X9_nextLapse (i := 6) rfl) rfl rfl rfl ?_
    refine s_getC (c := 9) (p := 1) (n := 14) 121 0 hX cls9 (vk130 (by omega)) (dec_of D_X9_nextLapse (i := 7) rfl) rfl rfl (by decide) wd_442 ?_
    refine s_iload_n 1 (n := 15) hX (dec_of D_X9_nextLapse (i := 8) rfl) rfl rfl rfl ?_
    refine s_callVI (c := 0) (n := 18) hX cls0 (vk121 (by omega)) lk_RX9_355 (dec_of D_X9_nextLapse (i := 9) rfl) rfl (by decide) (c_X0_eldestKept (l := _) hG _ _ (by omega) _) rfl rfl (Nat.le_of_ble_eq_true rfl) (fun q2 => ?_)
    refine s_istore_n (lv' := [(0, _), (1, _), (2, _)]) [1, 2, 0] (n := 19) hX (dec_of D_X9_nextLapse (i := 10) rfl) rfl rfl (by decide) rfl ?_
    refine s_iload_n 2 (n := 20) hX (dec_of D_X9_nextLapse (i := 11) rfl) rfl rfl rfl ?_
    refine s_if_ge (tgt := 28) (n := 23) hX (dec_of D_X9_nextLapse (i := 12) rfl) rfl rfl ?_ ?_
    · refine s_aload_n 0 (n := 29) hX (dec_of D_X9_nextLapse (i := 15) rfl) rfl rfl rfl ?_
      refine s_getQ (c := 9) (p := 7) (j := 0) (n := 32) hX cls9 (vk130 (by omega)) (dec_of D_X9_nextLapse (i := 16) rfl) rfl rfl wd_448 (fun rr3 hrr3 => ?_)
      refine s_getI (c := 5) (p := 13) (id := 533) (n := 35) hX cls5 (vk126 (by omega)) (dec_of D_X9_nextLapse (i := 17) rfl) rfl rfl wd_411 ?_
      refine s_iload_n 2 (n := 36) hX (dec_of D_X9_nextLapse (i := 18) rfl) rfl rfl rfl ?_
      refine s_isub (n := 37) hX (dec_of D_X9_nextLapse (i := 19) rfl) rfl ?_
      exact s_iret hX hR (dec_of D_X9_nextLapse (i := 20) rfl) rfl
    · refine s_bipush (v := (-2)) (n := 25) hX (dec_of D_X9_nextLapse (i := 13) rfl) rfl (by decide) ?_
      refine s_goto (n := 37) hX (dec_of D_X9_nextLapse (i := 14) rfl) rfl ?_
      exact s_iret hX hR (dec_of D_X9_nextLapse (i := 20) rfl) rfl
  · refine s_iconst (v := (-1)) (n := 9) hX (dec_of D_X9_nextLapse (i := 4) rfl) rfl (by decide) ?_
    exact s_iret hX hR (dec_of D_X9_nextLapse (i := 5) rfl) rfl
def T_X9_late : List (Nat × Instr × Nat) := [(0, .aload_n 0, 1), (1, .iload_n 1, 1), (2, .invokevirtual 174, 3), (5, .ifCond .ne 5, 3), (8, .iconst (-1), 1), (9, .ireturn, 1), (10, .aload_n 0, 1), (11, .getfield 19, 3), (14, .getfield 113, 3), (17, .aload_n 0, 1), (18, .getfield 61, 3), (21, .iload_n 1, 1), (22, .invokevirtual 310, 3), (25, .istore_n 2, 1), (26, .iload_n 2, 1), (27, .ifCond .ge 6, 3), (30, .bipush (-3), 2), (32, .ireturn, 1), (33, .iconst 0, 1), (34, .istore_n 3, 1), (35, .iconst 0, 1), (36, .istore 4, 2), (38, .iload 4, 2), (40, .aload_n 0, 1), (41, .getfield 61, 3), (44, .getfield 229, 3), (47, .if_icmp .ge 27, 3), (50, .iload_n 3, 1), (51, .aload_n 0, 1), (52, .getfield 19, 3), (55, .getfield 349, 3), (58, .iload 4, 2), (60, .iload_n 1, 1), (61, .iload_n 2, 1), (62, .invokestatic 339, 3), (65, .iaload, 1), (66, .iadd, 1), (67, .istore_n 3, 1), (68, .iinc 4 1, 3), (71, .goto (-33), 3), (74, .iload_n 3, 1), (75, .ireturn, 1)]
theorem D_X9_late : dchk cX9_late T_X9_late = true := by decide +kernel
def Rp_late (σ : ST) (a1 : Int32) : Option Int32 :=
  bd_ (Rp_isSession (σ) a1) (fun q1 => (if q1 = 0 then some (-1) else bd_ (ldQ σ 0) (fun rr2 => bd_ (Wo_firstOpen (σ) 0 rr2 a1) (fun q3 => (if 0 ≤ q3 then lp_ (fun rec5 (z4 : Int32 × Int32) => bd_ (ldQ σ 0) (fun rr7 => (if (gF σ 529 rr7) ≤ z4.2 then some z4.1 else bd_ (Rp_slotOf (σ) z4.2 a1 q3) (fun q8 => bd_ (ldI σ 6 0 q8) (fun v9 => lt_ ((z4.1 + v9)) (fun x10 => rec5 (x10, (z4.2 + 1)))))))) FU (0, 0) else some (-3))))))
set_option maxHeartbeats 4000000 in
set_option maxRecDepth 100000 in
theorem c_X9_late {G : GW} (hG : Good G) {l : Launch} (σ : ST) (a1 : Int32) : Ctr G l yX9_late cX9_late 5 (some .int) 1 [.ref (ga G 130 0), .int a1] σ (oI σ) (Rp_late σ a1) := by
  refine ctr_of hG (by decide) (Nat.le_of_ble_eq_true rfl) ?_
  intro X hXl hR hX
  have hX : Ok G X cX9_late 5 RX9 1 := hX
  unfold Rp_late
  show Sim G X 5 (MQX G X (oI σ)) σ 0 [(0, .ref (ga G 130 0)), (1, .int a1)] [] _
  refine s_aload_n 0 (n := 1) hX (dec_of D_X9_late (i := 0) rfl) rfl rfl rfl ?_
  refine s_iload_n 1 (n := 2) hX (dec_of D_X9_late (i := 1) rfl) rfl rfl rfl ?_
  refine s_callVI (c := 9) (n := 5) hX cls9 (vk130 (by omega)) lk_RX9_174 (dec_of D_X9_late (i := 2) rfl) rfl (by decide) (c_X9_isSession (l := _) hG _ _) rfl rfl (Nat.le_of_ble_eq_true rfl) (fun q1 => ?_)
  refine s_if_ne (tgt := 10) (n := 8) hX (dec_of D_X9_late (i := 3) rfl) rfl rfl ?_ ?_
  · refine s_aload_n 0 (n := 11) hX (dec_of D_X9_late (i := 6) rfl) rfl rfl rfl ?_
    refine s_getC (c := 9) (p := 1) (n := 14) 121 0 hX cls9 (vk130 (by omega)) (dec_of D_X9_late (i := 7) rfl) rfl rfl (by decide) wd_442 ?_
    refine s_getR (c := 0) (p := 0) (k' := 129) (n := 17) hX cls0 (vk121 (by omega)) (dec_of D_X9_late (i := 8) rfl) rfl rfl wd_219 ?_
    refine s_aload_n 0 (n := 18) hX (dec_of D_X9_late (i := 9) rfl) rfl rfl rfl ?_
    refine s_getQ (c := 9) (p := 7) (j := 0) (n := 21) hX cls9 (vk130 (by omega)) (dec_of D_X9_late (i := 10) rfl) rfl rfl wd_448 (fun rr2 hrr2 => ?_)
    refine s_iload_n 1 (n := 22) hX (dec_of D_X9_late (i := 11) rfl) rfl rfl rfl ?_
    refine s_callVI (c := 8) (n := 25) hX cls8 (vk129 (by omega)) lk_RX9_310 (dec_of D_X9_late (i := 12) rfl) rfl (by decide) (c_X8_firstOpen (l := _) hG _ _ (by omega) _ (by omega) _) rfl rfl (Nat.le_of_ble_eq_true rfl) (fun q3 => ?_)
    refine s_istore_n (lv' := [(0, _), (1, _), (2, _)]) [1, 2, 0] (n := 26) hX (dec_of D_X9_late (i := 13) rfl) rfl rfl (by decide) rfl ?_
    refine s_iload_n 2 (n := 27) hX (dec_of D_X9_late (i := 14) rfl) rfl rfl rfl ?_
    refine s_if_ge (tgt := 33) (n := 30) hX (dec_of D_X9_late (i := 15) rfl) rfl rfl ?_ ?_
    · refine s_iconst (v := 0) (n := 34) hX (dec_of D_X9_late (i := 18) rfl) rfl (by decide) ?_
      refine s_istore_n (lv' := [(0, _), (1, _), (2, _), (3, _)]) [1, 2, 3, 0] (n := 35) hX (dec_of D_X9_late (i := 19) rfl) rfl rfl (by decide) rfl ?_
      refine s_iconst (v := 0) (n := 36) hX (dec_of D_X9_late (i := 20) rfl) rfl (by decide) ?_
      refine s_istore (lv' := [(0, _), (1, _), (2, _), (3, _), (4, _)]) [1, 2, 3, 4, 0] (n := 38) hX (dec_of D_X9_late (i := 21) rfl) rfl (by decide) rfl ?_
      refine s_sub [0, 1, 2, 3, 4] rfl (s_lp (pc := 38) (Sf := fun (z4 : Int32 × Int32) => σ) (lvf := fun (z4 : Int32 × Int32) => [(0, .ref (ga G 130 0)), (1, .int a1), (2, .int q3), (3, .int z4.1), (4, .int z4.2)]) (fun rec5 hre6 z4 => ?_) FU (0, 0))
      refine s_iload 4 (n := 40) hX (dec_of D_X9_late (i := 22) rfl) rfl rfl ?_
      refine s_aload_n 0 (n := 41) hX (dec_of D_X9_late (i := 23) rfl) rfl rfl rfl ?_
      refine s_getQ (c := 9) (p := 7) (j := 0) (n := 44) hX cls9 (vk130 (by omega)) (dec_of D_X9_late (i := 24) rfl) rfl rfl wd_448 (fun rr7 hrr7 => ?_)
      refine s_getI (c := 5) (p := 9) (id := 529) (n := 47) hX cls5 (vk126 (by omega)) (dec_of D_X9_late (i := 25) rfl) rfl rfl wd_392 ?_
      refine s_icmp_ge (tgt := 74) (n := 50) hX (dec_of D_X9_late (i := 26) rfl) rfl rfl ?_ ?_
      · refine s_iload_n 3 (n := 75) hX (dec_of D_X9_late (i := 40) rfl) rfl rfl rfl ?_
        exact s_iret hX hR (dec_of D_X9_late (i := 41) rfl) rfl
      · refine s_iload_n 3 (n := 51) hX (dec_of D_X9_late (i := 27) rfl) rfl rfl rfl ?_
        refine s_aload_n 0 (n := 52) hX (dec_of D_X9_late (i := 28) rfl) rfl rfl rfl ?_
        refine s_getC (c := 9) (p := 1) (n := 55) 121 0 hX cls9 (vk130 (by omega)) (dec_of D_X9_late (i := 29) rfl) rfl rfl (by decide) wd_442 ?_
        refine s_getR (c := 0) (p := 7) (k' := 6) (n := 58) hX cls0 (vk121 (by omega)) (dec_of D_X9_late (i := 30) rfl) rfl rfl wd_235 ?_
        refine s_iload 4 (n := 60) hX (dec_of D_X9_late (i := 31) rfl) rfl rfl ?_
        refine s_iload_n 1 (n := 61) hX (dec_of D_X9_late (i := 32) rfl) rfl rfl rfl ?_
        refine s_iload_n 2 (n := 62) hX (dec_of D_X9_late (i := 33) rfl) rfl rfl rfl ?_
        refine s_callSI (n := 65) hX lk_RX9_339 (dec_of D_X9_late (i := 34) rfl) rfl (by decide) (c_X9_slotOf (l := _) hG _ _ _ _) rfl rfl (Nat.le_of_ble_eq_true rfl) (fun q8 => ?_)
        refine s_iald (n := 66) hX (vk6 (by omega)) (by decide) (dec_of D_X9_late (i := 35) rfl) rfl (fun v9 => ?_)
        refine s_iadd (n := 67) hX (dec_of D_X9_late (i := 36) rfl) rfl ?_
        refine s_topi (fun x10 => ?_)
        refine s_istore_n (lv' := [(0, _), (1, _), (2, _), (3, _), (4, _)]) [1, 2, 3, 0, 4] (n := 68) hX (dec_of D_X9_late (i := 37) rfl) rfl rfl (by decide) rfl ?_
        refine s_iinc (v := z4.2 + 1) (lv' := [(0, _), (1, _), (2, _), (3, _), (4, _)]) 4 [1, 2, 3, 4, 0] (n := 71) hX (dec_of D_X9_late (i := 38) rfl) rfl rfl rfl (by decide) rfl ?_
        refine s_goto (n := 38) hX (dec_of D_X9_late (i := 39) rfl) rfl ?_
        exact s_sub [0, 1, 2, 3, 4] rfl (hre6 (x10, (z4.2 + 1)))
    · refine s_bipush (v := (-3)) (n := 32) hX (dec_of D_X9_late (i := 16) rfl) rfl (by decide) ?_
      exact s_iret hX hR (dec_of D_X9_late (i := 17) rfl) rfl
  · refine s_iconst (v := (-1)) (n := 9) hX (dec_of D_X9_late (i := 4) rfl) rfl (by decide) ?_
    exact s_iret hX hR (dec_of D_X9_late (i := 5) rfl) rfl
def T_X9_paidSomewhere : List (Nat × Instr × Nat) := [(0, .iload_n 2, 1), (1, .iconst (-1), 1), (2, .if_icmp .ne 18, 3), (5, .aload_n 0, 1), (6, .getfield 19, 3), (9, .aload_n 0, 1), (10, .getfield 61, 3), (13, .iload_n 1, 1), (14, .invokevirtual 156, 3), (17, .goto 12, 3), (20, .aload_n 0, 1), (21, .getfield 19, 3), (24, .iload_n 1, 1), (25, .iload_n 2, 1), (26, .invokevirtual 330, 3), (29, .ireturn, 1)]
theorem D_X9_paidSomewhere : dchk cX9_paidSomewhere T_X9_paidSomewhere = true := by decide +kernel
def Rp_paidSomewhere (σ : ST) (a1 : Int32) (a2 : Int32) : Option Int32 :=
  (if a2 = (-1) then bd_ (ldQ σ 0) (fun rr2 => bd_ (Bk_paidTo (σ) 0 rr2 a1) (fun q3 => some q3)) else bd_ (Bk_paidBoth (σ) 0 a1 a2) (fun q1 => some q1))
set_option maxHeartbeats 4000000 in
set_option maxRecDepth 100000 in
theorem c_X9_paidSomewhere {G : GW} (hG : Good G) {l : Launch} (σ : ST) (a1 : Int32) (a2 : Int32) : Ctr G l yX9_paidSomewhere cX9_paidSomewhere 3 (some .int) 2 [.ref (ga G 130 0), .int a1, .int a2] σ (oI σ) (Rp_paidSomewhere σ a1 a2) := by
  refine ctr_of hG (by decide) (Nat.le_of_ble_eq_true rfl) ?_
  intro X hXl hR hX
  have hX : Ok G X cX9_paidSomewhere 3 RX9 2 := hX
  unfold Rp_paidSomewhere
  show Sim G X 3 (MQX G X (oI σ)) σ 0 [(0, .ref (ga G 130 0)), (1, .int a1), (2, .int a2)] [] _
  refine s_iload_n 2 (n := 1) hX (dec_of D_X9_paidSomewhere (i := 0) rfl) rfl rfl rfl ?_
  refine s_iconst (v := (-1)) (n := 2) hX (dec_of D_X9_paidSomewhere (i := 1) rfl) rfl (by decide) ?_
  refine s_icmp_ne (tgt := 20) (n := 5) hX (dec_of D_X9_paidSomewhere (i := 2) rfl) rfl rfl ?_ ?_
  · refine s_aload_n 0 (n := 21) hX (dec_of D_X9_paidSomewhere (i := 10) rfl) rfl rfl rfl ?_
    refine s_getC (c := 9) (p := 1) (n := 24) 121 0 hX cls9 (vk130 (by omega)) (dec_of D_X9_paidSomewhere (i := 11) rfl) rfl rfl (by decide) wd_442 ?_
    refine s_iload_n 1 (n := 25) hX (dec_of D_X9_paidSomewhere (i := 12) rfl) rfl rfl rfl ?_
    refine s_iload_n 2 (n := 26) hX (dec_of D_X9_paidSomewhere (i := 13) rfl) rfl rfl rfl ?_
    refine s_callVI (c := 0) (n := 29) hX cls0 (vk121 (by omega)) lk_RX9_330 (dec_of D_X9_paidSomewhere (i := 14) rfl) rfl (by decide) (c_X0_paidBoth (l := _) hG _ _ (by omega) _ _) rfl rfl (Nat.le_of_ble_eq_true rfl) (fun q1 => ?_)
    exact s_iret hX hR (dec_of D_X9_paidSomewhere (i := 15) rfl) rfl
  · refine s_aload_n 0 (n := 6) hX (dec_of D_X9_paidSomewhere (i := 3) rfl) rfl rfl rfl ?_
    refine s_getC (c := 9) (p := 1) (n := 9) 121 0 hX cls9 (vk130 (by omega)) (dec_of D_X9_paidSomewhere (i := 4) rfl) rfl rfl (by decide) wd_442 ?_
    refine s_aload_n 0 (n := 10) hX (dec_of D_X9_paidSomewhere (i := 5) rfl) rfl rfl rfl ?_
    refine s_getQ (c := 9) (p := 7) (j := 0) (n := 13) hX cls9 (vk130 (by omega)) (dec_of D_X9_paidSomewhere (i := 6) rfl) rfl rfl wd_448 (fun rr2 hrr2 => ?_)
    refine s_iload_n 1 (n := 14) hX (dec_of D_X9_paidSomewhere (i := 7) rfl) rfl rfl rfl ?_
    refine s_callVI (c := 0) (n := 17) hX cls0 (vk121 (by omega)) lk_RX9_156 (dec_of D_X9_paidSomewhere (i := 8) rfl) rfl (by decide) (c_X0_paidTo (l := _) hG _ _ (by omega) _ (by omega) _) rfl rfl (Nat.le_of_ble_eq_true rfl) (fun q3 => ?_)
    refine s_goto (n := 29) hX (dec_of D_X9_paidSomewhere (i := 9) rfl) rfl ?_
    exact s_iret hX hR (dec_of D_X9_paidSomewhere (i := 15) rfl) rfl
theorem lk_RX9_358 : LkV RX9 358 RX9 yX9_paidSomewhere cX9_paidSomewhere 3 (some .int) 2 := ⟨wd_1037, wd_1039, wd_9, wd_83, wd_1040, by decide +kernel, by decide⟩
def T_X9_most : List (Nat × Instr × Nat) := [(0, .iload_n 1, 1), (1, .iconst (-1), 1), (2, .if_icmp .eq 11, 3), (5, .aload_n 0, 1), (6, .iload_n 1, 1), (7, .invokevirtual 102, 3), (10, .ifCond .eq 11, 3), (13, .iload_n 2, 1), (14, .iconst 2, 1), (15, .invokestatic 207, 3), (18, .ifCond .ne 5, 3), (21, .iconst (-1), 1), (22, .ireturn, 1), (23, .aload_n 0, 1), (24, .getfield 61, 3), (27, .getfield 226, 3), (30, .ifCond .ne 6, 3), (33, .bipush (-2), 2), (35, .ireturn, 1), (36, .iconst 0, 1), (37, .istore_n 3, 1), (38, .iconst 1, 1), (39, .istore 4, 2), (41, .iload 4, 2), (43, .aload_n 0, 1), (44, .getfield 61, 3), (47, .getfield 226, 3), (50, .if_icmp .ge 28, 3), (53, .aload_n 0, 1), (54, .iload 4, 2), (56, .iload_n 1, 1), (57, .invokevirtual 358, 3), (60, .aload_n 0, 1), (61, .iload_n 3, 1), (62, .iload_n 1, 1), (63, .invokevirtual 358, 3), (66, .if_icmp .le 6, 3), (69, .iload 4, 2), (71, .istore_n 3, 1), (72, .iinc 4 1, 3), (75, .goto (-34), 3), (78, .iload_n 2, 1), (79, .ifCond .ne 7, 3), (82, .iload_n 3, 1), (83, .goto 9, 3), (86, .aload_n 0, 1), (87, .iload_n 3, 1), (88, .iload_n 1, 1), (89, .invokevirtual 358, 3), (92, .ireturn, 1)]
theorem D_X9_most : dchk cX9_most T_X9_most = true := by decide +kernel
def Rp_most (σ : ST) (a1 : Int32) (a2 : Int32) : Option Int32 :=
  lk_ (fun kk2 => (if a1 = (-1) then kk2 () else bd_ (Rp_isLand (σ) a1) (fun q13 => (if q13 = 0 then some (-1) else kk2 ())))) (fun (j1 : Unit) => bd_ (Rp_isChoice (σ) a2 2) (fun q4 => (if q4 = 0 then some (-1) else bd_ (ldQ σ 0) (fun rr5 => (if (gF σ 530 rr5) = 0 then some (-2) else lp_ (fun rec7 (z6 : Int32 × Int32) => bd_ (ldQ σ 0) (fun rr9 => (if (gF σ 530 rr9) ≤ z6.2 then (if a2 = 0 then some z6.1 else bd_ (Rp_paidSomewhere (σ) z6.1 a1) (fun q10 => some q10)) else bd_ (Rp_paidSomewhere (σ) z6.2 a1) (fun q11 => bd_ (Rp_paidSomewhere (σ) z6.1 a1) (fun q12 => (if q11 ≤ q12 then rec7 (z6.1, (z6.2 + 1)) else rec7 (z6.2, (z6.2 + 1)))))))) FU (0, 1))))))
set_option maxHeartbeats 4000000 in
set_option maxRecDepth 100000 in
theorem c_X9_most {G : GW} (hG : Good G) {l : Launch} (σ : ST) (a1 : Int32) (a2 : Int32) : Ctr G l yX9_most cX9_most 5 (some .int) 3 [.ref (ga G 130 0), .int a1, .int a2] σ (oI σ) (Rp_most σ a1 a2) := by
  refine ctr_of hG (by decide) (Nat.le_of_ble_eq_true rfl) ?_
  intro X hXl hR hX
  have hX : Ok G X cX9_most 5 RX9 3 := hX
  unfold Rp_most
  show Sim G X 5 (MQX G X (oI σ)) σ 0 [(0, .ref (ga G 130 0)), (1, .int a1), (2, .int a2)] [] _
  refine s_iload_n 1 (n := 1) hX (dec_of D_X9_most (i := 0) rfl) rfl rfl rfl ?_
  refine s_iconst (v := (-1)) (n := 2) hX (dec_of D_X9_most (i := 1) rfl) rfl (by decide) ?_
  refine s_lk (pcj := 13) (Sf := fun (j1 : Unit) => σ) (lvf := fun (j1 : Unit) => [(0, .ref (ga G 130 0)), (1, .int a1), (2, .int a2)]) (stf := fun (j1 : Unit) => []) (fun j1 => ?_) (fun kk2 hkk3 => ?_)
  · refine s_iload_n 2 (n := 14) hX (dec_of D_X9_most (i := 7) rfl) rfl rfl rfl ?_
    refine s_iconst (v := 2) (n := 15) hX (dec_of D_X9_most (i := 8) rfl) rfl (by decide) ?_
    refine s_callSI (n := 18) hX lk_RX9_207 (dec_of D_X9_most (i := 9) rfl) rfl (by decide) (c_X9_isChoice (l := _) hG _ _ _) rfl rfl (Nat.le_of_ble_eq_true rfl) (fun q4 => ?_)
    refine s_if_ne (tgt := 23) (n := 21) hX (dec_of D_X9_most (i := 10) rfl) rfl rfl ?_ ?_
    · refine s_aload_n 0 (n := 24) hX (dec_of D_X9_most (i := 13) rfl) rfl rfl rfl ?_
      refine s_getQ (c := 9) (p := 7) (j := 0) (n := 27) hX cls9 (vk130 (by omega)) (dec_of D_X9_most (i := 14) rfl) rfl rfl wd_448 (fun rr5 hrr5 => ?_)
      refine s_getI (c := 5) (p := 10) (id := 530) (n := 30) hX cls5 (vk126 (by omega)) (dec_of D_X9_most (i := 15) rfl) rfl rfl wd_397 ?_
      refine s_if_ne (tgt := 36) (n := 33) hX (dec_of D_X9_most (i := 16) rfl) rfl rfl ?_ ?_
      · refine s_iconst (v := 0) (n := 37) hX (dec_of D_X9_most (i := 19) rfl) rfl (by decide) ?_
        refine s_istore_n (lv' := [(0, _), (1, _), (2, _), (3, _)]) [1, 2, 3, 0] (n := 38) hX (dec_of D_X9_most (i := 20) rfl) rfl rfl (by decide) rfl ?_
        refine s_iconst (v := 1) (n := 39) hX (dec_of D_X9_most (i := 21) rfl) rfl (by decide) ?_
        refine s_istore (lv' := [(0, _), (1, _), (2, _), (3, _), (4, _)]) [1, 2, 3, 4, 0] (n := 41) hX (dec_of D_X9_most (i := 22) rfl) rfl (by decide) rfl ?_
        refine s_sub [0, 1, 2, 3, 4] rfl (s_lp (pc := 41) (Sf := fun (z6 : Int32 × Int32) => σ) (lvf := fun (z6 : Int32 × Int32) => [(0, .ref (ga G 130 0)), (1, .int a1), (2, .int a2), (3, .int z6.1), (4, .int z6.2)]) (fun rec7 hre8 z6 => ?_) FU (0, 1))
        refine s_iload 4 (n := 43) hX (dec_of D_X9_most (i := 23) rfl) rfl rfl ?_
        refine s_aload_n 0 (n := 44) hX (dec_of D_X9_most (i := 24) rfl) rfl rfl rfl ?_
        refine s_getQ (c := 9) (p := 7) (j := 0) (n := 47) hX cls9 (vk130 (by omega)) (dec_of D_X9_most (i := 25) rfl) rfl rfl wd_448 (fun rr9 hrr9 => ?_)
        refine s_getI (c := 5) (p := 10) (id := 530) (n := 50) hX cls5 (vk126 (by omega)) (dec_of D_X9_most (i := 26) rfl) rfl rfl wd_397 ?_
        refine s_icmp_ge (tgt := 78) (n := 53) hX (dec_of D_X9_most (i := 27) rfl) rfl rfl ?_ ?_
        · refine s_iload_n 2 (n := 79) hX (dec_of D_X9_most (i := 41) rfl) rfl rfl rfl ?_
          refine s_if_ne (tgt := 86) (n := 82) hX (dec_of D_X9_most (i := 42) rfl) rfl rfl ?_ ?_
          · refine s_aload_n 0 (n := 87) hX (dec_of D_X9_most (i := 45) rfl) rfl rfl rfl ?_
            refine s_iload_n 3 (n := 88) hX (dec_of D_X9_most (i := 46) rfl) rfl rfl rfl ?_
            refine s_iload_n 1 (n := 89) hX (dec_of D_X9_most (i := 47) rfl) rfl rfl rfl ?_
            refine s_callVI (c := 9) (n := 92) hX cls9 (vk130 (by omega)) lk_RX9_358 (dec_of D_X9_most (i := 48) rfl) rfl (by decide) (c_X9_paidSomewhere (l := _) hG _ _ _) rfl rfl (Nat.le_of_ble_eq_true rfl) (fun q10 => ?_)
            exact s_iret hX hR (dec_of D_X9_most (i := 49) rfl) rfl
          · refine s_iload_n 3 (n := 83) hX (dec_of D_X9_most (i := 43) rfl) rfl rfl rfl ?_
            refine s_goto (n := 92) hX (dec_of D_X9_most (i := 44) rfl) rfl ?_
            exact s_iret hX hR (dec_of D_X9_most (i := 49) rfl) rfl
        · refine s_aload_n 0 (n := 54) hX (dec_of D_X9_most (i := 28) rfl) rfl rfl rfl ?_
          refine s_iload 4 (n := 56) hX (dec_of D_X9_most (i := 29) rfl) rfl rfl ?_
          refine s_iload_n 1 (n := 57) hX (dec_of D_X9_most (i := 30) rfl) rfl rfl rfl ?_
          refine s_callVI (c := 9) (n := 60) hX cls9 (vk130 (by omega)) lk_RX9_358 (dec_of D_X9_most (i := 31) rfl) rfl (by decide) (c_X9_paidSomewhere (l := _) hG _ _ _) rfl rfl (Nat.le_of_ble_eq_true rfl) (fun q11 => ?_)
          refine s_aload_n 0 (n := 61) hX (dec_of D_X9_most (i := 32) rfl) rfl rfl rfl ?_
          refine s_iload_n 3 (n := 62) hX (dec_of D_X9_most (i := 33) rfl) rfl rfl rfl ?_
          refine s_iload_n 1 (n := 63) hX (dec_of D_X9_most (i := 34) rfl) rfl rfl rfl ?_
          refine s_callVI (c := 9) (n := 66) hX cls9 (vk130 (by omega)) lk_RX9_358 (dec_of D_X9_most (i := 35) rfl) rfl (by decide) (c_X9_paidSomewhere (l := _) hG _ _ _) rfl rfl (Nat.le_of_ble_eq_true rfl) (fun q12 => ?_)
          refine s_icmp_le (tgt := 72) (n := 69) hX (dec_of D_X9_most (i := 36) rfl) rfl rfl ?_ ?_
          · refine s_iinc (v := z6.2 + 1) (lv' := [(0, _), (1, _), (2, _), (3, _), (4, _)]) 4 [1, 2, 3, 4, 0] (n := 75) hX (dec_of D_X9_most (i := 39) rfl) rfl rfl rfl (by decide) rfl ?_
            refine s_goto (n := 41) hX (dec_of D_X9_most (i := 40) rfl) rfl ?_
            exact s_sub [0, 1, 2, 3, 4] rfl (hre8 (z6.1, (z6.2 + 1)))
          · refine s_iload 4 (n := 71) hX (dec_of D_X9_most (i := 37) rfl) rfl rfl ?_
            refine s_istore_n (lv' := [(0, _), (1, _), (2, _), (3, _), (4, _)]) [1, 2, 3, 0, 4] (n := 72) hX (dec_of D_X9_most (i := 38) rfl) rfl rfl (by decide) rfl ?_
            refine s_iinc (v := z6.2 + 1) (lv' := [(0, _), (1, _), (2, _), (3, _), (4, _)]) 4 [1, 2, 3, 4, 0] (n := 75) hX (dec_of D_X9_most (i := 39) rfl) rfl rfl rfl (by decide) rfl ?_
            refine s_goto (n := 41) hX (dec_of D_X9_most (i := 40) rfl) rfl ?_
            exact s_sub [0, 1, 2, 3, 4] rfl (hre8 (z6.2, (z6.2 + 1)))
      · refine s_bipush (v := (-2)) (n := 35) hX (dec_of D_X9_most (i := 17) rfl) rfl (by decide) ?_
        exact s_iret hX hR (dec_of D_X9_most (i := 18) rfl) rfl
    · refine s_iconst (v := (-1)) (n := 22) hX (dec_of D_X9_most (i := 11) rfl) rfl (by decide) ?_
      exact s_iret hX hR (dec_of D_X9_most (i := 12) rfl) rfl
  · refine s_icmp_eq (tgt := 13) (n := 5) hX (dec_of D_X9_most (i := 2) rfl) rfl rfl ?_ ?_
    · exact s_sub [0, 1, 2] rfl (hkk3 ())
    · refine s_aload_n 0 (n := 6) hX (dec_of D_X9_most (i := 3) rfl) rfl rfl rfl ?_
      refine s_iload_n 1 (n := 7) hX (dec_of D_X9_most (i := 4) rfl) rfl rfl rfl ?_
      refine s_callVI (c := 9) (n := 10) hX cls9 (vk130 (by omega)) lk_RX9_102 (dec_of D_X9_most (i := 5) rfl) rfl (by decide) (c_X9_isLand (l := _) hG _ _) rfl rfl (Nat.le_of_ble_eq_true rfl) (fun q13 => ?_)
      refine s_if_eq (tgt := 21) (n := 13) hX (dec_of D_X9_most (i := 6) rfl) rfl rfl ?_ ?_
      · refine s_iconst (v := (-1)) (n := 22) hX (dec_of D_X9_most (i := 11) rfl) rfl (by decide) ?_
        exact s_iret hX hR (dec_of D_X9_most (i := 12) rfl) rfl
      · exact s_sub [0, 1, 2] rfl (hkk3 ())
def T_X9_rankOf : List (Nat × Instr × Nat) := [(0, .iconst 0, 1), (1, .istore_n 2, 1), (2, .aload_n 0, 1), (3, .getfield 19, 3), (6, .aload_n 0, 1), (7, .getfield 61, 3), (10, .iload_n 1, 1), (11, .invokevirtual 156, 3), (14, .istore_n 3, 1), (15, .iconst 0, 1), (16, .istore 4, 2), (18, .iload 4, 2), (20, .aload_n 0, 1), (21, .getfield 61, 3), (24, .getfield 226, 3), (27, .if_icmp .ge 45, 3), (30, .aload_n 0, 1), (31, .getfield 19, 3), (34, .aload_n 0, 1), (35, .getfield 61, 3), (38, .iload 4, 2), (40, .invokevirtual 156, 3), (43, .istore 5, 2), (45, .iload 5, 2), (47, .iload_n 3, 1), (48, .if_icmp .gt 15, 3), (51, .iload 5, 2), (53, .iload_n 3, 1), (54, .if_icmp .ne 12, 3), (57, .iload 4, 2), (59, .iload_n 1, 1), (60, .if_icmp .ge 6, 3), (63, .iinc 2 1, 3), (66, .iinc 4 1, 3), (69, .goto (-51), 3), (72, .iload_n 2, 1), (73, .ireturn, 1)]
theorem D_X9_rankOf : dchk cX9_rankOf T_X9_rankOf = true := by decide +kernel
def Rp_rankOf (σ : ST) (a1 : Int32) : Option Int32 :=
  bd_ (ldQ σ 0) (fun rr1 => bd_ (Bk_paidTo (σ) 0 rr1 a1) (fun q2 => lp_ (fun rec4 (z3 : Int32 × Int32) => bd_ (ldQ σ 0) (fun rr6 => (if (gF σ 530 rr6) ≤ z3.2 then some z3.1 else bd_ (ldQ σ 0) (fun rr7 => bd_ (Bk_paidTo (σ) 0 rr7 z3.2) (fun q8 => (if q2 < q8 then rec4 ((z3.1 + 1), (z3.2 + 1)) else (if q8 = q2 then (if a1 ≤ z3.2 then rec4 (z3.1, (z3.2 + 1)) else rec4 ((z3.1 + 1), (z3.2 + 1))) else rec4 (z3.1, (z3.2 + 1))))))))) FU (0, 0)))
set_option maxHeartbeats 4000000 in
set_option maxRecDepth 100000 in
theorem c_X9_rankOf {G : GW} (hG : Good G) {l : Launch} (σ : ST) (a1 : Int32) : Ctr G l yX9_rankOf cX9_rankOf 6 (some .int) 2 [.ref (ga G 130 0), .int a1] σ (oI σ) (Rp_rankOf σ a1) := by
  refine ctr_of hG (by decide) (Nat.le_of_ble_eq_true rfl) ?_
  intro X hXl hR hX
  have hX : Ok G X cX9_rankOf 6 RX9 2 := hX
  unfold Rp_rankOf
  show Sim G X 6 (MQX G X (oI σ)) σ 0 [(0, .ref (ga G 130 0)), (1, .int a1)] [] _
  refine s_iconst (v := 0) (n := 1) hX (dec_of D_X9_rankOf (i := 0) rfl) rfl (by decide) ?_
  refine s_istore_n (lv' := [(0, _), (1, _), (2, _)]) [1, 2, 0] (n := 2) hX (dec_of D_X9_rankOf (i := 1) rfl) rfl rfl (by decide) rfl ?_
  refine s_aload_n 0 (n := 3) hX (dec_of D_X9_rankOf (i := 2) rfl) rfl rfl rfl ?_
  refine s_getC (c := 9) (p := 1) (n := 6) 121 0 hX cls9 (vk130 (by omega)) (dec_of D_X9_rankOf (i := 3) rfl) rfl rfl (by decide) wd_442 ?_
  refine s_aload_n 0 (n := 7) hX (dec_of D_X9_rankOf (i := 4) rfl) rfl rfl rfl ?_
  refine s_getQ (c := 9) (p := 7) (j := 0) (n := 10) hX cls9 (vk130 (by omega)) (dec_of D_X9_rankOf (i := 5) rfl) rfl rfl wd_448 (fun rr1 hrr1 => ?_)
  refine s_iload_n 1 (n := 11) hX (dec_of D_X9_rankOf (i := 6) rfl) rfl rfl rfl ?_
  refine s_callVI (c := 0) (n := 14) hX cls0 (vk121 (by omega)) lk_RX9_156 (dec_of D_X9_rankOf (i := 7) rfl) rfl (by decide) (c_X0_paidTo (l := _) hG _ _ (by omega) _ (by omega) _) rfl rfl (Nat.le_of_ble_eq_true rfl) (fun q2 => ?_)
  refine s_istore_n (lv' := [(0, _), (1, _), (2, _), (3, _)]) [1, 2, 3, 0] (n := 15) hX (dec_of D_X9_rankOf (i := 8) rfl) rfl rfl (by decide) rfl ?_
  refine s_iconst (v := 0) (n := 16) hX (dec_of D_X9_rankOf (i := 9) rfl) rfl (by decide) ?_
  refine s_istore (lv' := [(0, _), (1, _), (2, _), (3, _), (4, _)]) [1, 2, 3, 4, 0] (n := 18) hX (dec_of D_X9_rankOf (i := 10) rfl) rfl (by decide) rfl ?_
  refine s_sub [0, 1, 2, 3, 4] rfl (s_lp (pc := 18) (Sf := fun (z3 : Int32 × Int32) => σ) (lvf := fun (z3 : Int32 × Int32) => [(0, .ref (ga G 130 0)), (1, .int a1), (2, .int z3.1), (3, .int q2), (4, .int z3.2)]) (fun rec4 hre5 z3 => ?_) FU (0, 0))
  refine s_iload 4 (n := 20) hX (dec_of D_X9_rankOf (i := 11) rfl) rfl rfl ?_
  refine s_aload_n 0 (n := 21) hX (dec_of D_X9_rankOf (i := 12) rfl) rfl rfl rfl ?_
  refine s_getQ (c := 9) (p := 7) (j := 0) (n := 24) hX cls9 (vk130 (by omega)) (dec_of D_X9_rankOf (i := 13) rfl) rfl rfl wd_448 (fun rr6 hrr6 => ?_)
  refine s_getI (c := 5) (p := 10) (id := 530) (n := 27) hX cls5 (vk126 (by omega)) (dec_of D_X9_rankOf (i := 14) rfl) rfl rfl wd_397 ?_
  refine s_icmp_ge (tgt := 72) (n := 30) hX (dec_of D_X9_rankOf (i := 15) rfl) rfl rfl ?_ ?_
  · refine s_iload_n 2 (n := 73) hX (dec_of D_X9_rankOf (i := 35) rfl) rfl rfl rfl ?_
    exact s_iret hX hR (dec_of D_X9_rankOf (i := 36) rfl) rfl
  · refine s_aload_n 0 (n := 31) hX (dec_of D_X9_rankOf (i := 16) rfl) rfl rfl rfl ?_
    refine s_getC (c := 9) (p := 1) (n := 34) 121 0 hX cls9 (vk130 (by omega)) (dec_of D_X9_rankOf (i := 17) rfl) rfl rfl (by decide) wd_442 ?_
    refine s_aload_n 0 (n := 35) hX (dec_of D_X9_rankOf (i := 18) rfl) rfl rfl rfl ?_
    refine s_getQ (c := 9) (p := 7) (j := 0) (n := 38) hX cls9 (vk130 (by omega)) (dec_of D_X9_rankOf (i := 19) rfl) rfl rfl wd_448 (fun rr7 hrr7 => ?_)
    refine s_iload 4 (n := 40) hX (dec_of D_X9_rankOf (i := 20) rfl) rfl rfl ?_
    refine s_callVI (c := 0) (n := 43) hX cls0 (vk121 (by omega)) lk_RX9_156 (dec_of D_X9_rankOf (i := 21) rfl) rfl (by decide) (c_X0_paidTo (l := _) hG _ _ (by omega) _ (by omega) _) rfl rfl (Nat.le_of_ble_eq_true rfl) (fun q8 => ?_)
    refine s_istore (lv' := [(0, _), (1, _), (2, _), (3, _), (4, _), (5, _)]) [1, 2, 3, 4, 5, 0] (n := 45) hX (dec_of D_X9_rankOf (i := 22) rfl) rfl (by decide) rfl ?_
    refine s_iload 5 (n := 47) hX (dec_of D_X9_rankOf (i := 23) rfl) rfl rfl ?_
    refine s_iload_n 3 (n := 48) hX (dec_of D_X9_rankOf (i := 24) rfl) rfl rfl rfl ?_
    refine s_icmp_gt (tgt := 63) (n := 51) hX (dec_of D_X9_rankOf (i := 25) rfl) rfl rfl ?_ ?_
    · refine s_iinc (v := z3.1 + 1) (lv' := [(0, _), (1, _), (2, _), (3, _), (4, _), (5, _)]) 2 [1, 2, 0, 3, 4, 5] (n := 66) hX (dec_of D_X9_rankOf (i := 32) rfl) rfl rfl rfl (by decide) rfl ?_
      refine s_iinc (v := z3.2 + 1) (lv' := [(0, _), (1, _), (2, _), (3, _), (4, _), (5, _)]) 4 [1, 2, 3, 4, 0, 5] (n := 69) hX (dec_of D_X9_rankOf (i := 33) rfl) rfl rfl rfl (by decide) rfl ?_
      refine s_goto (n := 18) hX (dec_of D_X9_rankOf (i := 34) rfl) rfl ?_
      exact s_sub [0, 1, 2, 3, 4] rfl (hre5 ((z3.1 + 1), (z3.2 + 1)))
    · refine s_iload 5 (n := 53) hX (dec_of D_X9_rankOf (i := 26) rfl) rfl rfl ?_
      refine s_iload_n 3 (n := 54) hX (dec_of D_X9_rankOf (i := 27) rfl) rfl rfl rfl ?_
      refine s_icmp_ne (tgt := 66) (n := 57) hX (dec_of D_X9_rankOf (i := 28) rfl) rfl rfl ?_ ?_
      · refine s_iinc (v := z3.2 + 1) (lv' := [(0, _), (1, _), (2, _), (3, _), (4, _), (5, _)]) 4 [1, 2, 3, 4, 0, 5] (n := 69) hX (dec_of D_X9_rankOf (i := 33) rfl) rfl rfl rfl (by decide) rfl ?_
        refine s_goto (n := 18) hX (dec_of D_X9_rankOf (i := 34) rfl) rfl ?_
        exact s_sub [0, 1, 2, 3, 4] rfl (hre5 (z3.1, (z3.2 + 1)))
      · refine s_iload 4 (n := 59) hX (dec_of D_X9_rankOf (i := 29) rfl) rfl rfl ?_
        refine s_iload_n 1 (n := 60) hX (dec_of D_X9_rankOf (i := 30) rfl) rfl rfl rfl ?_
        refine s_icmp_ge (tgt := 66) (n := 63) hX (dec_of D_X9_rankOf (i := 31) rfl) rfl rfl ?_ ?_
        · refine s_iinc (v := z3.2 + 1) (lv' := [(0, _), (1, _), (2, _), (3, _), (4, _), (5, _)]) 4 [1, 2, 3, 4, 0, 5] (n := 69) hX (dec_of D_X9_rankOf (i := 33) rfl) rfl rfl rfl (by decide) rfl ?_
          refine s_goto (n := 18) hX (dec_of D_X9_rankOf (i := 34) rfl) rfl ?_
          exact s_sub [0, 1, 2, 3, 4] rfl (hre5 (z3.1, (z3.2 + 1)))
        · refine s_iinc (v := z3.1 + 1) (lv' := [(0, _), (1, _), (2, _), (3, _), (4, _), (5, _)]) 2 [1, 2, 0, 3, 4, 5] (n := 66) hX (dec_of D_X9_rankOf (i := 32) rfl) rfl rfl rfl (by decide) rfl ?_
          refine s_iinc (v := z3.2 + 1) (lv' := [(0, _), (1, _), (2, _), (3, _), (4, _), (5, _)]) 4 [1, 2, 3, 4, 0, 5] (n := 69) hX (dec_of D_X9_rankOf (i := 33) rfl) rfl rfl rfl (by decide) rfl ?_
          refine s_goto (n := 18) hX (dec_of D_X9_rankOf (i := 34) rfl) rfl ?_
          exact s_sub [0, 1, 2, 3, 4] rfl (hre5 ((z3.1 + 1), (z3.2 + 1)))
theorem lk_RX9_361 : LkV RX9 361 RX9 yX9_rankOf cX9_rankOf 6 (some .int) 1 := ⟨wd_1045, wd_1047, wd_10, wd_83, wd_1048, by decide +kernel, by decide⟩
def T_X9_ranked : List (Nat × Instr × Nat) := [(0, .iload_n 1, 1), (1, .ifCond .ge 5, 3), (4, .iconst (-1), 1), (5, .ireturn, 1), (6, .iconst 0, 1), (7, .istore_n 2, 1), (8, .iload_n 2, 1), (9, .aload_n 0, 1), (10, .getfield 61, 3), (13, .getfield 226, 3), (16, .if_icmp .ge 20, 3), (19, .aload_n 0, 1), (20, .iload_n 2, 1), (21, .invokevirtual 361, 3), (24, .iload_n 1, 1), (25, .if_icmp .ne 5, 3), (28, .iload_n 2, 1), (29, .ireturn, 1), (30, .iinc 2 1, 3), (33, .goto (-25), 3), (36, .bipush (-2), 2), (38, .ireturn, 1)]
theorem D_X9_ranked : dchk cX9_ranked T_X9_ranked = true := by decide +kernel
def Rp_ranked (σ : ST) (a1 : Int32) : Option Int32 :=
  (if 0 ≤ a1 then lp_ (fun rec2 (z1 : Int32) => bd_ (ldQ σ 0) (fun rr4 => (if (gF σ 530 rr4) ≤ z1 then some (-2) else bd_ (Rp_rankOf (σ) z1) (fun q5 => (if q5 = a1 then some z1 else rec2 (z1 + 1)))))) FU 0 else some (-1))
set_option maxHeartbeats 4000000 in
set_option maxRecDepth 100000 in
theorem c_X9_ranked {G : GW} (hG : Good G) {l : Launch} (σ : ST) (a1 : Int32) : Ctr G l yX9_ranked cX9_ranked 3 (some .int) 3 [.ref (ga G 130 0), .int a1] σ (oI σ) (Rp_ranked σ a1) := by
  refine ctr_of hG (by decide) (Nat.le_of_ble_eq_true rfl) ?_
  intro X hXl hR hX
  have hX : Ok G X cX9_ranked 3 RX9 3 := hX
  unfold Rp_ranked
  show Sim G X 3 (MQX G X (oI σ)) σ 0 [(0, .ref (ga G 130 0)), (1, .int a1)] [] _
  refine s_iload_n 1 (n := 1) hX (dec_of D_X9_ranked (i := 0) rfl) rfl rfl rfl ?_
  refine s_if_ge (tgt := 6) (n := 4) hX (dec_of D_X9_ranked (i := 1) rfl) rfl rfl ?_ ?_
  · refine s_iconst (v := 0) (n := 7) hX (dec_of D_X9_ranked (i := 4) rfl) rfl (by decide) ?_
    refine s_istore_n (lv' := [(0, _), (1, _), (2, _)]) [1, 2, 0] (n := 8) hX (dec_of D_X9_ranked (i := 5) rfl) rfl rfl (by decide) rfl ?_
    refine s_sub [0, 1, 2] rfl (s_lp (pc := 8) (Sf := fun (z1 : Int32) => σ) (lvf := fun (z1 : Int32) => [(0, .ref (ga G 130 0)), (1, .int a1), (2, .int z1)]) (fun rec2 hre3 z1 => ?_) FU 0)
    refine s_iload_n 2 (n := 9) hX (dec_of D_X9_ranked (i := 6) rfl) rfl rfl rfl ?_
    refine s_aload_n 0 (n := 10) hX (dec_of D_X9_ranked (i := 7) rfl) rfl rfl rfl ?_
    refine s_getQ (c := 9) (p := 7) (j := 0) (n := 13) hX cls9 (vk130 (by omega)) (dec_of D_X9_ranked (i := 8) rfl) rfl rfl wd_448 (fun rr4 hrr4 => ?_)
    refine s_getI (c := 5) (p := 10) (id := 530) (n := 16) hX cls5 (vk126 (by omega)) (dec_of D_X9_ranked (i := 9) rfl) rfl rfl wd_397 ?_
    refine s_icmp_ge (tgt := 36) (n := 19) hX (dec_of D_X9_ranked (i := 10) rfl) rfl rfl ?_ ?_
    · refine s_bipush (v := (-2)) (n := 38) hX (dec_of D_X9_ranked (i := 20) rfl) rfl (by decide) ?_
      exact s_iret hX hR (dec_of D_X9_ranked (i := 21) rfl) rfl
    · refine s_aload_n 0 (n := 20) hX (dec_of D_X9_ranked (i := 11) rfl) rfl rfl rfl ?_
      refine s_iload_n 2 (n := 21) hX (dec_of D_X9_ranked (i := 12) rfl) rfl rfl rfl ?_
      refine s_callVI (c := 9) (n := 24) hX cls9 (vk130 (by omega)) lk_RX9_361 (dec_of D_X9_ranked (i := 13) rfl) rfl (by decide) (c_X9_rankOf (l := _) hG _ _) rfl rfl (Nat.le_of_ble_eq_true rfl) (fun q5 => ?_)
      refine s_iload_n 1 (n := 25) hX (dec_of D_X9_ranked (i := 14) rfl) rfl rfl rfl ?_
      refine s_icmp_ne (tgt := 30) (n := 28) hX (dec_of D_X9_ranked (i := 15) rfl) rfl rfl ?_ ?_
      · refine s_iinc (v := z1 + 1) (lv' := [(0, _), (1, _), (2, _)]) 2 [1, 2, 0] (n := 33) hX (dec_of D_X9_ranked (i := 18) rfl) rfl rfl rfl (by decide) rfl ?_
        refine s_goto (n := 8) hX (dec_of D_X9_ranked (i := 19) rfl) rfl ?_
        exact s_sub [0, 1, 2] rfl (hre3 (z1 + 1))
      · refine s_iload_n 2 (n := 29) hX (dec_of D_X9_ranked (i := 16) rfl) rfl rfl rfl ?_
        exact s_iret hX hR (dec_of D_X9_ranked (i := 17) rfl) rfl
  · refine s_iconst (v := (-1)) (n := 5) hX (dec_of D_X9_ranked (i := 2) rfl) rfl (by decide) ?_
    exact s_iret hX hR (dec_of D_X9_ranked (i := 3) rfl) rfl
def T_X9_poorest : List (Nat × Instr × Nat) := [(0, .aload_n 0, 1), (1, .iload_n 1, 1), (2, .invokevirtual 102, 3), (5, .ifCond .eq 11, 3), (8, .iload_n 2, 1), (9, .iconst 2, 1), (10, .invokestatic 207, 3), (13, .ifCond .ne 5, 3), (16, .iconst (-1), 1), (17, .ireturn, 1), (18, .bipush (-2), 2), (20, .istore_n 3, 1), (21, .bipush (-2), 2), (23, .istore 4, 2), (25, .iconst 0, 1), (26, .istore 5, 2), (28, .iload 5, 2), (30, .aload_n 0, 1), (31, .getfield 61, 3), (34, .getfield 226, 3), (37, .if_icmp .ge 66, 3), (40, .aload_n 0, 1), (41, .getfield 19, 3), (44, .getfield 113, 3), (47, .getfield 153, 3), (50, .iload 5, 2), (52, .iaload, 1), (53, .iload_n 1, 1), (54, .if_icmp .ne 43, 3), (57, .iload_n 3, 1), (58, .ifCond .lt 21, 3), (61, .aload_n 0, 1), (62, .getfield 19, 3), (65, .aload_n 0, 1), (66, .getfield 61, 3), (69, .iload 5, 2), (71, .invokevirtual 156, 3), (74, .iload 4, 2), (76, .if_icmp .ge 21, 3), (79, .iload 5, 2), (81, .istore_n 3, 1), (82, .aload_n 0, 1), (83, .getfield 19, 3), (86, .aload_n 0, 1), (87, .getfield 61, 3), (90, .iload 5, 2), (92, .invokevirtual 156, 3), (95, .istore 4, 2), (97, .iinc 5 1, 3), (100, .goto (-72), 3), (103, .iload_n 2, 1), (104, .ifCond .ne 7, 3), (107, .iload_n 3, 1), (108, .goto 5, 3), (111, .iload 4, 2), (113, .ireturn, 1)]
theorem D_X9_poorest : dchk cX9_poorest T_X9_poorest = true := by decide +kernel
def Rp_poorest (σ : ST) (a1 : Int32) (a2 : Int32) : Option Int32 :=
  bd_ (Rp_isLand (σ) a1) (fun q1 => (if q1 = 0 then some (-1) else bd_ (Rp_isChoice (σ) a2 2) (fun q2 => (if q2 = 0 then some (-1) else lp_ (fun rec4 (z3 : Int32 × Int32 × Int32) => bd_ (ldQ σ 0) (fun rr6 => (if (gF σ 530 rr6) ≤ z3.2.2 then (if a2 = 0 then some z3.1 else some z3.2.1) else bd_ (ldI σ 26 0 z3.2.2) (fun v7 => (if v7 = a1 then lk_ (fun kk9 => (if z3.1 < 0 then kk9 () else bd_ (ldQ σ 0) (fun rr13 => bd_ (Bk_paidTo (σ) 0 rr13 z3.2.2) (fun q14 => (if z3.2.1 ≤ q14 then rec4 (z3.1, z3.2.1, (z3.2.2 + 1)) else kk9 ()))))) (fun (j8 : Unit) => bd_ (ldQ σ 0) (fun rr11 => bd_ (Bk_paidTo (σ) 0 rr11 z3.2.2) (fun q12 => rec4 (z3.2.2, q12, (z3.2.2 + 1))))) else rec4 (z3.1, z3.2.1, (z3.2.2 + 1))))))) FU ((-2), (-2), 0)))))
set_option maxHeartbeats 4000000 in
set_option maxRecDepth 100000 in
theorem c_X9_poorest {G : GW} (hG : Good G) {l : Launch} (σ : ST) (a1 : Int32) (a2 : Int32) : Ctr G l yX9_poorest cX9_poorest 6 (some .int) 2 [.ref (ga G 130 0), .int a1, .int a2] σ (oI σ) (Rp_poorest σ a1 a2) := by
  refine ctr_of hG (by decide) (Nat.le_of_ble_eq_true rfl) ?_
  intro X hXl hR hX
  have hX : Ok G X cX9_poorest 6 RX9 2 := hX
  unfold Rp_poorest
  show Sim G X 6 (MQX G X (oI σ)) σ 0 [(0, .ref (ga G 130 0)), (1, .int a1), (2, .int a2)] [] _
  refine s_aload_n 0 (n := 1) hX (dec_of D_X9_poorest (i := 0) rfl) rfl rfl rfl ?_
  refine s_iload_n 1 (n := 2) hX (dec_of D_X9_poorest (i := 1) rfl) rfl rfl rfl ?_
  refine s_callVI (c := 9) (n := 5) hX cls9 (vk130 (by omega)) lk_RX9_102 (dec_of D_X9_poorest (i := 2) rfl) rfl (by decide) (c_X9_isLand (l := _) hG _ _) rfl rfl (Nat.le_of_ble_eq_true rfl) (fun q1 => ?_)
  refine s_if_eq (tgt := 16) (n := 8) hX (dec_of D_X9_poorest (i := 3) rfl) rfl rfl ?_ ?_
  · refine s_iconst (v := (-1)) (n := 17) hX (dec_of D_X9_poorest (i := 8) rfl) rfl (by decide) ?_
    exact s_iret hX hR (dec_of D_X9_poorest (i := 9) rfl) rfl
  · refine s_iload_n 2 (n := 9) hX (dec_of D_X9_poorest (i := 4) rfl) rfl rfl rfl ?_
    refine s_iconst (v := 2) (n := 10) hX (dec_of D_X9_poorest (i := 5) rfl) rfl (by decide) ?_
    refine s_callSI (n := 13) hX lk_RX9_207 (dec_of D_X9_poorest (i := 6) rfl) rfl (by decide) (c_X9_isChoice (l := _) hG _ _ _) rfl rfl (Nat.le_of_ble_eq_true rfl) (fun q2 => ?_)
    refine s_if_ne (tgt := 18) (n := 16) hX (dec_of D_X9_poorest (i := 7) rfl) rfl rfl ?_ ?_
    · refine s_bipush (v := (-2)) (n := 20) hX (dec_of D_X9_poorest (i := 10) rfl) rfl (by decide) ?_
      refine s_istore_n (lv' := [(0, _), (1, _), (2, _), (3, _)]) [1, 2, 3, 0] (n := 21) hX (dec_of D_X9_poorest (i := 11) rfl) rfl rfl (by decide) rfl ?_
      refine s_bipush (v := (-2)) (n := 23) hX (dec_of D_X9_poorest (i := 12) rfl) rfl (by decide) ?_
      refine s_istore (lv' := [(0, _), (1, _), (2, _), (3, _), (4, _)]) [1, 2, 3, 4, 0] (n := 25) hX (dec_of D_X9_poorest (i := 13) rfl) rfl (by decide) rfl ?_
      refine s_iconst (v := 0) (n := 26) hX (dec_of D_X9_poorest (i := 14) rfl) rfl (by decide) ?_
      refine s_istore (lv' := [(0, _), (1, _), (2, _), (3, _), (4, _), (5, _)]) [1, 2, 3, 4, 5, 0] (n := 28) hX (dec_of D_X9_poorest (i := 15) rfl) rfl (by decide) rfl ?_
      refine s_sub [0, 1, 2, 3, 4, 5] rfl (s_lp (pc := 28) (Sf := fun (z3 : Int32 × Int32 × Int32) => σ) (lvf := fun (z3 : Int32 × Int32 × Int32) => [(0, .ref (ga G 130 0)), (1, .int a1), (2, .int a2), (3, .int z3.1), (4, .int z3.2.1), (5, .int z3.2.2)]) (fun rec4 hre5 z3 => ?_) FU ((-2), (-2), 0))
      refine s_iload 5 (n := 30) hX (dec_of D_X9_poorest (i := 16) rfl) rfl rfl ?_
      refine s_aload_n 0 (n := 31) hX (dec_of D_X9_poorest (i := 17) rfl) rfl rfl rfl ?_
      refine s_getQ (c := 9) (p := 7) (j := 0) (n := 34) hX cls9 (vk130 (by omega)) (dec_of D_X9_poorest (i := 18) rfl) rfl rfl wd_448 (fun rr6 hrr6 => ?_)
      refine s_getI (c := 5) (p := 10) (id := 530) (n := 37) hX cls5 (vk126 (by omega)) (dec_of D_X9_poorest (i := 19) rfl) rfl rfl wd_397 ?_
      refine s_icmp_ge (tgt := 103) (n := 40) hX (dec_of D_X9_poorest (i := 20) rfl) rfl rfl ?_ ?_
      · refine s_iload_n 2 (n := 104) hX (dec_of D_X9_poorest (i := 50) rfl) rfl rfl rfl ?_
        refine s_if_ne (tgt := 111) (n := 107) hX (dec_of D_X9_poorest (i := 51) rfl) rfl rfl ?_ ?_
        · refine s_iload 4 (n := 113) hX (dec_of D_X9_poorest (i := 54) rfl) rfl rfl ?_
          exact s_iret hX hR (dec_of D_X9_poorest (i := 55) rfl) rfl
        · refine s_iload_n 3 (n := 108) hX (dec_of D_X9_poorest (i := 52) rfl) rfl rfl rfl ?_
          refine s_goto (n := 113) hX (dec_of D_X9_poorest (i := 53) rfl) rfl ?_
          exact s_iret hX hR (dec_of D_X9_poorest (i := 55) rfl) rfl
      · refine s_aload_n 0 (n := 41) hX (dec_of D_X9_poorest (i := 21) rfl) rfl rfl rfl ?_
        refine s_getC (c := 9) (p := 1) (n := 44) 121 0 hX cls9 (vk130 (by omega)) (dec_of D_X9_poorest (i := 22) rfl) rfl rfl (by decide) wd_442 ?_
        refine s_getR (c := 0) (p := 0) (k' := 129) (n := 47) hX cls0 (vk121 (by omega)) (dec_of D_X9_poorest (i := 23) rfl) rfl rfl wd_219 ?_
        refine s_getR (c := 8) (p := 2) (k' := 26) (n := 50) hX cls8 (vk129 (by omega)) (dec_of D_X9_poorest (i := 24) rfl) rfl rfl wd_203 ?_
        refine s_iload 5 (n := 52) hX (dec_of D_X9_poorest (i := 25) rfl) rfl rfl ?_
        refine s_iald (n := 53) hX (vk26 (by omega)) (by decide) (dec_of D_X9_poorest (i := 26) rfl) rfl (fun v7 => ?_)
        refine s_iload_n 1 (n := 54) hX (dec_of D_X9_poorest (i := 27) rfl) rfl rfl rfl ?_
        refine s_icmp_ne (tgt := 97) (n := 57) hX (dec_of D_X9_poorest (i := 28) rfl) rfl rfl ?_ ?_
        · refine s_iinc (v := z3.2.2 + 1) (lv' := [(0, _), (1, _), (2, _), (3, _), (4, _), (5, _)]) 5 [1, 2, 3, 4, 5, 0] (n := 100) hX (dec_of D_X9_poorest (i := 48) rfl) rfl rfl rfl (by decide) rfl ?_
          refine s_goto (n := 28) hX (dec_of D_X9_poorest (i := 49) rfl) rfl ?_
          exact s_sub [0, 1, 2, 3, 4, 5] rfl (hre5 (z3.1, z3.2.1, (z3.2.2 + 1)))
        · refine s_iload_n 3 (n := 58) hX (dec_of D_X9_poorest (i := 29) rfl) rfl rfl rfl ?_
          refine s_lk (pcj := 79) (Sf := fun (j8 : Unit) => σ) (lvf := fun (j8 : Unit) => [(0, .ref (ga G 130 0)), (1, .int a1), (2, .int a2), (5, .int z3.2.2)]) (stf := fun (j8 : Unit) => []) (fun j8 => ?_) (fun kk9 hkk10 => ?_)
          · refine s_iload 3 (n := 81) hX (dec_of D_X9_poorest (i := 39) rfl) rfl rfl ?_
            refine s_istore_n (lv' := [(0, _), (1, _), (2, _), (3, _), (5, _)]) [1, 2, 3, 0, 4] (n := 82) hX (dec_of D_X9_poorest (i := 40) rfl) rfl rfl (by decide) rfl ?_
            refine s_aload_n 0 (n := 83) hX (dec_of D_X9_poorest (i := 41) rfl) rfl rfl rfl ?_
            refine s_getC (c := 9) (p := 1) (n := 86) 121 0 hX cls9 (vk130 (by omega)) (dec_of D_X9_poorest (i := 42) rfl) rfl rfl (by decide) wd_442 ?_
            refine s_aload_n 0 (n := 87) hX (dec_of D_X9_poorest (i := 43) rfl) rfl rfl rfl ?_
            refine s_getQ (c := 9) (p := 7) (j := 0) (n := 90) hX cls9 (vk130 (by omega)) (dec_of D_X9_poorest (i := 44) rfl) rfl rfl wd_448 (fun rr11 hrr11 => ?_)
            refine s_iload 4 (n := 92) hX (dec_of D_X9_poorest (i := 45) rfl) rfl rfl ?_
            refine s_callVI (c := 0) (n := 95) hX cls0 (vk121 (by omega)) lk_RX9_156 (dec_of D_X9_poorest (i := 46) rfl) rfl (by decide) (c_X0_paidTo (l := _) hG _ _ (by omega) _ (by omega) _) rfl rfl (Nat.le_of_ble_eq_true rfl) (fun q12 => ?_)
            refine s_istore (lv' := [(0, _), (1, _), (2, _), (3, _), (4, _), (5, _)]) [1, 2, 3, 4, 0, 5] (n := 97) hX (dec_of D_X9_poorest (i := 47) rfl) rfl (by decide) rfl ?_
            refine s_iinc (v := z3.2.2 + 1) (lv' := [(0, _), (1, _), (2, _), (3, _), (4, _), (5, _)]) 5 [1, 2, 3, 4, 5, 0] (n := 100) hX (dec_of D_X9_poorest (i := 48) rfl) rfl rfl rfl (by decide) rfl ?_
            refine s_goto (n := 28) hX (dec_of D_X9_poorest (i := 49) rfl) rfl ?_
            exact s_sub [0, 1, 2, 3, 4, 5] rfl (hre5 (z3.2.2, q12, (z3.2.2 + 1)))
          · refine s_if_lt (tgt := 79) (n := 61) hX (dec_of D_X9_poorest (i := 30) rfl) rfl rfl ?_ ?_
            · exact s_sub [0, 1, 2, 5] rfl (hkk10 ())
            · refine s_aload_n 0 (n := 62) hX (dec_of D_X9_poorest (i := 31) rfl) rfl rfl rfl ?_
              refine s_getC (c := 9) (p := 1) (n := 65) 121 0 hX cls9 (vk130 (by omega)) (dec_of D_X9_poorest (i := 32) rfl) rfl rfl (by decide) wd_442 ?_
              refine s_aload_n 0 (n := 66) hX (dec_of D_X9_poorest (i := 33) rfl) rfl rfl rfl ?_
              refine s_getQ (c := 9) (p := 7) (j := 0) (n := 69) hX cls9 (vk130 (by omega)) (dec_of D_X9_poorest (i := 34) rfl) rfl rfl wd_448 (fun rr13 hrr13 => ?_)
              refine s_iload 5 (n := 71) hX (dec_of D_X9_poorest (i := 35) rfl) rfl rfl ?_
              refine s_callVI (c := 0) (n := 74) hX cls0 (vk121 (by omega)) lk_RX9_156 (dec_of D_X9_poorest (i := 36) rfl) rfl (by decide) (c_X0_paidTo (l := _) hG _ _ (by omega) _ (by omega) _) rfl rfl (Nat.le_of_ble_eq_true rfl) (fun q14 => ?_)
              refine s_iload 4 (n := 76) hX (dec_of D_X9_poorest (i := 37) rfl) rfl rfl ?_
              refine s_icmp_ge (tgt := 97) (n := 79) hX (dec_of D_X9_poorest (i := 38) rfl) rfl rfl ?_ ?_
              · refine s_iinc (v := z3.2.2 + 1) (lv' := [(0, _), (1, _), (2, _), (3, _), (4, _), (5, _)]) 5 [1, 2, 3, 4, 5, 0] (n := 100) hX (dec_of D_X9_poorest (i := 48) rfl) rfl rfl rfl (by decide) rfl ?_
                refine s_goto (n := 28) hX (dec_of D_X9_poorest (i := 49) rfl) rfl ?_
                exact s_sub [0, 1, 2, 3, 4, 5] rfl (hre5 (z3.1, z3.2.1, (z3.2.2 + 1)))
              · exact s_sub [0, 1, 2, 5] rfl (hkk10 ())
    · refine s_iconst (v := (-1)) (n := 17) hX (dec_of D_X9_poorest (i := 8) rfl) rfl (by decide) ?_
      exact s_iret hX hR (dec_of D_X9_poorest (i := 9) rfl) rfl
def T_X9_statement : List (Nat × Instr × Nat) := [(0, .aload_n 0, 1), (1, .iload_n 1, 1), (2, .invokevirtual 148, 3), (5, .ifCond .eq 15, 3), (8, .iload_n 2, 1), (9, .ifCond .lt 11, 3), (12, .iload_n 3, 1), (13, .iconst 2, 1), (14, .invokestatic 207, 3), (17, .ifCond .ne 5, 3), (20, .iconst (-1), 1), (21, .ireturn, 1), (22, .iconst 0, 1), (23, .istore 4, 2), (25, .iconst 0, 1), (26, .istore 5, 2), (28, .iload 5, 2), (30, .aload_n 0, 1), (31, .getfield 61, 3), (34, .getfield 229, 3), (37, .if_icmp .ge 52, 3), (40, .aload_n 0, 1), (41, .getfield 19, 3), (44, .iload_n 1, 1), (45, .iload 5, 2), (47, .invokevirtual 330, 3), (50, .istore 6, 2), (52, .iload 6, 2), (54, .ifCond .le 21, 3), (57, .iload 4, 2), (59, .iload_n 2, 1), (60, .if_icmp .ne 15, 3), (63, .iload_n 3, 1), (64, .ifCond .ne 8, 3), (67, .iload 5, 2), (69, .goto 5, 3), (72, .iload 6, 2), (74, .ireturn, 1), (75, .iload 6, 2), (77, .ifCond .le 6, 3), (80, .iinc 4 1, 3), (83, .iinc 5 1, 3), (86, .goto (-58), 3), (89, .bipush (-2), 2), (91, .ireturn, 1)]
theorem D_X9_statement : dchk cX9_statement T_X9_statement = true := by decide +kernel
def Rp_statement (σ : ST) (a1 : Int32) (a2 : Int32) (a3 : Int32) : Option Int32 :=
  bd_ (Rp_isPlayer (σ) a1) (fun q1 => (if q1 = 0 then some (-1) else (if a2 < 0 then some (-1) else bd_ (Rp_isChoice (σ) a3 2) (fun q2 => (if q2 = 0 then some (-1) else lp_ (fun rec4 (z3 : Int32 × Int32) => bd_ (ldQ σ 0) (fun rr6 => (if (gF σ 529 rr6) ≤ z3.2 then some (-2) else bd_ (Bk_paidBoth (σ) 0 a1 z3.2) (fun q7 => lk_ (fun kk9 => (if q7 ≤ 0 then kk9 () else (if z3.1 = a2 then (if a3 = 0 then some z3.2 else some q7) else kk9 ()))) (fun (j8 : Unit) => (if q7 ≤ 0 then rec4 (z3.1, (z3.2 + 1)) else rec4 ((z3.1 + 1), (z3.2 + 1)))))))) FU (0, 0))))))
set_option maxHeartbeats 4000000 in
set_option maxRecDepth 100000 in
theorem c_X9_statement {G : GW} (hG : Good G) {l : Launch} (σ : ST) (a1 : Int32) (a2 : Int32) (a3 : Int32) : Ctr G l yX9_statement cX9_statement 7 (some .int) 1 [.ref (ga G 130 0), .int a1, .int a2, .int a3] σ (oI σ) (Rp_statement σ a1 a2 a3) := by
  refine ctr_of hG (by decide) (Nat.le_of_ble_eq_true rfl) ?_
  intro X hXl hR hX
  have hX : Ok G X cX9_statement 7 RX9 1 := hX
  unfold Rp_statement
  show Sim G X 7 (MQX G X (oI σ)) σ 0 [(0, .ref (ga G 130 0)), (1, .int a1), (2, .int a2), (3, .int a3)] [] _
  refine s_aload_n 0 (n := 1) hX (dec_of D_X9_statement (i := 0) rfl) rfl rfl rfl ?_
  refine s_iload_n 1 (n := 2) hX (dec_of D_X9_statement (i := 1) rfl) rfl rfl rfl ?_
  refine s_callVI (c := 9) (n := 5) hX cls9 (vk130 (by omega)) lk_RX9_148 (dec_of D_X9_statement (i := 2) rfl) rfl (by decide) (c_X9_isPlayer (l := _) hG _ _) rfl rfl (Nat.le_of_ble_eq_true rfl) (fun q1 => ?_)
  refine s_if_eq (tgt := 20) (n := 8) hX (dec_of D_X9_statement (i := 3) rfl) rfl rfl ?_ ?_
  · refine s_iconst (v := (-1)) (n := 21) hX (dec_of D_X9_statement (i := 10) rfl) rfl (by decide) ?_
    exact s_iret hX hR (dec_of D_X9_statement (i := 11) rfl) rfl
  · refine s_iload_n 2 (n := 9) hX (dec_of D_X9_statement (i := 4) rfl) rfl rfl rfl ?_
    refine s_if_lt (tgt := 20) (n := 12) hX (dec_of D_X9_statement (i := 5) rfl) rfl rfl ?_ ?_
    · refine s_iconst (v := (-1)) (n := 21) hX (dec_of D_X9_statement (i := 10) rfl) rfl (by decide) ?_
      exact s_iret hX hR (dec_of D_X9_statement (i := 11) rfl) rfl
    · refine s_iload_n 3 (n := 13) hX (dec_of D_X9_statement (i := 6) rfl) rfl rfl rfl ?_
      refine s_iconst (v := 2) (n := 14) hX (dec_of D_X9_statement (i := 7) rfl) rfl (by decide) ?_
      refine s_callSI (n := 17) hX lk_RX9_207 (dec_of D_X9_statement (i := 8) rfl) rfl (by decide) (c_X9_isChoice (l := _) hG _ _ _) rfl rfl (Nat.le_of_ble_eq_true rfl) (fun q2 => ?_)
      refine s_if_ne (tgt := 22) (n := 20) hX (dec_of D_X9_statement (i := 9) rfl) rfl rfl ?_ ?_
      · refine s_iconst (v := 0) (n := 23) hX (dec_of D_X9_statement (i := 12) rfl) rfl (by decide) ?_
        refine s_istore (lv' := [(0, _), (1, _), (2, _), (3, _), (4, _)]) [1, 2, 3, 4, 0] (n := 25) hX (dec_of D_X9_statement (i := 13) rfl) rfl (by decide) rfl ?_
        refine s_iconst (v := 0) (n := 26) hX (dec_of D_X9_statement (i := 14) rfl) rfl (by decide) ?_
        refine s_istore (lv' := [(0, _), (1, _), (2, _), (3, _), (4, _), (5, _)]) [1, 2, 3, 4, 5, 0] (n := 28) hX (dec_of D_X9_statement (i := 15) rfl) rfl (by decide) rfl ?_
        refine s_sub [0, 1, 2, 3, 4, 5] rfl (s_lp (pc := 28) (Sf := fun (z3 : Int32 × Int32) => σ) (lvf := fun (z3 : Int32 × Int32) => [(0, .ref (ga G 130 0)), (1, .int a1), (2, .int a2), (3, .int a3), (4, .int z3.1), (5, .int z3.2)]) (fun rec4 hre5 z3 => ?_) FU (0, 0))
        refine s_iload 5 (n := 30) hX (dec_of D_X9_statement (i := 16) rfl) rfl rfl ?_
        refine s_aload_n 0 (n := 31) hX (dec_of D_X9_statement (i := 17) rfl) rfl rfl rfl ?_
        refine s_getQ (c := 9) (p := 7) (j := 0) (n := 34) hX cls9 (vk130 (by omega)) (dec_of D_X9_statement (i := 18) rfl) rfl rfl wd_448 (fun rr6 hrr6 => ?_)
        refine s_getI (c := 5) (p := 9) (id := 529) (n := 37) hX cls5 (vk126 (by omega)) (dec_of D_X9_statement (i := 19) rfl) rfl rfl wd_392 ?_
        refine s_icmp_ge (tgt := 89) (n := 40) hX (dec_of D_X9_statement (i := 20) rfl) rfl rfl ?_ ?_
        · refine s_bipush (v := (-2)) (n := 91) hX (dec_of D_X9_statement (i := 43) rfl) rfl (by decide) ?_
          exact s_iret hX hR (dec_of D_X9_statement (i := 44) rfl) rfl
        · refine s_aload_n 0 (n := 41) hX (dec_of D_X9_statement (i := 21) rfl) rfl rfl rfl ?_
          refine s_getC (c := 9) (p := 1) (n := 44) 121 0 hX cls9 (vk130 (by omega)) (dec_of D_X9_statement (i := 22) rfl) rfl rfl (by decide) wd_442 ?_
          refine s_iload_n 1 (n := 45) hX (dec_of D_X9_statement (i := 23) rfl) rfl rfl rfl ?_
          refine s_iload 5 (n := 47) hX (dec_of D_X9_statement (i := 24) rfl) rfl rfl ?_
          refine s_callVI (c := 0) (n := 50) hX cls0 (vk121 (by omega)) lk_RX9_330 (dec_of D_X9_statement (i := 25) rfl) rfl (by decide) (c_X0_paidBoth (l := _) hG _ _ (by omega) _ _) rfl rfl (Nat.le_of_ble_eq_true rfl) (fun q7 => ?_)
          refine s_istore (lv' := [(0, _), (1, _), (2, _), (3, _), (4, _), (5, _), (6, _)]) [1, 2, 3, 4, 5, 6, 0] (n := 52) hX (dec_of D_X9_statement (i := 26) rfl) rfl (by decide) rfl ?_
          refine s_iload 6 (n := 54) hX (dec_of D_X9_statement (i := 27) rfl) rfl rfl ?_
          refine s_lk (pcj := 75) (Sf := fun (j8 : Unit) => σ) (lvf := fun (j8 : Unit) => [(0, .ref (ga G 130 0)), (1, .int a1), (2, .int a2), (3, .int a3), (4, .int z3.1), (5, .int z3.2), (6, .int q7)]) (stf := fun (j8 : Unit) => []) (fun j8 => ?_) (fun kk9 hkk10 => ?_)
          · refine s_iload 6 (n := 77) hX (dec_of D_X9_statement (i := 38) rfl) rfl rfl ?_
            refine s_if_le (tgt := 83) (n := 80) hX (dec_of D_X9_statement (i := 39) rfl) rfl rfl ?_ ?_
            · refine s_iinc (v := z3.2 + 1) (lv' := [(0, _), (1, _), (2, _), (3, _), (4, _), (5, _), (6, _)]) 5 [1, 2, 3, 4, 5, 0, 6] (n := 86) hX (dec_of D_X9_statement (i := 41) rfl) rfl rfl rfl (by decide) rfl ?_
              refine s_goto (n := 28) hX (dec_of D_X9_statement (i := 42) rfl) rfl ?_
              exact s_sub [0, 1, 2, 3, 4, 5] rfl (hre5 (z3.1, (z3.2 + 1)))
            · refine s_iinc (v := z3.1 + 1) (lv' := [(0, _), (1, _), (2, _), (3, _), (4, _), (5, _), (6, _)]) 4 [1, 2, 3, 4, 0, 5, 6] (n := 83) hX (dec_of D_X9_statement (i := 40) rfl) rfl rfl rfl (by decide) rfl ?_
              refine s_iinc (v := z3.2 + 1) (lv' := [(0, _), (1, _), (2, _), (3, _), (4, _), (5, _), (6, _)]) 5 [1, 2, 3, 4, 5, 0, 6] (n := 86) hX (dec_of D_X9_statement (i := 41) rfl) rfl rfl rfl (by decide) rfl ?_
              refine s_goto (n := 28) hX (dec_of D_X9_statement (i := 42) rfl) rfl ?_
              exact s_sub [0, 1, 2, 3, 4, 5] rfl (hre5 ((z3.1 + 1), (z3.2 + 1)))
          · refine s_if_le (tgt := 75) (n := 57) hX (dec_of D_X9_statement (i := 28) rfl) rfl rfl ?_ ?_
            · exact s_sub [0, 1, 2, 3, 4, 5, 6] rfl (hkk10 ())
            · refine s_iload 4 (n := 59) hX (dec_of D_X9_statement (i := 29) rfl) rfl rfl ?_
              refine s_iload_n 2 (n := 60) hX (dec_of D_X9_statement (i := 30) rfl) rfl rfl rfl ?_
              refine s_icmp_ne (tgt := 75) (n := 63) hX (dec_of D_X9_statement (i := 31) rfl) rfl rfl ?_ ?_
              · exact s_sub [0, 1, 2, 3, 4, 5, 6] rfl (hkk10 ())
              · refine s_iload_n 3 (n := 64) hX (dec_of D_X9_statement (i := 32) rfl) rfl rfl rfl ?_
                refine s_if_ne (tgt := 72) (n := 67) hX (dec_of D_X9_statement (i := 33) rfl) rfl rfl ?_ ?_
                · refine s_iload 6 (n := 74) hX (dec_of D_X9_statement (i := 36) rfl) rfl rfl ?_
                  exact s_iret hX hR (dec_of D_X9_statement (i := 37) rfl) rfl
                · refine s_iload 5 (n := 69) hX (dec_of D_X9_statement (i := 34) rfl) rfl rfl ?_
                  refine s_goto (n := 74) hX (dec_of D_X9_statement (i := 35) rfl) rfl ?_
                  exact s_iret hX hR (dec_of D_X9_statement (i := 37) rfl) rfl
      · refine s_iconst (v := (-1)) (n := 21) hX (dec_of D_X9_statement (i := 10) rfl) rfl (by decide) ?_
        exact s_iret hX hR (dec_of D_X9_statement (i := 11) rfl) rfl
theorem lk_RX9_365 : LkV RX9 365 RX0 yX0_paidAcross cX0_paidAcross 6 (some .int) 3 := ⟨wd_1062, wd_1063, wd_1064, wd_86, wd_1065, by decide +kernel, by decide⟩
def T_X9_across : List (Nat × Instr × Nat) := [(0, .aload_n 0, 1), (1, .iload_n 1, 1), (2, .invokevirtual 102, 3), (5, .ifCond .eq 11, 3), (8, .aload_n 0, 1), (9, .iload_n 2, 1), (10, .invokevirtual 102, 3), (13, .ifCond .ne 7, 3), (16, .ldc_w 364, 3), (19, .ireturn, 1), (20, .aload_n 0, 1), (21, .getfield 19, 3), (24, .aload_n 0, 1), (25, .getfield 61, 3), (28, .iload_n 1, 1), (29, .iload_n 2, 1), (30, .invokevirtual 365, 3), (33, .istore 4, 2), (35, .iload_n 3, 1), (36, .ifCond .eq 22, 3), (39, .iload 4, 2), (41, .aload_n 0, 1), (42, .getfield 19, 3), (45, .aload_n 0, 1), (46, .getfield 61, 3), (49, .iload_n 2, 1), (50, .iload_n 1, 1), (51, .invokevirtual 365, 3), (54, .isub, 1), (55, .goto 5, 3), (58, .iload 4, 2), (60, .ireturn, 1)]
theorem D_X9_across : dchk cX9_across T_X9_across = true := by decide +kernel
def Rp_across (σ : ST) (a1 : Int32) (a2 : Int32) (a3 : Int32) : Option Int32 :=
  bd_ (Rp_isLand (σ) a1) (fun q1 => (if q1 = 0 then some (-1000000000) else bd_ (Rp_isLand (σ) a2) (fun q2 => (if q2 = 0 then some (-1000000000) else bd_ (ldQ σ 0) (fun rr3 => bd_ (Bk_paidAcross (σ) 0 rr3 a1 a2) (fun q4 => (if a3 = 0 then some q4 else bd_ (ldQ σ 0) (fun rr5 => bd_ (Bk_paidAcross (σ) 0 rr5 a2 a1) (fun q6 => some (q4 - q6))))))))))
set_option maxHeartbeats 4000000 in
set_option maxRecDepth 100000 in
theorem c_X9_across {G : GW} (hG : Good G) {l : Launch} (σ : ST) (a1 : Int32) (a2 : Int32) (a3 : Int32) : Ctr G l yX9_across cX9_across 5 (some .int) 2 [.ref (ga G 130 0), .int a1, .int a2, .int a3] σ (oI σ) (Rp_across σ a1 a2 a3) := by
  refine ctr_of hG (by decide) (Nat.le_of_ble_eq_true rfl) ?_
  intro X hXl hR hX
  have hX : Ok G X cX9_across 5 RX9 2 := hX
  unfold Rp_across
  show Sim G X 5 (MQX G X (oI σ)) σ 0 [(0, .ref (ga G 130 0)), (1, .int a1), (2, .int a2), (3, .int a3)] [] _
  refine s_aload_n 0 (n := 1) hX (dec_of D_X9_across (i := 0) rfl) rfl rfl rfl ?_
  refine s_iload_n 1 (n := 2) hX (dec_of D_X9_across (i := 1) rfl) rfl rfl rfl ?_
  refine s_callVI (c := 9) (n := 5) hX cls9 (vk130 (by omega)) lk_RX9_102 (dec_of D_X9_across (i := 2) rfl) rfl (by decide) (c_X9_isLand (l := _) hG _ _) rfl rfl (Nat.le_of_ble_eq_true rfl) (fun q1 => ?_)
  refine s_if_eq (tgt := 16) (n := 8) hX (dec_of D_X9_across (i := 3) rfl) rfl rfl ?_ ?_
  · refine s_ldcw (v := (-1000000000)) (n := 19) hX (dec_of D_X9_across (i := 8) rfl) rfl wd_1061 ?_
    exact s_iret hX hR (dec_of D_X9_across (i := 9) rfl) rfl
  · refine s_aload_n 0 (n := 9) hX (dec_of D_X9_across (i := 4) rfl) rfl rfl rfl ?_
    refine s_iload_n 2 (n := 10) hX (dec_of D_X9_across (i := 5) rfl) rfl rfl rfl ?_
    refine s_callVI (c := 9) (n := 13) hX cls9 (vk130 (by omega)) lk_RX9_102 (dec_of D_X9_across (i := 6) rfl) rfl (by decide) (c_X9_isLand (l := _) hG _ _) rfl rfl (Nat.le_of_ble_eq_true rfl) (fun q2 => ?_)
    refine s_if_ne (tgt := 20) (n := 16) hX (dec_of D_X9_across (i := 7) rfl) rfl rfl ?_ ?_
    · refine s_aload_n 0 (n := 21) hX (dec_of D_X9_across (i := 10) rfl) rfl rfl rfl ?_
      refine s_getC (c := 9) (p := 1) (n := 24) 121 0 hX cls9 (vk130 (by omega)) (dec_of D_X9_across (i := 11) rfl) rfl rfl (by decide) wd_442 ?_
      refine s_aload_n 0 (n := 25) hX (dec_of D_X9_across (i := 12) rfl) rfl rfl rfl ?_
      refine s_getQ (c := 9) (p := 7) (j := 0) (n := 28) hX cls9 (vk130 (by omega)) (dec_of D_X9_across (i := 13) rfl) rfl rfl wd_448 (fun rr3 hrr3 => ?_)
      refine s_iload_n 1 (n := 29) hX (dec_of D_X9_across (i := 14) rfl) rfl rfl rfl ?_
      refine s_iload_n 2 (n := 30) hX (dec_of D_X9_across (i := 15) rfl) rfl rfl rfl ?_
      refine s_callVI (c := 0) (n := 33) hX cls0 (vk121 (by omega)) lk_RX9_365 (dec_of D_X9_across (i := 16) rfl) rfl (by decide) (c_X0_paidAcross (l := _) hG _ _ (by omega) _ (by omega) _ _) rfl rfl (Nat.le_of_ble_eq_true rfl) (fun q4 => ?_)
      refine s_istore (lv' := [(0, _), (1, _), (2, _), (3, _), (4, _)]) [1, 2, 3, 4, 0] (n := 35) hX (dec_of D_X9_across (i := 17) rfl) rfl (by decide) rfl ?_
      refine s_iload_n 3 (n := 36) hX (dec_of D_X9_across (i := 18) rfl) rfl rfl rfl ?_
      refine s_if_eq (tgt := 58) (n := 39) hX (dec_of D_X9_across (i := 19) rfl) rfl rfl ?_ ?_
      · refine s_iload 4 (n := 60) hX (dec_of D_X9_across (i := 30) rfl) rfl rfl ?_
        exact s_iret hX hR (dec_of D_X9_across (i := 31) rfl) rfl
      · refine s_iload 4 (n := 41) hX (dec_of D_X9_across (i := 20) rfl) rfl rfl ?_
        refine s_aload_n 0 (n := 42) hX (dec_of D_X9_across (i := 21) rfl) rfl rfl rfl ?_
        refine s_getC (c := 9) (p := 1) (n := 45) 121 0 hX cls9 (vk130 (by omega)) (dec_of D_X9_across (i := 22) rfl) rfl rfl (by decide) wd_442 ?_
        refine s_aload_n 0 (n := 46) hX (dec_of D_X9_across (i := 23) rfl) rfl rfl rfl ?_
        refine s_getQ (c := 9) (p := 7) (j := 0) (n := 49) hX cls9 (vk130 (by omega)) (dec_of D_X9_across (i := 24) rfl) rfl rfl wd_448 (fun rr5 hrr5 => ?_)
        refine s_iload_n 2 (n := 50) hX (dec_of D_X9_across (i := 25) rfl) rfl rfl rfl ?_
        refine s_iload_n 1 (n := 51) hX (dec_of D_X9_across (i := 26) rfl) rfl rfl rfl ?_
        refine s_callVI (c := 0) (n := 54) hX cls0 (vk121 (by omega)) lk_RX9_365 (dec_of D_X9_across (i := 27) rfl) rfl (by decide) (c_X0_paidAcross (l := _) hG _ _ (by omega) _ (by omega) _ _) rfl rfl (Nat.le_of_ble_eq_true rfl) (fun q6 => ?_)
        refine s_isub (n := 55) hX (dec_of D_X9_across (i := 28) rfl) rfl ?_
        refine s_goto (n := 60) hX (dec_of D_X9_across (i := 29) rfl) rfl ?_
        exact s_iret hX hR (dec_of D_X9_across (i := 31) rfl) rfl
    · refine s_ldcw (v := (-1000000000)) (n := 19) hX (dec_of D_X9_across (i := 8) rfl) rfl wd_1061 ?_
      exact s_iret hX hR (dec_of D_X9_across (i := 9) rfl) rfl
theorem lk_RX9_368 : LkV RX9 368 RX0 yX0_netOf cX0_netOf 5 (some .int) 2 := ⟨wd_1070, wd_1071, wd_1072, wd_86, wd_1073, by decide +kernel, by decide⟩
def T_X9_net : List (Nat × Instr × Nat) := [(0, .aload_n 0, 1), (1, .iload_n 1, 1), (2, .invokevirtual 102, 3), (5, .ifCond .eq 18, 3), (8, .aload_n 0, 1), (9, .getfield 19, 3), (12, .aload_n 0, 1), (13, .getfield 61, 3), (16, .iload_n 1, 1), (17, .invokevirtual 368, 3), (20, .goto 6, 3), (23, .ldc_w 364, 3), (26, .ireturn, 1)]
theorem D_X9_net : dchk cX9_net T_X9_net = true := by decide +kernel
def Rp_net (σ : ST) (a1 : Int32) : Option Int32 :=
  bd_ (Rp_isLand (σ) a1) (fun q1 => (if q1 = 0 then some (-1000000000) else bd_ (ldQ σ 0) (fun rr2 => bd_ (Bk_netOf (σ) 0 rr2 a1) (fun q3 => some q3))))
set_option maxHeartbeats 4000000 in
set_option maxRecDepth 100000 in
theorem c_X9_net {G : GW} (hG : Good G) {l : Launch} (σ : ST) (a1 : Int32) : Ctr G l yX9_net cX9_net 2 (some .int) 3 [.ref (ga G 130 0), .int a1] σ (oI σ) (Rp_net σ a1) := by
  refine ctr_of hG (by decide) (Nat.le_of_ble_eq_true rfl) ?_
  intro X hXl hR hX
  have hX : Ok G X cX9_net 2 RX9 3 := hX
  unfold Rp_net
  show Sim G X 2 (MQX G X (oI σ)) σ 0 [(0, .ref (ga G 130 0)), (1, .int a1)] [] _
  refine s_aload_n 0 (n := 1) hX (dec_of D_X9_net (i := 0) rfl) rfl rfl rfl ?_
  refine s_iload_n 1 (n := 2) hX (dec_of D_X9_net (i := 1) rfl) rfl rfl rfl ?_
  refine s_callVI (c := 9) (n := 5) hX cls9 (vk130 (by omega)) lk_RX9_102 (dec_of D_X9_net (i := 2) rfl) rfl (by decide) (c_X9_isLand (l := _) hG _ _) rfl rfl (Nat.le_of_ble_eq_true rfl) (fun q1 => ?_)
  refine s_if_eq (tgt := 23) (n := 8) hX (dec_of D_X9_net (i := 3) rfl) rfl rfl ?_ ?_
  · refine s_ldcw (v := (-1000000000)) (n := 26) hX (dec_of D_X9_net (i := 11) rfl) rfl wd_1061 ?_
    exact s_iret hX hR (dec_of D_X9_net (i := 12) rfl) rfl
  · refine s_aload_n 0 (n := 9) hX (dec_of D_X9_net (i := 4) rfl) rfl rfl rfl ?_
    refine s_getC (c := 9) (p := 1) (n := 12) 121 0 hX cls9 (vk130 (by omega)) (dec_of D_X9_net (i := 5) rfl) rfl rfl (by decide) wd_442 ?_
    refine s_aload_n 0 (n := 13) hX (dec_of D_X9_net (i := 6) rfl) rfl rfl rfl ?_
    refine s_getQ (c := 9) (p := 7) (j := 0) (n := 16) hX cls9 (vk130 (by omega)) (dec_of D_X9_net (i := 7) rfl) rfl rfl wd_448 (fun rr2 hrr2 => ?_)
    refine s_iload_n 1 (n := 17) hX (dec_of D_X9_net (i := 8) rfl) rfl rfl rfl ?_
    refine s_callVI (c := 0) (n := 20) hX cls0 (vk121 (by omega)) lk_RX9_368 (dec_of D_X9_net (i := 9) rfl) rfl (by decide) (c_X0_netOf (l := _) hG _ _ (by omega) _ (by omega) _) rfl rfl (Nat.le_of_ble_eq_true rfl) (fun q3 => ?_)
    refine s_goto (n := 26) hX (dec_of D_X9_net (i := 10) rfl) rfl ?_
    exact s_iret hX hR (dec_of D_X9_net (i := 12) rfl) rfl
def T_J6_compare_7cf53 : List (Nat × Instr × Nat) := [(0, .iload_n 0, 1), (1, .iload_n 1, 1), (2, .if_icmp .ge 7, 3), (5, .iconst (-1), 1), (6, .goto 13, 3), (9, .iload_n 0, 1), (10, .iload_n 1, 1), (11, .if_icmp .ne 7, 3), (14, .iconst 0, 1), (15, .goto 4, 3), (18, .iconst 1, 1), (19, .ireturn, 1)]
theorem D_J6_compare_7cf53 : dchk cJ6_compare_7cf53 T_J6_compare_7cf53 = true := by decide +kernel
def Jk_compare (σ : ST) (a0 : Int32) (a1 : Int32) : Option Int32 :=
  (if a1 ≤ a0 then (if a0 = a1 then some 0 else some 1) else some (-1))
set_option maxHeartbeats 4000000 in
set_option maxRecDepth 100000 in
theorem c_J6_compare_7cf53 {G : GW} (hG : Good G) {l : Launch} (σ : ST) (a0 : Int32) (a1 : Int32) : Ctr G l yJ6_compare_7cf53 cJ6_compare_7cf53 2 (some .int) 0 [.int a0, .int a1] σ (oI σ) (Jk_compare σ a0 a1) := by
  refine ctr_of hG (by decide) (Nat.le_of_ble_eq_true rfl) ?_
  intro X hXl hR hX
  have hX : Ok G X cJ6_compare_7cf53 2 RJ6 0 := hX
  unfold Jk_compare
  show Sim G X 2 (MQX G X (oI σ)) σ 0 [(0, .int a0), (1, .int a1)] [] _
  refine s_iload_n 0 (n := 1) hX (dec_of D_J6_compare_7cf53 (i := 0) rfl) rfl rfl rfl ?_
  refine s_iload_n 1 (n := 2) hX (dec_of D_J6_compare_7cf53 (i := 1) rfl) rfl rfl rfl ?_
  refine s_icmp_ge (tgt := 9) (n := 5) hX (dec_of D_J6_compare_7cf53 (i := 2) rfl) rfl rfl ?_ ?_
  · refine s_iload_n 0 (n := 10) hX (dec_of D_J6_compare_7cf53 (i := 5) rfl) rfl rfl rfl ?_
    refine s_iload_n 1 (n := 11) hX (dec_of D_J6_compare_7cf53 (i := 6) rfl) rfl rfl rfl ?_
    refine s_icmp_ne (tgt := 18) (n := 14) hX (dec_of D_J6_compare_7cf53 (i := 7) rfl) rfl rfl ?_ ?_
    · refine s_iconst (v := 1) (n := 19) hX (dec_of D_J6_compare_7cf53 (i := 10) rfl) rfl (by decide) ?_
      exact s_iret hX hR (dec_of D_J6_compare_7cf53 (i := 11) rfl) rfl
    · refine s_iconst (v := 0) (n := 15) hX (dec_of D_J6_compare_7cf53 (i := 8) rfl) rfl (by decide) ?_
      refine s_goto (n := 19) hX (dec_of D_J6_compare_7cf53 (i := 9) rfl) rfl ?_
      exact s_iret hX hR (dec_of D_J6_compare_7cf53 (i := 11) rfl) rfl
  · refine s_iconst (v := (-1)) (n := 6) hX (dec_of D_J6_compare_7cf53 (i := 3) rfl) rfl (by decide) ?_
    refine s_goto (n := 19) hX (dec_of D_J6_compare_7cf53 (i := 4) rfl) rfl ?_
    exact s_iret hX hR (dec_of D_J6_compare_7cf53 (i := 11) rfl) rfl
theorem lk_RX9_371 : LkS RX9 371 yJ6_compare_7cf53 cJ6_compare_7cf53 2 (some .int) 2 := ⟨wd_1079, wd_1080, wd_106, wd_1081, by decide +kernel, by decide⟩
def T_X9_extreme : List (Nat × Instr × Nat) := [(0, .iload_n 1, 1), (1, .iconst 2, 1), (2, .invokestatic 207, 3), (5, .ifCond .ne 5, 3), (8, .iconst (-1), 1), (9, .ireturn, 1), (10, .aload_n 0, 1), (11, .getfield 61, 3), (14, .getfield 229, 3), (17, .ifCond .ne 6, 3), (20, .bipush (-2), 2), (22, .ireturn, 1), (23, .iconst 0, 1), (24, .istore_n 2, 1), (25, .iconst 1, 1), (26, .istore_n 3, 1), (27, .iload_n 3, 1), (28, .aload_n 0, 1), (29, .getfield 61, 3), (32, .getfield 229, 3), (35, .if_icmp .ge 57, 3), (38, .aload_n 0, 1), (39, .getfield 19, 3), (42, .aload_n 0, 1), (43, .getfield 61, 3), (46, .iload_n 3, 1), (47, .invokevirtual 368, 3), (50, .aload_n 0, 1), (51, .getfield 19, 3), (54, .aload_n 0, 1), (55, .getfield 61, 3), (58, .iload_n 2, 1), (59, .invokevirtual 368, 3), (62, .invokestatic 371, 3), (65, .istore 4, 2), (67, .iload_n 1, 1), (68, .ifCond .ne 11, 3), (71, .iload 4, 2), (73, .ifCond .le 13, 3), (76, .goto 8, 3), (79, .iload 4, 2), (81, .ifCond .ge 5, 3), (84, .iload_n 3, 1), (85, .istore_n 2, 1), (86, .iinc 3 1, 3), (89, .goto (-62), 3), (92, .iload_n 2, 1), (93, .ireturn, 1)]
theorem D_X9_extreme : dchk cX9_extreme T_X9_extreme = true := by decide +kernel
def Rp_extreme (σ : ST) (a1 : Int32) : Option Int32 :=
  bd_ (Rp_isChoice (σ) a1 2) (fun q1 => (if q1 = 0 then some (-1) else bd_ (ldQ σ 0) (fun rr2 => (if (gF σ 529 rr2) = 0 then some (-2) else lp_ (fun rec4 (z3 : Int32 × Int32) => bd_ (ldQ σ 0) (fun rr6 => (if (gF σ 529 rr6) ≤ z3.2 then some z3.1 else bd_ (ldQ σ 0) (fun rr7 => bd_ (Bk_netOf (σ) 0 rr7 z3.2) (fun q8 => bd_ (ldQ σ 0) (fun rr9 => bd_ (Bk_netOf (σ) 0 rr9 z3.1) (fun q10 => bd_ (Jk_compare (σ) q8 q10) (fun q11 => (if a1 = 0 then (if q11 ≤ 0 then rec4 (z3.1, (z3.2 + 1)) else rec4 (z3.2, (z3.2 + 1))) else (if 0 ≤ q11 then rec4 (z3.1, (z3.2 + 1)) else rec4 (z3.2, (z3.2 + 1)))))))))))) FU (0, 1)))))
set_option maxHeartbeats 4000000 in
set_option maxRecDepth 100000 in
theorem c_X9_extreme {G : GW} (hG : Good G) {l : Launch} (σ : ST) (a1 : Int32) : Ctr G l yX9_extreme cX9_extreme 5 (some .int) 3 [.ref (ga G 130 0), .int a1] σ (oI σ) (Rp_extreme σ a1) := by
  refine ctr_of hG (by decide) (Nat.le_of_ble_eq_true rfl) ?_
  intro X hXl hR hX
  have hX : Ok G X cX9_extreme 5 RX9 3 := hX
  unfold Rp_extreme
  show Sim G X 5 (MQX G X (oI σ)) σ 0 [(0, .ref (ga G 130 0)), (1, .int a1)] [] _
  refine s_iload_n 1 (n := 1) hX (dec_of D_X9_extreme (i := 0) rfl) rfl rfl rfl ?_
  refine s_iconst (v := 2) (n := 2) hX (dec_of D_X9_extreme (i := 1) rfl) rfl (by decide) ?_
  refine s_callSI (n := 5) hX lk_RX9_207 (dec_of D_X9_extreme (i := 2) rfl) rfl (by decide) (c_X9_isChoice (l := _) hG _ _ _) rfl rfl (Nat.le_of_ble_eq_true rfl) (fun q1 => ?_)
  refine s_if_ne (tgt := 10) (n := 8) hX (dec_of D_X9_extreme (i := 3) rfl) rfl rfl ?_ ?_
  · refine s_aload_n 0 (n := 11) hX (dec_of D_X9_extreme (i := 6) rfl) rfl rfl rfl ?_
    refine s_getQ (c := 9) (p := 7) (j := 0) (n := 14) hX cls9 (vk130 (by omega)) (dec_of D_X9_extreme (i := 7) rfl) rfl rfl wd_448 (fun rr2 hrr2 => ?_)
    refine s_getI (c := 5) (p := 9) (id := 529) (n := 17) hX cls5 (vk126 (by omega)) (dec_of D_X9_extreme (i := 8) rfl) rfl rfl wd_392 ?_
    refine s_if_ne (tgt := 23) (n := 20) hX (dec_of D_X9_extreme (i := 9) rfl) rfl rfl ?_ ?_
    · refine s_iconst (v := 0) (n := 24) hX (dec_of D_X9_extreme (i := 12) rfl) rfl (by decide) ?_
      refine s_istore_n (lv' := [(0, _), (1, _), (2, _)]) [1, 2, 0] (n := 25) hX (dec_of D_X9_extreme (i := 13) rfl) rfl rfl (by decide) rfl ?_
      refine s_iconst (v := 1) (n := 26) hX (dec_of D_X9_extreme (i := 14) rfl) rfl (by decide) ?_
      refine s_istore_n (lv' := [(0, _), (1, _), (2, _), (3, _)]) [1, 2, 3, 0] (n := 27) hX (dec_of D_X9_extreme (i := 15) rfl) rfl rfl (by decide) rfl ?_
      refine s_sub [0, 1, 2, 3] rfl (s_lp (pc := 27) (Sf := fun (z3 : Int32 × Int32) => σ) (lvf := fun (z3 : Int32 × Int32) => [(0, .ref (ga G 130 0)), (1, .int a1), (2, .int z3.1), (3, .int z3.2)]) (fun rec4 hre5 z3 => ?_) FU (0, 1))
      refine s_iload_n 3 (n := 28) hX (dec_of D_X9_extreme (i := 16) rfl) rfl rfl rfl ?_
      refine s_aload_n 0 (n := 29) hX (dec_of D_X9_extreme (i := 17) rfl) rfl rfl rfl ?_
      refine s_getQ (c := 9) (p := 7) (j := 0) (n := 32) hX cls9 (vk130 (by omega)) (dec_of D_X9_extreme (i := 18) rfl) rfl rfl wd_448 (fun rr6 hrr6 => ?_)
      refine s_getI (c := 5) (p := 9) (id := 529) (n := 35) hX cls5 (vk126 (by omega)) (dec_of D_X9_extreme (i := 19) rfl) rfl rfl wd_392 ?_
      refine s_icmp_ge (tgt := 92) (n := 38) hX (dec_of D_X9_extreme (i := 20) rfl) rfl rfl ?_ ?_
      · refine s_iload_n 2 (n := 93) hX (dec_of D_X9_extreme (i := 46) rfl) rfl rfl rfl ?_
        exact s_iret hX hR (dec_of D_X9_extreme (i := 47) rfl) rfl
      · refine s_aload_n 0 (n := 39) hX (dec_of D_X9_extreme (i := 21) rfl) rfl rfl rfl ?_
        refine s_getC (c := 9) (p := 1) (n := 42) 121 0 hX cls9 (vk130 (by omega)) (dec_of D_X9_extreme (i := 22) rfl) rfl rfl (by decide) wd_442 ?_
        refine s_aload_n 0 (n := 43) hX (dec_of D_X9_extreme (i := 23) rfl) rfl rfl rfl ?_
        refine s_getQ (c := 9) (p := 7) (j := 0) (n := 46) hX cls9 (vk130 (by omega)) (dec_of D_X9_extreme (i := 24) rfl) rfl rfl wd_448 (fun rr7 hrr7 => ?_)
        refine s_iload_n 3 (n := 47) hX (dec_of D_X9_extreme (i := 25) rfl) rfl rfl rfl ?_
        refine s_callVI (c := 0) (n := 50) hX cls0 (vk121 (by omega)) lk_RX9_368 (dec_of D_X9_extreme (i := 26) rfl) rfl (by decide) (c_X0_netOf (l := _) hG _ _ (by omega) _ (by omega) _) rfl rfl (Nat.le_of_ble_eq_true rfl) (fun q8 => ?_)
        refine s_aload_n 0 (n := 51) hX (dec_of D_X9_extreme (i := 27) rfl) rfl rfl rfl ?_
        refine s_getC (c := 9) (p := 1) (n := 54) 121 0 hX cls9 (vk130 (by omega)) (dec_of D_X9_extreme (i := 28) rfl) rfl rfl (by decide) wd_442 ?_
        refine s_aload_n 0 (n := 55) hX (dec_of D_X9_extreme (i := 29) rfl) rfl rfl rfl ?_
        refine s_getQ (c := 9) (p := 7) (j := 0) (n := 58) hX cls9 (vk130 (by omega)) (dec_of D_X9_extreme (i := 30) rfl) rfl rfl wd_448 (fun rr9 hrr9 => ?_)
        refine s_iload_n 2 (n := 59) hX (dec_of D_X9_extreme (i := 31) rfl) rfl rfl rfl ?_
        refine s_callVI (c := 0) (n := 62) hX cls0 (vk121 (by omega)) lk_RX9_368 (dec_of D_X9_extreme (i := 32) rfl) rfl (by decide) (c_X0_netOf (l := _) hG _ _ (by omega) _ (by omega) _) rfl rfl (Nat.le_of_ble_eq_true rfl) (fun q10 => ?_)
        refine s_callSI (n := 65) hX lk_RX9_371 (dec_of D_X9_extreme (i := 33) rfl) rfl (by decide) (c_J6_compare_7cf53 (l := _) hG _ _ _) rfl rfl (Nat.le_of_ble_eq_true rfl) (fun q11 => ?_)
        refine s_istore (lv' := [(0, _), (1, _), (2, _), (3, _), (4, _)]) [1, 2, 3, 4, 0] (n := 67) hX (dec_of D_X9_extreme (i := 34) rfl) rfl (by decide) rfl ?_
        refine s_iload_n 1 (n := 68) hX (dec_of D_X9_extreme (i := 35) rfl) rfl rfl rfl ?_
        refine s_if_ne (tgt := 79) (n := 71) hX (dec_of D_X9_extreme (i := 36) rfl) rfl rfl ?_ ?_
        · refine s_iload 4 (n := 81) hX (dec_of D_X9_extreme (i := 40) rfl) rfl rfl ?_
          refine s_if_ge (tgt := 86) (n := 84) hX (dec_of D_X9_extreme (i := 41) rfl) rfl rfl ?_ ?_
          · refine s_iinc (v := z3.2 + 1) (lv' := [(0, _), (1, _), (2, _), (3, _), (4, _)]) 3 [1, 2, 3, 0, 4] (n := 89) hX (dec_of D_X9_extreme (i := 44) rfl) rfl rfl rfl (by decide) rfl ?_
            refine s_goto (n := 27) hX (dec_of D_X9_extreme (i := 45) rfl) rfl ?_
            exact s_sub [0, 1, 2, 3] rfl (hre5 (z3.1, (z3.2 + 1)))
          · refine s_iload_n 3 (n := 85) hX (dec_of D_X9_extreme (i := 42) rfl) rfl rfl rfl ?_
            refine s_istore_n (lv' := [(0, _), (1, _), (2, _), (3, _), (4, _)]) [1, 2, 0, 3, 4] (n := 86) hX (dec_of D_X9_extreme (i := 43) rfl) rfl rfl (by decide) rfl ?_
            refine s_iinc (v := z3.2 + 1) (lv' := [(0, _), (1, _), (2, _), (3, _), (4, _)]) 3 [1, 2, 3, 0, 4] (n := 89) hX (dec_of D_X9_extreme (i := 44) rfl) rfl rfl rfl (by decide) rfl ?_
            refine s_goto (n := 27) hX (dec_of D_X9_extreme (i := 45) rfl) rfl ?_
            exact s_sub [0, 1, 2, 3] rfl (hre5 (z3.2, (z3.2 + 1)))
        · refine s_iload 4 (n := 73) hX (dec_of D_X9_extreme (i := 37) rfl) rfl rfl ?_
          refine s_if_le (tgt := 86) (n := 76) hX (dec_of D_X9_extreme (i := 38) rfl) rfl rfl ?_ ?_
          · refine s_iinc (v := z3.2 + 1) (lv' := [(0, _), (1, _), (2, _), (3, _), (4, _)]) 3 [1, 2, 3, 0, 4] (n := 89) hX (dec_of D_X9_extreme (i := 44) rfl) rfl rfl rfl (by decide) rfl ?_
            refine s_goto (n := 27) hX (dec_of D_X9_extreme (i := 45) rfl) rfl ?_
            exact s_sub [0, 1, 2, 3] rfl (hre5 (z3.1, (z3.2 + 1)))
          · refine s_goto (n := 84) hX (dec_of D_X9_extreme (i := 39) rfl) rfl ?_
            refine s_iload_n 3 (n := 85) hX (dec_of D_X9_extreme (i := 42) rfl) rfl rfl rfl ?_
            refine s_istore_n (lv' := [(0, _), (1, _), (2, _), (3, _), (4, _)]) [1, 2, 0, 3, 4] (n := 86) hX (dec_of D_X9_extreme (i := 43) rfl) rfl rfl (by decide) rfl ?_
            refine s_iinc (v := z3.2 + 1) (lv' := [(0, _), (1, _), (2, _), (3, _), (4, _)]) 3 [1, 2, 3, 0, 4] (n := 89) hX (dec_of D_X9_extreme (i := 44) rfl) rfl rfl rfl (by decide) rfl ?_
            refine s_goto (n := 27) hX (dec_of D_X9_extreme (i := 45) rfl) rfl ?_
            exact s_sub [0, 1, 2, 3] rfl (hre5 (z3.2, (z3.2 + 1)))
    · refine s_bipush (v := (-2)) (n := 22) hX (dec_of D_X9_extreme (i := 10) rfl) rfl (by decide) ?_
      exact s_iret hX hR (dec_of D_X9_extreme (i := 11) rfl) rfl
  · refine s_iconst (v := (-1)) (n := 9) hX (dec_of D_X9_extreme (i := 4) rfl) rfl (by decide) ?_
    exact s_iret hX hR (dec_of D_X9_extreme (i := 5) rfl) rfl
def T_X9_dearest : List (Nat × Instr × Nat) := [(0, .iload_n 1, 1), (1, .iconst 2, 1), (2, .invokestatic 207, 3), (5, .ifCond .ne 5, 3), (8, .iconst (-1), 1), (9, .ireturn, 1), (10, .aload_n 0, 1), (11, .getfield 61, 3), (14, .getfield 232, 3), (17, .ifCond .ne 6, 3), (20, .bipush (-2), 2), (22, .ireturn, 1), (23, .iconst 0, 1), (24, .istore_n 2, 1), (25, .iconst 1, 1), (26, .istore_n 3, 1), (27, .iload_n 3, 1), (28, .aload_n 0, 1), (29, .getfield 61, 3), (32, .getfield 232, 3), (35, .if_icmp .ge 32, 3), (38, .aload_n 0, 1), (39, .getfield 19, 3), (42, .getfield 199, 3), (45, .iload_n 3, 1), (46, .iaload, 1), (47, .aload_n 0, 1), (48, .getfield 19, 3), (51, .getfield 199, 3), (54, .iload_n 2, 1), (55, .iaload, 1), (56, .if_icmp .le 5, 3), (59, .iload_n 3, 1), (60, .istore_n 2, 1), (61, .iinc 3 1, 3), (64, .goto (-37), 3), (67, .iload_n 1, 1), (68, .ifCond .ne 7, 3), (71, .iload_n 2, 1), (72, .goto 12, 3), (75, .aload_n 0, 1), (76, .getfield 19, 3), (79, .getfield 199, 3), (82, .iload_n 2, 1), (83, .iaload, 1), (84, .ireturn, 1)]
theorem D_X9_dearest : dchk cX9_dearest T_X9_dearest = true := by decide +kernel
def Rp_dearest (σ : ST) (a1 : Int32) : Option Int32 :=
  bd_ (Rp_isChoice (σ) a1 2) (fun q1 => (if q1 = 0 then some (-1) else bd_ (ldQ σ 0) (fun rr2 => (if (gF σ 531 rr2) = 0 then some (-2) else lp_ (fun rec4 (z3 : Int32 × Int32) => bd_ (ldQ σ 0) (fun rr6 => (if (gF σ 531 rr6) ≤ z3.2 then (if a1 = 0 then some z3.1 else bd_ (ldI σ 2 0 z3.1) (fun v7 => some v7)) else bd_ (ldI σ 2 0 z3.2) (fun v8 => bd_ (ldI σ 2 0 z3.1) (fun v9 => (if v8 ≤ v9 then rec4 (z3.1, (z3.2 + 1)) else rec4 (z3.2, (z3.2 + 1)))))))) FU (0, 1)))))
set_option maxHeartbeats 4000000 in
set_option maxRecDepth 100000 in
theorem c_X9_dearest {G : GW} (hG : Good G) {l : Launch} (σ : ST) (a1 : Int32) : Ctr G l yX9_dearest cX9_dearest 4 (some .int) 1 [.ref (ga G 130 0), .int a1] σ (oI σ) (Rp_dearest σ a1) := by
  refine ctr_of hG (by decide) (Nat.le_of_ble_eq_true rfl) ?_
  intro X hXl hR hX
  have hX : Ok G X cX9_dearest 4 RX9 1 := hX
  unfold Rp_dearest
  show Sim G X 4 (MQX G X (oI σ)) σ 0 [(0, .ref (ga G 130 0)), (1, .int a1)] [] _
  refine s_iload_n 1 (n := 1) hX (dec_of D_X9_dearest (i := 0) rfl) rfl rfl rfl ?_
  refine s_iconst (v := 2) (n := 2) hX (dec_of D_X9_dearest (i := 1) rfl) rfl (by decide) ?_
  refine s_callSI (n := 5) hX lk_RX9_207 (dec_of D_X9_dearest (i := 2) rfl) rfl (by decide) (c_X9_isChoice (l := _) hG _ _ _) rfl rfl (Nat.le_of_ble_eq_true rfl) (fun q1 => ?_)
  refine s_if_ne (tgt := 10) (n := 8) hX (dec_of D_X9_dearest (i := 3) rfl) rfl rfl ?_ ?_
  · refine s_aload_n 0 (n := 11) hX (dec_of D_X9_dearest (i := 6) rfl) rfl rfl rfl ?_
    refine s_getQ (c := 9) (p := 7) (j := 0) (n := 14) hX cls9 (vk130 (by omega)) (dec_of D_X9_dearest (i := 7) rfl) rfl rfl wd_448 (fun rr2 hrr2 => ?_)
    refine s_getI (c := 5) (p := 11) (id := 531) (n := 17) hX cls5 (vk126 (by omega)) (dec_of D_X9_dearest (i := 8) rfl) rfl rfl wd_402 ?_
    refine s_if_ne (tgt := 23) (n := 20) hX (dec_of D_X9_dearest (i := 9) rfl) rfl rfl ?_ ?_
    · refine s_iconst (v := 0) (n := 24) hX (dec_of D_X9_dearest (i := 12) rfl) rfl (by decide) ?_
      refine s_istore_n (lv' := [(0, _), (1, _), (2, _)]) [1, 2, 0] (n := 25) hX (dec_of D_X9_dearest (i := 13) rfl) rfl rfl (by decide) rfl ?_
      refine s_iconst (v := 1) (n := 26) hX (dec_of D_X9_dearest (i := 14) rfl) rfl (by decide) ?_
      refine s_istore_n (lv' := [(0, _), (1, _), (2, _), (3, _)]) [1, 2, 3, 0] (n := 27) hX (dec_of D_X9_dearest (i := 15) rfl) rfl rfl (by decide) rfl ?_
      refine s_sub [0, 1, 2, 3] rfl (s_lp (pc := 27) (Sf := fun (z3 : Int32 × Int32) => σ) (lvf := fun (z3 : Int32 × Int32) => [(0, .ref (ga G 130 0)), (1, .int a1), (2, .int z3.1), (3, .int z3.2)]) (fun rec4 hre5 z3 => ?_) FU (0, 1))
      refine s_iload_n 3 (n := 28) hX (dec_of D_X9_dearest (i := 16) rfl) rfl rfl rfl ?_
      refine s_aload_n 0 (n := 29) hX (dec_of D_X9_dearest (i := 17) rfl) rfl rfl rfl ?_
      refine s_getQ (c := 9) (p := 7) (j := 0) (n := 32) hX cls9 (vk130 (by omega)) (dec_of D_X9_dearest (i := 18) rfl) rfl rfl wd_448 (fun rr6 hrr6 => ?_)
      refine s_getI (c := 5) (p := 11) (id := 531) (n := 35) hX cls5 (vk126 (by omega)) (dec_of D_X9_dearest (i := 19) rfl) rfl rfl wd_402 ?_
      refine s_icmp_ge (tgt := 67) (n := 38) hX (dec_of D_X9_dearest (i := 20) rfl) rfl rfl ?_ ?_
      · refine s_iload_n 1 (n := 68) hX (dec_of D_X9_dearest (i := 36) rfl) rfl rfl rfl ?_
        refine s_if_ne (tgt := 75) (n := 71) hX (dec_of D_X9_dearest (i := 37) rfl) rfl rfl ?_ ?_
        · refine s_aload_n 0 (n := 76) hX (dec_of D_X9_dearest (i := 40) rfl) rfl rfl rfl ?_
          refine s_getC (c := 9) (p := 1) (n := 79) 121 0 hX cls9 (vk130 (by omega)) (dec_of D_X9_dearest (i := 41) rfl) rfl rfl (by decide) wd_442 ?_
          refine s_getR (c := 0) (p := 3) (k' := 2) (n := 82) hX cls0 (vk121 (by omega)) (dec_of D_X9_dearest (i := 42) rfl) rfl rfl wd_226 ?_
          refine s_iload_n 2 (n := 83) hX (dec_of D_X9_dearest (i := 43) rfl) rfl rfl rfl ?_
          refine s_iald (n := 84) hX (vk2 (by omega)) (by decide) (dec_of D_X9_dearest (i := 44) rfl) rfl (fun v7 => ?_)
          exact s_iret hX hR (dec_of D_X9_dearest (i := 45) rfl) rfl
        · refine s_iload_n 2 (n := 72) hX (dec_of D_X9_dearest (i := 38) rfl) rfl rfl rfl ?_
          refine s_goto (n := 84) hX (dec_of D_X9_dearest (i := 39) rfl) rfl ?_
          exact s_iret hX hR (dec_of D_X9_dearest (i := 45) rfl) rfl
      · refine s_aload_n 0 (n := 39) hX (dec_of D_X9_dearest (i := 21) rfl) rfl rfl rfl ?_
        refine s_getC (c := 9) (p := 1) (n := 42) 121 0 hX cls9 (vk130 (by omega)) (dec_of D_X9_dearest (i := 22) rfl) rfl rfl (by decide) wd_442 ?_
        refine s_getR (c := 0) (p := 3) (k' := 2) (n := 45) hX cls0 (vk121 (by omega)) (dec_of D_X9_dearest (i := 23) rfl) rfl rfl wd_226 ?_
        refine s_iload_n 3 (n := 46) hX (dec_of D_X9_dearest (i := 24) rfl) rfl rfl rfl ?_
        refine s_iald (n := 47) hX (vk2 (by omega)) (by decide) (dec_of D_X9_dearest (i := 25) rfl) rfl (fun v8 => ?_)
        refine s_aload_n 0 (n := 48) hX (dec_of D_X9_dearest (i := 26) rfl) rfl rfl rfl ?_
        refine s_getC (c := 9) (p := 1) (n := 51) 121 0 hX cls9 (vk130 (by omega)) (dec_of D_X9_dearest (i := 27) rfl) rfl rfl (by decide) wd_442 ?_
        refine s_getR (c := 0) (p := 3) (k' := 2) (n := 54) hX cls0 (vk121 (by omega)) (dec_of D_X9_dearest (i := 28) rfl) rfl rfl wd_226 ?_
        refine s_iload_n 2 (n := 55) hX (dec_of D_X9_dearest (i := 29) rfl) rfl rfl rfl ?_
        refine s_iald (n := 56) hX (vk2 (by omega)) (by decide) (dec_of D_X9_dearest (i := 30) rfl) rfl (fun v9 => ?_)
        refine s_icmp_le (tgt := 61) (n := 59) hX (dec_of D_X9_dearest (i := 31) rfl) rfl rfl ?_ ?_
        · refine s_iinc (v := z3.2 + 1) (lv' := [(0, _), (1, _), (2, _), (3, _)]) 3 [1, 2, 3, 0] (n := 64) hX (dec_of D_X9_dearest (i := 34) rfl) rfl rfl rfl (by decide) rfl ?_
          refine s_goto (n := 27) hX (dec_of D_X9_dearest (i := 35) rfl) rfl ?_
          exact s_sub [0, 1, 2, 3] rfl (hre5 (z3.1, (z3.2 + 1)))
        · refine s_iload_n 3 (n := 60) hX (dec_of D_X9_dearest (i := 32) rfl) rfl rfl rfl ?_
          refine s_istore_n (lv' := [(0, _), (1, _), (2, _), (3, _)]) [1, 2, 0, 3] (n := 61) hX (dec_of D_X9_dearest (i := 33) rfl) rfl rfl (by decide) rfl ?_
          refine s_iinc (v := z3.2 + 1) (lv' := [(0, _), (1, _), (2, _), (3, _)]) 3 [1, 2, 3, 0] (n := 64) hX (dec_of D_X9_dearest (i := 34) rfl) rfl rfl rfl (by decide) rfl ?_
          refine s_goto (n := 27) hX (dec_of D_X9_dearest (i := 35) rfl) rfl ?_
          exact s_sub [0, 1, 2, 3] rfl (hre5 (z3.2, (z3.2 + 1)))
    · refine s_bipush (v := (-2)) (n := 22) hX (dec_of D_X9_dearest (i := 10) rfl) rfl (by decide) ?_
      exact s_iret hX hR (dec_of D_X9_dearest (i := 11) rfl) rfl
  · refine s_iconst (v := (-1)) (n := 9) hX (dec_of D_X9_dearest (i := 4) rfl) rfl (by decide) ?_
    exact s_iret hX hR (dec_of D_X9_dearest (i := 5) rfl) rfl
theorem lk_RX9_437 : LkV RX9 437 RX0 yX0_lapsedIn cX0_lapsedIn 4 (some .int) 1 := ⟨wd_1108, wd_1109, wd_1110, wd_86, wd_1111, by decide +kernel, by decide⟩
theorem lk_RX9_434 : LkV RX9 434 RX0 yX0_partsIn cX0_partsIn 5 (some .int) 2 := ⟨wd_1107, wd_1100, wd_1101, wd_86, wd_1102, by decide +kernel, by decide⟩
def T_X9_moneyOfLand : List (Nat × Instr × Nat) := [(0, .iload_n 2, 1), (1, .tableswitch 90 0 4 #[35, 45, 58, 67, 77], 35), (36, .aload_n 0, 1), (37, .getfield 19, 3), (40, .getfield 129, 3), (43, .iload_n 1, 1), (44, .iaload, 1), (45, .ireturn, 1), (46, .aload_n 0, 1), (47, .getfield 19, 3), (50, .aload_n 0, 1), (51, .getfield 61, 3), (54, .iload_n 1, 1), (55, .invokevirtual 132, 3), (58, .ireturn, 1), (59, .aload_n 0, 1), (60, .getfield 19, 3), (63, .iload_n 1, 1), (64, .invokevirtual 136, 3), (67, .ireturn, 1), (68, .aload_n 0, 1), (69, .getfield 19, 3), (72, .getfield 126, 3), (75, .iload_n 1, 1), (76, .iaload, 1), (77, .ireturn, 1), (78, .aload_n 0, 1), (79, .getfield 19, 3), (82, .aload_n 0, 1), (83, .getfield 61, 3), (86, .iload_n 1, 1), (87, .invokevirtual 434, 3), (90, .ireturn, 1), (91, .aload_n 0, 1), (92, .getfield 19, 3), (95, .iload_n 1, 1), (96, .invokevirtual 437, 3), (99, .ireturn, 1)]
theorem D_X9_moneyOfLand : dchk cX9_moneyOfLand T_X9_moneyOfLand = true := by decide +kernel
def Rp_moneyOfLand (σ : ST) (a1 : Int32) (a2 : Int32) : Option Int32 :=
  sw_ a2 0 [bd_ (ldI σ 1 0 a1) (fun v2 => some v2), bd_ (ldQ σ 0) (fun rr3 => bd_ (Bk_paidIn (σ) 0 rr3 a1) (fun q4 => some q4)), bd_ (Bk_keptIn (σ) 0 a1) (fun q5 => some q5), bd_ (ldI σ 0 0 a1) (fun v6 => some v6), bd_ (ldQ σ 0) (fun rr7 => bd_ (Bk_partsIn (σ) 0 rr7 a1) (fun q8 => some q8))] (bd_ (Bk_lapsedIn (σ) 0 a1) (fun q1 => some q1))
set_option maxHeartbeats 4000000 in
set_option maxRecDepth 100000 in
theorem c_X9_moneyOfLand {G : GW} (hG : Good G) {l : Launch} (σ : ST) (a1 : Int32) (a2 : Int32) : Ctr G l yX9_moneyOfLand cX9_moneyOfLand 3 (some .int) 3 [.ref (ga G 130 0), .int a1, .int a2] σ (oI σ) (Rp_moneyOfLand σ a1 a2) := by
  refine ctr_of hG (by decide) (Nat.le_of_ble_eq_true rfl) ?_
  intro X hXl hR hX
  have hX : Ok G X cX9_moneyOfLand 3 RX9 3 := hX
  unfold Rp_moneyOfLand
  show Sim G X 3 (MQX G X (oI σ)) σ 0 [(0, .ref (ga G 130 0)), (1, .int a1), (2, .int a2)] [] _
  refine s_iload_n 2 (n := 1) hX (dec_of D_X9_moneyOfLand (i := 0) rfl) rfl rfl rfl ?_
  refine s_tsw (lo' := 0) (Ps := [_, _, _, _, _]) hX (dec_of D_X9_moneyOfLand (i := 1) rfl) rfl 5 rfl (by decide) (by decide) [36, 46, 59, 68, 78] 91 rfl rfl (by decide +kernel) ?_ ?_
  · skip
    refine swS_cons ?_ ?_
    · refine s_aload_n 0 (n := 37) hX (dec_of D_X9_moneyOfLand (i := 2) rfl) rfl rfl rfl ?_
      refine s_getC (c := 9) (p := 1) (n := 40) 121 0 hX cls9 (vk130 (by omega)) (dec_of D_X9_moneyOfLand (i := 3) rfl) rfl rfl (by decide) wd_442 ?_
      refine s_getR (c := 0) (p := 2) (k' := 1) (n := 43) hX cls0 (vk121 (by omega)) (dec_of D_X9_moneyOfLand (i := 4) rfl) rfl rfl wd_224 ?_
      refine s_iload_n 1 (n := 44) hX (dec_of D_X9_moneyOfLand (i := 5) rfl) rfl rfl rfl ?_
      refine s_iald (n := 45) hX (vk1 (by omega)) (by decide) (dec_of D_X9_moneyOfLand (i := 6) rfl) rfl (fun v2 => ?_)
      exact s_iret hX hR (dec_of D_X9_moneyOfLand (i := 7) rfl) rfl
    refine swS_cons ?_ ?_
    · refine s_aload_n 0 (n := 47) hX (dec_of D_X9_moneyOfLand (i := 8) rfl) rfl rfl rfl ?_
      refine s_getC (c := 9) (p := 1) (n := 50) 121 0 hX cls9 (vk130 (by omega)) (dec_of D_X9_moneyOfLand (i := 9) rfl) rfl rfl (by decide) wd_442 ?_
      refine s_aload_n 0 (n := 51) hX (dec_of D_X9_moneyOfLand (i := 10) rfl) rfl rfl rfl ?_
      refine s_getQ (c := 9) (p := 7) (j := 0) (n := 54) hX cls9 (vk130 (by omega)) (dec_of D_X9_moneyOfLand (i := 11) rfl) rfl rfl wd_448 (fun rr3 hrr3 => ?_)
      refine s_iload_n 1 (n := 55) hX (dec_of D_X9_moneyOfLand (i := 12) rfl) rfl rfl rfl ?_
      refine s_callVI (c := 0) (n := 58) hX cls0 (vk121 (by omega)) lk_RX9_132 (dec_of D_X9_moneyOfLand (i := 13) rfl) rfl (by decide) (c_X0_paidIn (l := _) hG _ _ (by omega) _ (by omega) _) rfl rfl (Nat.le_of_ble_eq_true rfl) (fun q4 => ?_)
      exact s_iret hX hR (dec_of D_X9_moneyOfLand (i := 14) rfl) rfl
    refine swS_cons ?_ ?_
    · refine s_aload_n 0 (n := 60) hX (dec_of D_X9_moneyOfLand (i := 15) rfl) rfl rfl rfl ?_
      refine s_getC (c := 9) (p := 1) (n := 63) 121 0 hX cls9 (vk130 (by omega)) (dec_of D_X9_moneyOfLand (i := 16) rfl) rfl rfl (by decide) wd_442 ?_
      refine s_iload_n 1 (n := 64) hX (dec_of D_X9_moneyOfLand (i := 17) rfl) rfl rfl rfl ?_
      refine s_callVI (c := 0) (n := 67) hX cls0 (vk121 (by omega)) lk_RX9_136 (dec_of D_X9_moneyOfLand (i := 18) rfl) rfl (by decide) (c_X0_keptIn (l := _) hG _ _ (by omega) _) rfl rfl (Nat.le_of_ble_eq_true rfl) (fun q5 => ?_)
      exact s_iret hX hR (dec_of D_X9_moneyOfLand (i := 19) rfl) rfl
    refine swS_cons ?_ ?_
    · refine s_aload_n 0 (n := 69) hX (dec_of D_X9_moneyOfLand (i := 20) rfl) rfl rfl rfl ?_
      refine s_getC (c := 9) (p := 1) (n := 72) 121 0 hX cls9 (vk130 (by omega)) (dec_of D_X9_moneyOfLand (i := 21) rfl) rfl rfl (by decide) wd_442 ?_
      refine s_getR (c := 0) (p := 1) (k' := 0) (n := 75) hX cls0 (vk121 (by omega)) (dec_of D_X9_moneyOfLand (i := 22) rfl) rfl rfl wd_222 ?_
      refine s_iload_n 1 (n := 76) hX (dec_of D_X9_moneyOfLand (i := 23) rfl) rfl rfl rfl ?_
      refine s_iald (n := 77) hX (vk0 (by omega)) (by decide) (dec_of D_X9_moneyOfLand (i := 24) rfl) rfl (fun v6 => ?_)
      exact s_iret hX hR (dec_of D_X9_moneyOfLand (i := 25) rfl) rfl
    refine swS_cons ?_ ?_
    · refine s_aload_n 0 (n := 79) hX (dec_of D_X9_moneyOfLand (i := 26) rfl) rfl rfl rfl ?_
      refine s_getC (c := 9) (p := 1) (n := 82) 121 0 hX cls9 (vk130 (by omega)) (dec_of D_X9_moneyOfLand (i := 27) rfl) rfl rfl (by decide) wd_442 ?_
      refine s_aload_n 0 (n := 83) hX (dec_of D_X9_moneyOfLand (i := 28) rfl) rfl rfl rfl ?_
      refine s_getQ (c := 9) (p := 7) (j := 0) (n := 86) hX cls9 (vk130 (by omega)) (dec_of D_X9_moneyOfLand (i := 29) rfl) rfl rfl wd_448 (fun rr7 hrr7 => ?_)
      refine s_iload_n 1 (n := 87) hX (dec_of D_X9_moneyOfLand (i := 30) rfl) rfl rfl rfl ?_
      refine s_callVI (c := 0) (n := 90) hX cls0 (vk121 (by omega)) lk_RX9_434 (dec_of D_X9_moneyOfLand (i := 31) rfl) rfl (by decide) (c_X0_partsIn (l := _) hG _ _ (by omega) _ (by omega) _) rfl rfl (Nat.le_of_ble_eq_true rfl) (fun q8 => ?_)
      exact s_iret hX hR (dec_of D_X9_moneyOfLand (i := 32) rfl) rfl
    exact swS_nil
  · refine s_aload_n 0 (n := 92) hX (dec_of D_X9_moneyOfLand (i := 33) rfl) rfl rfl rfl ?_
    refine s_getC (c := 9) (p := 1) (n := 95) 121 0 hX cls9 (vk130 (by omega)) (dec_of D_X9_moneyOfLand (i := 34) rfl) rfl rfl (by decide) wd_442 ?_
    refine s_iload_n 1 (n := 96) hX (dec_of D_X9_moneyOfLand (i := 35) rfl) rfl rfl rfl ?_
    refine s_callVI (c := 0) (n := 99) hX cls0 (vk121 (by omega)) lk_RX9_437 (dec_of D_X9_moneyOfLand (i := 36) rfl) rfl (by decide) (c_X0_lapsedIn (l := _) hG _ _ (by omega) _) rfl rfl (Nat.le_of_ble_eq_true rfl) (fun q1 => ?_)
    exact s_iret hX hR (dec_of D_X9_moneyOfLand (i := 37) rfl) rfl
theorem lk_RX9_374 : LkV RX9 374 RX9 yX9_moneyOfLand cX9_moneyOfLand 3 (some .int) 2 := ⟨wd_1090, wd_1092, wd_11, wd_83, wd_1093, by decide +kernel, by decide⟩
def T_X9_money : List (Nat × Instr × Nat) := [(0, .iload_n 1, 1), (1, .bipush 6, 2), (3, .invokestatic 207, 3), (6, .ifCond .ne 5, 3), (9, .iconst (-1), 1), (10, .ireturn, 1), (11, .iconst 0, 1), (12, .istore_n 2, 1), (13, .iconst 0, 1), (14, .istore_n 3, 1), (15, .iload_n 3, 1), (16, .aload_n 0, 1), (17, .getfield 61, 3), (20, .getfield 229, 3), (23, .if_icmp .ge 18, 3), (26, .iload_n 2, 1), (27, .aload_n 0, 1), (28, .iload_n 3, 1), (29, .iload_n 1, 1), (30, .invokevirtual 374, 3), (33, .iadd, 1), (34, .istore_n 2, 1), (35, .iinc 3 1, 3), (38, .goto (-23), 3), (41, .iload_n 2, 1), (42, .ireturn, 1)]
theorem D_X9_money : dchk cX9_money T_X9_money = true := by decide +kernel
def Rp_money (σ : ST) (a1 : Int32) : Option Int32 :=
  bd_ (Rp_isChoice (σ) a1 6) (fun q1 => (if q1 = 0 then some (-1) else lp_ (fun rec3 (z2 : Int32 × Int32) => bd_ (ldQ σ 0) (fun rr5 => (if (gF σ 529 rr5) ≤ z2.2 then some z2.1 else bd_ (Rp_moneyOfLand (σ) z2.2 a1) (fun q6 => lt_ ((z2.1 + q6)) (fun x7 => rec3 (x7, (z2.2 + 1))))))) FU (0, 0)))
set_option maxHeartbeats 4000000 in
set_option maxRecDepth 100000 in
theorem c_X9_money {G : GW} (hG : Good G) {l : Launch} (σ : ST) (a1 : Int32) : Ctr G l yX9_money cX9_money 4 (some .int) 4 [.ref (ga G 130 0), .int a1] σ (oI σ) (Rp_money σ a1) := by
  refine ctr_of hG (by decide) (Nat.le_of_ble_eq_true rfl) ?_
  intro X hXl hR hX
  have hX : Ok G X cX9_money 4 RX9 4 := hX
  unfold Rp_money
  show Sim G X 4 (MQX G X (oI σ)) σ 0 [(0, .ref (ga G 130 0)), (1, .int a1)] [] _
  refine s_iload_n 1 (n := 1) hX (dec_of D_X9_money (i := 0) rfl) rfl rfl rfl ?_
  refine s_bipush (v := 6) (n := 3) hX (dec_of D_X9_money (i := 1) rfl) rfl (by decide) ?_
  refine s_callSI (n := 6) hX lk_RX9_207 (dec_of D_X9_money (i := 2) rfl) rfl (by decide) (c_X9_isChoice (l := _) hG _ _ _) rfl rfl (Nat.le_of_ble_eq_true rfl) (fun q1 => ?_)
  refine s_if_ne (tgt := 11) (n := 9) hX (dec_of D_X9_money (i := 3) rfl) rfl rfl ?_ ?_
  · refine s_iconst (v := 0) (n := 12) hX (dec_of D_X9_money (i := 6) rfl) rfl (by decide) ?_
    refine s_istore_n (lv' := [(0, _), (1, _), (2, _)]) [1, 2, 0] (n := 13) hX (dec_of D_X9_money (i := 7) rfl) rfl rfl (by decide) rfl ?_
    refine s_iconst (v := 0) (n := 14) hX (dec_of D_X9_money (i := 8) rfl) rfl (by decide) ?_
    refine s_istore_n (lv' := [(0, _), (1, _), (2, _), (3, _)]) [1, 2, 3, 0] (n := 15) hX (dec_of D_X9_money (i := 9) rfl) rfl rfl (by decide) rfl ?_
    refine s_sub [0, 1, 2, 3] rfl (s_lp (pc := 15) (Sf := fun (z2 : Int32 × Int32) => σ) (lvf := fun (z2 : Int32 × Int32) => [(0, .ref (ga G 130 0)), (1, .int a1), (2, .int z2.1), (3, .int z2.2)]) (fun rec3 hre4 z2 => ?_) FU (0, 0))
    refine s_iload_n 3 (n := 16) hX (dec_of D_X9_money (i := 10) rfl) rfl rfl rfl ?_
    refine s_aload_n 0 (n := 17) hX (dec_of D_X9_money (i := 11) rfl) rfl rfl rfl ?_
    refine s_getQ (c := 9) (p := 7) (j := 0) (n := 20) hX cls9 (vk130 (by omega)) (dec_of D_X9_money (i := 12) rfl) rfl rfl wd_448 (fun rr5 hrr5 => ?_)
    refine s_getI (c := 5) (p := 9) (id := 529) (n := 23) hX cls5 (vk126 (by omega)) (dec_of D_X9_money (i := 13) rfl) rfl rfl wd_392 ?_
    refine s_icmp_ge (tgt := 41) (n := 26) hX (dec_of D_X9_money (i := 14) rfl) rfl rfl ?_ ?_
    · refine s_iload_n 2 (n := 42) hX (dec_of D_X9_money (i := 24) rfl) rfl rfl rfl ?_
      exact s_iret hX hR (dec_of D_X9_money (i := 25) rfl) rfl
    · refine s_iload_n 2 (n := 27) hX (dec_of D_X9_money (i := 15) rfl) rfl rfl rfl ?_
      refine s_aload_n 0 (n := 28) hX (dec_of D_X9_money (i := 16) rfl) rfl rfl rfl ?_
      refine s_iload_n 3 (n := 29) hX (dec_of D_X9_money (i := 17) rfl) rfl rfl rfl ?_
      refine s_iload_n 1 (n := 30) hX (dec_of D_X9_money (i := 18) rfl) rfl rfl rfl ?_
      refine s_callVI (c := 9) (n := 33) hX cls9 (vk130 (by omega)) lk_RX9_374 (dec_of D_X9_money (i := 19) rfl) rfl (by decide) (c_X9_moneyOfLand (l := _) hG _ _ _) rfl rfl (Nat.le_of_ble_eq_true rfl) (fun q6 => ?_)
      refine s_iadd (n := 34) hX (dec_of D_X9_money (i := 20) rfl) rfl ?_
      refine s_topi (fun x7 => ?_)
      refine s_istore_n (lv' := [(0, _), (1, _), (2, _), (3, _)]) [1, 2, 0, 3] (n := 35) hX (dec_of D_X9_money (i := 21) rfl) rfl rfl (by decide) rfl ?_
      refine s_iinc (v := z2.2 + 1) (lv' := [(0, _), (1, _), (2, _), (3, _)]) 3 [1, 2, 3, 0] (n := 38) hX (dec_of D_X9_money (i := 22) rfl) rfl rfl rfl (by decide) rfl ?_
      refine s_goto (n := 15) hX (dec_of D_X9_money (i := 23) rfl) rfl ?_
      exact s_sub [0, 1, 2, 3] rfl (hre4 (x7, (z2.2 + 1)))
  · refine s_iconst (v := (-1)) (n := 10) hX (dec_of D_X9_money (i := 4) rfl) rfl (by decide) ?_
    exact s_iret hX hR (dec_of D_X9_money (i := 5) rfl) rfl
theorem lk_RX9_377 : LkV RX9 377 RX5 yX5_headsIn cX5_headsIn 2 (some .int) 1 := ⟨wd_1116, wd_635, wd_636, wd_92, wd_637, by decide +kernel, by decide⟩
def T_X9_share : List (Nat × Instr × Nat) := [(0, .aload_n 0, 1), (1, .iload_n 1, 1), (2, .iload_n 2, 1), (3, .iload_n 3, 1), (4, .invokevirtual 286, 3), (7, .ifCond .eq 8, 3), (10, .iload 4, 2), (12, .ifCond .ge 5, 3), (15, .iconst (-1), 1), (16, .ireturn, 1), (17, .iload 4, 2), (19, .aload_n 0, 1), (20, .getfield 61, 3), (23, .iload_n 2, 1), (24, .invokevirtual 377, 3), (27, .if_icmp .lt 6, 3), (30, .bipush (-2), 2), (32, .ireturn, 1), (33, .aload_n 0, 1), (34, .getfield 40, 3), (37, .aload_n 0, 1), (38, .getfield 61, 3), (41, .aload_n 0, 1), (42, .getfield 19, 3), (45, .getfield 113, 3), (48, .iload_n 1, 1), (49, .iload_n 2, 1), (50, .iload_n 3, 1), (51, .invokevirtual 278, 3), (54, .aload_n 0, 1), (55, .getfield 40, 3), (58, .getfield 380, 3), (61, .iload 4, 2), (63, .iaload, 1), (64, .ireturn, 1)]
theorem D_X9_share : dchk cX9_share T_X9_share = true := by decide +kernel
def Rp_share (σ : ST) (a1 : Int32) (a2 : Int32) (a3 : Int32) (a4 : Int32) : Option (Int32 × ST) :=
  bd_ (Rp_isPlay (σ) a1 a2 a3) (fun q1 => (if q1 = 0 then some ((-1), σ) else (if 0 ≤ a4 then bd_ (ldQ σ 0) (fun rr2 => bd_ (Rl_headsIn (σ) rr2 a2) (fun q3 => (if a4 < q3 then bd_ (ldQ σ 0) (fun rr4 => bd_ (Oc_think (σ) 0 rr4 0 a1 a2 a3) (fun q5 => bd_ (ldI q5 9 0 a4) (fun v6 => some (v6, q5)))) else some ((-2), σ)))) else some ((-1), σ))))
set_option maxHeartbeats 4000000 in
set_option maxRecDepth 100000 in
theorem c_X9_share {G : GW} (hG : Good G) {l : Launch} (σ : ST) (a1 : Int32) (a2 : Int32) (a3 : Int32) (a4 : Int32) : Ctr G l yX9_share cX9_share 5 (some .int) 4 [.ref (ga G 130 0), .int a1, .int a2, .int a3, .int a4] σ oP (Rp_share σ a1 a2 a3 a4) := by
  refine ctr_of hG (by decide) (Nat.le_of_ble_eq_true rfl) ?_
  intro X hXl hR hX
  have hX : Ok G X cX9_share 5 RX9 4 := hX
  unfold Rp_share
  show Sim G X 5 (MQX G X oP) σ 0 [(0, .ref (ga G 130 0)), (1, .int a1), (2, .int a2), (3, .int a3), (4, .int a4)] [] _
  refine s_aload_n 0 (n := 1) hX (dec_of D_X9_share (i := 0) rfl) rfl rfl rfl ?_
  refine s_iload_n 1 (n := 2) hX (dec_of D_X9_share (i := 1) rfl) rfl rfl rfl ?_
  refine s_iload_n 2 (n := 3) hX (dec_of D_X9_share (i := 2) rfl) rfl rfl rfl ?_
  refine s_iload_n 3 (n := 4) hX (dec_of D_X9_share (i := 3) rfl) rfl rfl rfl ?_
  refine s_callVI (c := 9) (n := 7) hX cls9 (vk130 (by omega)) lk_RX9_286 (dec_of D_X9_share (i := 4) rfl) rfl (by decide) (c_X9_isPlay (l := _) hG _ _ _ _) rfl rfl (Nat.le_of_ble_eq_true rfl) (fun q1 => ?_)
  refine s_if_eq (tgt := 15) (n := 10) hX (dec_of D_X9_share (i := 5) rfl) rfl rfl ?_ ?_
  · refine s_iconst (v := (-1)) (n := 16) hX (dec_of D_X9_share (i := 8) rfl) rfl (by decide) ?_
    exact s_iret hX hR (dec_of D_X9_share (i := 9) rfl) rfl
  · refine s_iload 4 (n := 12) hX (dec_of D_X9_share (i := 6) rfl) rfl rfl ?_
    refine s_if_ge (tgt := 17) (n := 15) hX (dec_of D_X9_share (i := 7) rfl) rfl rfl ?_ ?_
    · refine s_iload 4 (n := 19) hX (dec_of D_X9_share (i := 10) rfl) rfl rfl ?_
      refine s_aload_n 0 (n := 20) hX (dec_of D_X9_share (i := 11) rfl) rfl rfl rfl ?_
      refine s_getQ (c := 9) (p := 7) (j := 0) (n := 23) hX cls9 (vk130 (by omega)) (dec_of D_X9_share (i := 12) rfl) rfl rfl wd_448 (fun rr2 hrr2 => ?_)
      refine s_iload_n 2 (n := 24) hX (dec_of D_X9_share (i := 13) rfl) rfl rfl rfl ?_
      refine s_callVI (c := 5) (n := 27) hX cls5 (vk126 (by omega)) lk_RX9_377 (dec_of D_X9_share (i := 14) rfl) rfl (by decide) (c_X5_headsIn (l := _) hG _ _ (by omega) _) rfl rfl (Nat.le_of_ble_eq_true rfl) (fun q3 => ?_)
      refine s_icmp_lt (tgt := 33) (n := 30) hX (dec_of D_X9_share (i := 15) rfl) rfl rfl ?_ ?_
      · refine s_aload_n 0 (n := 34) hX (dec_of D_X9_share (i := 18) rfl) rfl rfl rfl ?_
        refine s_getC (c := 9) (p := 4) (n := 37) 124 0 hX cls9 (vk130 (by omega)) (dec_of D_X9_share (i := 19) rfl) rfl rfl (by decide) wd_445 ?_
        refine s_aload_n 0 (n := 38) hX (dec_of D_X9_share (i := 20) rfl) rfl rfl rfl ?_
        refine s_getQ (c := 9) (p := 7) (j := 0) (n := 41) hX cls9 (vk130 (by omega)) (dec_of D_X9_share (i := 21) rfl) rfl rfl wd_448 (fun rr4 hrr4 => ?_)
        refine s_aload_n 0 (n := 42) hX (dec_of D_X9_share (i := 22) rfl) rfl rfl rfl ?_
        refine s_getC (c := 9) (p := 1) (n := 45) 121 0 hX cls9 (vk130 (by omega)) (dec_of D_X9_share (i := 23) rfl) rfl rfl (by decide) wd_442 ?_
        refine s_getR (c := 0) (p := 0) (k' := 129) (n := 48) hX cls0 (vk121 (by omega)) (dec_of D_X9_share (i := 24) rfl) rfl rfl wd_219 ?_
        refine s_iload_n 1 (n := 49) hX (dec_of D_X9_share (i := 25) rfl) rfl rfl rfl ?_
        refine s_iload_n 2 (n := 50) hX (dec_of D_X9_share (i := 26) rfl) rfl rfl rfl ?_
        refine s_iload_n 3 (n := 51) hX (dec_of D_X9_share (i := 27) rfl) rfl rfl rfl ?_
        refine s_callVV (c := 3) (n := 54) hX cls3 (vk124 (by omega)) lk_RX9_278 (dec_of D_X9_share (i := 28) rfl) rfl (by decide) (c_X3_think (l := _) hG _ _ (by omega) _ (by omega) _ (by omega) _ _ _) rfl rfl (Nat.le_of_ble_eq_true rfl) (fun q5 => ?_)
        refine s_aload_n 0 (n := 55) hX (dec_of D_X9_share (i := 29) rfl) rfl rfl rfl ?_
        refine s_getC (c := 9) (p := 4) (n := 58) 124 0 hX cls9 (vk130 (by omega)) (dec_of D_X9_share (i := 30) rfl) rfl rfl (by decide) wd_445 ?_
        refine s_getR (c := 3) (p := 0) (k' := 9) (n := 61) hX cls3 (vk124 (by omega)) (dec_of D_X9_share (i := 31) rfl) rfl rfl wd_291 ?_
        refine s_iload 4 (n := 63) hX (dec_of D_X9_share (i := 32) rfl) rfl rfl ?_
        refine s_iald (n := 64) hX (vk9 (by omega)) (by decide) (dec_of D_X9_share (i := 33) rfl) rfl (fun v6 => ?_)
        exact s_iret hX hR (dec_of D_X9_share (i := 34) rfl) rfl
      · refine s_bipush (v := (-2)) (n := 32) hX (dec_of D_X9_share (i := 16) rfl) rfl (by decide) ?_
        exact s_iret hX hR (dec_of D_X9_share (i := 17) rfl) rfl
    · refine s_iconst (v := (-1)) (n := 16) hX (dec_of D_X9_share (i := 8) rfl) rfl (by decide) ?_
      exact s_iret hX hR (dec_of D_X9_share (i := 9) rfl) rfl
theorem lk_RX9_383 : LkV RX9 383 RX3 yX3_openMoney cX3_openMoney 4 (some .int) 1 := ⟨wd_1121, wd_1122, wd_1123, wd_89, wd_1124, by decide +kernel, by decide⟩
def T_X9_split : List (Nat × Instr × Nat) := [(0, .aload_n 0, 1), (1, .iload_n 1, 1), (2, .iload_n 2, 1), (3, .iload_n 3, 1), (4, .invokevirtual 286, 3), (7, .ifCond .eq 12, 3), (10, .iload 4, 2), (12, .iconst 3, 1), (13, .invokestatic 207, 3), (16, .ifCond .ne 5, 3), (19, .iconst (-1), 1), (20, .ireturn, 1), (21, .aload_n 0, 1), (22, .getfield 40, 3), (25, .aload_n 0, 1), (26, .getfield 61, 3), (29, .aload_n 0, 1), (30, .getfield 19, 3), (33, .getfield 113, 3), (36, .iload_n 1, 1), (37, .iload_n 2, 1), (38, .iload_n 3, 1), (39, .invokevirtual 278, 3), (42, .iload 4, 2), (44, .iconst 2, 1), (45, .if_icmp .ne 21, 3), (48, .aload_n 0, 1), (49, .getfield 40, 3), (52, .iconst 1, 1), (53, .invokevirtual 383, 3), (56, .aload_n 0, 1), (57, .getfield 40, 3), (60, .iconst 2, 1), (61, .invokevirtual 383, 3), (64, .iadd, 1), (65, .ireturn, 1), (66, .iload 4, 2), (68, .ifCond .ne 13, 3), (71, .aload_n 0, 1), (72, .getfield 40, 3), (75, .getfield 386, 3), (78, .goto 10, 3), (81, .aload_n 0, 1), (82, .getfield 40, 3), (85, .getfield 389, 3), (88, .ireturn, 1)]
theorem D_X9_split : dchk cX9_split T_X9_split = true := by decide +kernel
def Rp_split (σ : ST) (a1 : Int32) (a2 : Int32) (a3 : Int32) (a4 : Int32) : Option (Int32 × ST) :=
  bd_ (Rp_isPlay (σ) a1 a2 a3) (fun q1 => (if q1 = 0 then some ((-1), σ) else bd_ (Rp_isChoice (σ) a4 3) (fun q2 => (if q2 = 0 then some ((-1), σ) else bd_ (ldQ σ 0) (fun rr3 => bd_ (Oc_think (σ) 0 rr3 0 a1 a2 a3) (fun q4 => (if a4 = 2 then bd_ (Oc_openMoney q4 0 1) (fun q5 => bd_ (Oc_openMoney q4 0 2) (fun q6 => some ((q5 + q6), q4))) else (if a4 = 0 then some ((gF q4 397 0), q4) else some ((gF q4 398 0), q4)))))))))
set_option maxHeartbeats 4000000 in
set_option maxRecDepth 100000 in
theorem c_X9_split {G : GW} (hG : Good G) {l : Launch} (σ : ST) (a1 : Int32) (a2 : Int32) (a3 : Int32) (a4 : Int32) : Ctr G l yX9_split cX9_split 5 (some .int) 4 [.ref (ga G 130 0), .int a1, .int a2, .int a3, .int a4] σ oP (Rp_split σ a1 a2 a3 a4) := by
  refine ctr_of hG (by decide) (Nat.le_of_ble_eq_true rfl) ?_
  intro X hXl hR hX
  have hX : Ok G X cX9_split 5 RX9 4 := hX
  unfold Rp_split
  show Sim G X 5 (MQX G X oP) σ 0 [(0, .ref (ga G 130 0)), (1, .int a1), (2, .int a2), (3, .int a3), (4, .int a4)] [] _
  refine s_aload_n 0 (n := 1) hX (dec_of D_X9_split (i := 0) rfl) rfl rfl rfl ?_
  refine s_iload_n 1 (n := 2) hX (dec_of D_X9_split (i := 1) rfl) rfl rfl rfl ?_
  refine s_iload_n 2 (n := 3) hX (dec_of D_X9_split (i := 2) rfl) rfl rfl rfl ?_
  refine s_iload_n 3 (n := 4) hX (dec_of D_X9_split (i := 3) rfl) rfl rfl rfl ?_
  refine s_callVI (c := 9) (n := 7) hX cls9 (vk130 (by omega)) lk_RX9_286 (dec_of D_X9_split (i := 4) rfl) rfl (by decide) (c_X9_isPlay (l := _) hG _ _ _ _) rfl rfl (Nat.le_of_ble_eq_true rfl) (fun q1 => ?_)
  refine s_if_eq (tgt := 19) (n := 10) hX (dec_of D_X9_split (i := 5) rfl) rfl rfl ?_ ?_
  · refine s_iconst (v := (-1)) (n := 20) hX (dec_of D_X9_split (i := 10) rfl) rfl (by decide) ?_
    exact s_iret hX hR (dec_of D_X9_split (i := 11) rfl) rfl
  · refine s_iload 4 (n := 12) hX (dec_of D_X9_split (i := 6) rfl) rfl rfl ?_
    refine s_iconst (v := 3) (n := 13) hX (dec_of D_X9_split (i := 7) rfl) rfl (by decide) ?_
    refine s_callSI (n := 16) hX lk_RX9_207 (dec_of D_X9_split (i := 8) rfl) rfl (by decide) (c_X9_isChoice (l := _) hG _ _ _) rfl rfl (Nat.le_of_ble_eq_true rfl) (fun q2 => ?_)
    refine s_if_ne (tgt := 21) (n := 19) hX (dec_of D_X9_split (i := 9) rfl) rfl rfl ?_ ?_
    · refine s_aload_n 0 (n := 22) hX (dec_of D_X9_split (i := 12) rfl) rfl rfl rfl ?_
      refine s_getC (c := 9) (p := 4) (n := 25) 124 0 hX cls9 (vk130 (by omega)) (dec_of D_X9_split (i := 13) rfl) rfl rfl (by decide) wd_445 ?_
      refine s_aload_n 0 (n := 26) hX (dec_of D_X9_split (i := 14) rfl) rfl rfl rfl ?_
      refine s_getQ (c := 9) (p := 7) (j := 0) (n := 29) hX cls9 (vk130 (by omega)) (dec_of D_X9_split (i := 15) rfl) rfl rfl wd_448 (fun rr3 hrr3 => ?_)
      refine s_aload_n 0 (n := 30) hX (dec_of D_X9_split (i := 16) rfl) rfl rfl rfl ?_
      refine s_getC (c := 9) (p := 1) (n := 33) 121 0 hX cls9 (vk130 (by omega)) (dec_of D_X9_split (i := 17) rfl) rfl rfl (by decide) wd_442 ?_
      refine s_getR (c := 0) (p := 0) (k' := 129) (n := 36) hX cls0 (vk121 (by omega)) (dec_of D_X9_split (i := 18) rfl) rfl rfl wd_219 ?_
      refine s_iload_n 1 (n := 37) hX (dec_of D_X9_split (i := 19) rfl) rfl rfl rfl ?_
      refine s_iload_n 2 (n := 38) hX (dec_of D_X9_split (i := 20) rfl) rfl rfl rfl ?_
      refine s_iload_n 3 (n := 39) hX (dec_of D_X9_split (i := 21) rfl) rfl rfl rfl ?_
      refine s_callVV (c := 3) (n := 42) hX cls3 (vk124 (by omega)) lk_RX9_278 (dec_of D_X9_split (i := 22) rfl) rfl (by decide) (c_X3_think (l := _) hG _ _ (by omega) _ (by omega) _ (by omega) _ _ _) rfl rfl (Nat.le_of_ble_eq_true rfl) (fun q4 => ?_)
      refine s_iload 4 (n := 44) hX (dec_of D_X9_split (i := 23) rfl) rfl rfl ?_
      refine s_iconst (v := 2) (n := 45) hX (dec_of D_X9_split (i := 24) rfl) rfl (by decide) ?_
      refine s_icmp_ne (tgt := 66) (n := 48) hX (dec_of D_X9_split (i := 25) rfl) rfl rfl ?_ ?_
      · refine s_iload 4 (n := 68) hX (dec_of D_X9_split (i := 36) rfl) rfl rfl ?_
        refine s_if_ne (tgt := 81) (n := 71) hX (dec_of D_X9_split (i := 37) rfl) rfl rfl ?_ ?_
        · refine s_aload_n 0 (n := 82) hX (dec_of D_X9_split (i := 42) rfl) rfl rfl rfl ?_
          refine s_getC (c := 9) (p := 4) (n := 85) 124 0 hX cls9 (vk130 (by omega)) (dec_of D_X9_split (i := 43) rfl) rfl rfl (by decide) wd_445 ?_
          refine s_getI (c := 3) (p := 6) (id := 398) (n := 88) hX cls3 (vk124 (by omega)) (dec_of D_X9_split (i := 44) rfl) rfl rfl wd_304 ?_
          exact s_iret hX hR (dec_of D_X9_split (i := 45) rfl) rfl
        · refine s_aload_n 0 (n := 72) hX (dec_of D_X9_split (i := 38) rfl) rfl rfl rfl ?_
          refine s_getC (c := 9) (p := 4) (n := 75) 124 0 hX cls9 (vk130 (by omega)) (dec_of D_X9_split (i := 39) rfl) rfl rfl (by decide) wd_445 ?_
          refine s_getI (c := 3) (p := 5) (id := 397) (n := 78) hX cls3 (vk124 (by omega)) (dec_of D_X9_split (i := 40) rfl) rfl rfl wd_302 ?_
          refine s_goto (n := 88) hX (dec_of D_X9_split (i := 41) rfl) rfl ?_
          exact s_iret hX hR (dec_of D_X9_split (i := 45) rfl) rfl
      · refine s_aload_n 0 (n := 49) hX (dec_of D_X9_split (i := 26) rfl) rfl rfl rfl ?_
        refine s_getC (c := 9) (p := 4) (n := 52) 124 0 hX cls9 (vk130 (by omega)) (dec_of D_X9_split (i := 27) rfl) rfl rfl (by decide) wd_445 ?_
        refine s_iconst (v := 1) (n := 53) hX (dec_of D_X9_split (i := 28) rfl) rfl (by decide) ?_
        refine s_callVI (c := 3) (n := 56) hX cls3 (vk124 (by omega)) lk_RX9_383 (dec_of D_X9_split (i := 29) rfl) rfl (by decide) (c_X3_openMoney (l := _) hG _ _ (by omega) _) rfl rfl (Nat.le_of_ble_eq_true rfl) (fun q5 => ?_)
        refine s_aload_n 0 (n := 57) hX (dec_of D_X9_split (i := 30) rfl) rfl rfl rfl ?_
        refine s_getC (c := 9) (p := 4) (n := 60) 124 0 hX cls9 (vk130 (by omega)) (dec_of D_X9_split (i := 31) rfl) rfl rfl (by decide) wd_445 ?_
        refine s_iconst (v := 2) (n := 61) hX (dec_of D_X9_split (i := 32) rfl) rfl (by decide) ?_
        refine s_callVI (c := 3) (n := 64) hX cls3 (vk124 (by omega)) lk_RX9_383 (dec_of D_X9_split (i := 33) rfl) rfl (by decide) (c_X3_openMoney (l := _) hG _ _ (by omega) _) rfl rfl (Nat.le_of_ble_eq_true rfl) (fun q6 => ?_)
        refine s_iadd (n := 65) hX (dec_of D_X9_split (i := 34) rfl) rfl ?_
        exact s_iret hX hR (dec_of D_X9_split (i := 35) rfl) rfl
    · refine s_iconst (v := (-1)) (n := 20) hX (dec_of D_X9_split (i := 10) rfl) rfl (by decide) ?_
      exact s_iret hX hR (dec_of D_X9_split (i := 11) rfl) rfl
def T_X9_wouldPlay : List (Nat × Instr × Nat) := [(0, .aload_n 0, 1), (1, .iload_n 1, 1), (2, .iload_n 2, 1), (3, .iload_n 3, 1), (4, .invokevirtual 286, 3), (7, .ifCond .eq 12, 3), (10, .iload 4, 2), (12, .iconst 3, 1), (13, .invokestatic 207, 3), (16, .ifCond .ne 5, 3), (19, .iconst (-1), 1), (20, .ireturn, 1), (21, .aload_n 0, 1), (22, .iload_n 1, 1), (23, .iload_n 3, 1), (24, .invokevirtual 289, 3), (27, .ifCond .eq 6, 3), (30, .bipush (-2), 2), (32, .ireturn, 1), (33, .aload_n 0, 1), (34, .getfield 40, 3), (37, .aload_n 0, 1), (38, .getfield 61, 3), (41, .aload_n 0, 1), (42, .getfield 19, 3), (45, .getfield 113, 3), (48, .iload_n 1, 1), (49, .iload_n 2, 1), (50, .iload_n 3, 1), (51, .invokevirtual 278, 3), (54, .aload_n 0, 1), (55, .getfield 40, 3), (58, .getfield 300, 3), (61, .iload 4, 2), (63, .iaload, 1), (64, .ireturn, 1)]
theorem D_X9_wouldPlay : dchk cX9_wouldPlay T_X9_wouldPlay = true := by decide +kernel
def Rp_wouldPlay (σ : ST) (a1 : Int32) (a2 : Int32) (a3 : Int32) (a4 : Int32) : Option (Int32 × ST) :=
  bd_ (Rp_isPlay (σ) a1 a2 a3) (fun q1 => (if q1 = 0 then some ((-1), σ) else bd_ (Rp_isChoice (σ) a4 3) (fun q2 => (if q2 = 0 then some ((-1), σ) else bd_ (Rp_isTooMuch (σ) a1 a3) (fun q3 => (if q3 = 0 then bd_ (ldQ σ 0) (fun rr4 => bd_ (Oc_think (σ) 0 rr4 0 a1 a2 a3) (fun q5 => bd_ (ldI q5 12 0 a4) (fun v6 => some (v6, q5)))) else some ((-2), σ)))))))
set_option maxHeartbeats 4000000 in
set_option maxRecDepth 100000 in
theorem c_X9_wouldPlay {G : GW} (hG : Good G) {l : Launch} (σ : ST) (a1 : Int32) (a2 : Int32) (a3 : Int32) (a4 : Int32) : Ctr G l yX9_wouldPlay cX9_wouldPlay 5 (some .int) 4 [.ref (ga G 130 0), .int a1, .int a2, .int a3, .int a4] σ oP (Rp_wouldPlay σ a1 a2 a3 a4) := by
  refine ctr_of hG (by decide) (Nat.le_of_ble_eq_true rfl) ?_
  intro X hXl hR hX
  have hX : Ok G X cX9_wouldPlay 5 RX9 4 := hX
  unfold Rp_wouldPlay
  show Sim G X 5 (MQX G X oP) σ 0 [(0, .ref (ga G 130 0)), (1, .int a1), (2, .int a2), (3, .int a3), (4, .int a4)] [] _
  refine s_aload_n 0 (n := 1) hX (dec_of D_X9_wouldPlay (i := 0) rfl) rfl rfl rfl ?_
  refine s_iload_n 1 (n := 2) hX (dec_of D_X9_wouldPlay (i := 1) rfl) rfl rfl rfl ?_
  refine s_iload_n 2 (n := 3) hX (dec_of D_X9_wouldPlay (i := 2) rfl) rfl rfl rfl ?_
  refine s_iload_n 3 (n := 4) hX (dec_of D_X9_wouldPlay (i := 3) rfl) rfl rfl rfl ?_
  refine s_callVI (c := 9) (n := 7) hX cls9 (vk130 (by omega)) lk_RX9_286 (dec_of D_X9_wouldPlay (i := 4) rfl) rfl (by decide) (c_X9_isPlay (l := _) hG _ _ _ _) rfl rfl (Nat.le_of_ble_eq_true rfl) (fun q1 => ?_)
  refine s_if_eq (tgt := 19) (n := 10) hX (dec_of D_X9_wouldPlay (i := 5) rfl) rfl rfl ?_ ?_
  · refine s_iconst (v := (-1)) (n := 20) hX (dec_of D_X9_wouldPlay (i := 10) rfl) rfl (by decide) ?_
    exact s_iret hX hR (dec_of D_X9_wouldPlay (i := 11) rfl) rfl
  · refine s_iload 4 (n := 12) hX (dec_of D_X9_wouldPlay (i := 6) rfl) rfl rfl ?_
    refine s_iconst (v := 3) (n := 13) hX (dec_of D_X9_wouldPlay (i := 7) rfl) rfl (by decide) ?_
    refine s_callSI (n := 16) hX lk_RX9_207 (dec_of D_X9_wouldPlay (i := 8) rfl) rfl (by decide) (c_X9_isChoice (l := _) hG _ _ _) rfl rfl (Nat.le_of_ble_eq_true rfl) (fun q2 => ?_)
    refine s_if_ne (tgt := 21) (n := 19) hX (dec_of D_X9_wouldPlay (i := 9) rfl) rfl rfl ?_ ?_
    · refine s_aload_n 0 (n := 22) hX (dec_of D_X9_wouldPlay (i := 12) rfl) rfl rfl rfl ?_
      refine s_iload_n 1 (n := 23) hX (dec_of D_X9_wouldPlay (i := 13) rfl) rfl rfl rfl ?_
      refine s_iload_n 3 (n := 24) hX (dec_of D_X9_wouldPlay (i := 14) rfl) rfl rfl rfl ?_
      refine s_callVI (c := 9) (n := 27) hX cls9 (vk130 (by omega)) lk_RX9_289 (dec_of D_X9_wouldPlay (i := 15) rfl) rfl (by decide) (c_X9_isTooMuch (l := _) hG _ _ _) rfl rfl (Nat.le_of_ble_eq_true rfl) (fun q3 => ?_)
      refine s_if_eq (tgt := 33) (n := 30) hX (dec_of D_X9_wouldPlay (i := 16) rfl) rfl rfl ?_ ?_
      · refine s_aload_n 0 (n := 34) hX (dec_of D_X9_wouldPlay (i := 19) rfl) rfl rfl rfl ?_
        refine s_getC (c := 9) (p := 4) (n := 37) 124 0 hX cls9 (vk130 (by omega)) (dec_of D_X9_wouldPlay (i := 20) rfl) rfl rfl (by decide) wd_445 ?_
        refine s_aload_n 0 (n := 38) hX (dec_of D_X9_wouldPlay (i := 21) rfl) rfl rfl rfl ?_
        refine s_getQ (c := 9) (p := 7) (j := 0) (n := 41) hX cls9 (vk130 (by omega)) (dec_of D_X9_wouldPlay (i := 22) rfl) rfl rfl wd_448 (fun rr4 hrr4 => ?_)
        refine s_aload_n 0 (n := 42) hX (dec_of D_X9_wouldPlay (i := 23) rfl) rfl rfl rfl ?_
        refine s_getC (c := 9) (p := 1) (n := 45) 121 0 hX cls9 (vk130 (by omega)) (dec_of D_X9_wouldPlay (i := 24) rfl) rfl rfl (by decide) wd_442 ?_
        refine s_getR (c := 0) (p := 0) (k' := 129) (n := 48) hX cls0 (vk121 (by omega)) (dec_of D_X9_wouldPlay (i := 25) rfl) rfl rfl wd_219 ?_
        refine s_iload_n 1 (n := 49) hX (dec_of D_X9_wouldPlay (i := 26) rfl) rfl rfl rfl ?_
        refine s_iload_n 2 (n := 50) hX (dec_of D_X9_wouldPlay (i := 27) rfl) rfl rfl rfl ?_
        refine s_iload_n 3 (n := 51) hX (dec_of D_X9_wouldPlay (i := 28) rfl) rfl rfl rfl ?_
        refine s_callVV (c := 3) (n := 54) hX cls3 (vk124 (by omega)) lk_RX9_278 (dec_of D_X9_wouldPlay (i := 29) rfl) rfl (by decide) (c_X3_think (l := _) hG _ _ (by omega) _ (by omega) _ (by omega) _ _ _) rfl rfl (Nat.le_of_ble_eq_true rfl) (fun q5 => ?_)
        refine s_aload_n 0 (n := 55) hX (dec_of D_X9_wouldPlay (i := 30) rfl) rfl rfl rfl ?_
        refine s_getC (c := 9) (p := 4) (n := 58) 124 0 hX cls9 (vk130 (by omega)) (dec_of D_X9_wouldPlay (i := 31) rfl) rfl rfl (by decide) wd_445 ?_
        refine s_getR (c := 3) (p := 3) (k' := 12) (n := 61) hX cls3 (vk124 (by omega)) (dec_of D_X9_wouldPlay (i := 32) rfl) rfl rfl wd_298 ?_
        refine s_iload 4 (n := 63) hX (dec_of D_X9_wouldPlay (i := 33) rfl) rfl rfl ?_
        refine s_iald (n := 64) hX (vk12 (by omega)) (by decide) (dec_of D_X9_wouldPlay (i := 34) rfl) rfl (fun v6 => ?_)
        exact s_iret hX hR (dec_of D_X9_wouldPlay (i := 35) rfl) rfl
      · refine s_bipush (v := (-2)) (n := 32) hX (dec_of D_X9_wouldPlay (i := 17) rfl) rfl (by decide) ?_
        exact s_iret hX hR (dec_of D_X9_wouldPlay (i := 18) rfl) rfl
    · refine s_iconst (v := (-1)) (n := 20) hX (dec_of D_X9_wouldPlay (i := 10) rfl) rfl (by decide) ?_
      exact s_iret hX hR (dec_of D_X9_wouldPlay (i := 11) rfl) rfl
theorem lk_RX9_424 : LkV RX9 424 RX0 yX0_worthOfSeat cX0_worthOfSeat 8 (some .int) 4 := ⟨wd_1137, wd_923, wd_924, wd_86, wd_925, by decide +kernel, by decide⟩
def T_X9_claimWorth : List (Nat × Instr × Nat) := [(0, .aload_n 0, 1), (1, .getfield 19, 3), (4, .aload_n 0, 1), (5, .getfield 61, 3), (8, .iload_n 1, 1), (9, .iload_n 2, 1), (10, .aload_n 0, 1), (11, .getfield 19, 3), (14, .getfield 113, 3), (17, .aload_n 0, 1), (18, .getfield 61, 3), (21, .iload_n 2, 1), (22, .invokevirtual 310, 3), (25, .invokevirtual 424, 3), (28, .ireturn, 1)]
theorem D_X9_claimWorth : dchk cX9_claimWorth T_X9_claimWorth = true := by decide +kernel
def Rp_claimWorth (σ : ST) (a1 : Int32) (a2 : Int32) : Option Int32 :=
  bd_ (ldQ σ 0) (fun rr1 => bd_ (ldQ σ 0) (fun rr2 => bd_ (Wo_firstOpen (σ) 0 rr2 a2) (fun q3 => bd_ (Bk_worthOfSeat (σ) 0 rr1 a1 a2 q3) (fun q4 => some q4))))
set_option maxHeartbeats 4000000 in
set_option maxRecDepth 100000 in
theorem c_X9_claimWorth {G : GW} (hG : Good G) {l : Launch} (σ : ST) (a1 : Int32) (a2 : Int32) : Ctr G l yX9_claimWorth cX9_claimWorth 3 (some .int) 3 [.ref (ga G 130 0), .int a1, .int a2] σ (oI σ) (Rp_claimWorth σ a1 a2) := by
  refine ctr_of hG (by decide) (Nat.le_of_ble_eq_true rfl) ?_
  intro X hXl hR hX
  have hX : Ok G X cX9_claimWorth 3 RX9 3 := hX
  unfold Rp_claimWorth
  show Sim G X 3 (MQX G X (oI σ)) σ 0 [(0, .ref (ga G 130 0)), (1, .int a1), (2, .int a2)] [] _
  refine s_aload_n 0 (n := 1) hX (dec_of D_X9_claimWorth (i := 0) rfl) rfl rfl rfl ?_
  refine s_getC (c := 9) (p := 1) (n := 4) 121 0 hX cls9 (vk130 (by omega)) (dec_of D_X9_claimWorth (i := 1) rfl) rfl rfl (by decide) wd_442 ?_
  refine s_aload_n 0 (n := 5) hX (dec_of D_X9_claimWorth (i := 2) rfl) rfl rfl rfl ?_
  refine s_getQ (c := 9) (p := 7) (j := 0) (n := 8) hX cls9 (vk130 (by omega)) (dec_of D_X9_claimWorth (i := 3) rfl) rfl rfl wd_448 (fun rr1 hrr1 => ?_)
  refine s_iload_n 1 (n := 9) hX (dec_of D_X9_claimWorth (i := 4) rfl) rfl rfl rfl ?_
  refine s_iload_n 2 (n := 10) hX (dec_of D_X9_claimWorth (i := 5) rfl) rfl rfl rfl ?_
  refine s_aload_n 0 (n := 11) hX (dec_of D_X9_claimWorth (i := 6) rfl) rfl rfl rfl ?_
  refine s_getC (c := 9) (p := 1) (n := 14) 121 0 hX cls9 (vk130 (by omega)) (dec_of D_X9_claimWorth (i := 7) rfl) rfl rfl (by decide) wd_442 ?_
  refine s_getR (c := 0) (p := 0) (k' := 129) (n := 17) hX cls0 (vk121 (by omega)) (dec_of D_X9_claimWorth (i := 8) rfl) rfl rfl wd_219 ?_
  refine s_aload_n 0 (n := 18) hX (dec_of D_X9_claimWorth (i := 9) rfl) rfl rfl rfl ?_
  refine s_getQ (c := 9) (p := 7) (j := 0) (n := 21) hX cls9 (vk130 (by omega)) (dec_of D_X9_claimWorth (i := 10) rfl) rfl rfl wd_448 (fun rr2 hrr2 => ?_)
  refine s_iload_n 2 (n := 22) hX (dec_of D_X9_claimWorth (i := 11) rfl) rfl rfl rfl ?_
  refine s_callVI (c := 8) (n := 25) hX cls8 (vk129 (by omega)) lk_RX9_310 (dec_of D_X9_claimWorth (i := 12) rfl) rfl (by decide) (c_X8_firstOpen (l := _) hG _ _ (by omega) _ (by omega) _) rfl rfl (Nat.le_of_ble_eq_true rfl) (fun q3 => ?_)
  refine s_callVI (c := 0) (n := 28) hX cls0 (vk121 (by omega)) lk_RX9_424 (dec_of D_X9_claimWorth (i := 13) rfl) rfl (by decide) (c_X0_worthOfSeat (l := _) hG _ _ (by omega) _ (by omega) _ _ _) rfl rfl (Nat.le_of_ble_eq_true rfl) (fun q4 => ?_)
  exact s_iret hX hR (dec_of D_X9_claimWorth (i := 14) rfl) rfl
theorem lk_RX9_392 : LkV RX9 392 RX9 yX9_claimWorth cX9_claimWorth 3 (some .int) 2 := ⟨wd_1133, wd_1135, wd_12, wd_83, wd_1136, by decide +kernel, by decide⟩
def T_X9_wouldClaim : List (Nat × Instr × Nat) := [(0, .aload_n 0, 1), (1, .iload_n 1, 1), (2, .iload_n 2, 1), (3, .invokevirtual 306, 3), (6, .istore_n 3, 1), (7, .iload_n 3, 1), (8, .ifCond .eq 7, 3), (11, .iload_n 3, 1), (12, .goto 9, 3), (15, .aload_n 0, 1), (16, .iload_n 1, 1), (17, .iload_n 2, 1), (18, .invokevirtual 392, 3), (21, .ireturn, 1)]
theorem D_X9_wouldClaim : dchk cX9_wouldClaim T_X9_wouldClaim = true := by decide +kernel
def Rp_wouldClaim (σ : ST) (a1 : Int32) (a2 : Int32) : Option Int32 :=
  bd_ (Rp_claimBar (σ) a1 a2) (fun q1 => (if q1 = 0 then bd_ (Rp_claimWorth (σ) a1 a2) (fun q2 => some q2) else some q1))
set_option maxHeartbeats 4000000 in
set_option maxRecDepth 100000 in
theorem c_X9_wouldClaim {G : GW} (hG : Good G) {l : Launch} (σ : ST) (a1 : Int32) (a2 : Int32) : Ctr G l yX9_wouldClaim cX9_wouldClaim 4 (some .int) 4 [.ref (ga G 130 0), .int a1, .int a2] σ (oI σ) (Rp_wouldClaim σ a1 a2) := by
  refine ctr_of hG (by decide) (Nat.le_of_ble_eq_true rfl) ?_
  intro X hXl hR hX
  have hX : Ok G X cX9_wouldClaim 4 RX9 4 := hX
  unfold Rp_wouldClaim
  show Sim G X 4 (MQX G X (oI σ)) σ 0 [(0, .ref (ga G 130 0)), (1, .int a1), (2, .int a2)] [] _
  refine s_aload_n 0 (n := 1) hX (dec_of D_X9_wouldClaim (i := 0) rfl) rfl rfl rfl ?_
  refine s_iload_n 1 (n := 2) hX (dec_of D_X9_wouldClaim (i := 1) rfl) rfl rfl rfl ?_
  refine s_iload_n 2 (n := 3) hX (dec_of D_X9_wouldClaim (i := 2) rfl) rfl rfl rfl ?_
  refine s_callVI (c := 9) (n := 6) hX cls9 (vk130 (by omega)) lk_RX9_306 (dec_of D_X9_wouldClaim (i := 3) rfl) rfl (by decide) (c_X9_claimBar (l := _) hG _ _ _) rfl rfl (Nat.le_of_ble_eq_true rfl) (fun q1 => ?_)
  refine s_istore_n (lv' := [(0, _), (1, _), (2, _), (3, _)]) [1, 2, 3, 0] (n := 7) hX (dec_of D_X9_wouldClaim (i := 4) rfl) rfl rfl (by decide) rfl ?_
  refine s_iload_n 3 (n := 8) hX (dec_of D_X9_wouldClaim (i := 5) rfl) rfl rfl rfl ?_
  refine s_if_eq (tgt := 15) (n := 11) hX (dec_of D_X9_wouldClaim (i := 6) rfl) rfl rfl ?_ ?_
  · refine s_aload_n 0 (n := 16) hX (dec_of D_X9_wouldClaim (i := 9) rfl) rfl rfl rfl ?_
    refine s_iload_n 1 (n := 17) hX (dec_of D_X9_wouldClaim (i := 10) rfl) rfl rfl rfl ?_
    refine s_iload_n 2 (n := 18) hX (dec_of D_X9_wouldClaim (i := 11) rfl) rfl rfl rfl ?_
    refine s_callVI (c := 9) (n := 21) hX cls9 (vk130 (by omega)) lk_RX9_392 (dec_of D_X9_wouldClaim (i := 12) rfl) rfl (by decide) (c_X9_claimWorth (l := _) hG _ _ _) rfl rfl (Nat.le_of_ble_eq_true rfl) (fun q2 => ?_)
    exact s_iret hX hR (dec_of D_X9_wouldClaim (i := 13) rfl) rfl
  · refine s_iload_n 3 (n := 12) hX (dec_of D_X9_wouldClaim (i := 7) rfl) rfl rfl rfl ?_
    refine s_goto (n := 21) hX (dec_of D_X9_wouldClaim (i := 8) rfl) rfl ?_
    exact s_iret hX hR (dec_of D_X9_wouldClaim (i := 13) rfl) rfl
def T_X9_bestClaim : List (Nat × Instr × Nat) := [(0, .aload_n 0, 1), (1, .iload_n 1, 1), (2, .invokevirtual 148, 3), (5, .ifCond .eq 11, 3), (8, .iload_n 2, 1), (9, .iconst 2, 1), (10, .invokestatic 207, 3), (13, .ifCond .ne 5, 3), (16, .iconst (-1), 1), (17, .ireturn, 1), (18, .bipush (-2), 2), (20, .istore_n 3, 1), (21, .bipush (-2), 2), (23, .istore 4, 2), (25, .iconst 0, 1), (26, .istore 5, 2), (28, .iload 5, 2), (30, .aload_n 0, 1), (31, .getfield 61, 3), (34, .getfield 232, 3), (37, .if_icmp .ge 47, 3), (40, .aload_n 0, 1), (41, .iload_n 1, 1), (42, .iload 5, 2), (44, .invokevirtual 306, 3), (47, .ifCond .ne 31, 3), (50, .iload_n 3, 1), (51, .ifCond .lt 15, 3), (54, .aload_n 0, 1), (55, .iload_n 1, 1), (56, .iload 5, 2), (58, .invokevirtual 392, 3), (61, .iload 4, 2), (63, .if_icmp .le 15, 3), (66, .iload 5, 2), (68, .istore_n 3, 1), (69, .aload_n 0, 1), (70, .iload_n 1, 1), (71, .iload 5, 2), (73, .invokevirtual 392, 3), (76, .istore 4, 2), (78, .iinc 5 1, 3), (81, .goto (-53), 3), (84, .iload_n 2, 1), (85, .ifCond .ne 7, 3), (88, .iload_n 3, 1), (89, .goto 5, 3), (92, .iload 4, 2), (94, .ireturn, 1)]
theorem D_X9_bestClaim : dchk cX9_bestClaim T_X9_bestClaim = true := by decide +kernel
def Rp_bestClaim (σ : ST) (a1 : Int32) (a2 : Int32) : Option Int32 :=
  bd_ (Rp_isPlayer (σ) a1) (fun q1 => (if q1 = 0 then some (-1) else bd_ (Rp_isChoice (σ) a2 2) (fun q2 => (if q2 = 0 then some (-1) else lp_ (fun rec4 (z3 : Int32 × Int32 × Int32) => bd_ (ldQ σ 0) (fun rr6 => (if (gF σ 531 rr6) ≤ z3.2.2 then (if a2 = 0 then some z3.1 else some z3.2.1) else bd_ (Rp_claimBar (σ) a1 z3.2.2) (fun q7 => (if q7 = 0 then lk_ (fun kk9 => (if z3.1 < 0 then kk9 () else bd_ (Rp_claimWorth (σ) a1 z3.2.2) (fun q12 => (if q12 ≤ z3.2.1 then rec4 (z3.1, z3.2.1, (z3.2.2 + 1)) else kk9 ())))) (fun (j8 : Unit) => bd_ (Rp_claimWorth (σ) a1 z3.2.2) (fun q11 => rec4 (z3.2.2, q11, (z3.2.2 + 1)))) else rec4 (z3.1, z3.2.1, (z3.2.2 + 1))))))) FU ((-2), (-2), 0)))))
set_option maxHeartbeats 4000000 in
set_option maxRecDepth 100000 in
theorem c_X9_bestClaim {G : GW} (hG : Good G) {l : Launch} (σ : ST) (a1 : Int32) (a2 : Int32) : Ctr G l yX9_bestClaim cX9_bestClaim 6 (some .int) 4 [.ref (ga G 130 0), .int a1, .int a2] σ (oI σ) (Rp_bestClaim σ a1 a2) := by
  refine ctr_of hG (by decide) (Nat.le_of_ble_eq_true rfl) ?_
  intro X hXl hR hX
  have hX : Ok G X cX9_bestClaim 6 RX9 4 := hX
  unfold Rp_bestClaim
  show Sim G X 6 (MQX G X (oI σ)) σ 0 [(0, .ref (ga G 130 0)), (1, .int a1), (2, .int a2)] [] _
  refine s_aload_n 0 (n := 1) hX (dec_of D_X9_bestClaim (i := 0) rfl) rfl rfl rfl ?_
  refine s_iload_n 1 (n := 2) hX (dec_of D_X9_bestClaim (i := 1) rfl) rfl rfl rfl ?_
  refine s_callVI (c := 9) (n := 5) hX cls9 (vk130 (by omega)) lk_RX9_148 (dec_of D_X9_bestClaim (i := 2) rfl) rfl (by decide) (c_X9_isPlayer (l := _) hG _ _) rfl rfl (Nat.le_of_ble_eq_true rfl) (fun q1 => ?_)
  refine s_if_eq (tgt := 16) (n := 8) hX (dec_of D_X9_bestClaim (i := 3) rfl) rfl rfl ?_ ?_
  · refine s_iconst (v := (-1)) (n := 17) hX (dec_of D_X9_bestClaim (i := 8) rfl) rfl (by decide) ?_
    exact s_iret hX hR (dec_of D_X9_bestClaim (i := 9) rfl) rfl
  · refine s_iload_n 2 (n := 9) hX (dec_of D_X9_bestClaim (i := 4) rfl) rfl rfl rfl ?_
    refine s_iconst (v := 2) (n := 10) hX (dec_of D_X9_bestClaim (i := 5) rfl) rfl (by decide) ?_
    refine s_callSI (n := 13) hX lk_RX9_207 (dec_of D_X9_bestClaim (i := 6) rfl) rfl (by decide) (c_X9_isChoice (l := _) hG _ _ _) rfl rfl (Nat.le_of_ble_eq_true rfl) (fun q2 => ?_)
    refine s_if_ne (tgt := 18) (n := 16) hX (dec_of D_X9_bestClaim (i := 7) rfl) rfl rfl ?_ ?_
    · refine s_bipush (v := (-2)) (n := 20) hX (dec_of D_X9_bestClaim (i := 10) rfl) rfl (by decide) ?_
      refine s_istore_n (lv' := [(0, _), (1, _), (2, _), (3, _)]) [1, 2, 3, 0] (n := 21) hX (dec_of D_X9_bestClaim (i := 11) rfl) rfl rfl (by decide) rfl ?_
      refine s_bipush (v := (-2)) (n := 23) hX (dec_of D_X9_bestClaim (i := 12) rfl) rfl (by decide) ?_
      refine s_istore (lv' := [(0, _), (1, _), (2, _), (3, _), (4, _)]) [1, 2, 3, 4, 0] (n := 25) hX (dec_of D_X9_bestClaim (i := 13) rfl) rfl (by decide) rfl ?_
      refine s_iconst (v := 0) (n := 26) hX (dec_of D_X9_bestClaim (i := 14) rfl) rfl (by decide) ?_
      refine s_istore (lv' := [(0, _), (1, _), (2, _), (3, _), (4, _), (5, _)]) [1, 2, 3, 4, 5, 0] (n := 28) hX (dec_of D_X9_bestClaim (i := 15) rfl) rfl (by decide) rfl ?_
      refine s_sub [0, 1, 2, 3, 4, 5] rfl (s_lp (pc := 28) (Sf := fun (z3 : Int32 × Int32 × Int32) => σ) (lvf := fun (z3 : Int32 × Int32 × Int32) => [(0, .ref (ga G 130 0)), (1, .int a1), (2, .int a2), (3, .int z3.1), (4, .int z3.2.1), (5, .int z3.2.2)]) (fun rec4 hre5 z3 => ?_) FU ((-2), (-2), 0))
      refine s_iload 5 (n := 30) hX (dec_of D_X9_bestClaim (i := 16) rfl) rfl rfl ?_
      refine s_aload_n 0 (n := 31) hX (dec_of D_X9_bestClaim (i := 17) rfl) rfl rfl rfl ?_
      refine s_getQ (c := 9) (p := 7) (j := 0) (n := 34) hX cls9 (vk130 (by omega)) (dec_of D_X9_bestClaim (i := 18) rfl) rfl rfl wd_448 (fun rr6 hrr6 => ?_)
      refine s_getI (c := 5) (p := 11) (id := 531) (n := 37) hX cls5 (vk126 (by omega)) (dec_of D_X9_bestClaim (i := 19) rfl) rfl rfl wd_402 ?_
      refine s_icmp_ge (tgt := 84) (n := 40) hX (dec_of D_X9_bestClaim (i := 20) rfl) rfl rfl ?_ ?_
      · refine s_iload_n 2 (n := 85) hX (dec_of D_X9_bestClaim (i := 43) rfl) rfl rfl rfl ?_
        refine s_if_ne (tgt := 92) (n := 88) hX (dec_of D_X9_bestClaim (i := 44) rfl) rfl rfl ?_ ?_
        · refine s_iload 4 (n := 94) hX (dec_of D_X9_bestClaim (i := 47) rfl) rfl rfl ?_
          exact s_iret hX hR (dec_of D_X9_bestClaim (i := 48) rfl) rfl
        · refine s_iload_n 3 (n := 89) hX (dec_of D_X9_bestClaim (i := 45) rfl) rfl rfl rfl ?_
          refine s_goto (n := 94) hX (dec_of D_X9_bestClaim (i := 46) rfl) rfl ?_
          exact s_iret hX hR (dec_of D_X9_bestClaim (i := 48) rfl) rfl
      · refine s_aload_n 0 (n := 41) hX (dec_of D_X9_bestClaim (i := 21) rfl) rfl rfl rfl ?_
        refine s_iload_n 1 (n := 42) hX (dec_of D_X9_bestClaim (i := 22) rfl) rfl rfl rfl ?_
        refine s_iload 5 (n := 44) hX (dec_of D_X9_bestClaim (i := 23) rfl) rfl rfl ?_
        refine s_callVI (c := 9) (n := 47) hX cls9 (vk130 (by omega)) lk_RX9_306 (dec_of D_X9_bestClaim (i := 24) rfl) rfl (by decide) (c_X9_claimBar (l := _) hG _ _ _) rfl rfl (Nat.le_of_ble_eq_true rfl) (fun q7 => ?_)
        refine s_if_ne (tgt := 78) (n := 50) hX (dec_of D_X9_bestClaim (i := 25) rfl) rfl rfl ?_ ?_
        · refine s_iinc (v := z3.2.2 + 1) (lv' := [(0, _), (1, _), (2, _), (3, _), (4, _), (5, _)]) 5 [1, 2, 3, 4, 5, 0] (n := 81) hX (dec_of D_X9_bestClaim (i := 41) rfl) rfl rfl rfl (by decide) rfl ?_
          refine s_goto (n := 28) hX (dec_of D_X9_bestClaim (i := 42) rfl) rfl ?_
          exact s_sub [0, 1, 2, 3, 4, 5] rfl (hre5 (z3.1, z3.2.1, (z3.2.2 + 1)))
        · refine s_iload_n 3 (n := 51) hX (dec_of D_X9_bestClaim (i := 26) rfl) rfl rfl rfl ?_
          refine s_lk (pcj := 66) (Sf := fun (j8 : Unit) => σ) (lvf := fun (j8 : Unit) => [(0, .ref (ga G 130 0)), (1, .int a1), (2, .int a2), (5, .int z3.2.2)]) (stf := fun (j8 : Unit) => []) (fun j8 => ?_) (fun kk9 hkk10 => ?_)
          · refine s_iload 3 (n := 68) hX (dec_of D_X9_bestClaim (i := 34) rfl) rfl rfl ?_
            refine s_istore_n (lv' := [(0, _), (1, _), (2, _), (3, _), (5, _)]) [1, 2, 3, 0, 4] (n := 69) hX (dec_of D_X9_bestClaim (i := 35) rfl) rfl rfl (by decide) rfl ?_
            refine s_aload_n 0 (n := 70) hX (dec_of D_X9_bestClaim (i := 36) rfl) rfl rfl rfl ?_
            refine s_iload_n 1 (n := 71) hX (dec_of D_X9_bestClaim (i := 37) rfl) rfl rfl rfl ?_
            refine s_iload 4 (n := 73) hX (dec_of D_X9_bestClaim (i := 38) rfl) rfl rfl ?_
            refine s_callVI (c := 9) (n := 76) hX cls9 (vk130 (by omega)) lk_RX9_392 (dec_of D_X9_bestClaim (i := 39) rfl) rfl (by decide) (c_X9_claimWorth (l := _) hG _ _ _) rfl rfl (Nat.le_of_ble_eq_true rfl) (fun q11 => ?_)
            refine s_istore (lv' := [(0, _), (1, _), (2, _), (3, _), (4, _), (5, _)]) [1, 2, 3, 4, 0, 5] (n := 78) hX (dec_of D_X9_bestClaim (i := 40) rfl) rfl (by decide) rfl ?_
            refine s_iinc (v := z3.2.2 + 1) (lv' := [(0, _), (1, _), (2, _), (3, _), (4, _), (5, _)]) 5 [1, 2, 3, 4, 5, 0] (n := 81) hX (dec_of D_X9_bestClaim (i := 41) rfl) rfl rfl rfl (by decide) rfl ?_
            refine s_goto (n := 28) hX (dec_of D_X9_bestClaim (i := 42) rfl) rfl ?_
            exact s_sub [0, 1, 2, 3, 4, 5] rfl (hre5 (z3.2.2, q11, (z3.2.2 + 1)))
          · refine s_if_lt (tgt := 66) (n := 54) hX (dec_of D_X9_bestClaim (i := 27) rfl) rfl rfl ?_ ?_
            · exact s_sub [0, 1, 2, 5] rfl (hkk10 ())
            · refine s_aload_n 0 (n := 55) hX (dec_of D_X9_bestClaim (i := 28) rfl) rfl rfl rfl ?_
              refine s_iload_n 1 (n := 56) hX (dec_of D_X9_bestClaim (i := 29) rfl) rfl rfl rfl ?_
              refine s_iload 5 (n := 58) hX (dec_of D_X9_bestClaim (i := 30) rfl) rfl rfl ?_
              refine s_callVI (c := 9) (n := 61) hX cls9 (vk130 (by omega)) lk_RX9_392 (dec_of D_X9_bestClaim (i := 31) rfl) rfl (by decide) (c_X9_claimWorth (l := _) hG _ _ _) rfl rfl (Nat.le_of_ble_eq_true rfl) (fun q12 => ?_)
              refine s_iload 4 (n := 63) hX (dec_of D_X9_bestClaim (i := 32) rfl) rfl rfl ?_
              refine s_icmp_le (tgt := 78) (n := 66) hX (dec_of D_X9_bestClaim (i := 33) rfl) rfl rfl ?_ ?_
              · refine s_iinc (v := z3.2.2 + 1) (lv' := [(0, _), (1, _), (2, _), (3, _), (4, _), (5, _)]) 5 [1, 2, 3, 4, 5, 0] (n := 81) hX (dec_of D_X9_bestClaim (i := 41) rfl) rfl rfl rfl (by decide) rfl ?_
                refine s_goto (n := 28) hX (dec_of D_X9_bestClaim (i := 42) rfl) rfl ?_
                exact s_sub [0, 1, 2, 3, 4, 5] rfl (hre5 (z3.1, z3.2.1, (z3.2.2 + 1)))
              · exact s_sub [0, 1, 2, 5] rfl (hkk10 ())
    · refine s_iconst (v := (-1)) (n := 17) hX (dec_of D_X9_bestClaim (i := 8) rfl) rfl (by decide) ?_
      exact s_iret hX hR (dec_of D_X9_bestClaim (i := 9) rfl) rfl
def T_X9_claimant : List (Nat × Instr × Nat) := [(0, .aload_n 0, 1), (1, .iload_n 1, 1), (2, .invokevirtual 174, 3), (5, .ifCond .eq 11, 3), (8, .iload_n 2, 1), (9, .iconst 2, 1), (10, .invokestatic 207, 3), (13, .ifCond .ne 5, 3), (16, .iconst (-1), 1), (17, .ireturn, 1), (18, .bipush (-2), 2), (20, .istore_n 3, 1), (21, .bipush (-2), 2), (23, .istore 4, 2), (25, .iconst 0, 1), (26, .istore 5, 2), (28, .iload 5, 2), (30, .aload_n 0, 1), (31, .getfield 61, 3), (34, .getfield 226, 3), (37, .if_icmp .ge 47, 3), (40, .aload_n 0, 1), (41, .iload 5, 2), (43, .iload_n 1, 1), (44, .invokevirtual 306, 3), (47, .ifCond .ne 31, 3), (50, .iload_n 3, 1), (51, .ifCond .lt 15, 3), (54, .aload_n 0, 1), (55, .iload 5, 2), (57, .iload_n 1, 1), (58, .invokevirtual 392, 3), (61, .iload 4, 2), (63, .if_icmp .le 15, 3), (66, .iload 5, 2), (68, .istore_n 3, 1), (69, .aload_n 0, 1), (70, .iload 5, 2), (72, .iload_n 1, 1), (73, .invokevirtual 392, 3), (76, .istore 4, 2), (78, .iinc 5 1, 3), (81, .goto (-53), 3), (84, .iload_n 2, 1), (85, .ifCond .ne 7, 3), (88, .iload_n 3, 1), (89, .goto 5, 3), (92, .iload 4, 2), (94, .ireturn, 1)]
theorem D_X9_claimant : dchk cX9_claimant T_X9_claimant = true := by decide +kernel
def Rp_claimant (σ : ST) (a1 : Int32) (a2 : Int32) : Option Int32 :=
  bd_ (Rp_isSession (σ) a1) (fun q1 => (if q1 = 0 then some (-1) else bd_ (Rp_isChoice (σ) a2 2) (fun q2 => (if q2 = 0 then some (-1) else lp_ (fun rec4 (z3 : Int32 × Int32 × Int32) => bd_ (ldQ σ 0) (fun rr6 => (if (gF σ 530 rr6) ≤ z3.2.2 then (if a2 = 0 then some z3.1 else some z3.2.1) else bd_ (Rp_claimBar (σ) z3.2.2 a1) (fun q7 => (if q7 = 0 then lk_ (fun kk9 => (if z3.1 < 0 then kk9 () else bd_ (Rp_claimWorth (σ) z3.2.2 a1) (fun q12 => (if q12 ≤ z3.2.1 then rec4 (z3.1, z3.2.1, (z3.2.2 + 1)) else kk9 ())))) (fun (j8 : Unit) => bd_ (Rp_claimWorth (σ) z3.2.2 a1) (fun q11 => rec4 (z3.2.2, q11, (z3.2.2 + 1)))) else rec4 (z3.1, z3.2.1, (z3.2.2 + 1))))))) FU ((-2), (-2), 0)))))
set_option maxHeartbeats 4000000 in
set_option maxRecDepth 100000 in
theorem c_X9_claimant {G : GW} (hG : Good G) {l : Launch} (σ : ST) (a1 : Int32) (a2 : Int32) : Ctr G l yX9_claimant cX9_claimant 6 (some .int) 4 [.ref (ga G 130 0), .int a1, .int a2] σ (oI σ) (Rp_claimant σ a1 a2) := by
  refine ctr_of hG (by decide) (Nat.le_of_ble_eq_true rfl) ?_
  intro X hXl hR hX
  have hX : Ok G X cX9_claimant 6 RX9 4 := hX
  unfold Rp_claimant
  show Sim G X 6 (MQX G X (oI σ)) σ 0 [(0, .ref (ga G 130 0)), (1, .int a1), (2, .int a2)] [] _
  refine s_aload_n 0 (n := 1) hX (dec_of D_X9_claimant (i := 0) rfl) rfl rfl rfl ?_
  refine s_iload_n 1 (n := 2) hX (dec_of D_X9_claimant (i := 1) rfl) rfl rfl rfl ?_
  refine s_callVI (c := 9) (n := 5) hX cls9 (vk130 (by omega)) lk_RX9_174 (dec_of D_X9_claimant (i := 2) rfl) rfl (by decide) (c_X9_isSession (l := _) hG _ _) rfl rfl (Nat.le_of_ble_eq_true rfl) (fun q1 => ?_)
  refine s_if_eq (tgt := 16) (n := 8) hX (dec_of D_X9_claimant (i := 3) rfl) rfl rfl ?_ ?_
  · refine s_iconst (v := (-1)) (n := 17) hX (dec_of D_X9_claimant (i := 8) rfl) rfl (by decide) ?_
    exact s_iret hX hR (dec_of D_X9_claimant (i := 9) rfl) rfl
  · refine s_iload_n 2 (n := 9) hX (dec_of D_X9_claimant (i := 4) rfl) rfl rfl rfl ?_
    refine s_iconst (v := 2) (n := 10) hX (dec_of D_X9_claimant (i := 5) rfl) rfl (by decide) ?_
    refine s_callSI (n := 13) hX lk_RX9_207 (dec_of D_X9_claimant (i := 6) rfl) rfl (by decide) (c_X9_isChoice (l := _) hG _ _ _) rfl rfl (Nat.le_of_ble_eq_true rfl) (fun q2 => ?_)
    refine s_if_ne (tgt := 18) (n := 16) hX (dec_of D_X9_claimant (i := 7) rfl) rfl rfl ?_ ?_
    · refine s_bipush (v := (-2)) (n := 20) hX (dec_of D_X9_claimant (i := 10) rfl) rfl (by decide) ?_
      refine s_istore_n (lv' := [(0, _), (1, _), (2, _), (3, _)]) [1, 2, 3, 0] (n := 21) hX (dec_of D_X9_claimant (i := 11) rfl) rfl rfl (by decide) rfl ?_
      refine s_bipush (v := (-2)) (n := 23) hX (dec_of D_X9_claimant (i := 12) rfl) rfl (by decide) ?_
      refine s_istore (lv' := [(0, _), (1, _), (2, _), (3, _), (4, _)]) [1, 2, 3, 4, 0] (n := 25) hX (dec_of D_X9_claimant (i := 13) rfl) rfl (by decide) rfl ?_
      refine s_iconst (v := 0) (n := 26) hX (dec_of D_X9_claimant (i := 14) rfl) rfl (by decide) ?_
      refine s_istore (lv' := [(0, _), (1, _), (2, _), (3, _), (4, _), (5, _)]) [1, 2, 3, 4, 5, 0] (n := 28) hX (dec_of D_X9_claimant (i := 15) rfl) rfl (by decide) rfl ?_
      refine s_sub [0, 1, 2, 3, 4, 5] rfl (s_lp (pc := 28) (Sf := fun (z3 : Int32 × Int32 × Int32) => σ) (lvf := fun (z3 : Int32 × Int32 × Int32) => [(0, .ref (ga G 130 0)), (1, .int a1), (2, .int a2), (3, .int z3.1), (4, .int z3.2.1), (5, .int z3.2.2)]) (fun rec4 hre5 z3 => ?_) FU ((-2), (-2), 0))
      refine s_iload 5 (n := 30) hX (dec_of D_X9_claimant (i := 16) rfl) rfl rfl ?_
      refine s_aload_n 0 (n := 31) hX (dec_of D_X9_claimant (i := 17) rfl) rfl rfl rfl ?_
      refine s_getQ (c := 9) (p := 7) (j := 0) (n := 34) hX cls9 (vk130 (by omega)) (dec_of D_X9_claimant (i := 18) rfl) rfl rfl wd_448 (fun rr6 hrr6 => ?_)
      refine s_getI (c := 5) (p := 10) (id := 530) (n := 37) hX cls5 (vk126 (by omega)) (dec_of D_X9_claimant (i := 19) rfl) rfl rfl wd_397 ?_
      refine s_icmp_ge (tgt := 84) (n := 40) hX (dec_of D_X9_claimant (i := 20) rfl) rfl rfl ?_ ?_
      · refine s_iload_n 2 (n := 85) hX (dec_of D_X9_claimant (i := 43) rfl) rfl rfl rfl ?_
        refine s_if_ne (tgt := 92) (n := 88) hX (dec_of D_X9_claimant (i := 44) rfl) rfl rfl ?_ ?_
        · refine s_iload 4 (n := 94) hX (dec_of D_X9_claimant (i := 47) rfl) rfl rfl ?_
          exact s_iret hX hR (dec_of D_X9_claimant (i := 48) rfl) rfl
        · refine s_iload_n 3 (n := 89) hX (dec_of D_X9_claimant (i := 45) rfl) rfl rfl rfl ?_
          refine s_goto (n := 94) hX (dec_of D_X9_claimant (i := 46) rfl) rfl ?_
          exact s_iret hX hR (dec_of D_X9_claimant (i := 48) rfl) rfl
      · refine s_aload_n 0 (n := 41) hX (dec_of D_X9_claimant (i := 21) rfl) rfl rfl rfl ?_
        refine s_iload 5 (n := 43) hX (dec_of D_X9_claimant (i := 22) rfl) rfl rfl ?_
        refine s_iload_n 1 (n := 44) hX (dec_of D_X9_claimant (i := 23) rfl) rfl rfl rfl ?_
        refine s_callVI (c := 9) (n := 47) hX cls9 (vk130 (by omega)) lk_RX9_306 (dec_of D_X9_claimant (i := 24) rfl) rfl (by decide) (c_X9_claimBar (l := _) hG _ _ _) rfl rfl (Nat.le_of_ble_eq_true rfl) (fun q7 => ?_)
        refine s_if_ne (tgt := 78) (n := 50) hX (dec_of D_X9_claimant (i := 25) rfl) rfl rfl ?_ ?_
        · refine s_iinc (v := z3.2.2 + 1) (lv' := [(0, _), (1, _), (2, _), (3, _), (4, _), (5, _)]) 5 [1, 2, 3, 4, 5, 0] (n := 81) hX (dec_of D_X9_claimant (i := 41) rfl) rfl rfl rfl (by decide) rfl ?_
          refine s_goto (n := 28) hX (dec_of D_X9_claimant (i := 42) rfl) rfl ?_
          exact s_sub [0, 1, 2, 3, 4, 5] rfl (hre5 (z3.1, z3.2.1, (z3.2.2 + 1)))
        · refine s_iload_n 3 (n := 51) hX (dec_of D_X9_claimant (i := 26) rfl) rfl rfl rfl ?_
          refine s_lk (pcj := 66) (Sf := fun (j8 : Unit) => σ) (lvf := fun (j8 : Unit) => [(0, .ref (ga G 130 0)), (1, .int a1), (2, .int a2), (5, .int z3.2.2)]) (stf := fun (j8 : Unit) => []) (fun j8 => ?_) (fun kk9 hkk10 => ?_)
          · refine s_iload 3 (n := 68) hX (dec_of D_X9_claimant (i := 34) rfl) rfl rfl ?_
            refine s_istore_n (lv' := [(0, _), (1, _), (2, _), (3, _), (5, _)]) [1, 2, 3, 0, 4] (n := 69) hX (dec_of D_X9_claimant (i := 35) rfl) rfl rfl (by decide) rfl ?_
            refine s_aload_n 0 (n := 70) hX (dec_of D_X9_claimant (i := 36) rfl) rfl rfl rfl ?_
            refine s_iload 4 (n := 72) hX (dec_of D_X9_claimant (i := 37) rfl) rfl rfl ?_
            refine s_iload_n 1 (n := 73) hX (dec_of D_X9_claimant (i := 38) rfl) rfl rfl rfl ?_
            refine s_callVI (c := 9) (n := 76) hX cls9 (vk130 (by omega)) lk_RX9_392 (dec_of D_X9_claimant (i := 39) rfl) rfl (by decide) (c_X9_claimWorth (l := _) hG _ _ _) rfl rfl (Nat.le_of_ble_eq_true rfl) (fun q11 => ?_)
            refine s_istore (lv' := [(0, _), (1, _), (2, _), (3, _), (4, _), (5, _)]) [1, 2, 3, 4, 0, 5] (n := 78) hX (dec_of D_X9_claimant (i := 40) rfl) rfl (by decide) rfl ?_
            refine s_iinc (v := z3.2.2 + 1) (lv' := [(0, _), (1, _), (2, _), (3, _), (4, _), (5, _)]) 5 [1, 2, 3, 4, 5, 0] (n := 81) hX (dec_of D_X9_claimant (i := 41) rfl) rfl rfl rfl (by decide) rfl ?_
            refine s_goto (n := 28) hX (dec_of D_X9_claimant (i := 42) rfl) rfl ?_
            exact s_sub [0, 1, 2, 3, 4, 5] rfl (hre5 (z3.2.2, q11, (z3.2.2 + 1)))
          · refine s_if_lt (tgt := 66) (n := 54) hX (dec_of D_X9_claimant (i := 27) rfl) rfl rfl ?_ ?_
            · exact s_sub [0, 1, 2, 5] rfl (hkk10 ())
            · refine s_aload_n 0 (n := 55) hX (dec_of D_X9_claimant (i := 28) rfl) rfl rfl rfl ?_
              refine s_iload 5 (n := 57) hX (dec_of D_X9_claimant (i := 29) rfl) rfl rfl ?_
              refine s_iload_n 1 (n := 58) hX (dec_of D_X9_claimant (i := 30) rfl) rfl rfl rfl ?_
              refine s_callVI (c := 9) (n := 61) hX cls9 (vk130 (by omega)) lk_RX9_392 (dec_of D_X9_claimant (i := 31) rfl) rfl (by decide) (c_X9_claimWorth (l := _) hG _ _ _) rfl rfl (Nat.le_of_ble_eq_true rfl) (fun q12 => ?_)
              refine s_iload 4 (n := 63) hX (dec_of D_X9_claimant (i := 32) rfl) rfl rfl ?_
              refine s_icmp_le (tgt := 78) (n := 66) hX (dec_of D_X9_claimant (i := 33) rfl) rfl rfl ?_ ?_
              · refine s_iinc (v := z3.2.2 + 1) (lv' := [(0, _), (1, _), (2, _), (3, _), (4, _), (5, _)]) 5 [1, 2, 3, 4, 5, 0] (n := 81) hX (dec_of D_X9_claimant (i := 41) rfl) rfl rfl rfl (by decide) rfl ?_
                refine s_goto (n := 28) hX (dec_of D_X9_claimant (i := 42) rfl) rfl ?_
                exact s_sub [0, 1, 2, 3, 4, 5] rfl (hre5 (z3.1, z3.2.1, (z3.2.2 + 1)))
              · exact s_sub [0, 1, 2, 5] rfl (hkk10 ())
    · refine s_iconst (v := (-1)) (n := 17) hX (dec_of D_X9_claimant (i := 8) rfl) rfl (by decide) ?_
      exact s_iret hX hR (dec_of D_X9_claimant (i := 9) rfl) rfl
def T_X9_wouldPart : List (Nat × Instr × Nat) := [(0, .aload_n 0, 1), (1, .iload_n 2, 1), (2, .invokevirtual 148, 3), (5, .ifCond .ne 5, 3), (8, .iconst (-1), 1), (9, .ireturn, 1), (10, .aload_n 0, 1), (11, .iload_n 1, 1), (12, .invokevirtual 317, 3), (15, .istore_n 3, 1), (16, .iload_n 3, 1), (17, .ifCond .eq 5, 3), (20, .iload_n 3, 1), (21, .ireturn, 1), (22, .aload_n 0, 1), (23, .getfield 54, 3), (26, .aload_n 0, 1), (27, .getfield 61, 3), (30, .aload_n 0, 1), (31, .getfield 19, 3), (34, .iload_n 1, 1), (35, .invokevirtual 395, 3), (38, .aload_n 0, 1), (39, .getfield 54, 3), (42, .getfield 399, 3), (45, .iload_n 2, 1), (46, .iaload, 1), (47, .ireturn, 1)]
theorem D_X9_wouldPart : dchk cX9_wouldPart T_X9_wouldPart = true := by decide +kernel
def Rp_wouldPart (σ : ST) (a1 : Int32) (a2 : Int32) : Option (Int32 × ST) :=
  bd_ (Rp_isPlayer (σ) a2) (fun q1 => (if q1 = 0 then some ((-1), σ) else bd_ (Rp_partBar (σ) a1) (fun q2 => (if q2 = 0 then bd_ (ldQ σ 0) (fun rr3 => bd_ (Bs_reckon (σ) rr3 0 a1) (fun q4 => bd_ (ldI q4 8 0 a2) (fun v5 => some (v5, q4)))) else some (q2, σ)))))
set_option maxHeartbeats 4000000 in
set_option maxRecDepth 100000 in
theorem c_X9_wouldPart {G : GW} (hG : Good G) {l : Launch} (σ : ST) (a1 : Int32) (a2 : Int32) : Ctr G l yX9_wouldPart cX9_wouldPart 4 (some .int) 2 [.ref (ga G 130 0), .int a1, .int a2] σ oP (Rp_wouldPart σ a1 a2) := by
  refine ctr_of hG (by decide) (Nat.le_of_ble_eq_true rfl) ?_
  intro X hXl hR hX
  have hX : Ok G X cX9_wouldPart 4 RX9 2 := hX
  unfold Rp_wouldPart
  show Sim G X 4 (MQX G X oP) σ 0 [(0, .ref (ga G 130 0)), (1, .int a1), (2, .int a2)] [] _
  refine s_aload_n 0 (n := 1) hX (dec_of D_X9_wouldPart (i := 0) rfl) rfl rfl rfl ?_
  refine s_iload_n 2 (n := 2) hX (dec_of D_X9_wouldPart (i := 1) rfl) rfl rfl rfl ?_
  refine s_callVI (c := 9) (n := 5) hX cls9 (vk130 (by omega)) lk_RX9_148 (dec_of D_X9_wouldPart (i := 2) rfl) rfl (by decide) (c_X9_isPlayer (l := _) hG _ _) rfl rfl (Nat.le_of_ble_eq_true rfl) (fun q1 => ?_)
  refine s_if_ne (tgt := 10) (n := 8) hX (dec_of D_X9_wouldPart (i := 3) rfl) rfl rfl ?_ ?_
  · refine s_aload_n 0 (n := 11) hX (dec_of D_X9_wouldPart (i := 6) rfl) rfl rfl rfl ?_
    refine s_iload_n 1 (n := 12) hX (dec_of D_X9_wouldPart (i := 7) rfl) rfl rfl rfl ?_
    refine s_callVI (c := 9) (n := 15) hX cls9 (vk130 (by omega)) lk_RX9_317 (dec_of D_X9_wouldPart (i := 8) rfl) rfl (by decide) (c_X9_partBar (l := _) hG _ _) rfl rfl (Nat.le_of_ble_eq_true rfl) (fun q2 => ?_)
    refine s_istore_n (lv' := [(0, _), (1, _), (2, _), (3, _)]) [1, 2, 3, 0] (n := 16) hX (dec_of D_X9_wouldPart (i := 9) rfl) rfl rfl (by decide) rfl ?_
    refine s_iload_n 3 (n := 17) hX (dec_of D_X9_wouldPart (i := 10) rfl) rfl rfl rfl ?_
    refine s_if_eq (tgt := 22) (n := 20) hX (dec_of D_X9_wouldPart (i := 11) rfl) rfl rfl ?_ ?_
    · refine s_aload_n 0 (n := 23) hX (dec_of D_X9_wouldPart (i := 14) rfl) rfl rfl rfl ?_
      refine s_getC (c := 9) (p := 6) (n := 26) 122 0 hX cls9 (vk130 (by omega)) (dec_of D_X9_wouldPart (i := 15) rfl) rfl rfl (by decide) wd_447 ?_
      refine s_aload_n 0 (n := 27) hX (dec_of D_X9_wouldPart (i := 16) rfl) rfl rfl rfl ?_
      refine s_getQ (c := 9) (p := 7) (j := 0) (n := 30) hX cls9 (vk130 (by omega)) (dec_of D_X9_wouldPart (i := 17) rfl) rfl rfl wd_448 (fun rr3 hrr3 => ?_)
      refine s_aload_n 0 (n := 31) hX (dec_of D_X9_wouldPart (i := 18) rfl) rfl rfl rfl ?_
      refine s_getC (c := 9) (p := 1) (n := 34) 121 0 hX cls9 (vk130 (by omega)) (dec_of D_X9_wouldPart (i := 19) rfl) rfl rfl (by decide) wd_442 ?_
      refine s_iload_n 1 (n := 35) hX (dec_of D_X9_wouldPart (i := 20) rfl) rfl rfl rfl ?_
      refine s_callVV (c := 1) (n := 38) hX cls1 (vk122 (by omega)) lk_RX9_395 (dec_of D_X9_wouldPart (i := 21) rfl) rfl (by decide) (c_X1_reckon (l := _) hG _ _ (by omega) _ (by omega) _) rfl rfl (Nat.le_of_ble_eq_true rfl) (fun q4 => ?_)
      refine s_aload_n 0 (n := 39) hX (dec_of D_X9_wouldPart (i := 22) rfl) rfl rfl rfl ?_
      refine s_getC (c := 9) (p := 6) (n := 42) 122 0 hX cls9 (vk130 (by omega)) (dec_of D_X9_wouldPart (i := 23) rfl) rfl rfl (by decide) wd_447 ?_
      refine s_getR (c := 1) (p := 0) (k' := 8) (n := 45) hX cls1 (vk122 (by omega)) (dec_of D_X9_wouldPart (i := 24) rfl) rfl rfl wd_340 ?_
      refine s_iload_n 2 (n := 46) hX (dec_of D_X9_wouldPart (i := 25) rfl) rfl rfl rfl ?_
      refine s_iald (n := 47) hX (vk8 (by omega)) (by decide) (dec_of D_X9_wouldPart (i := 26) rfl) rfl (fun v5 => ?_)
      exact s_iret hX hR (dec_of D_X9_wouldPart (i := 27) rfl) rfl
    · refine s_iload_n 3 (n := 21) hX (dec_of D_X9_wouldPart (i := 12) rfl) rfl rfl rfl ?_
      exact s_iret hX hR (dec_of D_X9_wouldPart (i := 13) rfl) rfl
  · refine s_iconst (v := (-1)) (n := 9) hX (dec_of D_X9_wouldPart (i := 4) rfl) rfl (by decide) ?_
    exact s_iret hX hR (dec_of D_X9_wouldPart (i := 5) rfl) rfl
theorem lk_RX9_402 : LkV RX9 402 RX3 yX3_paidToOne cX3_paidToOne 4 (some .int) 1 := ⟨wd_1154, wd_1155, wd_1156, wd_89, wd_1157, by decide +kernel, by decide⟩
def T_X9_gain : List (Nat × Instr × Nat) := [(0, .aload_n 0, 1), (1, .iload_n 1, 1), (2, .invokevirtual 148, 3), (5, .ifCond .eq 24, 3), (8, .aload_n 0, 1), (9, .iload_n 2, 1), (10, .iload_n 3, 1), (11, .iload 4, 2), (13, .invokevirtual 286, 3), (16, .ifCond .eq 13, 3), (19, .iload 5, 2), (21, .iload 6, 2), (23, .invokestatic 267, 3), (26, .ifCond .ne 7, 3), (29, .ldc_w 364, 3), (32, .ireturn, 1), (33, .aload_n 0, 1), (34, .getfield 40, 3), (37, .aload_n 0, 1), (38, .getfield 61, 3), (41, .aload_n 0, 1), (42, .getfield 19, 3), (45, .getfield 113, 3), (48, .iload_n 2, 1), (49, .iload_n 3, 1), (50, .iload 4, 2), (52, .invokevirtual 278, 3), (55, .aload_n 0, 1), (56, .getfield 40, 3), (59, .iload_n 1, 1), (60, .invokevirtual 402, 3), (63, .istore 7, 2), (65, .aload_n 0, 1), (66, .getfield 33, 3), (69, .aload_n 0, 1), (70, .getfield 19, 3), (73, .getfield 113, 3), (76, .invokevirtual 270, 3), (79, .aload_n 0, 1), (80, .getfield 33, 3), (83, .iload_n 2, 1), (84, .iload 5, 2), (86, .iload 6, 2), (88, .invokevirtual 274, 3), (91, .aload_n 0, 1), (92, .getfield 40, 3), (95, .aload_n 0, 1), (96, .getfield 61, 3), (99, .aload_n 0, 1), (100, .getfield 33, 3), (103, .iload_n 2, 1), (104, .iload_n 3, 1), (105, .iload 4, 2), (107, .invokevirtual 278, 3), (110, .aload_n 0, 1), (111, .getfield 40, 3), (114, .iload_n 1, 1), (115, .invokevirtual 402, 3), (118, .iload 7, 2), (120, .isub, 1), (121, .ireturn, 1)]
theorem D_X9_gain : dchk cX9_gain T_X9_gain = true := by decide +kernel
def Rp_gain (σ : ST) (a1 : Int32) (a2 : Int32) (a3 : Int32) (a4 : Int32) (a5 : Int32) (a6 : Int32) : Option (Int32 × ST) :=
  bd_ (Rp_isPlayer (σ) a1) (fun q1 => (if q1 = 0 then some ((-1000000000), σ) else bd_ (Rp_isPlay (σ) a2 a3 a4) (fun q2 => (if q2 = 0 then some ((-1000000000), σ) else bd_ (Rp_areTerms (σ) a5 a6) (fun q3 => (if q3 = 0 then some ((-1000000000), σ) else bd_ (ldQ σ 0) (fun rr4 => bd_ (Oc_think (σ) 0 rr4 0 a2 a3 a4) (fun q5 => bd_ (Oc_paidToOne q5 0 a1) (fun q6 => bd_ (Wo_copyFrom q5 13 0) (fun q7 => bd_ (Wo_setTerms q7 13 a2 a5 a6) (fun q8 => bd_ (ldQ q8 0) (fun rr9 => bd_ (Oc_think q8 0 rr9 13 a2 a3 a4) (fun q10 => bd_ (Oc_paidToOne q10 0 a1) (fun q11 => some ((q11 - q6), q10)))))))))))))))
set_option maxHeartbeats 4000000 in
set_option maxRecDepth 100000 in
theorem c_X9_gain {G : GW} (hG : Good G) {l : Launch} (σ : ST) (a1 : Int32) (a2 : Int32) (a3 : Int32) (a4 : Int32) (a5 : Int32) (a6 : Int32) : Ctr G l yX9_gain cX9_gain 8 (some .int) 4 [.ref (ga G 130 0), .int a1, .int a2, .int a3, .int a4, .int a5, .int a6] σ oP (Rp_gain σ a1 a2 a3 a4 a5 a6) := by
  refine ctr_of hG (by decide) (Nat.le_of_ble_eq_true rfl) ?_
  intro X hXl hR hX
  have hX : Ok G X cX9_gain 8 RX9 4 := hX
  unfold Rp_gain
  show Sim G X 8 (MQX G X oP) σ 0 [(0, .ref (ga G 130 0)), (1, .int a1), (2, .int a2), (3, .int a3), (4, .int a4), (5, .int a5), (6, .int a6)] [] _
  refine s_aload_n 0 (n := 1) hX (dec_of D_X9_gain (i := 0) rfl) rfl rfl rfl ?_
  refine s_iload_n 1 (n := 2) hX (dec_of D_X9_gain (i := 1) rfl) rfl rfl rfl ?_
  refine s_callVI (c := 9) (n := 5) hX cls9 (vk130 (by omega)) lk_RX9_148 (dec_of D_X9_gain (i := 2) rfl) rfl (by decide) (c_X9_isPlayer (l := _) hG _ _) rfl rfl (Nat.le_of_ble_eq_true rfl) (fun q1 => ?_)
  refine s_if_eq (tgt := 29) (n := 8) hX (dec_of D_X9_gain (i := 3) rfl) rfl rfl ?_ ?_
  · refine s_ldcw (v := (-1000000000)) (n := 32) hX (dec_of D_X9_gain (i := 14) rfl) rfl wd_1061 ?_
    exact s_iret hX hR (dec_of D_X9_gain (i := 15) rfl) rfl
  · refine s_aload_n 0 (n := 9) hX (dec_of D_X9_gain (i := 4) rfl) rfl rfl rfl ?_
    refine s_iload_n 2 (n := 10) hX (dec_of D_X9_gain (i := 5) rfl) rfl rfl rfl ?_
    refine s_iload_n 3 (n := 11) hX (dec_of D_X9_gain (i := 6) rfl) rfl rfl rfl ?_
    refine s_iload 4 (n := 13) hX (dec_of D_X9_gain (i := 7) rfl) rfl rfl ?_
    refine s_callVI (c := 9) (n := 16) hX cls9 (vk130 (by omega)) lk_RX9_286 (dec_of D_X9_gain (i := 8) rfl) rfl (by decide) (c_X9_isPlay (l := _) hG _ _ _ _) rfl rfl (Nat.le_of_ble_eq_true rfl) (fun q2 => ?_)
    refine s_if_eq (tgt := 29) (n := 19) hX (dec_of D_X9_gain (i := 9) rfl) rfl rfl ?_ ?_
    · refine s_ldcw (v := (-1000000000)) (n := 32) hX (dec_of D_X9_gain (i := 14) rfl) rfl wd_1061 ?_
      exact s_iret hX hR (dec_of D_X9_gain (i := 15) rfl) rfl
    · refine s_iload 5 (n := 21) hX (dec_of D_X9_gain (i := 10) rfl) rfl rfl ?_
      refine s_iload 6 (n := 23) hX (dec_of D_X9_gain (i := 11) rfl) rfl rfl ?_
      refine s_callSI (n := 26) hX lk_RX9_267 (dec_of D_X9_gain (i := 12) rfl) rfl (by decide) (c_X9_areTerms (l := _) hG _ _ _) rfl rfl (Nat.le_of_ble_eq_true rfl) (fun q3 => ?_)
      refine s_if_ne (tgt := 33) (n := 29) hX (dec_of D_X9_gain (i := 13) rfl) rfl rfl ?_ ?_
      · refine s_aload_n 0 (n := 34) hX (dec_of D_X9_gain (i := 16) rfl) rfl rfl rfl ?_
        refine s_getC (c := 9) (p := 4) (n := 37) 124 0 hX cls9 (vk130 (by omega)) (dec_of D_X9_gain (i := 17) rfl) rfl rfl (by decide) wd_445 ?_
        refine s_aload_n 0 (n := 38) hX (dec_of D_X9_gain (i := 18) rfl) rfl rfl rfl ?_
        refine s_getQ (c := 9) (p := 7) (j := 0) (n := 41) hX cls9 (vk130 (by omega)) (dec_of D_X9_gain (i := 19) rfl) rfl rfl wd_448 (fun rr4 hrr4 => ?_)
        refine s_aload_n 0 (n := 42) hX (dec_of D_X9_gain (i := 20) rfl) rfl rfl rfl ?_
        refine s_getC (c := 9) (p := 1) (n := 45) 121 0 hX cls9 (vk130 (by omega)) (dec_of D_X9_gain (i := 21) rfl) rfl rfl (by decide) wd_442 ?_
        refine s_getR (c := 0) (p := 0) (k' := 129) (n := 48) hX cls0 (vk121 (by omega)) (dec_of D_X9_gain (i := 22) rfl) rfl rfl wd_219 ?_
        refine s_iload_n 2 (n := 49) hX (dec_of D_X9_gain (i := 23) rfl) rfl rfl rfl ?_
        refine s_iload_n 3 (n := 50) hX (dec_of D_X9_gain (i := 24) rfl) rfl rfl rfl ?_
        refine s_iload 4 (n := 52) hX (dec_of D_X9_gain (i := 25) rfl) rfl rfl ?_
        refine s_callVV (c := 3) (n := 55) hX cls3 (vk124 (by omega)) lk_RX9_278 (dec_of D_X9_gain (i := 26) rfl) rfl (by decide) (c_X3_think (l := _) hG _ _ (by omega) _ (by omega) _ (by omega) _ _ _) rfl rfl (Nat.le_of_ble_eq_true rfl) (fun q5 => ?_)
        refine s_aload_n 0 (n := 56) hX (dec_of D_X9_gain (i := 27) rfl) rfl rfl rfl ?_
        refine s_getC (c := 9) (p := 4) (n := 59) 124 0 hX cls9 (vk130 (by omega)) (dec_of D_X9_gain (i := 28) rfl) rfl rfl (by decide) wd_445 ?_
        refine s_iload_n 1 (n := 60) hX (dec_of D_X9_gain (i := 29) rfl) rfl rfl rfl ?_
        refine s_callVI (c := 3) (n := 63) hX cls3 (vk124 (by omega)) lk_RX9_402 (dec_of D_X9_gain (i := 30) rfl) rfl (by decide) (c_X3_paidToOne (l := _) hG _ _ (by omega) _) rfl rfl (Nat.le_of_ble_eq_true rfl) (fun q6 => ?_)
        refine s_istore (lv' := [(0, _), (1, _), (2, _), (3, _), (4, _), (5, _), (6, _), (7, _)]) [1, 2, 3, 4, 5, 6, 7, 0] (n := 65) hX (dec_of D_X9_gain (i := 31) rfl) rfl (by decide) rfl ?_
        refine s_aload_n 0 (n := 66) hX (dec_of D_X9_gain (i := 32) rfl) rfl rfl rfl ?_
        refine s_getC (c := 9) (p := 3) (n := 69) 129 13 hX cls9 (vk130 (by omega)) (dec_of D_X9_gain (i := 33) rfl) rfl rfl (by decide) wd_444 ?_
        refine s_aload_n 0 (n := 70) hX (dec_of D_X9_gain (i := 34) rfl) rfl rfl rfl ?_
        refine s_getC (c := 9) (p := 1) (n := 73) 121 0 hX cls9 (vk130 (by omega)) (dec_of D_X9_gain (i := 35) rfl) rfl rfl (by decide) wd_442 ?_
        refine s_getR (c := 0) (p := 0) (k' := 129) (n := 76) hX cls0 (vk121 (by omega)) (dec_of D_X9_gain (i := 36) rfl) rfl rfl wd_219 ?_
        refine s_callVV (c := 8) (n := 79) hX cls8 (vk129 (by omega)) lk_RX9_270 (dec_of D_X9_gain (i := 37) rfl) rfl (by decide) (c_X8_copyFrom (l := _) hG _ _ (by omega) _ (by omega)) rfl rfl (Nat.le_of_ble_eq_true rfl) (fun q7 => ?_)
        refine s_aload_n 0 (n := 80) hX (dec_of D_X9_gain (i := 38) rfl) rfl rfl rfl ?_
        refine s_getC (c := 9) (p := 3) (n := 83) 129 13 hX cls9 (vk130 (by omega)) (dec_of D_X9_gain (i := 39) rfl) rfl rfl (by decide) wd_444 ?_
        refine s_iload_n 2 (n := 84) hX (dec_of D_X9_gain (i := 40) rfl) rfl rfl rfl ?_
        refine s_iload 5 (n := 86) hX (dec_of D_X9_gain (i := 41) rfl) rfl rfl ?_
        refine s_iload 6 (n := 88) hX (dec_of D_X9_gain (i := 42) rfl) rfl rfl ?_
        refine s_callVV (c := 8) (n := 91) hX cls8 (vk129 (by omega)) lk_RX9_274 (dec_of D_X9_gain (i := 43) rfl) rfl (by decide) (c_X8_setTerms (l := _) hG _ _ (by omega) _ _ _) rfl rfl (Nat.le_of_ble_eq_true rfl) (fun q8 => ?_)
        refine s_aload_n 0 (n := 92) hX (dec_of D_X9_gain (i := 44) rfl) rfl rfl rfl ?_
        refine s_getC (c := 9) (p := 4) (n := 95) 124 0 hX cls9 (vk130 (by omega)) (dec_of D_X9_gain (i := 45) rfl) rfl rfl (by decide) wd_445 ?_
        refine s_aload_n 0 (n := 96) hX (dec_of D_X9_gain (i := 46) rfl) rfl rfl rfl ?_
        refine s_getQ (c := 9) (p := 7) (j := 0) (n := 99) hX cls9 (vk130 (by omega)) (dec_of D_X9_gain (i := 47) rfl) rfl rfl wd_448 (fun rr9 hrr9 => ?_)
        refine s_aload_n 0 (n := 100) hX (dec_of D_X9_gain (i := 48) rfl) rfl rfl rfl ?_
        refine s_getC (c := 9) (p := 3) (n := 103) 129 13 hX cls9 (vk130 (by omega)) (dec_of D_X9_gain (i := 49) rfl) rfl rfl (by decide) wd_444 ?_
        refine s_iload_n 2 (n := 104) hX (dec_of D_X9_gain (i := 50) rfl) rfl rfl rfl ?_
        refine s_iload_n 3 (n := 105) hX (dec_of D_X9_gain (i := 51) rfl) rfl rfl rfl ?_
        refine s_iload 4 (n := 107) hX (dec_of D_X9_gain (i := 52) rfl) rfl rfl ?_
        refine s_callVV (c := 3) (n := 110) hX cls3 (vk124 (by omega)) lk_RX9_278 (dec_of D_X9_gain (i := 53) rfl) rfl (by decide) (c_X3_think (l := _) hG _ _ (by omega) _ (by omega) _ (by omega) _ _ _) rfl rfl (Nat.le_of_ble_eq_true rfl) (fun q10 => ?_)
        refine s_aload_n 0 (n := 111) hX (dec_of D_X9_gain (i := 54) rfl) rfl rfl rfl ?_
        refine s_getC (c := 9) (p := 4) (n := 114) 124 0 hX cls9 (vk130 (by omega)) (dec_of D_X9_gain (i := 55) rfl) rfl rfl (by decide) wd_445 ?_
        refine s_iload_n 1 (n := 115) hX (dec_of D_X9_gain (i := 56) rfl) rfl rfl rfl ?_
        refine s_callVI (c := 3) (n := 118) hX cls3 (vk124 (by omega)) lk_RX9_402 (dec_of D_X9_gain (i := 57) rfl) rfl (by decide) (c_X3_paidToOne (l := _) hG _ _ (by omega) _) rfl rfl (Nat.le_of_ble_eq_true rfl) (fun q11 => ?_)
        refine s_iload 7 (n := 120) hX (dec_of D_X9_gain (i := 58) rfl) rfl rfl ?_
        refine s_isub (n := 121) hX (dec_of D_X9_gain (i := 59) rfl) rfl ?_
        exact s_iret hX hR (dec_of D_X9_gain (i := 60) rfl) rfl
      · refine s_ldcw (v := (-1000000000)) (n := 32) hX (dec_of D_X9_gain (i := 14) rfl) rfl wd_1061 ?_
        exact s_iret hX hR (dec_of D_X9_gain (i := 15) rfl) rfl

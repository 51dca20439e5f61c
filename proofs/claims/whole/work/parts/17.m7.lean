def T_X10_wouldPlay : List (Nat × Instr × Nat) := [(0, .aload_n 0, 1), (1, .iconst 0, 1), (2, .putfield 86, 3), (5, .aload_n 0, 1), (6, .iload_n 1, 1), (7, .invokevirtual 257, 3), (10, .ifCond .eq 29, 3), (13, .aload_n 0, 1), (14, .iload_n 2, 1), (15, .invokevirtual 241, 3), (18, .ifCond .eq 21, 3), (21, .iload_n 3, 1), (22, .invokestatic 324, 3), (25, .ifCond .eq 14, 3), (28, .iload 4, 2), (30, .ifCond .lt 9, 3), (33, .iload 4, 2), (35, .iconst 2, 1), (36, .if_icmp .le 5, 3), (39, .iconst (-1), 1), (40, .ireturn, 1), (41, .iload_n 3, 1), (42, .aload_n 0, 1), (43, .getfield 13, 3), (46, .iload_n 1, 1), (47, .iaload, 1), (48, .imul, 1), (49, .istore 5, 2), (51, .aload_n 0, 1), (52, .iload_n 1, 1), (53, .iload 5, 2), (55, .invokevirtual 327, 3), (58, .ifCond .eq 8, 3), (61, .bipush (-2), 2), (63, .goto 13, 3), (66, .aload_n 0, 1), (67, .iload_n 1, 1), (68, .iload_n 2, 1), (69, .iload 5, 2), (71, .iload 4, 2), (73, .invokevirtual 333, 3), (76, .ireturn, 1)]
theorem D_X10_wouldPlay : dchk cX10_wouldPlay T_X10_wouldPlay = true := by decide +kernel
def Mo_wouldPlay (σ : ST) (a1 : Int32) (a2 : Int32) (a3 : Int32) (a4 : Int32) : Option (Int32 × ST) :=
  lt_ (setF σ 840 0 0) (fun s1 => bd_ (Mo_isLand s1 a1) (fun q2 => (if q2 = 0 then some ((-1), s1) else bd_ (Mo_isSession s1 a2) (fun q3 => (if q3 = 0 then some ((-1), s1) else bd_ (Mo_areCopies s1 a3) (fun q4 => (if q4 = 0 then some ((-1), s1) else (if a4 < 0 then some ((-1), s1) else (if a4 ≤ 2 then bd_ (ldI s1 29 0 a1) (fun v5 => lt_ ((a3 * v5)) (fun x6 => bd_ (Mo_isTooMuch s1 a1 x6) (fun q7 => (if q7 = 0 then bd_ (Mo_sumOf s1 a1 a2 x6 a4) (fun q8 => some (q8.1, q8.2)) else some ((-2), s1))))) else some ((-1), s1))))))))))
set_option maxHeartbeats 4000000 in
set_option maxRecDepth 100000 in
theorem c_X10_wouldPlay {G : GW} (hG : Good G) {l : Launch} (σ : ST) (a1 : Int32) (a2 : Int32) (a3 : Int32) (a4 : Int32) : Ctr G l yX10_wouldPlay cX10_wouldPlay 6 (some .int) 4 [.ref (ga G 131 0), .int a1, .int a2, .int a3, .int a4] σ oP (Mo_wouldPlay σ a1 a2 a3 a4) := by
  refine ctr_of hG (by decide) (Nat.le_of_ble_eq_true rfl) ?_
  intro X hXl hR hX
  have hX : Ok G X cX10_wouldPlay 6 RX10 4 := hX
  unfold Mo_wouldPlay
  show Sim G X 6 (MQX G X oP) σ 0 [(0, .ref (ga G 131 0)), (1, .int a1), (2, .int a2), (3, .int a3), (4, .int a4)] [] _
  refine s_aload_n 0 (n := 1) hX (dec_of D_X10_wouldPlay (i := 0) rfl) rfl rfl rfl ?_
  refine s_iconst (v := 0) (n := 2) hX (dec_of D_X10_wouldPlay (i := 1) rfl) rfl (by decide) ?_
  refine s_putI (c := 10) (p := 0) (n := 5) hX cls10 (vk131 (by omega)) (dec_of D_X10_wouldPlay (i := 2) rfl) rfl rfl (by decide) wd_1346 rfl rfl rfl (fun s1 => ?_)
  refine s_aload_n 0 (n := 6) hX (dec_of D_X10_wouldPlay (i := 3) rfl) rfl rfl rfl ?_
  refine s_iload_n 1 (n := 7) hX (dec_of D_X10_wouldPlay (i := 4) rfl) rfl rfl rfl ?_
  refine s_callVI (c := 10) (n := 10) hX cls10 (vk131 (by omega)) lk_RX10_257 (dec_of D_X10_wouldPlay (i := 5) rfl) rfl (by decide) (c_X10_isLand (l := _) hG _ _) rfl rfl (Nat.le_of_ble_eq_true rfl) (fun q2 => ?_)
  refine s_if_eq (tgt := 39) (n := 13) hX (dec_of D_X10_wouldPlay (i := 6) rfl) rfl rfl ?_ ?_
  · refine s_iconst (v := (-1)) (n := 40) hX (dec_of D_X10_wouldPlay (i := 19) rfl) rfl (by decide) ?_
    exact s_iret hX hR (dec_of D_X10_wouldPlay (i := 20) rfl) rfl
  · refine s_aload_n 0 (n := 14) hX (dec_of D_X10_wouldPlay (i := 7) rfl) rfl rfl rfl ?_
    refine s_iload_n 2 (n := 15) hX (dec_of D_X10_wouldPlay (i := 8) rfl) rfl rfl rfl ?_
    refine s_callVI (c := 10) (n := 18) hX cls10 (vk131 (by omega)) lk_RX10_241 (dec_of D_X10_wouldPlay (i := 9) rfl) rfl (by decide) (c_X10_isSession (l := _) hG _ _) rfl rfl (Nat.le_of_ble_eq_true rfl) (fun q3 => ?_)
    refine s_if_eq (tgt := 39) (n := 21) hX (dec_of D_X10_wouldPlay (i := 10) rfl) rfl rfl ?_ ?_
    · refine s_iconst (v := (-1)) (n := 40) hX (dec_of D_X10_wouldPlay (i := 19) rfl) rfl (by decide) ?_
      exact s_iret hX hR (dec_of D_X10_wouldPlay (i := 20) rfl) rfl
    · refine s_iload_n 3 (n := 22) hX (dec_of D_X10_wouldPlay (i := 11) rfl) rfl rfl rfl ?_
      refine s_callSI (n := 25) hX lk_RX10_324 (dec_of D_X10_wouldPlay (i := 12) rfl) rfl (by decide) (c_X10_areCopies (l := _) hG _ _) rfl rfl (Nat.le_of_ble_eq_true rfl) (fun q4 => ?_)
      refine s_if_eq (tgt := 39) (n := 28) hX (dec_of D_X10_wouldPlay (i := 13) rfl) rfl rfl ?_ ?_
      · refine s_iconst (v := (-1)) (n := 40) hX (dec_of D_X10_wouldPlay (i := 19) rfl) rfl (by decide) ?_
        exact s_iret hX hR (dec_of D_X10_wouldPlay (i := 20) rfl) rfl
      · refine s_iload 4 (n := 30) hX (dec_of D_X10_wouldPlay (i := 14) rfl) rfl rfl ?_
        refine s_if_lt (tgt := 39) (n := 33) hX (dec_of D_X10_wouldPlay (i := 15) rfl) rfl rfl ?_ ?_
        · refine s_iconst (v := (-1)) (n := 40) hX (dec_of D_X10_wouldPlay (i := 19) rfl) rfl (by decide) ?_
          exact s_iret hX hR (dec_of D_X10_wouldPlay (i := 20) rfl) rfl
        · refine s_iload 4 (n := 35) hX (dec_of D_X10_wouldPlay (i := 16) rfl) rfl rfl ?_
          refine s_iconst (v := 2) (n := 36) hX (dec_of D_X10_wouldPlay (i := 17) rfl) rfl (by decide) ?_
          refine s_icmp_le (tgt := 41) (n := 39) hX (dec_of D_X10_wouldPlay (i := 18) rfl) rfl rfl ?_ ?_
          · refine s_iload_n 3 (n := 42) hX (dec_of D_X10_wouldPlay (i := 21) rfl) rfl rfl rfl ?_
            refine s_aload_n 0 (n := 43) hX (dec_of D_X10_wouldPlay (i := 22) rfl) rfl rfl rfl ?_
            refine s_getR (c := 10) (p := 3) (k' := 29) (n := 46) hX cls10 (vk131 (by omega)) (dec_of D_X10_wouldPlay (i := 23) rfl) rfl rfl wd_1349 ?_
            refine s_iload_n 1 (n := 47) hX (dec_of D_X10_wouldPlay (i := 24) rfl) rfl rfl rfl ?_
            refine s_iald (n := 48) hX (vk29 (by omega)) (by decide) (dec_of D_X10_wouldPlay (i := 25) rfl) rfl (fun v5 => ?_)
            refine s_imul (n := 49) hX (dec_of D_X10_wouldPlay (i := 26) rfl) rfl ?_
            refine s_topi (fun x6 => ?_)
            refine s_istore (lv' := [(0, _), (1, _), (2, _), (3, _), (4, _), (5, _)]) [1, 2, 3, 4, 5, 0] (n := 51) hX (dec_of D_X10_wouldPlay (i := 27) rfl) rfl (by decide) rfl ?_
            refine s_aload_n 0 (n := 52) hX (dec_of D_X10_wouldPlay (i := 28) rfl) rfl rfl rfl ?_
            refine s_iload_n 1 (n := 53) hX (dec_of D_X10_wouldPlay (i := 29) rfl) rfl rfl rfl ?_
            refine s_iload 5 (n := 55) hX (dec_of D_X10_wouldPlay (i := 30) rfl) rfl rfl ?_
            refine s_callVI (c := 10) (n := 58) hX cls10 (vk131 (by omega)) lk_RX10_327 (dec_of D_X10_wouldPlay (i := 31) rfl) rfl (by decide) (c_X10_isTooMuch (l := _) hG _ _ _) rfl rfl (Nat.le_of_ble_eq_true rfl) (fun q7 => ?_)
            refine s_if_eq (tgt := 66) (n := 61) hX (dec_of D_X10_wouldPlay (i := 32) rfl) rfl rfl ?_ ?_
            · refine s_aload_n 0 (n := 67) hX (dec_of D_X10_wouldPlay (i := 35) rfl) rfl rfl rfl ?_
              refine s_iload_n 1 (n := 68) hX (dec_of D_X10_wouldPlay (i := 36) rfl) rfl rfl rfl ?_
              refine s_iload_n 2 (n := 69) hX (dec_of D_X10_wouldPlay (i := 37) rfl) rfl rfl rfl ?_
              refine s_iload 5 (n := 71) hX (dec_of D_X10_wouldPlay (i := 38) rfl) rfl rfl ?_
              refine s_iload 4 (n := 73) hX (dec_of D_X10_wouldPlay (i := 39) rfl) rfl rfl ?_
              refine s_callVP (c := 10) (n := 76) hX cls10 (vk131 (by omega)) lk_RX10_333 (dec_of D_X10_wouldPlay (i := 40) rfl) rfl (by decide) (c_X10_sumOf (l := _) hG _ _ _ _ _) rfl rfl (Nat.le_of_ble_eq_true rfl) (fun q8 => ?_)
              exact s_iret hX hR (dec_of D_X10_wouldPlay (i := 41) rfl) rfl
            · refine s_bipush (v := (-2)) (n := 63) hX (dec_of D_X10_wouldPlay (i := 33) rfl) rfl (by decide) ?_
              refine s_goto (n := 76) hX (dec_of D_X10_wouldPlay (i := 34) rfl) rfl ?_
              exact s_iret hX hR (dec_of D_X10_wouldPlay (i := 41) rfl) rfl
          · refine s_iconst (v := (-1)) (n := 40) hX (dec_of D_X10_wouldPlay (i := 19) rfl) rfl (by decide) ?_
            exact s_iret hX hR (dec_of D_X10_wouldPlay (i := 20) rfl) rfl
def T_X10_wouldClaim : List (Nat × Instr × Nat) := [(0, .aload_n 0, 1), (1, .iconst 0, 1), (2, .putfield 86, 3), (5, .aload_n 0, 1), (6, .iload_n 1, 1), (7, .iload_n 2, 1), (8, .invokevirtual 350, 3), (11, .istore_n 3, 1), (12, .iload_n 3, 1), (13, .ifCond .ge 7, 3), (16, .iload_n 3, 1), (17, .goto 14, 3), (20, .aload_n 0, 1), (21, .iload_n 1, 1), (22, .iload_n 2, 1), (23, .aload_n 0, 1), (24, .iload_n 2, 1), (25, .invokevirtual 347, 3), (28, .invokevirtual 353, 3), (31, .ireturn, 1)]
theorem D_X10_wouldClaim : dchk cX10_wouldClaim T_X10_wouldClaim = true := by decide +kernel
def Mo_wouldClaim (σ : ST) (a1 : Int32) (a2 : Int32) : Option (Int32 × ST) :=
  lt_ (setF σ 840 0 0) (fun s1 => bd_ (Mo_whyNoClaim s1 a1 a2) (fun q2 => (if 0 ≤ q2 then bd_ (Mo_openSeat s1 a2) (fun q3 => bd_ (Mo_broughtBy s1 a1 a2 q3) (fun q4 => some (q4, s1))) else some (q2, s1))))
set_option maxHeartbeats 4000000 in
set_option maxRecDepth 100000 in
theorem c_X10_wouldClaim {G : GW} (hG : Good G) {l : Launch} (σ : ST) (a1 : Int32) (a2 : Int32) : Ctr G l yX10_wouldClaim cX10_wouldClaim 4 (some .int) 3 [.ref (ga G 131 0), .int a1, .int a2] σ oP (Mo_wouldClaim σ a1 a2) := by
  refine ctr_of hG (by decide) (Nat.le_of_ble_eq_true rfl) ?_
  intro X hXl hR hX
  have hX : Ok G X cX10_wouldClaim 4 RX10 3 := hX
  unfold Mo_wouldClaim
  show Sim G X 4 (MQX G X oP) σ 0 [(0, .ref (ga G 131 0)), (1, .int a1), (2, .int a2)] [] _
  refine s_aload_n 0 (n := 1) hX (dec_of D_X10_wouldClaim (i := 0) rfl) rfl rfl rfl ?_
  refine s_iconst (v := 0) (n := 2) hX (dec_of D_X10_wouldClaim (i := 1) rfl) rfl (by decide) ?_
  refine s_putI (c := 10) (p := 0) (n := 5) hX cls10 (vk131 (by omega)) (dec_of D_X10_wouldClaim (i := 2) rfl) rfl rfl (by decide) wd_1346 rfl rfl rfl (fun s1 => ?_)
  refine s_aload_n 0 (n := 6) hX (dec_of D_X10_wouldClaim (i := 3) rfl) rfl rfl rfl ?_
  refine s_iload_n 1 (n := 7) hX (dec_of D_X10_wouldClaim (i := 4) rfl) rfl rfl rfl ?_
  refine s_iload_n 2 (n := 8) hX (dec_of D_X10_wouldClaim (i := 5) rfl) rfl rfl rfl ?_
  refine s_callVI (c := 10) (n := 11) hX cls10 (vk131 (by omega)) lk_RX10_350 (dec_of D_X10_wouldClaim (i := 6) rfl) rfl (by decide) (c_X10_whyNoClaim (l := _) hG _ _ _) rfl rfl (Nat.le_of_ble_eq_true rfl) (fun q2 => ?_)
  refine s_istore_n (lv' := [(0, _), (1, _), (2, _), (3, _)]) [1, 2, 3, 0] (n := 12) hX (dec_of D_X10_wouldClaim (i := 7) rfl) rfl rfl (by decide) rfl ?_
  refine s_iload_n 3 (n := 13) hX (dec_of D_X10_wouldClaim (i := 8) rfl) rfl rfl rfl ?_
  refine s_if_ge (tgt := 20) (n := 16) hX (dec_of D_X10_wouldClaim (i := 9) rfl) rfl rfl ?_ ?_
  · refine s_aload_n 0 (n := 21) hX (dec_of D_X10_wouldClaim (i := 12) rfl) rfl rfl rfl ?_
    refine s_iload_n 1 (n := 22) hX (dec_of D_X10_wouldClaim (i := 13) rfl) rfl rfl rfl ?_
    refine s_iload_n 2 (n := 23) hX (dec_of D_X10_wouldClaim (i := 14) rfl) rfl rfl rfl ?_
    refine s_aload_n 0 (n := 24) hX (dec_of D_X10_wouldClaim (i := 15) rfl) rfl rfl rfl ?_
    refine s_iload_n 2 (n := 25) hX (dec_of D_X10_wouldClaim (i := 16) rfl) rfl rfl rfl ?_
    refine s_callVI (c := 10) (n := 28) hX cls10 (vk131 (by omega)) lk_RX10_347 (dec_of D_X10_wouldClaim (i := 17) rfl) rfl (by decide) (c_X10_openSeat (l := _) hG _ _) rfl rfl (Nat.le_of_ble_eq_true rfl) (fun q3 => ?_)
    refine s_callVI (c := 10) (n := 31) hX cls10 (vk131 (by omega)) lk_RX10_353 (dec_of D_X10_wouldClaim (i := 18) rfl) rfl (by decide) (c_X10_broughtBy (l := _) hG _ _ _ _) rfl rfl (Nat.le_of_ble_eq_true rfl) (fun q4 => ?_)
    exact s_iret hX hR (dec_of D_X10_wouldClaim (i := 19) rfl) rfl
  · refine s_iload_n 3 (n := 17) hX (dec_of D_X10_wouldClaim (i := 10) rfl) rfl rfl rfl ?_
    refine s_goto (n := 31) hX (dec_of D_X10_wouldClaim (i := 11) rfl) rfl ?_
    exact s_iret hX hR (dec_of D_X10_wouldClaim (i := 19) rfl) rfl
def T_X10_bestClaim : List (Nat × Instr × Nat) := [(0, .aload_n 0, 1), (1, .iconst 0, 1), (2, .putfield 86, 3), (5, .aload_n 0, 1), (6, .iload_n 1, 1), (7, .invokevirtual 264, 3), (10, .ifCond .eq 12, 3), (13, .iload_n 2, 1), (14, .ifCond .lt 8, 3), (17, .iload_n 2, 1), (18, .iconst 1, 1), (19, .if_icmp .le 5, 3), (22, .iconst (-1), 1), (23, .ireturn, 1), (24, .bipush (-2), 2), (26, .istore_n 3, 1), (27, .bipush (-2), 2), (29, .istore 4, 2), (31, .iconst 0, 1), (32, .istore 5, 2), (34, .iload 5, 2), (36, .aload_n 0, 1), (37, .getfield 235, 3), (40, .if_icmp .ge 56, 3), (43, .aload_n 0, 1), (44, .iload_n 1, 1), (45, .iload 5, 2), (47, .invokevirtual 350, 3), (50, .ifCond .ne 19, 3), (53, .aload_n 0, 1), (54, .iload_n 1, 1), (55, .iload 5, 2), (57, .aload_n 0, 1), (58, .iload 5, 2), (60, .invokevirtual 347, 3), (63, .invokevirtual 353, 3), (66, .goto 5, 3), (69, .bipush (-2), 2), (71, .istore 6, 2), (73, .iload 6, 2), (75, .iload 4, 2), (77, .if_icmp .gt 6, 3), (80, .goto 10, 3), (83, .iload 5, 2), (85, .istore_n 3, 1), (86, .iload 6, 2), (88, .istore 4, 2), (90, .iinc 5 1, 3), (93, .goto (-59), 3), (96, .iload_n 2, 1), (97, .ifCond .ne 7, 3), (100, .iload_n 3, 1), (101, .goto 5, 3), (104, .iload 4, 2), (106, .ireturn, 1)]
theorem D_X10_bestClaim : dchk cX10_bestClaim T_X10_bestClaim = true := by decide +kernel
def Mo_bestClaim (σ : ST) (a1 : Int32) (a2 : Int32) : Option (Int32 × ST) :=
  lt_ (setF σ 840 0 0) (fun s1 => bd_ (Mo_isPlayer s1 a1) (fun q2 => (if q2 = 0 then some ((-1), s1) else (if a2 < 0 then some ((-1), s1) else (if a2 ≤ 1 then lp_ (fun rec4 (z3 : Int32 × Int32 × Int32) => (if (gF s1 852 0) ≤ z3.2.2 then (if a2 = 0 then some (z3.1, s1) else some (z3.2.1, s1)) else bd_ (Mo_whyNoClaim s1 a1 z3.2.2) (fun q6 => lk_ (fun kk8 => (if q6 = 0 then bd_ (Mo_openSeat s1 z3.2.2) (fun q10 => bd_ (Mo_broughtBy s1 a1 z3.2.2 q10) (fun q11 => kk8 q11)) else kk8 (-2))) (fun (j7 : Int32) => (if z3.2.1 < j7 then rec4 (z3.2.2, j7, (z3.2.2 + 1)) else rec4 (z3.1, z3.2.1, (z3.2.2 + 1))))))) FU ((-2), (-2), 0) else some ((-1), s1))))))
set_option maxHeartbeats 4000000 in
set_option maxRecDepth 100000 in
theorem c_X10_bestClaim {G : GW} (hG : Good G) {l : Launch} (σ : ST) (a1 : Int32) (a2 : Int32) : Ctr G l yX10_bestClaim cX10_bestClaim 7 (some .int) 3 [.ref (ga G 131 0), .int a1, .int a2] σ oP (Mo_bestClaim σ a1 a2) := by
  refine ctr_of hG (by decide) (Nat.le_of_ble_eq_true rfl) ?_
  intro X hXl hR hX
  have hX : Ok G X cX10_bestClaim 7 RX10 3 := hX
  unfold Mo_bestClaim
  show Sim G X 7 (MQX G X oP) σ 0 [(0, .ref (ga G 131 0)), (1, .int a1), (2, .int a2)] [] _
  refine s_aload_n 0 (n := 1) hX (dec_of D_X10_bestClaim (i := 0) rfl) rfl rfl rfl ?_
  refine s_iconst (v := 0) (n := 2) hX (dec_of D_X10_bestClaim (i := 1) rfl) rfl (by decide) ?_
  refine s_putI (c := 10) (p := 0) (n := 5) hX cls10 (vk131 (by omega)) (dec_of D_X10_bestClaim (i := 2) rfl) rfl rfl (by decide) wd_1346 rfl rfl rfl (fun s1 => ?_)
  refine s_aload_n 0 (n := 6) hX (dec_of D_X10_bestClaim (i := 3) rfl) rfl rfl rfl ?_
  refine s_iload_n 1 (n := 7) hX (dec_of D_X10_bestClaim (i := 4) rfl) rfl rfl rfl ?_
  refine s_callVI (c := 10) (n := 10) hX cls10 (vk131 (by omega)) lk_RX10_264 (dec_of D_X10_bestClaim (i := 5) rfl) rfl (by decide) (c_X10_isPlayer (l := _) hG _ _) rfl rfl (Nat.le_of_ble_eq_true rfl) (fun q2 => ?_)
  refine s_if_eq (tgt := 22) (n := 13) hX (dec_of D_X10_bestClaim (i := 6) rfl) rfl rfl ?_ ?_
  · refine s_iconst (v := (-1)) (n := 23) hX (dec_of D_X10_bestClaim (i := 12) rfl) rfl (by decide) ?_
    exact s_iret hX hR (dec_of D_X10_bestClaim (i := 13) rfl) rfl
  · refine s_iload_n 2 (n := 14) hX (dec_of D_X10_bestClaim (i := 7) rfl) rfl rfl rfl ?_
    refine s_if_lt (tgt := 22) (n := 17) hX (dec_of D_X10_bestClaim (i := 8) rfl) rfl rfl ?_ ?_
    · refine s_iconst (v := (-1)) (n := 23) hX (dec_of D_X10_bestClaim (i := 12) rfl) rfl (by decide) ?_
      exact s_iret hX hR (dec_of D_X10_bestClaim (i := 13) rfl) rfl
    · refine s_iload_n 2 (n := 18) hX (dec_of D_X10_bestClaim (i := 9) rfl) rfl rfl rfl ?_
      refine s_iconst (v := 1) (n := 19) hX (dec_of D_X10_bestClaim (i := 10) rfl) rfl (by decide) ?_
      refine s_icmp_le (tgt := 24) (n := 22) hX (dec_of D_X10_bestClaim (i := 11) rfl) rfl rfl ?_ ?_
      · refine s_bipush (v := (-2)) (n := 26) hX (dec_of D_X10_bestClaim (i := 14) rfl) rfl (by decide) ?_
        refine s_istore_n (lv' := [(0, _), (1, _), (2, _), (3, _)]) [1, 2, 3, 0] (n := 27) hX (dec_of D_X10_bestClaim (i := 15) rfl) rfl rfl (by decide) rfl ?_
        refine s_bipush (v := (-2)) (n := 29) hX (dec_of D_X10_bestClaim (i := 16) rfl) rfl (by decide) ?_
        refine s_istore (lv' := [(0, _), (1, _), (2, _), (3, _), (4, _)]) [1, 2, 3, 4, 0] (n := 31) hX (dec_of D_X10_bestClaim (i := 17) rfl) rfl (by decide) rfl ?_
        refine s_iconst (v := 0) (n := 32) hX (dec_of D_X10_bestClaim (i := 18) rfl) rfl (by decide) ?_
        refine s_istore (lv' := [(0, _), (1, _), (2, _), (3, _), (4, _), (5, _)]) [1, 2, 3, 4, 5, 0] (n := 34) hX (dec_of D_X10_bestClaim (i := 19) rfl) rfl (by decide) rfl ?_
        refine s_sub [0, 1, 2, 3, 4, 5] rfl (s_lp (pc := 34) (Sf := fun (z3 : Int32 × Int32 × Int32) => s1) (lvf := fun (z3 : Int32 × Int32 × Int32) => [(0, .ref (ga G 131 0)), (1, .int a1), (2, .int a2), (3, .int z3.1), (4, .int z3.2.1), (5, .int z3.2.2)]) (fun rec4 hre5 z3 => ?_) FU ((-2), (-2), 0))
        refine s_iload 5 (n := 36) hX (dec_of D_X10_bestClaim (i := 20) rfl) rfl rfl ?_
        refine s_aload_n 0 (n := 37) hX (dec_of D_X10_bestClaim (i := 21) rfl) rfl rfl rfl ?_
        refine s_getI (c := 10) (p := 12) (id := 852) (n := 40) hX cls10 (vk131 (by omega)) (dec_of D_X10_bestClaim (i := 22) rfl) rfl rfl wd_1358 ?_
        refine s_icmp_ge (tgt := 96) (n := 43) hX (dec_of D_X10_bestClaim (i := 23) rfl) rfl rfl ?_ ?_
        · refine s_iload_n 2 (n := 97) hX (dec_of D_X10_bestClaim (i := 49) rfl) rfl rfl rfl ?_
          refine s_if_ne (tgt := 104) (n := 100) hX (dec_of D_X10_bestClaim (i := 50) rfl) rfl rfl ?_ ?_
          · refine s_iload 4 (n := 106) hX (dec_of D_X10_bestClaim (i := 53) rfl) rfl rfl ?_
            exact s_iret hX hR (dec_of D_X10_bestClaim (i := 54) rfl) rfl
          · refine s_iload_n 3 (n := 101) hX (dec_of D_X10_bestClaim (i := 51) rfl) rfl rfl rfl ?_
            refine s_goto (n := 106) hX (dec_of D_X10_bestClaim (i := 52) rfl) rfl ?_
            exact s_iret hX hR (dec_of D_X10_bestClaim (i := 54) rfl) rfl
        · refine s_aload_n 0 (n := 44) hX (dec_of D_X10_bestClaim (i := 24) rfl) rfl rfl rfl ?_
          refine s_iload_n 1 (n := 45) hX (dec_of D_X10_bestClaim (i := 25) rfl) rfl rfl rfl ?_
          refine s_iload 5 (n := 47) hX (dec_of D_X10_bestClaim (i := 26) rfl) rfl rfl ?_
          refine s_callVI (c := 10) (n := 50) hX cls10 (vk131 (by omega)) lk_RX10_350 (dec_of D_X10_bestClaim (i := 27) rfl) rfl (by decide) (c_X10_whyNoClaim (l := _) hG _ _ _) rfl rfl (Nat.le_of_ble_eq_true rfl) (fun q6 => ?_)
          refine s_lk (pcj := 71) (Sf := fun (j7 : Int32) => s1) (lvf := fun (j7 : Int32) => [(0, .ref (ga G 131 0)), (1, .int a1), (2, .int a2), (3, .int z3.1), (4, .int z3.2.1), (5, .int z3.2.2)]) (stf := fun (j7 : Int32) => [.int j7]) (fun j7 => ?_) (fun kk8 hkk9 => ?_)
          · refine s_istore (lv' := [(0, _), (1, _), (2, _), (3, _), (4, _), (5, _), (6, _)]) [1, 2, 3, 4, 5, 6, 0] (n := 73) hX (dec_of D_X10_bestClaim (i := 38) rfl) rfl (by decide) rfl ?_
            refine s_iload 6 (n := 75) hX (dec_of D_X10_bestClaim (i := 39) rfl) rfl rfl ?_
            refine s_iload 4 (n := 77) hX (dec_of D_X10_bestClaim (i := 40) rfl) rfl rfl ?_
            refine s_icmp_gt (tgt := 83) (n := 80) hX (dec_of D_X10_bestClaim (i := 41) rfl) rfl rfl ?_ ?_
            · refine s_iload 5 (n := 85) hX (dec_of D_X10_bestClaim (i := 43) rfl) rfl rfl ?_
              refine s_istore_n (lv' := [(0, _), (1, _), (2, _), (3, _), (4, _), (5, _), (6, _)]) [1, 2, 3, 0, 4, 5, 6] (n := 86) hX (dec_of D_X10_bestClaim (i := 44) rfl) rfl rfl (by decide) rfl ?_
              refine s_iload 6 (n := 88) hX (dec_of D_X10_bestClaim (i := 45) rfl) rfl rfl ?_
              refine s_istore (lv' := [(0, _), (1, _), (2, _), (3, _), (4, _), (5, _), (6, _)]) [1, 2, 3, 4, 0, 5, 6] (n := 90) hX (dec_of D_X10_bestClaim (i := 46) rfl) rfl (by decide) rfl ?_
              refine s_iinc (v := z3.2.2 + 1) (lv' := [(0, _), (1, _), (2, _), (3, _), (4, _), (5, _), (6, _)]) 5 [1, 2, 3, 4, 5, 0, 6] (n := 93) hX (dec_of D_X10_bestClaim (i := 47) rfl) rfl rfl rfl (by decide) rfl ?_
              refine s_goto (n := 34) hX (dec_of D_X10_bestClaim (i := 48) rfl) rfl ?_
              exact s_sub [0, 1, 2, 3, 4, 5] rfl (hre5 (z3.2.2, j7, (z3.2.2 + 1)))
            · refine s_goto (n := 90) hX (dec_of D_X10_bestClaim (i := 42) rfl) rfl ?_
              refine s_iinc (v := z3.2.2 + 1) (lv' := [(0, _), (1, _), (2, _), (3, _), (4, _), (5, _), (6, _)]) 5 [1, 2, 3, 4, 5, 0, 6] (n := 93) hX (dec_of D_X10_bestClaim (i := 47) rfl) rfl rfl rfl (by decide) rfl ?_
              refine s_goto (n := 34) hX (dec_of D_X10_bestClaim (i := 48) rfl) rfl ?_
              exact s_sub [0, 1, 2, 3, 4, 5] rfl (hre5 (z3.1, z3.2.1, (z3.2.2 + 1)))
          · refine s_if_ne (tgt := 69) (n := 53) hX (dec_of D_X10_bestClaim (i := 28) rfl) rfl rfl ?_ ?_
            · refine s_bipush (v := (-2)) (n := 71) hX (dec_of D_X10_bestClaim (i := 37) rfl) rfl (by decide) ?_
              exact s_sub [0, 1, 2, 3, 4, 5] rfl (hkk9 (-2))
            · refine s_aload_n 0 (n := 54) hX (dec_of D_X10_bestClaim (i := 29) rfl) rfl rfl rfl ?_
              refine s_iload_n 1 (n := 55) hX (dec_of D_X10_bestClaim (i := 30) rfl) rfl rfl rfl ?_
              refine s_iload 5 (n := 57) hX (dec_of D_X10_bestClaim (i := 31) rfl) rfl rfl ?_
              refine s_aload_n 0 (n := 58) hX (dec_of D_X10_bestClaim (i := 32) rfl) rfl rfl rfl ?_
              refine s_iload 5 (n := 60) hX (dec_of D_X10_bestClaim (i := 33) rfl) rfl rfl ?_
              refine s_callVI (c := 10) (n := 63) hX cls10 (vk131 (by omega)) lk_RX10_347 (dec_of D_X10_bestClaim (i := 34) rfl) rfl (by decide) (c_X10_openSeat (l := _) hG _ _) rfl rfl (Nat.le_of_ble_eq_true rfl) (fun q10 => ?_)
              refine s_callVI (c := 10) (n := 66) hX cls10 (vk131 (by omega)) lk_RX10_353 (dec_of D_X10_bestClaim (i := 35) rfl) rfl (by decide) (c_X10_broughtBy (l := _) hG _ _ _ _) rfl rfl (Nat.le_of_ble_eq_true rfl) (fun q11 => ?_)
              refine s_goto (n := 71) hX (dec_of D_X10_bestClaim (i := 36) rfl) rfl ?_
              exact s_sub [0, 1, 2, 3, 4, 5] rfl (hkk9 q11)
      · refine s_iconst (v := (-1)) (n := 23) hX (dec_of D_X10_bestClaim (i := 12) rfl) rfl (by decide) ?_
        exact s_iret hX hR (dec_of D_X10_bestClaim (i := 13) rfl) rfl
def T_X10_claimant : List (Nat × Instr × Nat) := [(0, .aload_n 0, 1), (1, .iconst 0, 1), (2, .putfield 86, 3), (5, .aload_n 0, 1), (6, .iload_n 1, 1), (7, .invokevirtual 241, 3), (10, .ifCond .eq 12, 3), (13, .iload_n 2, 1), (14, .ifCond .lt 8, 3), (17, .iload_n 2, 1), (18, .iconst 1, 1), (19, .if_icmp .le 5, 3), (22, .iconst (-1), 1), (23, .ireturn, 1), (24, .bipush (-2), 2), (26, .istore_n 3, 1), (27, .bipush (-2), 2), (29, .istore 4, 2), (31, .iconst 0, 1), (32, .istore 5, 2), (34, .iload 5, 2), (36, .aload_n 0, 1), (37, .getfield 232, 3), (40, .if_icmp .ge 55, 3), (43, .aload_n 0, 1), (44, .iload 5, 2), (46, .iload_n 1, 1), (47, .invokevirtual 350, 3), (50, .ifCond .ne 18, 3), (53, .aload_n 0, 1), (54, .iload 5, 2), (56, .iload_n 1, 1), (57, .aload_n 0, 1), (58, .iload_n 1, 1), (59, .invokevirtual 347, 3), (62, .invokevirtual 353, 3), (65, .goto 5, 3), (68, .bipush (-2), 2), (70, .istore 6, 2), (72, .iload 6, 2), (74, .iload 4, 2), (76, .if_icmp .gt 6, 3), (79, .goto 10, 3), (82, .iload 5, 2), (84, .istore_n 3, 1), (85, .iload 6, 2), (87, .istore 4, 2), (89, .iinc 5 1, 3), (92, .goto (-58), 3), (95, .iload_n 2, 1), (96, .ifCond .ne 7, 3), (99, .iload_n 3, 1), (100, .goto 5, 3), (103, .iload 4, 2), (105, .ireturn, 1)]
theorem D_X10_claimant : dchk cX10_claimant T_X10_claimant = true := by decide +kernel
def Mo_claimant (σ : ST) (a1 : Int32) (a2 : Int32) : Option (Int32 × ST) :=
  lt_ (setF σ 840 0 0) (fun s1 => bd_ (Mo_isSession s1 a1) (fun q2 => (if q2 = 0 then some ((-1), s1) else (if a2 < 0 then some ((-1), s1) else (if a2 ≤ 1 then lp_ (fun rec4 (z3 : Int32 × Int32 × Int32) => (if (gF s1 851 0) ≤ z3.2.2 then (if a2 = 0 then some (z3.1, s1) else some (z3.2.1, s1)) else bd_ (Mo_whyNoClaim s1 z3.2.2 a1) (fun q6 => lk_ (fun kk8 => (if q6 = 0 then bd_ (Mo_openSeat s1 a1) (fun q10 => bd_ (Mo_broughtBy s1 z3.2.2 a1 q10) (fun q11 => kk8 q11)) else kk8 (-2))) (fun (j7 : Int32) => (if z3.2.1 < j7 then rec4 (z3.2.2, j7, (z3.2.2 + 1)) else rec4 (z3.1, z3.2.1, (z3.2.2 + 1))))))) FU ((-2), (-2), 0) else some ((-1), s1))))))
set_option maxHeartbeats 4000000 in
set_option maxRecDepth 100000 in
theorem c_X10_claimant {G : GW} (hG : Good G) {l : Launch} (σ : ST) (a1 : Int32) (a2 : Int32) : Ctr G l yX10_claimant cX10_claimant 7 (some .int) 3 [.ref (ga G 131 0), .int a1, .int a2] σ oP (Mo_claimant σ a1 a2) := by
  refine ctr_of hG (by decide) (Nat.le_of_ble_eq_true rfl) ?_
  intro X hXl hR hX
  have hX : Ok G X cX10_claimant 7 RX10 3 := hX
  unfold Mo_claimant
  show Sim G X 7 (MQX G X oP) σ 0 [(0, .ref (ga G 131 0)), (1, .int a1), (2, .int a2)] [] _
  refine s_aload_n 0 (n := 1) hX (dec_of D_X10_claimant (i := 0) rfl) rfl rfl rfl ?_
  refine s_iconst (v := 0) (n := 2) hX (dec_of D_X10_claimant (i := 1) rfl) rfl (by decide) ?_
  refine s_putI (c := 10) (p := 0) (n := 5) hX cls10 (vk131 (by omega)) (dec_of D_X10_claimant (i := 2) rfl) rfl rfl (by decide) wd_1346 rfl rfl rfl (fun s1 => ?_)
  refine s_aload_n 0 (n := 6) hX (dec_of D_X10_claimant (i := 3) rfl) rfl rfl rfl ?_
  refine s_iload_n 1 (n := 7) hX (dec_of D_X10_claimant (i := 4) rfl) rfl rfl rfl ?_
  refine s_callVI (c := 10) (n := 10) hX cls10 (vk131 (by omega)) lk_RX10_241 (dec_of D_X10_claimant (i := 5) rfl) rfl (by decide) (c_X10_isSession (l := _) hG _ _) rfl rfl (Nat.le_of_ble_eq_true rfl) (fun q2 => ?_)
  refine s_if_eq (tgt := 22) (n := 13) hX (dec_of D_X10_claimant (i := 6) rfl) rfl rfl ?_ ?_
  · refine s_iconst (v := (-1)) (n := 23) hX (dec_of D_X10_claimant (i := 12) rfl) rfl (by decide) ?_
    exact s_iret hX hR (dec_of D_X10_claimant (i := 13) rfl) rfl
  · refine s_iload_n 2 (n := 14) hX (dec_of D_X10_claimant (i := 7) rfl) rfl rfl rfl ?_
    refine s_if_lt (tgt := 22) (n := 17) hX (dec_of D_X10_claimant (i := 8) rfl) rfl rfl ?_ ?_
    · refine s_iconst (v := (-1)) (n := 23) hX (dec_of D_X10_claimant (i := 12) rfl) rfl (by decide) ?_
      exact s_iret hX hR (dec_of D_X10_claimant (i := 13) rfl) rfl
    · refine s_iload_n 2 (n := 18) hX (dec_of D_X10_claimant (i := 9) rfl) rfl rfl rfl ?_
      refine s_iconst (v := 1) (n := 19) hX (dec_of D_X10_claimant (i := 10) rfl) rfl (by decide) ?_
      refine s_icmp_le (tgt := 24) (n := 22) hX (dec_of D_X10_claimant (i := 11) rfl) rfl rfl ?_ ?_
      · refine s_bipush (v := (-2)) (n := 26) hX (dec_of D_X10_claimant (i := 14) rfl) rfl (by decide) ?_
        refine s_istore_n (lv' := [(0, _), (1, _), (2, _), (3, _)]) [1, 2, 3, 0] (n := 27) hX (dec_of D_X10_claimant (i := 15) rfl) rfl rfl (by decide) rfl ?_
        refine s_bipush (v := (-2)) (n := 29) hX (dec_of D_X10_claimant (i := 16) rfl) rfl (by decide) ?_
        refine s_istore (lv' := [(0, _), (1, _), (2, _), (3, _), (4, _)]) [1, 2, 3, 4, 0] (n := 31) hX (dec_of D_X10_claimant (i := 17) rfl) rfl (by decide) rfl ?_
        refine s_iconst (v := 0) (n := 32) hX (dec_of D_X10_claimant (i := 18) rfl) rfl (by decide) ?_
        refine s_istore (lv' := [(0, _), (1, _), (2, _), (3, _), (4, _), (5, _)]) [1, 2, 3, 4, 5, 0] (n := 34) hX (dec_of D_X10_claimant (i := 19) rfl) rfl (by decide) rfl ?_
        refine s_sub [0, 1, 2, 3, 4, 5] rfl (s_lp (pc := 34) (Sf := fun (z3 : Int32 × Int32 × Int32) => s1) (lvf := fun (z3 : Int32 × Int32 × Int32) => [(0, .ref (ga G 131 0)), (1, .int a1), (2, .int a2), (3, .int z3.1), (4, .int z3.2.1), (5, .int z3.2.2)]) (fun rec4 hre5 z3 => ?_) FU ((-2), (-2), 0))
        refine s_iload 5 (n := 36) hX (dec_of D_X10_claimant (i := 20) rfl) rfl rfl ?_
        refine s_aload_n 0 (n := 37) hX (dec_of D_X10_claimant (i := 21) rfl) rfl rfl rfl ?_
        refine s_getI (c := 10) (p := 11) (id := 851) (n := 40) hX cls10 (vk131 (by omega)) (dec_of D_X10_claimant (i := 22) rfl) rfl rfl wd_1357 ?_
        refine s_icmp_ge (tgt := 95) (n := 43) hX (dec_of D_X10_claimant (i := 23) rfl) rfl rfl ?_ ?_
        · refine s_iload_n 2 (n := 96) hX (dec_of D_X10_claimant (i := 49) rfl) rfl rfl rfl ?_
          refine s_if_ne (tgt := 103) (n := 99) hX (dec_of D_X10_claimant (i := 50) rfl) rfl rfl ?_ ?_
          · refine s_iload 4 (n := 105) hX (dec_of D_X10_claimant (i := 53) rfl) rfl rfl ?_
            exact s_iret hX hR (dec_of D_X10_claimant (i := 54) rfl) rfl
          · refine s_iload_n 3 (n := 100) hX (dec_of D_X10_claimant (i := 51) rfl) rfl rfl rfl ?_
            refine s_goto (n := 105) hX (dec_of D_X10_claimant (i := 52) rfl) rfl ?_
            exact s_iret hX hR (dec_of D_X10_claimant (i := 54) rfl) rfl
        · refine s_aload_n 0 (n := 44) hX (dec_of D_X10_claimant (i := 24) rfl) rfl rfl rfl ?_
          refine s_iload 5 (n := 46) hX (dec_of D_X10_claimant (i := 25) rfl) rfl rfl ?_
          refine s_iload_n 1 (n := 47) hX (dec_of D_X10_claimant (i := 26) rfl) rfl rfl rfl ?_
          refine s_callVI (c := 10) (n := 50) hX cls10 (vk131 (by omega)) lk_RX10_350 (dec_of D_X10_claimant (i := 27) rfl) rfl (by decide) (c_X10_whyNoClaim (l := _) hG _ _ _) rfl rfl (Nat.le_of_ble_eq_true rfl) (fun q6 => ?_)
          refine s_lk (pcj := 70) (Sf := fun (j7 : Int32) => s1) (lvf := fun (j7 : Int32) => [(0, .ref (ga G 131 0)), (1, .int a1), (2, .int a2), (3, .int z3.1), (4, .int z3.2.1), (5, .int z3.2.2)]) (stf := fun (j7 : Int32) => [.int j7]) (fun j7 => ?_) (fun kk8 hkk9 => ?_)
          · refine s_istore (lv' := [(0, _), (1, _), (2, _), (3, _), (4, _), (5, _), (6, _)]) [1, 2, 3, 4, 5, 6, 0] (n := 72) hX (dec_of D_X10_claimant (i := 38) rfl) rfl (by decide) rfl ?_
            refine s_iload 6 (n := 74) hX (dec_of D_X10_claimant (i := 39) rfl) rfl rfl ?_
            refine s_iload 4 (n := 76) hX (dec_of D_X10_claimant (i := 40) rfl) rfl rfl ?_
            refine s_icmp_gt (tgt := 82) (n := 79) hX (dec_of D_X10_claimant (i := 41) rfl) rfl rfl ?_ ?_
            · refine s_iload 5 (n := 84) hX (dec_of D_X10_claimant (i := 43) rfl) rfl rfl ?_
              refine s_istore_n (lv' := [(0, _), (1, _), (2, _), (3, _), (4, _), (5, _), (6, _)]) [1, 2, 3, 0, 4, 5, 6] (n := 85) hX (dec_of D_X10_claimant (i := 44) rfl) rfl rfl (by decide) rfl ?_
              refine s_iload 6 (n := 87) hX (dec_of D_X10_claimant (i := 45) rfl) rfl rfl ?_
              refine s_istore (lv' := [(0, _), (1, _), (2, _), (3, _), (4, _), (5, _), (6, _)]) [1, 2, 3, 4, 0, 5, 6] (n := 89) hX (dec_of D_X10_claimant (i := 46) rfl) rfl (by decide) rfl ?_
              refine s_iinc (v := z3.2.2 + 1) (lv' := [(0, _), (1, _), (2, _), (3, _), (4, _), (5, _), (6, _)]) 5 [1, 2, 3, 4, 5, 0, 6] (n := 92) hX (dec_of D_X10_claimant (i := 47) rfl) rfl rfl rfl (by decide) rfl ?_
              refine s_goto (n := 34) hX (dec_of D_X10_claimant (i := 48) rfl) rfl ?_
              exact s_sub [0, 1, 2, 3, 4, 5] rfl (hre5 (z3.2.2, j7, (z3.2.2 + 1)))
            · refine s_goto (n := 89) hX (dec_of D_X10_claimant (i := 42) rfl) rfl ?_
              refine s_iinc (v := z3.2.2 + 1) (lv' := [(0, _), (1, _), (2, _), (3, _), (4, _), (5, _), (6, _)]) 5 [1, 2, 3, 4, 5, 0, 6] (n := 92) hX (dec_of D_X10_claimant (i := 47) rfl) rfl rfl rfl (by decide) rfl ?_
              refine s_goto (n := 34) hX (dec_of D_X10_claimant (i := 48) rfl) rfl ?_
              exact s_sub [0, 1, 2, 3, 4, 5] rfl (hre5 (z3.1, z3.2.1, (z3.2.2 + 1)))
          · refine s_if_ne (tgt := 68) (n := 53) hX (dec_of D_X10_claimant (i := 28) rfl) rfl rfl ?_ ?_
            · refine s_bipush (v := (-2)) (n := 70) hX (dec_of D_X10_claimant (i := 37) rfl) rfl (by decide) ?_
              exact s_sub [0, 1, 2, 3, 4, 5] rfl (hkk9 (-2))
            · refine s_aload_n 0 (n := 54) hX (dec_of D_X10_claimant (i := 29) rfl) rfl rfl rfl ?_
              refine s_iload 5 (n := 56) hX (dec_of D_X10_claimant (i := 30) rfl) rfl rfl ?_
              refine s_iload_n 1 (n := 57) hX (dec_of D_X10_claimant (i := 31) rfl) rfl rfl rfl ?_
              refine s_aload_n 0 (n := 58) hX (dec_of D_X10_claimant (i := 32) rfl) rfl rfl rfl ?_
              refine s_iload_n 1 (n := 59) hX (dec_of D_X10_claimant (i := 33) rfl) rfl rfl rfl ?_
              refine s_callVI (c := 10) (n := 62) hX cls10 (vk131 (by omega)) lk_RX10_347 (dec_of D_X10_claimant (i := 34) rfl) rfl (by decide) (c_X10_openSeat (l := _) hG _ _) rfl rfl (Nat.le_of_ble_eq_true rfl) (fun q10 => ?_)
              refine s_callVI (c := 10) (n := 65) hX cls10 (vk131 (by omega)) lk_RX10_353 (dec_of D_X10_claimant (i := 35) rfl) rfl (by decide) (c_X10_broughtBy (l := _) hG _ _ _ _) rfl rfl (Nat.le_of_ble_eq_true rfl) (fun q11 => ?_)
              refine s_goto (n := 70) hX (dec_of D_X10_claimant (i := 36) rfl) rfl ?_
              exact s_sub [0, 1, 2, 3, 4, 5] rfl (hkk9 q11)
      · refine s_iconst (v := (-1)) (n := 23) hX (dec_of D_X10_claimant (i := 12) rfl) rfl (by decide) ?_
        exact s_iret hX hR (dec_of D_X10_claimant (i := 13) rfl) rfl
def T_X10_wouldPart : List (Nat × Instr × Nat) := [(0, .aload_n 0, 1), (1, .iconst 0, 1), (2, .putfield 86, 3), (5, .aload_n 0, 1), (6, .iload_n 1, 1), (7, .invokevirtual 257, 3), (10, .ifCond .eq 11, 3), (13, .aload_n 0, 1), (14, .iload_n 2, 1), (15, .invokevirtual 264, 3), (18, .ifCond .ne 5, 3), (21, .iconst (-1), 1), (22, .ireturn, 1), (23, .aload_n 0, 1), (24, .iload_n 1, 1), (25, .invokevirtual 367, 3), (28, .istore_n 3, 1), (29, .iload_n 3, 1), (30, .ifCond .ge 5, 3), (33, .iload_n 3, 1), (34, .ireturn, 1), (35, .aload_n 0, 1), (36, .iload_n 1, 1), (37, .invokevirtual 364, 3), (40, .aload_n 0, 1), (41, .getfield 74, 3), (44, .iload_n 2, 1), (45, .iaload, 1), (46, .ireturn, 1)]
theorem D_X10_wouldPart : dchk cX10_wouldPart T_X10_wouldPart = true := by decide +kernel
def Mo_wouldPart (σ : ST) (a1 : Int32) (a2 : Int32) : Option (Int32 × ST) :=
  lt_ (setF σ 840 0 0) (fun s1 => bd_ (Mo_isLand s1 a1) (fun q2 => (if q2 = 0 then some ((-1), s1) else bd_ (Mo_isPlayer s1 a2) (fun q3 => (if q3 = 0 then some ((-1), s1) else bd_ (Mo_whyNoPart s1 a1) (fun q4 => (if 0 ≤ q4 then bd_ (Mo_laysParts s1 a1) (fun q5 => bd_ (ldI q5 48 0 a2) (fun v6 => some (v6, q5))) else some (q4, s1))))))))
set_option maxHeartbeats 4000000 in
set_option maxRecDepth 100000 in
theorem c_X10_wouldPart {G : GW} (hG : Good G) {l : Launch} (σ : ST) (a1 : Int32) (a2 : Int32) : Ctr G l yX10_wouldPart cX10_wouldPart 4 (some .int) 3 [.ref (ga G 131 0), .int a1, .int a2] σ oP (Mo_wouldPart σ a1 a2) := by
  refine ctr_of hG (by decide) (Nat.le_of_ble_eq_true rfl) ?_
  intro X hXl hR hX
  have hX : Ok G X cX10_wouldPart 4 RX10 3 := hX
  unfold Mo_wouldPart
  show Sim G X 4 (MQX G X oP) σ 0 [(0, .ref (ga G 131 0)), (1, .int a1), (2, .int a2)] [] _
  refine s_aload_n 0 (n := 1) hX (dec_of D_X10_wouldPart (i := 0) rfl) rfl rfl rfl ?_
  refine s_iconst (v := 0) (n := 2) hX (dec_of D_X10_wouldPart (i := 1) rfl) rfl (by decide) ?_
  refine s_putI (c := 10) (p := 0) (n := 5) hX cls10 (vk131 (by omega)) (dec_of D_X10_wouldPart (i := 2) rfl) rfl rfl (by decide) wd_1346 rfl rfl rfl (fun s1 => ?_)
  refine s_aload_n 0 (n := 6) hX (dec_of D_X10_wouldPart (i := 3) rfl) rfl rfl rfl ?_
  refine s_iload_n 1 (n := 7) hX (dec_of D_X10_wouldPart (i := 4) rfl) rfl rfl rfl ?_
  refine s_callVI (c := 10) (n := 10) hX cls10 (vk131 (by omega)) lk_RX10_257 (dec_of D_X10_wouldPart (i := 5) rfl) rfl (by decide) (c_X10_isLand (l := _) hG _ _) rfl rfl (Nat.le_of_ble_eq_true rfl) (fun q2 => ?_)
  refine s_if_eq (tgt := 21) (n := 13) hX (dec_of D_X10_wouldPart (i := 6) rfl) rfl rfl ?_ ?_
  · refine s_iconst (v := (-1)) (n := 22) hX (dec_of D_X10_wouldPart (i := 11) rfl) rfl (by decide) ?_
    exact s_iret hX hR (dec_of D_X10_wouldPart (i := 12) rfl) rfl
  · refine s_aload_n 0 (n := 14) hX (dec_of D_X10_wouldPart (i := 7) rfl) rfl rfl rfl ?_
    refine s_iload_n 2 (n := 15) hX (dec_of D_X10_wouldPart (i := 8) rfl) rfl rfl rfl ?_
    refine s_callVI (c := 10) (n := 18) hX cls10 (vk131 (by omega)) lk_RX10_264 (dec_of D_X10_wouldPart (i := 9) rfl) rfl (by decide) (c_X10_isPlayer (l := _) hG _ _) rfl rfl (Nat.le_of_ble_eq_true rfl) (fun q3 => ?_)
    refine s_if_ne (tgt := 23) (n := 21) hX (dec_of D_X10_wouldPart (i := 10) rfl) rfl rfl ?_ ?_
    · refine s_aload_n 0 (n := 24) hX (dec_of D_X10_wouldPart (i := 13) rfl) rfl rfl rfl ?_
      refine s_iload_n 1 (n := 25) hX (dec_of D_X10_wouldPart (i := 14) rfl) rfl rfl rfl ?_
      refine s_callVI (c := 10) (n := 28) hX cls10 (vk131 (by omega)) lk_RX10_367 (dec_of D_X10_wouldPart (i := 15) rfl) rfl (by decide) (c_X10_whyNoPart (l := _) hG _ _) rfl rfl (Nat.le_of_ble_eq_true rfl) (fun q4 => ?_)
      refine s_istore_n (lv' := [(0, _), (1, _), (2, _), (3, _)]) [1, 2, 3, 0] (n := 29) hX (dec_of D_X10_wouldPart (i := 16) rfl) rfl rfl (by decide) rfl ?_
      refine s_iload_n 3 (n := 30) hX (dec_of D_X10_wouldPart (i := 17) rfl) rfl rfl rfl ?_
      refine s_if_ge (tgt := 35) (n := 33) hX (dec_of D_X10_wouldPart (i := 18) rfl) rfl rfl ?_ ?_
      · refine s_aload_n 0 (n := 36) hX (dec_of D_X10_wouldPart (i := 21) rfl) rfl rfl rfl ?_
        refine s_iload_n 1 (n := 37) hX (dec_of D_X10_wouldPart (i := 22) rfl) rfl rfl rfl ?_
        refine s_callVV (c := 10) (n := 40) hX cls10 (vk131 (by omega)) lk_RX10_364 (dec_of D_X10_wouldPart (i := 23) rfl) rfl (by decide) (c_X10_laysParts (l := _) hG _ _) rfl rfl (Nat.le_of_ble_eq_true rfl) (fun q5 => ?_)
        refine s_aload_n 0 (n := 41) hX (dec_of D_X10_wouldPart (i := 24) rfl) rfl rfl rfl ?_
        refine s_getR (c := 10) (p := 47) (k' := 48) (n := 44) hX cls10 (vk131 (by omega)) (dec_of D_X10_wouldPart (i := 25) rfl) rfl rfl wd_1393 ?_
        refine s_iload_n 2 (n := 45) hX (dec_of D_X10_wouldPart (i := 26) rfl) rfl rfl rfl ?_
        refine s_iald (n := 46) hX (vk48 (by omega)) (by decide) (dec_of D_X10_wouldPart (i := 27) rfl) rfl (fun v6 => ?_)
        exact s_iret hX hR (dec_of D_X10_wouldPart (i := 28) rfl) rfl
      · refine s_iload_n 3 (n := 34) hX (dec_of D_X10_wouldPart (i := 19) rfl) rfl rfl rfl ?_
        exact s_iret hX hR (dec_of D_X10_wouldPart (i := 20) rfl) rfl
    · refine s_iconst (v := (-1)) (n := 22) hX (dec_of D_X10_wouldPart (i := 11) rfl) rfl (by decide) ?_
      exact s_iret hX hR (dec_of D_X10_wouldPart (i := 12) rfl) rfl
def T_X10_lends : List (Nat × Instr × Nat) := [(0, .aload_n 0, 1), (1, .aload_n 0, 1), (2, .getfield 28, 3), (5, .sipush 2660, 3), (8, .iload_n 1, 1), (9, .iadd, 1), (10, .iaload, 1), (11, .putfield 384, 3), (14, .aload_n 0, 1), (15, .aload_n 0, 1), (16, .getfield 28, 3), (19, .sipush 2666, 3), (22, .iload_n 1, 1), (23, .iadd, 1), (24, .iaload, 1), (25, .putfield 387, 3), (28, .aload_n 0, 1), (29, .getfield 28, 3), (32, .sipush 2660, 3), (35, .iload_n 1, 1), (36, .iadd, 1), (37, .iload_n 2, 1), (38, .iastore, 1), (39, .aload_n 0, 1), (40, .getfield 28, 3), (43, .sipush 2666, 3), (46, .iload_n 1, 1), (47, .iadd, 1), (48, .iload_n 3, 1), (49, .iastore, 1), (50, .return_, 1)]
theorem D_X10_lends : dchk cX10_lends T_X10_lends = true := by decide +kernel
def Mo_lends (σ : ST) (a1 : Int32) (a2 : Int32) (a3 : Int32) : Option ST :=
  bd_ (ldI σ 34 0 (2660 + a1)) (fun v1 => lt_ (setF σ 888 0 v1) (fun s2 => bd_ (ldI s2 34 0 (2666 + a1)) (fun v3 => lt_ (setF s2 889 0 v3) (fun s4 => bd_ (stI s4 34 0 (2660 + a1) a2) (fun s5 => bd_ (stI s5 34 0 (2666 + a1) a3) (fun s6 => some s6))))))
set_option maxHeartbeats 4000000 in
set_option maxRecDepth 100000 in
theorem c_X10_lends {G : GW} (hG : Good G) {l : Launch} (σ : ST) (a1 : Int32) (a2 : Int32) (a3 : Int32) : Ctr G l yX10_lends cX10_lends 4 none 0 [.ref (ga G 131 0), .int a1, .int a2, .int a3] σ oV (Mo_lends σ a1 a2 a3) := by
  refine ctr_of hG (by decide) (Nat.le_of_ble_eq_true rfl) ?_
  intro X hXl hR hX
  have hX : Ok G X cX10_lends 4 RX10 0 := hX
  unfold Mo_lends
  show Sim G X 4 (MQX G X oV) σ 0 [(0, .ref (ga G 131 0)), (1, .int a1), (2, .int a2), (3, .int a3)] [] _
  refine s_aload_n 0 (n := 1) hX (dec_of D_X10_lends (i := 0) rfl) rfl rfl rfl ?_
  refine s_aload_n 0 (n := 2) hX (dec_of D_X10_lends (i := 1) rfl) rfl rfl rfl ?_
  refine s_getR (c := 10) (p := 14) (k' := 34) (n := 5) hX cls10 (vk131 (by omega)) (dec_of D_X10_lends (i := 2) rfl) rfl rfl wd_1360 ?_
  refine s_sipush (v := 2660) (n := 8) hX (dec_of D_X10_lends (i := 3) rfl) rfl (by decide) ?_
  refine s_iload_n 1 (n := 9) hX (dec_of D_X10_lends (i := 4) rfl) rfl rfl rfl ?_
  refine s_iadd (n := 10) hX (dec_of D_X10_lends (i := 5) rfl) rfl ?_
  refine s_iald (n := 11) hX (vk34 (by omega)) (by decide) (dec_of D_X10_lends (i := 6) rfl) rfl (fun v1 => ?_)
  refine s_putI (c := 10) (p := 48) (n := 14) hX cls10 (vk131 (by omega)) (dec_of D_X10_lends (i := 7) rfl) rfl rfl (by decide) wd_1394 rfl rfl rfl (fun s2 => ?_)
  refine s_aload_n 0 (n := 15) hX (dec_of D_X10_lends (i := 8) rfl) rfl rfl rfl ?_
  refine s_aload_n 0 (n := 16) hX (dec_of D_X10_lends (i := 9) rfl) rfl rfl rfl ?_
  refine s_getR (c := 10) (p := 14) (k' := 34) (n := 19) hX cls10 (vk131 (by omega)) (dec_of D_X10_lends (i := 10) rfl) rfl rfl wd_1360 ?_
  refine s_sipush (v := 2666) (n := 22) hX (dec_of D_X10_lends (i := 11) rfl) rfl (by decide) ?_
  refine s_iload_n 1 (n := 23) hX (dec_of D_X10_lends (i := 12) rfl) rfl rfl rfl ?_
  refine s_iadd (n := 24) hX (dec_of D_X10_lends (i := 13) rfl) rfl ?_
  refine s_iald (n := 25) hX (vk34 (by omega)) (by decide) (dec_of D_X10_lends (i := 14) rfl) rfl (fun v3 => ?_)
  refine s_putI (c := 10) (p := 49) (n := 28) hX cls10 (vk131 (by omega)) (dec_of D_X10_lends (i := 15) rfl) rfl rfl (by decide) wd_1395 rfl rfl rfl (fun s4 => ?_)
  refine s_aload_n 0 (n := 29) hX (dec_of D_X10_lends (i := 16) rfl) rfl rfl rfl ?_
  refine s_getR (c := 10) (p := 14) (k' := 34) (n := 32) hX cls10 (vk131 (by omega)) (dec_of D_X10_lends (i := 17) rfl) rfl rfl wd_1360 ?_
  refine s_sipush (v := 2660) (n := 35) hX (dec_of D_X10_lends (i := 18) rfl) rfl (by decide) ?_
  refine s_iload_n 1 (n := 36) hX (dec_of D_X10_lends (i := 19) rfl) rfl rfl rfl ?_
  refine s_iadd (n := 37) hX (dec_of D_X10_lends (i := 20) rfl) rfl ?_
  refine s_iload_n 2 (n := 38) hX (dec_of D_X10_lends (i := 21) rfl) rfl rfl rfl ?_
  refine s_iast (n := 39) hX (vk34 (by omega)) (by decide) (dec_of D_X10_lends (i := 22) rfl) rfl (fun s5 => ?_)
  refine s_aload_n 0 (n := 40) hX (dec_of D_X10_lends (i := 23) rfl) rfl rfl rfl ?_
  refine s_getR (c := 10) (p := 14) (k' := 34) (n := 43) hX cls10 (vk131 (by omega)) (dec_of D_X10_lends (i := 24) rfl) rfl rfl wd_1360 ?_
  refine s_sipush (v := 2666) (n := 46) hX (dec_of D_X10_lends (i := 25) rfl) rfl (by decide) ?_
  refine s_iload_n 1 (n := 47) hX (dec_of D_X10_lends (i := 26) rfl) rfl rfl rfl ?_
  refine s_iadd (n := 48) hX (dec_of D_X10_lends (i := 27) rfl) rfl ?_
  refine s_iload_n 3 (n := 49) hX (dec_of D_X10_lends (i := 28) rfl) rfl rfl rfl ?_
  refine s_iast (n := 50) hX (vk34 (by omega)) (by decide) (dec_of D_X10_lends (i := 29) rfl) rfl (fun s6 => ?_)
  exact s_vret hX hR (dec_of D_X10_lends (i := 30) rfl) rfl
def T_X10_back : List (Nat × Instr × Nat) := [(0, .aload_n 0, 1), (1, .getfield 28, 3), (4, .sipush 2660, 3), (7, .iload_n 1, 1), (8, .iadd, 1), (9, .aload_n 0, 1), (10, .getfield 384, 3), (13, .iastore, 1), (14, .aload_n 0, 1), (15, .getfield 28, 3), (18, .sipush 2666, 3), (21, .iload_n 1, 1), (22, .iadd, 1), (23, .aload_n 0, 1), (24, .getfield 387, 3), (27, .iastore, 1), (28, .return_, 1)]
theorem D_X10_back : dchk cX10_back T_X10_back = true := by decide +kernel
def Mo_back (σ : ST) (a1 : Int32) : Option ST :=
  bd_ (stI σ 34 0 (2660 + a1) (gF σ 888 0)) (fun s1 => bd_ (stI s1 34 0 (2666 + a1) (gF s1 889 0)) (fun s2 => some s2))
set_option maxHeartbeats 4000000 in
set_option maxRecDepth 100000 in
theorem c_X10_back {G : GW} (hG : Good G) {l : Launch} (σ : ST) (a1 : Int32) : Ctr G l yX10_back cX10_back 2 none 0 [.ref (ga G 131 0), .int a1] σ oV (Mo_back σ a1) := by
  refine ctr_of hG (by decide) (Nat.le_of_ble_eq_true rfl) ?_
  intro X hXl hR hX
  have hX : Ok G X cX10_back 2 RX10 0 := hX
  unfold Mo_back
  show Sim G X 2 (MQX G X oV) σ 0 [(0, .ref (ga G 131 0)), (1, .int a1)] [] _
  refine s_aload_n 0 (n := 1) hX (dec_of D_X10_back (i := 0) rfl) rfl rfl rfl ?_
  refine s_getR (c := 10) (p := 14) (k' := 34) (n := 4) hX cls10 (vk131 (by omega)) (dec_of D_X10_back (i := 1) rfl) rfl rfl wd_1360 ?_
  refine s_sipush (v := 2660) (n := 7) hX (dec_of D_X10_back (i := 2) rfl) rfl (by decide) ?_
  refine s_iload_n 1 (n := 8) hX (dec_of D_X10_back (i := 3) rfl) rfl rfl rfl ?_
  refine s_iadd (n := 9) hX (dec_of D_X10_back (i := 4) rfl) rfl ?_
  refine s_aload_n 0 (n := 10) hX (dec_of D_X10_back (i := 5) rfl) rfl rfl rfl ?_
  refine s_getI (c := 10) (p := 48) (id := 888) (n := 13) hX cls10 (vk131 (by omega)) (dec_of D_X10_back (i := 6) rfl) rfl rfl wd_1394 ?_
  refine s_iast (n := 14) hX (vk34 (by omega)) (by decide) (dec_of D_X10_back (i := 7) rfl) rfl (fun s1 => ?_)
  refine s_aload_n 0 (n := 15) hX (dec_of D_X10_back (i := 8) rfl) rfl rfl rfl ?_
  refine s_getR (c := 10) (p := 14) (k' := 34) (n := 18) hX cls10 (vk131 (by omega)) (dec_of D_X10_back (i := 9) rfl) rfl rfl wd_1360 ?_
  refine s_sipush (v := 2666) (n := 21) hX (dec_of D_X10_back (i := 10) rfl) rfl (by decide) ?_
  refine s_iload_n 1 (n := 22) hX (dec_of D_X10_back (i := 11) rfl) rfl rfl rfl ?_
  refine s_iadd (n := 23) hX (dec_of D_X10_back (i := 12) rfl) rfl ?_
  refine s_aload_n 0 (n := 24) hX (dec_of D_X10_back (i := 13) rfl) rfl rfl rfl ?_
  refine s_getI (c := 10) (p := 49) (id := 889) (n := 27) hX cls10 (vk131 (by omega)) (dec_of D_X10_back (i := 14) rfl) rfl rfl wd_1395 ?_
  refine s_iast (n := 28) hX (vk34 (by omega)) (by decide) (dec_of D_X10_back (i := 15) rfl) rfl (fun s2 => ?_)
  exact s_vret hX hR (dec_of D_X10_back (i := 16) rfl) rfl
theorem lk_RX10_391 : LkV RX10 391 RX10 yX10_paidTo cX10_paidTo 7 (some .int) 4 := ⟨wd_1894, wd_1896, wd_72, wd_93, wd_1897, by decide +kernel, by decide⟩
theorem lk_RX10_394 : LkV RX10 394 RX10 yX10_lends cX10_lends 4 none 3 := ⟨wd_1898, wd_1900, wd_73, wd_93, wd_1901, by decide +kernel, by decide⟩
theorem lk_RX10_397 : LkV RX10 397 RX10 yX10_back cX10_back 2 none 1 := ⟨wd_1902, wd_1904, wd_74, wd_93, wd_1905, by decide +kernel, by decide⟩
def T_X10_gain : List (Nat × Instr × Nat) := [(0, .aload_n 0, 1), (1, .iconst 0, 1), (2, .putfield 86, 3), (5, .aload_n 0, 1), (6, .iload_n 1, 1), (7, .invokevirtual 264, 3), (10, .ifCond .eq 37, 3), (13, .aload_n 0, 1), (14, .iload_n 2, 1), (15, .invokevirtual 257, 3), (18, .ifCond .eq 29, 3), (21, .aload_n 0, 1), (22, .iload_n 3, 1), (23, .invokevirtual 241, 3), (26, .ifCond .eq 21, 3), (29, .iload 4, 2), (31, .invokestatic 324, 3), (34, .ifCond .eq 13, 3), (37, .iload 5, 2), (39, .iload 6, 2), (41, .invokestatic 373, 3), (44, .ifCond .ne 7, 3), (47, .ldc_w 390, 3), (50, .ireturn, 1), (51, .iload 4, 2), (53, .aload_n 0, 1), (54, .getfield 13, 3), (57, .iload_n 2, 1), (58, .iaload, 1), (59, .imul, 1), (60, .istore 7, 2), (62, .aload_n 0, 1), (63, .iload_n 1, 1), (64, .iload_n 2, 1), (65, .iload_n 3, 1), (66, .iload 7, 2), (68, .invokevirtual 391, 3), (71, .istore 8, 2), (73, .aload_n 0, 1), (74, .iload_n 2, 1), (75, .iload 5, 2), (77, .iload 6, 2), (79, .invokevirtual 394, 3), (82, .aload_n 0, 1), (83, .iload_n 1, 1), (84, .iload_n 2, 1), (85, .iload_n 3, 1), (86, .iload 7, 2), (88, .invokevirtual 391, 3), (91, .istore 9, 2), (93, .aload_n 0, 1), (94, .iload_n 2, 1), (95, .invokevirtual 397, 3), (98, .iload 9, 2), (100, .iload 8, 2), (102, .isub, 1), (103, .ireturn, 1)]
theorem D_X10_gain : dchk cX10_gain T_X10_gain = true := by decide +kernel
def Mo_gain (σ : ST) (a1 : Int32) (a2 : Int32) (a3 : Int32) (a4 : Int32) (a5 : Int32) (a6 : Int32) : Option (Int32 × ST) :=
  lt_ (setF σ 840 0 0) (fun s1 => bd_ (Mo_isPlayer s1 a1) (fun q2 => (if q2 = 0 then some ((-1000000000), s1) else bd_ (Mo_isLand s1 a2) (fun q3 => (if q3 = 0 then some ((-1000000000), s1) else bd_ (Mo_isSession s1 a3) (fun q4 => (if q4 = 0 then some ((-1000000000), s1) else bd_ (Mo_areCopies s1 a4) (fun q5 => (if q5 = 0 then some ((-1000000000), s1) else bd_ (Mo_areTerms s1 a5 a6) (fun q6 => (if q6 = 0 then some ((-1000000000), s1) else bd_ (ldI s1 29 0 a2) (fun v7 => lt_ ((a4 * v7)) (fun x8 => bd_ (Mo_paidTo s1 a1 a2 a3 x8) (fun q9 => bd_ (Mo_lends q9.2 a2 a5 a6) (fun q10 => bd_ (Mo_paidTo q10 a1 a2 a3 x8) (fun q11 => bd_ (Mo_back q11.2 a2) (fun q12 => some ((q11.1 - q9.1), q12))))))))))))))))))
set_option maxHeartbeats 4000000 in
set_option maxRecDepth 100000 in
theorem c_X10_gain {G : GW} (hG : Good G) {l : Launch} (σ : ST) (a1 : Int32) (a2 : Int32) (a3 : Int32) (a4 : Int32) (a5 : Int32) (a6 : Int32) : Ctr G l yX10_gain cX10_gain 10 (some .int) 4 [.ref (ga G 131 0), .int a1, .int a2, .int a3, .int a4, .int a5, .int a6] σ oP (Mo_gain σ a1 a2 a3 a4 a5 a6) := by
  refine ctr_of hG (by decide) (Nat.le_of_ble_eq_true rfl) ?_
  intro X hXl hR hX
  have hX : Ok G X cX10_gain 10 RX10 4 := hX
  unfold Mo_gain
  show Sim G X 10 (MQX G X oP) σ 0 [(0, .ref (ga G 131 0)), (1, .int a1), (2, .int a2), (3, .int a3), (4, .int a4), (5, .int a5), (6, .int a6)] [] _
  refine s_aload_n 0 (n := 1) hX (dec_of D_X10_gain (i := 0) rfl) rfl rfl rfl ?_
  refine s_iconst (v := 0) (n := 2) hX (dec_of D_X10_gain (i := 1) rfl) rfl (by decide) ?_
  refine s_putI (c := 10) (p := 0) (n := 5) hX cls10 (vk131 (by omega)) (dec_of D_X10_gain (i := 2) rfl) rfl rfl (by decide) wd_1346 rfl rfl rfl (fun s1 => ?_)
  refine s_aload_n 0 (n := 6) hX (dec_of D_X10_gain (i := 3) rfl) rfl rfl rfl ?_
  refine s_iload_n 1 (n := 7) hX (dec_of D_X10_gain (i := 4) rfl) rfl rfl rfl ?_
  refine s_callVI (c := 10) (n := 10) hX cls10 (vk131 (by omega)) lk_RX10_264 (dec_of D_X10_gain (i := 5) rfl) rfl (by decide) (c_X10_isPlayer (l := _) hG _ _) rfl rfl (Nat.le_of_ble_eq_true rfl) (fun q2 => ?_)
  refine s_if_eq (tgt := 47) (n := 13) hX (dec_of D_X10_gain (i := 6) rfl) rfl rfl ?_ ?_
  · refine s_ldcw (v := (-1000000000)) (n := 50) hX (dec_of D_X10_gain (i := 22) rfl) rfl wd_1893 ?_
    exact s_iret hX hR (dec_of D_X10_gain (i := 23) rfl) rfl
  · refine s_aload_n 0 (n := 14) hX (dec_of D_X10_gain (i := 7) rfl) rfl rfl rfl ?_
    refine s_iload_n 2 (n := 15) hX (dec_of D_X10_gain (i := 8) rfl) rfl rfl rfl ?_
    refine s_callVI (c := 10) (n := 18) hX cls10 (vk131 (by omega)) lk_RX10_257 (dec_of D_X10_gain (i := 9) rfl) rfl (by decide) (c_X10_isLand (l := _) hG _ _) rfl rfl (Nat.le_of_ble_eq_true rfl) (fun q3 => ?_)
    refine s_if_eq (tgt := 47) (n := 21) hX (dec_of D_X10_gain (i := 10) rfl) rfl rfl ?_ ?_
    · refine s_ldcw (v := (-1000000000)) (n := 50) hX (dec_of D_X10_gain (i := 22) rfl) rfl wd_1893 ?_
      exact s_iret hX hR (dec_of D_X10_gain (i := 23) rfl) rfl
    · refine s_aload_n 0 (n := 22) hX (dec_of D_X10_gain (i := 11) rfl) rfl rfl rfl ?_
      refine s_iload_n 3 (n := 23) hX (dec_of D_X10_gain (i := 12) rfl) rfl rfl rfl ?_
      refine s_callVI (c := 10) (n := 26) hX cls10 (vk131 (by omega)) lk_RX10_241 (dec_of D_X10_gain (i := 13) rfl) rfl (by decide) (c_X10_isSession (l := _) hG _ _) rfl rfl (Nat.le_of_ble_eq_true rfl) (fun q4 => ?_)
      refine s_if_eq (tgt := 47) (n := 29) hX (dec_of D_X10_gain (i := 14) rfl) rfl rfl ?_ ?_
      · refine s_ldcw (v := (-1000000000)) (n := 50) hX (dec_of D_X10_gain (i := 22) rfl) rfl wd_1893 ?_
        exact s_iret hX hR (dec_of D_X10_gain (i := 23) rfl) rfl
      · refine s_iload 4 (n := 31) hX (dec_of D_X10_gain (i := 15) rfl) rfl rfl ?_
        refine s_callSI (n := 34) hX lk_RX10_324 (dec_of D_X10_gain (i := 16) rfl) rfl (by decide) (c_X10_areCopies (l := _) hG _ _) rfl rfl (Nat.le_of_ble_eq_true rfl) (fun q5 => ?_)
        refine s_if_eq (tgt := 47) (n := 37) hX (dec_of D_X10_gain (i := 17) rfl) rfl rfl ?_ ?_
        · refine s_ldcw (v := (-1000000000)) (n := 50) hX (dec_of D_X10_gain (i := 22) rfl) rfl wd_1893 ?_
          exact s_iret hX hR (dec_of D_X10_gain (i := 23) rfl) rfl
        · refine s_iload 5 (n := 39) hX (dec_of D_X10_gain (i := 18) rfl) rfl rfl ?_
          refine s_iload 6 (n := 41) hX (dec_of D_X10_gain (i := 19) rfl) rfl rfl ?_
          refine s_callSI (n := 44) hX lk_RX10_373 (dec_of D_X10_gain (i := 20) rfl) rfl (by decide) (c_X10_areTerms (l := _) hG _ _ _) rfl rfl (Nat.le_of_ble_eq_true rfl) (fun q6 => ?_)
          refine s_if_ne (tgt := 51) (n := 47) hX (dec_of D_X10_gain (i := 21) rfl) rfl rfl ?_ ?_
          · refine s_iload 4 (n := 53) hX (dec_of D_X10_gain (i := 24) rfl) rfl rfl ?_
            refine s_aload_n 0 (n := 54) hX (dec_of D_X10_gain (i := 25) rfl) rfl rfl rfl ?_
            refine s_getR (c := 10) (p := 3) (k' := 29) (n := 57) hX cls10 (vk131 (by omega)) (dec_of D_X10_gain (i := 26) rfl) rfl rfl wd_1349 ?_
            refine s_iload_n 2 (n := 58) hX (dec_of D_X10_gain (i := 27) rfl) rfl rfl rfl ?_
            refine s_iald (n := 59) hX (vk29 (by omega)) (by decide) (dec_of D_X10_gain (i := 28) rfl) rfl (fun v7 => ?_)
            refine s_imul (n := 60) hX (dec_of D_X10_gain (i := 29) rfl) rfl ?_
            refine s_topi (fun x8 => ?_)
            refine s_istore (lv' := [(0, _), (1, _), (2, _), (3, _), (4, _), (5, _), (6, _), (7, _)]) [1, 2, 3, 4, 5, 6, 7, 0] (n := 62) hX (dec_of D_X10_gain (i := 30) rfl) rfl (by decide) rfl ?_
            refine s_aload_n 0 (n := 63) hX (dec_of D_X10_gain (i := 31) rfl) rfl rfl rfl ?_
            refine s_iload_n 1 (n := 64) hX (dec_of D_X10_gain (i := 32) rfl) rfl rfl rfl ?_
            refine s_iload_n 2 (n := 65) hX (dec_of D_X10_gain (i := 33) rfl) rfl rfl rfl ?_
            refine s_iload_n 3 (n := 66) hX (dec_of D_X10_gain (i := 34) rfl) rfl rfl rfl ?_
            refine s_iload 7 (n := 68) hX (dec_of D_X10_gain (i := 35) rfl) rfl rfl ?_
            refine s_callVP (c := 10) (n := 71) hX cls10 (vk131 (by omega)) lk_RX10_391 (dec_of D_X10_gain (i := 36) rfl) rfl (by decide) (c_X10_paidTo (l := _) hG _ _ _ _ _) rfl rfl (Nat.le_of_ble_eq_true rfl) (fun q9 => ?_)
            refine s_istore (lv' := [(0, _), (1, _), (2, _), (3, _), (4, _), (5, _), (6, _), (7, _), (8, _)]) [1, 2, 3, 4, 5, 6, 7, 8, 0] (n := 73) hX (dec_of D_X10_gain (i := 37) rfl) rfl (by decide) rfl ?_
            refine s_aload_n 0 (n := 74) hX (dec_of D_X10_gain (i := 38) rfl) rfl rfl rfl ?_
            refine s_iload_n 2 (n := 75) hX (dec_of D_X10_gain (i := 39) rfl) rfl rfl rfl ?_
            refine s_iload 5 (n := 77) hX (dec_of D_X10_gain (i := 40) rfl) rfl rfl ?_
            refine s_iload 6 (n := 79) hX (dec_of D_X10_gain (i := 41) rfl) rfl rfl ?_
            refine s_callVV (c := 10) (n := 82) hX cls10 (vk131 (by omega)) lk_RX10_394 (dec_of D_X10_gain (i := 42) rfl) rfl (by decide) (c_X10_lends (l := _) hG _ _ _ _) rfl rfl (Nat.le_of_ble_eq_true rfl) (fun q10 => ?_)
            refine s_aload_n 0 (n := 83) hX (dec_of D_X10_gain (i := 43) rfl) rfl rfl rfl ?_
            refine s_iload_n 1 (n := 84) hX (dec_of D_X10_gain (i := 44) rfl) rfl rfl rfl ?_
            refine s_iload_n 2 (n := 85) hX (dec_of D_X10_gain (i := 45) rfl) rfl rfl rfl ?_
            refine s_iload_n 3 (n := 86) hX (dec_of D_X10_gain (i := 46) rfl) rfl rfl rfl ?_
            refine s_iload 7 (n := 88) hX (dec_of D_X10_gain (i := 47) rfl) rfl rfl ?_
            refine s_callVP (c := 10) (n := 91) hX cls10 (vk131 (by omega)) lk_RX10_391 (dec_of D_X10_gain (i := 48) rfl) rfl (by decide) (c_X10_paidTo (l := _) hG _ _ _ _ _) rfl rfl (Nat.le_of_ble_eq_true rfl) (fun q11 => ?_)
            refine s_istore (lv' := [(0, _), (1, _), (2, _), (3, _), (4, _), (5, _), (6, _), (7, _), (8, _), (9, _)]) [1, 2, 3, 4, 5, 6, 7, 8, 9, 0] (n := 93) hX (dec_of D_X10_gain (i := 49) rfl) rfl (by decide) rfl ?_
            refine s_aload_n 0 (n := 94) hX (dec_of D_X10_gain (i := 50) rfl) rfl rfl rfl ?_
            refine s_iload_n 2 (n := 95) hX (dec_of D_X10_gain (i := 51) rfl) rfl rfl rfl ?_
            refine s_callVV (c := 10) (n := 98) hX cls10 (vk131 (by omega)) lk_RX10_397 (dec_of D_X10_gain (i := 52) rfl) rfl (by decide) (c_X10_back (l := _) hG _ _) rfl rfl (Nat.le_of_ble_eq_true rfl) (fun q12 => ?_)
            refine s_iload 9 (n := 100) hX (dec_of D_X10_gain (i := 53) rfl) rfl rfl ?_
            refine s_iload 8 (n := 102) hX (dec_of D_X10_gain (i := 54) rfl) rfl rfl ?_
            refine s_isub (n := 103) hX (dec_of D_X10_gain (i := 55) rfl) rfl ?_
            exact s_iret hX hR (dec_of D_X10_gain (i := 56) rfl) rfl
          · refine s_ldcw (v := (-1000000000)) (n := 50) hX (dec_of D_X10_gain (i := 22) rfl) rfl wd_1893 ?_
            exact s_iret hX hR (dec_of D_X10_gain (i := 23) rfl) rfl
def T_X10_pairs : List (Nat × Instr × Nat) := [(0, .aload_n 0, 1), (1, .iconst 0, 1), (2, .putfield 86, 3), (5, .iload_n 1, 1), (6, .invokestatic 296, 3), (9, .ifCond .eq 20, 3), (12, .aload_n 0, 1), (13, .iload_n 2, 1), (14, .invokevirtual 257, 3), (17, .ifCond .eq 12, 3), (20, .iload_n 3, 1), (21, .iload 4, 2), (23, .invokestatic 373, 3), (26, .ifCond .ne 5, 3), (29, .iconst (-1), 1), (30, .ireturn, 1), (31, .aload_n 0, 1), (32, .iload_n 2, 1), (33, .iload_n 3, 1), (34, .iload 4, 2), (36, .invokevirtual 394, 3), (39, .iconst 0, 1), (40, .istore 5, 2), (42, .iconst 0, 1), (43, .istore 6, 2), (45, .iload 6, 2), (47, .aload_n 0, 1), (48, .getfield 229, 3), (51, .if_icmp .ge 56, 3), (54, .iconst 0, 1), (55, .istore 7, 2), (57, .iload 7, 2), (59, .aload_n 0, 1), (60, .getfield 229, 3), (63, .if_icmp .ge 38, 3), (66, .iload 5, 2), (68, .iload 6, 2), (70, .iload 7, 2), (72, .if_icmp .eq 19, 3), (75, .aload_n 0, 1), (76, .iload 6, 2), (78, .iload 7, 2), (80, .iload_n 1, 1), (81, .invokevirtual 279, 3), (84, .ifCond .eq 7, 3), (87, .iconst 1, 1), (88, .goto 4, 3), (91, .iconst 0, 1), (92, .iadd, 1), (93, .istore 5, 2), (95, .iinc 7 1, 3), (98, .goto (-41), 3), (101, .iinc 6 1, 3), (104, .goto (-59), 3), (107, .aload_n 0, 1), (108, .iload_n 2, 1), (109, .invokevirtual 397, 3), (112, .iload 5, 2), (114, .ireturn, 1)]
theorem D_X10_pairs : dchk cX10_pairs T_X10_pairs = true := by decide +kernel
def Mo_pairs (σ : ST) (a1 : Int32) (a2 : Int32) (a3 : Int32) (a4 : Int32) : Option (Int32 × ST) :=
  lt_ (setF σ 840 0 0) (fun s1 => bd_ (Mo_isRole s1 a1) (fun q2 => (if q2 = 0 then some ((-1), s1) else bd_ (Mo_isLand s1 a2) (fun q3 => (if q3 = 0 then some ((-1), s1) else bd_ (Mo_areTerms s1 a3 a4) (fun q4 => (if q4 = 0 then some ((-1), s1) else bd_ (Mo_lends s1 a2 a3 a4) (fun q5 => lp_ (fun rec7 (z6 : Int32 × Int32) => (if (gF q5 850 0) ≤ z6.2 then bd_ (Mo_back q5 a2) (fun q9 => some (z6.1, q9)) else lp_ (fun rec11 (z10 : Int32 × Int32) => (if (gF q5 850 0) ≤ z10.2 then rec7 (z10.1, (z6.2 + 1)) else (if z6.2 = z10.2 then lt_ ((z10.1 + 0)) (fun x13 => rec11 (x13, (z10.2 + 1))) else bd_ (Mo_doesPay q5 z6.2 z10.2 a1) (fun q14 => (if q14 = 0 then lt_ ((z10.1 + 0)) (fun x15 => rec11 (x15, (z10.2 + 1))) else lt_ ((z10.1 + 1)) (fun x16 => rec11 (x16, (z10.2 + 1)))))))) FU (z6.1, 0))) FU (0, 0)))))))))
set_option maxHeartbeats 4000000 in
set_option maxRecDepth 100000 in
theorem c_X10_pairs {G : GW} (hG : Good G) {l : Launch} (σ : ST) (a1 : Int32) (a2 : Int32) (a3 : Int32) (a4 : Int32) : Ctr G l yX10_pairs cX10_pairs 8 (some .int) 1 [.ref (ga G 131 0), .int a1, .int a2, .int a3, .int a4] σ oP (Mo_pairs σ a1 a2 a3 a4) := by
  refine ctr_of hG (by decide) (Nat.le_of_ble_eq_true rfl) ?_
  intro X hXl hR hX
  have hX : Ok G X cX10_pairs 8 RX10 1 := hX
  unfold Mo_pairs
  show Sim G X 8 (MQX G X oP) σ 0 [(0, .ref (ga G 131 0)), (1, .int a1), (2, .int a2), (3, .int a3), (4, .int a4)] [] _
  refine s_aload_n 0 (n := 1) hX (dec_of D_X10_pairs (i := 0) rfl) rfl rfl rfl ?_
  refine s_iconst (v := 0) (n := 2) hX (dec_of D_X10_pairs (i := 1) rfl) rfl (by decide) ?_
  refine s_putI (c := 10) (p := 0) (n := 5) hX cls10 (vk131 (by omega)) (dec_of D_X10_pairs (i := 2) rfl) rfl rfl (by decide) wd_1346 rfl rfl rfl (fun s1 => ?_)
  refine s_iload_n 1 (n := 6) hX (dec_of D_X10_pairs (i := 3) rfl) rfl rfl rfl ?_
  refine s_callSI (n := 9) hX lk_RX10_296 (dec_of D_X10_pairs (i := 4) rfl) rfl (by decide) (c_X10_isRole (l := _) hG _ _) rfl rfl (Nat.le_of_ble_eq_true rfl) (fun q2 => ?_)
  refine s_if_eq (tgt := 29) (n := 12) hX (dec_of D_X10_pairs (i := 5) rfl) rfl rfl ?_ ?_
  · refine s_iconst (v := (-1)) (n := 30) hX (dec_of D_X10_pairs (i := 14) rfl) rfl (by decide) ?_
    exact s_iret hX hR (dec_of D_X10_pairs (i := 15) rfl) rfl
  · refine s_aload_n 0 (n := 13) hX (dec_of D_X10_pairs (i := 6) rfl) rfl rfl rfl ?_
    refine s_iload_n 2 (n := 14) hX (dec_of D_X10_pairs (i := 7) rfl) rfl rfl rfl ?_
    refine s_callVI (c := 10) (n := 17) hX cls10 (vk131 (by omega)) lk_RX10_257 (dec_of D_X10_pairs (i := 8) rfl) rfl (by decide) (c_X10_isLand (l := _) hG _ _) rfl rfl (Nat.le_of_ble_eq_true rfl) (fun q3 => ?_)
    refine s_if_eq (tgt := 29) (n := 20) hX (dec_of D_X10_pairs (i := 9) rfl) rfl rfl ?_ ?_
    · refine s_iconst (v := (-1)) (n := 30) hX (dec_of D_X10_pairs (i := 14) rfl) rfl (by decide) ?_
      exact s_iret hX hR (dec_of D_X10_pairs (i := 15) rfl) rfl
    · refine s_iload_n 3 (n := 21) hX (dec_of D_X10_pairs (i := 10) rfl) rfl rfl rfl ?_
      refine s_iload 4 (n := 23) hX (dec_of D_X10_pairs (i := 11) rfl) rfl rfl ?_
      refine s_callSI (n := 26) hX lk_RX10_373 (dec_of D_X10_pairs (i := 12) rfl) rfl (by decide) (c_X10_areTerms (l := _) hG _ _ _) rfl rfl (Nat.le_of_ble_eq_true rfl) (fun q4 => ?_)
      refine s_if_ne (tgt := 31) (n := 29) hX (dec_of D_X10_pairs (i := 13) rfl) rfl rfl ?_ ?_
      · refine s_aload_n 0 (n := 32) hX (dec_of D_X10_pairs (i := 16) rfl) rfl rfl rfl ?_
        refine s_iload_n 2 (n := 33) hX (dec_of D_X10_pairs (i := 17) rfl) rfl rfl rfl ?_
        refine s_iload_n 3 (n := 34) hX (dec_of D_X10_pairs (i := 18) rfl) rfl rfl rfl ?_
        refine s_iload 4 (n := 36) hX (dec_of D_X10_pairs (i := 19) rfl) rfl rfl ?_
        refine s_callVV (c := 10) (n := 39) hX cls10 (vk131 (by omega)) lk_RX10_394 (dec_of D_X10_pairs (i := 20) rfl) rfl (by decide) (c_X10_lends (l := _) hG _ _ _ _) rfl rfl (Nat.le_of_ble_eq_true rfl) (fun q5 => ?_)
        refine s_iconst (v := 0) (n := 40) hX (dec_of D_X10_pairs (i := 21) rfl) rfl (by decide) ?_
        refine s_istore (lv' := [(0, _), (1, _), (2, _), (3, _), (4, _), (5, _)]) [1, 2, 3, 4, 5, 0] (n := 42) hX (dec_of D_X10_pairs (i := 22) rfl) rfl (by decide) rfl ?_
        refine s_iconst (v := 0) (n := 43) hX (dec_of D_X10_pairs (i := 23) rfl) rfl (by decide) ?_
        refine s_istore (lv' := [(0, _), (1, _), (2, _), (3, _), (4, _), (5, _), (6, _)]) [1, 2, 3, 4, 5, 6, 0] (n := 45) hX (dec_of D_X10_pairs (i := 24) rfl) rfl (by decide) rfl ?_
        refine s_sub [0, 1, 2, 5, 6] rfl (s_lp (pc := 45) (Sf := fun (z6 : Int32 × Int32) => q5) (lvf := fun (z6 : Int32 × Int32) => [(0, .ref (ga G 131 0)), (1, .int a1), (2, .int a2), (5, .int z6.1), (6, .int z6.2)]) (fun rec7 hre8 z6 => ?_) FU (0, 0))
        refine s_iload 4 (n := 47) hX (dec_of D_X10_pairs (i := 25) rfl) rfl rfl ?_
        refine s_aload_n 0 (n := 48) hX (dec_of D_X10_pairs (i := 26) rfl) rfl rfl rfl ?_
        refine s_getI (c := 10) (p := 10) (id := 850) (n := 51) hX cls10 (vk131 (by omega)) (dec_of D_X10_pairs (i := 27) rfl) rfl rfl wd_1356 ?_
        refine s_icmp_ge (tgt := 107) (n := 54) hX (dec_of D_X10_pairs (i := 28) rfl) rfl rfl ?_ ?_
        · refine s_aload_n 0 (n := 108) hX (dec_of D_X10_pairs (i := 54) rfl) rfl rfl rfl ?_
          refine s_iload_n 2 (n := 109) hX (dec_of D_X10_pairs (i := 55) rfl) rfl rfl rfl ?_
          refine s_callVV (c := 10) (n := 112) hX cls10 (vk131 (by omega)) lk_RX10_397 (dec_of D_X10_pairs (i := 56) rfl) rfl (by decide) (c_X10_back (l := _) hG _ _) rfl rfl (Nat.le_of_ble_eq_true rfl) (fun q9 => ?_)
          refine s_iload 3 (n := 114) hX (dec_of D_X10_pairs (i := 57) rfl) rfl rfl ?_
          exact s_iret hX hR (dec_of D_X10_pairs (i := 58) rfl) rfl
        · refine s_iconst (v := 0) (n := 55) hX (dec_of D_X10_pairs (i := 29) rfl) rfl (by decide) ?_
          refine s_istore (lv' := [(0, _), (1, _), (2, _), (5, _), (6, _), (7, _)]) [1, 2, 3, 4, 5, 0] (n := 57) hX (dec_of D_X10_pairs (i := 30) rfl) rfl (by decide) rfl ?_
          refine s_sub [0, 1, 2, 3, 4, 5] rfl (s_lp (pc := 57) (Sf := fun (z10 : Int32 × Int32) => q5) (lvf := fun (z10 : Int32 × Int32) => [(0, .ref (ga G 131 0)), (1, .int a1), (2, .int a2), (5, .int z10.1), (6, .int z6.2), (7, .int z10.2)]) (fun rec11 hre12 z10 => ?_) FU (z6.1, 0))
          refine s_iload 5 (n := 59) hX (dec_of D_X10_pairs (i := 31) rfl) rfl rfl ?_
          refine s_aload_n 0 (n := 60) hX (dec_of D_X10_pairs (i := 32) rfl) rfl rfl rfl ?_
          refine s_getI (c := 10) (p := 10) (id := 850) (n := 63) hX cls10 (vk131 (by omega)) (dec_of D_X10_pairs (i := 33) rfl) rfl rfl wd_1356 ?_
          refine s_icmp_ge (tgt := 101) (n := 66) hX (dec_of D_X10_pairs (i := 34) rfl) rfl rfl ?_ ?_
          · refine s_iinc (v := z6.2 + 1) (lv' := [(0, _), (1, _), (2, _), (5, _), (6, _), (7, _)]) 4 [1, 2, 3, 4, 0, 5] (n := 104) hX (dec_of D_X10_pairs (i := 52) rfl) rfl rfl rfl (by decide) rfl ?_
            refine s_goto (n := 45) hX (dec_of D_X10_pairs (i := 53) rfl) rfl ?_
            exact s_sub [0, 1, 2, 3, 4] rfl (hre8 (z10.1, (z6.2 + 1)))
          · refine s_iload 3 (n := 68) hX (dec_of D_X10_pairs (i := 35) rfl) rfl rfl ?_
            refine s_iload 4 (n := 70) hX (dec_of D_X10_pairs (i := 36) rfl) rfl rfl ?_
            refine s_iload 5 (n := 72) hX (dec_of D_X10_pairs (i := 37) rfl) rfl rfl ?_
            refine s_icmp_eq (tgt := 91) (n := 75) hX (dec_of D_X10_pairs (i := 38) rfl) rfl rfl ?_ ?_
            · refine s_iconst (v := 0) (n := 92) hX (dec_of D_X10_pairs (i := 47) rfl) rfl (by decide) ?_
              refine s_iadd (n := 93) hX (dec_of D_X10_pairs (i := 48) rfl) rfl ?_
              refine s_topi (fun x13 => ?_)
              refine s_istore (lv' := [(0, _), (1, _), (2, _), (5, _), (6, _), (7, _)]) [1, 2, 3, 0, 4, 5] (n := 95) hX (dec_of D_X10_pairs (i := 49) rfl) rfl (by decide) rfl ?_
              refine s_iinc (v := z10.2 + 1) (lv' := [(0, _), (1, _), (2, _), (5, _), (6, _), (7, _)]) 5 [1, 2, 3, 4, 5, 0] (n := 98) hX (dec_of D_X10_pairs (i := 50) rfl) rfl rfl rfl (by decide) rfl ?_
              refine s_goto (n := 57) hX (dec_of D_X10_pairs (i := 51) rfl) rfl ?_
              exact s_sub [0, 1, 2, 3, 4, 5] rfl (hre12 (x13, (z10.2 + 1)))
            · refine s_aload_n 0 (n := 76) hX (dec_of D_X10_pairs (i := 39) rfl) rfl rfl rfl ?_
              refine s_iload 4 (n := 78) hX (dec_of D_X10_pairs (i := 40) rfl) rfl rfl ?_
              refine s_iload 5 (n := 80) hX (dec_of D_X10_pairs (i := 41) rfl) rfl rfl ?_
              refine s_iload_n 1 (n := 81) hX (dec_of D_X10_pairs (i := 42) rfl) rfl rfl rfl ?_
              refine s_callVI (c := 10) (n := 84) hX cls10 (vk131 (by omega)) lk_RX10_279 (dec_of D_X10_pairs (i := 43) rfl) rfl (by decide) (c_X10_doesPay (l := _) hG _ _ _ _) rfl rfl (Nat.le_of_ble_eq_true rfl) (fun q14 => ?_)
              refine s_if_eq (tgt := 91) (n := 87) hX (dec_of D_X10_pairs (i := 44) rfl) rfl rfl ?_ ?_
              · refine s_iconst (v := 0) (n := 92) hX (dec_of D_X10_pairs (i := 47) rfl) rfl (by decide) ?_
                refine s_iadd (n := 93) hX (dec_of D_X10_pairs (i := 48) rfl) rfl ?_
                refine s_topi (fun x15 => ?_)
                refine s_istore (lv' := [(0, _), (1, _), (2, _), (5, _), (6, _), (7, _)]) [1, 2, 3, 0, 4, 5] (n := 95) hX (dec_of D_X10_pairs (i := 49) rfl) rfl (by decide) rfl ?_
                refine s_iinc (v := z10.2 + 1) (lv' := [(0, _), (1, _), (2, _), (5, _), (6, _), (7, _)]) 5 [1, 2, 3, 4, 5, 0] (n := 98) hX (dec_of D_X10_pairs (i := 50) rfl) rfl rfl rfl (by decide) rfl ?_
                refine s_goto (n := 57) hX (dec_of D_X10_pairs (i := 51) rfl) rfl ?_
                exact s_sub [0, 1, 2, 3, 4, 5] rfl (hre12 (x15, (z10.2 + 1)))
              · refine s_iconst (v := 1) (n := 88) hX (dec_of D_X10_pairs (i := 45) rfl) rfl (by decide) ?_
                refine s_goto (n := 92) hX (dec_of D_X10_pairs (i := 46) rfl) rfl ?_
                refine s_iadd (n := 93) hX (dec_of D_X10_pairs (i := 48) rfl) rfl ?_
                refine s_topi (fun x16 => ?_)
                refine s_istore (lv' := [(0, _), (1, _), (2, _), (5, _), (6, _), (7, _)]) [1, 2, 3, 0, 4, 5] (n := 95) hX (dec_of D_X10_pairs (i := 49) rfl) rfl (by decide) rfl ?_
                refine s_iinc (v := z10.2 + 1) (lv' := [(0, _), (1, _), (2, _), (5, _), (6, _), (7, _)]) 5 [1, 2, 3, 4, 5, 0] (n := 98) hX (dec_of D_X10_pairs (i := 50) rfl) rfl rfl rfl (by decide) rfl ?_
                refine s_goto (n := 57) hX (dec_of D_X10_pairs (i := 51) rfl) rfl ?_
                exact s_sub [0, 1, 2, 3, 4, 5] rfl (hre12 (x16, (z10.2 + 1)))
      · refine s_iconst (v := (-1)) (n := 30) hX (dec_of D_X10_pairs (i := 14) rfl) rfl (by decide) ?_
        exact s_iret hX hR (dec_of D_X10_pairs (i := 15) rfl) rfl
def T_X10_paidFor : List (Nat × Instr × Nat) := [(0, .iload_n 2, 1), (1, .iconst (-1), 1), (2, .if_icmp .ne 11, 3), (5, .aload_n 0, 1), (6, .iload_n 1, 1), (7, .invokevirtual 267, 3), (10, .goto 9, 3), (13, .aload_n 0, 1), (14, .iload_n 1, 1), (15, .iload_n 2, 1), (16, .invokevirtual 248, 3), (19, .ireturn, 1)]
theorem D_X10_paidFor : dchk cX10_paidFor T_X10_paidFor = true := by decide +kernel
def Mo_paidFor (σ : ST) (a1 : Int32) (a2 : Int32) : Option Int32 :=
  (if a2 = (-1) then bd_ (Mo_paidAll (σ) a1) (fun q2 => some q2) else bd_ (Mo_paidIn (σ) a1 a2) (fun q1 => some q1))
set_option maxHeartbeats 4000000 in
set_option maxRecDepth 100000 in
theorem c_X10_paidFor {G : GW} (hG : Good G) {l : Launch} (σ : ST) (a1 : Int32) (a2 : Int32) : Ctr G l yX10_paidFor cX10_paidFor 3 (some .int) 2 [.ref (ga G 131 0), .int a1, .int a2] σ (oI σ) (Mo_paidFor σ a1 a2) := by
  refine ctr_of hG (by decide) (Nat.le_of_ble_eq_true rfl) ?_
  intro X hXl hR hX
  have hX : Ok G X cX10_paidFor 3 RX10 2 := hX
  unfold Mo_paidFor
  show Sim G X 3 (MQX G X (oI σ)) σ 0 [(0, .ref (ga G 131 0)), (1, .int a1), (2, .int a2)] [] _
  refine s_iload_n 2 (n := 1) hX (dec_of D_X10_paidFor (i := 0) rfl) rfl rfl rfl ?_
  refine s_iconst (v := (-1)) (n := 2) hX (dec_of D_X10_paidFor (i := 1) rfl) rfl (by decide) ?_
  refine s_icmp_ne (tgt := 13) (n := 5) hX (dec_of D_X10_paidFor (i := 2) rfl) rfl rfl ?_ ?_
  · refine s_aload_n 0 (n := 14) hX (dec_of D_X10_paidFor (i := 7) rfl) rfl rfl rfl ?_
    refine s_iload_n 1 (n := 15) hX (dec_of D_X10_paidFor (i := 8) rfl) rfl rfl rfl ?_
    refine s_iload_n 2 (n := 16) hX (dec_of D_X10_paidFor (i := 9) rfl) rfl rfl rfl ?_
    refine s_callVI (c := 10) (n := 19) hX cls10 (vk131 (by omega)) lk_RX10_248 (dec_of D_X10_paidFor (i := 10) rfl) rfl (by decide) (c_X10_paidIn (l := _) hG _ _ _) rfl rfl (Nat.le_of_ble_eq_true rfl) (fun q1 => ?_)
    exact s_iret hX hR (dec_of D_X10_paidFor (i := 11) rfl) rfl
  · refine s_aload_n 0 (n := 6) hX (dec_of D_X10_paidFor (i := 3) rfl) rfl rfl rfl ?_
    refine s_iload_n 1 (n := 7) hX (dec_of D_X10_paidFor (i := 4) rfl) rfl rfl rfl ?_
    refine s_callVI (c := 10) (n := 10) hX cls10 (vk131 (by omega)) lk_RX10_267 (dec_of D_X10_paidFor (i := 5) rfl) rfl (by decide) (c_X10_paidAll (l := _) hG _ _) rfl rfl (Nat.le_of_ble_eq_true rfl) (fun q2 => ?_)
    refine s_goto (n := 19) hX (dec_of D_X10_paidFor (i := 6) rfl) rfl ?_
    exact s_iret hX hR (dec_of D_X10_paidFor (i := 11) rfl) rfl
theorem lk_RX10_400 : LkV RX10 400 RX10 yX10_paidFor cX10_paidFor 3 (some .int) 2 := ⟨wd_1914, wd_1916, wd_75, wd_93, wd_1917, by decide +kernel, by decide⟩
def T_X10_most : List (Nat × Instr × Nat) := [(0, .aload_n 0, 1), (1, .iconst 0, 1), (2, .putfield 86, 3), (5, .iload_n 1, 1), (6, .iconst (-1), 1), (7, .if_icmp .eq 11, 3), (10, .aload_n 0, 1), (11, .iload_n 1, 1), (12, .invokevirtual 257, 3), (15, .ifCond .eq 12, 3), (18, .iload_n 2, 1), (19, .ifCond .lt 8, 3), (22, .iload_n 2, 1), (23, .iconst 1, 1), (24, .if_icmp .le 5, 3), (27, .iconst (-1), 1), (28, .ireturn, 1), (29, .bipush (-2), 2), (31, .istore_n 3, 1), (32, .iconst 0, 1), (33, .istore 4, 2), (35, .iload 4, 2), (37, .aload_n 0, 1), (38, .getfield 232, 3), (41, .if_icmp .ge 34, 3), (44, .iload_n 3, 1), (45, .bipush (-2), 2), (47, .if_icmp .eq 19, 3), (50, .aload_n 0, 1), (51, .iload 4, 2), (53, .iload_n 1, 1), (54, .invokevirtual 400, 3), (57, .aload_n 0, 1), (58, .iload_n 3, 1), (59, .iload_n 1, 1), (60, .invokevirtual 400, 3), (63, .if_icmp .le 6, 3), (66, .iload 4, 2), (68, .istore_n 3, 1), (69, .iinc 4 1, 3), (72, .goto (-37), 3), (75, .iload_n 3, 1), (76, .bipush (-2), 2), (78, .if_icmp .eq 7, 3), (81, .iload_n 2, 1), (82, .ifCond .ne 7, 3), (85, .iload_n 3, 1), (86, .goto 9, 3), (89, .aload_n 0, 1), (90, .iload_n 3, 1), (91, .iload_n 1, 1), (92, .invokevirtual 400, 3), (95, .ireturn, 1)]
theorem D_X10_most : dchk cX10_most T_X10_most = true := by decide +kernel
def Mo_most (σ : ST) (a1 : Int32) (a2 : Int32) : Option (Int32 × ST) :=
  lt_ (setF σ 840 0 0) (fun s1 => lk_ (fun kk3 => (if a1 = (-1) then kk3 () else bd_ (Mo_isLand s1 a1) (fun q11 => (if q11 = 0 then some ((-1), s1) else kk3 ())))) (fun (j2 : Unit) => (if a2 < 0 then some ((-1), s1) else (if a2 ≤ 1 then lp_ (fun rec6 (z5 : Int32 × Int32) => (if (gF s1 851 0) ≤ z5.2 then (if z5.1 = (-2) then some (z5.1, s1) else (if a2 = 0 then some (z5.1, s1) else bd_ (Mo_paidFor s1 z5.1 a1) (fun q8 => some (q8, s1)))) else (if z5.1 = (-2) then rec6 (z5.2, (z5.2 + 1)) else bd_ (Mo_paidFor s1 z5.2 a1) (fun q9 => bd_ (Mo_paidFor s1 z5.1 a1) (fun q10 => (if q9 ≤ q10 then rec6 (z5.1, (z5.2 + 1)) else rec6 (z5.2, (z5.2 + 1)))))))) FU ((-2), 0) else some ((-1), s1)))))
set_option maxHeartbeats 4000000 in
set_option maxRecDepth 100000 in
theorem c_X10_most {G : GW} (hG : Good G) {l : Launch} (σ : ST) (a1 : Int32) (a2 : Int32) : Ctr G l yX10_most cX10_most 5 (some .int) 3 [.ref (ga G 131 0), .int a1, .int a2] σ oP (Mo_most σ a1 a2) := by
  refine ctr_of hG (by decide) (Nat.le_of_ble_eq_true rfl) ?_
  intro X hXl hR hX
  have hX : Ok G X cX10_most 5 RX10 3 := hX
  unfold Mo_most
  show Sim G X 5 (MQX G X oP) σ 0 [(0, .ref (ga G 131 0)), (1, .int a1), (2, .int a2)] [] _
  refine s_aload_n 0 (n := 1) hX (dec_of D_X10_most (i := 0) rfl) rfl rfl rfl ?_
  refine s_iconst (v := 0) (n := 2) hX (dec_of D_X10_most (i := 1) rfl) rfl (by decide) ?_
  refine s_putI (c := 10) (p := 0) (n := 5) hX cls10 (vk131 (by omega)) (dec_of D_X10_most (i := 2) rfl) rfl rfl (by decide) wd_1346 rfl rfl rfl (fun s1 => ?_)
  refine s_iload_n 1 (n := 6) hX (dec_of D_X10_most (i := 3) rfl) rfl rfl rfl ?_
  refine s_iconst (v := (-1)) (n := 7) hX (dec_of D_X10_most (i := 4) rfl) rfl (by decide) ?_
  refine s_lk (pcj := 18) (Sf := fun (j2 : Unit) => s1) (lvf := fun (j2 : Unit) => [(0, .ref (ga G 131 0)), (1, .int a1), (2, .int a2)]) (stf := fun (j2 : Unit) => []) (fun j2 => ?_) (fun kk3 hkk4 => ?_)
  · refine s_iload_n 2 (n := 19) hX (dec_of D_X10_most (i := 10) rfl) rfl rfl rfl ?_
    refine s_if_lt (tgt := 27) (n := 22) hX (dec_of D_X10_most (i := 11) rfl) rfl rfl ?_ ?_
    · refine s_iconst (v := (-1)) (n := 28) hX (dec_of D_X10_most (i := 15) rfl) rfl (by decide) ?_
      exact s_iret hX hR (dec_of D_X10_most (i := 16) rfl) rfl
    · refine s_iload_n 2 (n := 23) hX (dec_of D_X10_most (i := 12) rfl) rfl rfl rfl ?_
      refine s_iconst (v := 1) (n := 24) hX (dec_of D_X10_most (i := 13) rfl) rfl (by decide) ?_
      refine s_icmp_le (tgt := 29) (n := 27) hX (dec_of D_X10_most (i := 14) rfl) rfl rfl ?_ ?_
      · refine s_bipush (v := (-2)) (n := 31) hX (dec_of D_X10_most (i := 17) rfl) rfl (by decide) ?_
        refine s_istore_n (lv' := [(0, _), (1, _), (2, _), (3, _)]) [1, 2, 3, 0] (n := 32) hX (dec_of D_X10_most (i := 18) rfl) rfl rfl (by decide) rfl ?_
        refine s_iconst (v := 0) (n := 33) hX (dec_of D_X10_most (i := 19) rfl) rfl (by decide) ?_
        refine s_istore (lv' := [(0, _), (1, _), (2, _), (3, _), (4, _)]) [1, 2, 3, 4, 0] (n := 35) hX (dec_of D_X10_most (i := 20) rfl) rfl (by decide) rfl ?_
        refine s_sub [0, 1, 2, 3, 4] rfl (s_lp (pc := 35) (Sf := fun (z5 : Int32 × Int32) => s1) (lvf := fun (z5 : Int32 × Int32) => [(0, .ref (ga G 131 0)), (1, .int a1), (2, .int a2), (3, .int z5.1), (4, .int z5.2)]) (fun rec6 hre7 z5 => ?_) FU ((-2), 0))
        refine s_iload 4 (n := 37) hX (dec_of D_X10_most (i := 21) rfl) rfl rfl ?_
        refine s_aload_n 0 (n := 38) hX (dec_of D_X10_most (i := 22) rfl) rfl rfl rfl ?_
        refine s_getI (c := 10) (p := 11) (id := 851) (n := 41) hX cls10 (vk131 (by omega)) (dec_of D_X10_most (i := 23) rfl) rfl rfl wd_1357 ?_
        refine s_icmp_ge (tgt := 75) (n := 44) hX (dec_of D_X10_most (i := 24) rfl) rfl rfl ?_ ?_
        · refine s_iload_n 3 (n := 76) hX (dec_of D_X10_most (i := 41) rfl) rfl rfl rfl ?_
          refine s_bipush (v := (-2)) (n := 78) hX (dec_of D_X10_most (i := 42) rfl) rfl (by decide) ?_
          refine s_icmp_eq (tgt := 85) (n := 81) hX (dec_of D_X10_most (i := 43) rfl) rfl rfl ?_ ?_
          · refine s_iload_n 3 (n := 86) hX (dec_of D_X10_most (i := 46) rfl) rfl rfl rfl ?_
            refine s_goto (n := 95) hX (dec_of D_X10_most (i := 47) rfl) rfl ?_
            exact s_iret hX hR (dec_of D_X10_most (i := 52) rfl) rfl
          · refine s_iload_n 2 (n := 82) hX (dec_of D_X10_most (i := 44) rfl) rfl rfl rfl ?_
            refine s_if_ne (tgt := 89) (n := 85) hX (dec_of D_X10_most (i := 45) rfl) rfl rfl ?_ ?_
            · refine s_aload_n 0 (n := 90) hX (dec_of D_X10_most (i := 48) rfl) rfl rfl rfl ?_
              refine s_iload_n 3 (n := 91) hX (dec_of D_X10_most (i := 49) rfl) rfl rfl rfl ?_
              refine s_iload_n 1 (n := 92) hX (dec_of D_X10_most (i := 50) rfl) rfl rfl rfl ?_
              refine s_callVI (c := 10) (n := 95) hX cls10 (vk131 (by omega)) lk_RX10_400 (dec_of D_X10_most (i := 51) rfl) rfl (by decide) (c_X10_paidFor (l := _) hG _ _ _) rfl rfl (Nat.le_of_ble_eq_true rfl) (fun q8 => ?_)
              exact s_iret hX hR (dec_of D_X10_most (i := 52) rfl) rfl
            · refine s_iload_n 3 (n := 86) hX (dec_of D_X10_most (i := 46) rfl) rfl rfl rfl ?_
              refine s_goto (n := 95) hX (dec_of D_X10_most (i := 47) rfl) rfl ?_
              exact s_iret hX hR (dec_of D_X10_most (i := 52) rfl) rfl
        · refine s_iload_n 3 (n := 45) hX (dec_of D_X10_most (i := 25) rfl) rfl rfl rfl ?_
          refine s_bipush (v := (-2)) (n := 47) hX (dec_of D_X10_most (i := 26) rfl) rfl (by decide) ?_
          refine s_icmp_eq (tgt := 66) (n := 50) hX (dec_of D_X10_most (i := 27) rfl) rfl rfl ?_ ?_
          · refine s_iload 4 (n := 68) hX (dec_of D_X10_most (i := 37) rfl) rfl rfl ?_
            refine s_istore_n (lv' := [(0, _), (1, _), (2, _), (3, _), (4, _)]) [1, 2, 3, 0, 4] (n := 69) hX (dec_of D_X10_most (i := 38) rfl) rfl rfl (by decide) rfl ?_
            refine s_iinc (v := z5.2 + 1) (lv' := [(0, _), (1, _), (2, _), (3, _), (4, _)]) 4 [1, 2, 3, 4, 0] (n := 72) hX (dec_of D_X10_most (i := 39) rfl) rfl rfl rfl (by decide) rfl ?_
            refine s_goto (n := 35) hX (dec_of D_X10_most (i := 40) rfl) rfl ?_
            exact s_sub [0, 1, 2, 3, 4] rfl (hre7 (z5.2, (z5.2 + 1)))
          · refine s_aload_n 0 (n := 51) hX (dec_of D_X10_most (i := 28) rfl) rfl rfl rfl ?_
            refine s_iload 4 (n := 53) hX (dec_of D_X10_most (i := 29) rfl) rfl rfl ?_
            refine s_iload_n 1 (n := 54) hX (dec_of D_X10_most (i := 30) rfl) rfl rfl rfl ?_
            refine s_callVI (c := 10) (n := 57) hX cls10 (vk131 (by omega)) lk_RX10_400 (dec_of D_X10_most (i := 31) rfl) rfl (by decide) (c_X10_paidFor (l := _) hG _ _ _) rfl rfl (Nat.le_of_ble_eq_true rfl) (fun q9 => ?_)
            refine s_aload_n 0 (n := 58) hX (dec_of D_X10_most (i := 32) rfl) rfl rfl rfl ?_
            refine s_iload_n 3 (n := 59) hX (dec_of D_X10_most (i := 33) rfl) rfl rfl rfl ?_
            refine s_iload_n 1 (n := 60) hX (dec_of D_X10_most (i := 34) rfl) rfl rfl rfl ?_
            refine s_callVI (c := 10) (n := 63) hX cls10 (vk131 (by omega)) lk_RX10_400 (dec_of D_X10_most (i := 35) rfl) rfl (by decide) (c_X10_paidFor (l := _) hG _ _ _) rfl rfl (Nat.le_of_ble_eq_true rfl) (fun q10 => ?_)
            refine s_icmp_le (tgt := 69) (n := 66) hX (dec_of D_X10_most (i := 36) rfl) rfl rfl ?_ ?_
            · refine s_iinc (v := z5.2 + 1) (lv' := [(0, _), (1, _), (2, _), (3, _), (4, _)]) 4 [1, 2, 3, 4, 0] (n := 72) hX (dec_of D_X10_most (i := 39) rfl) rfl rfl rfl (by decide) rfl ?_
              refine s_goto (n := 35) hX (dec_of D_X10_most (i := 40) rfl) rfl ?_
              exact s_sub [0, 1, 2, 3, 4] rfl (hre7 (z5.1, (z5.2 + 1)))
            · refine s_iload 4 (n := 68) hX (dec_of D_X10_most (i := 37) rfl) rfl rfl ?_
              refine s_istore_n (lv' := [(0, _), (1, _), (2, _), (3, _), (4, _)]) [1, 2, 3, 0, 4] (n := 69) hX (dec_of D_X10_most (i := 38) rfl) rfl rfl (by decide) rfl ?_
              refine s_iinc (v := z5.2 + 1) (lv' := [(0, _), (1, _), (2, _), (3, _), (4, _)]) 4 [1, 2, 3, 4, 0] (n := 72) hX (dec_of D_X10_most (i := 39) rfl) rfl rfl rfl (by decide) rfl ?_
              refine s_goto (n := 35) hX (dec_of D_X10_most (i := 40) rfl) rfl ?_
              exact s_sub [0, 1, 2, 3, 4] rfl (hre7 (z5.2, (z5.2 + 1)))
      · refine s_iconst (v := (-1)) (n := 28) hX (dec_of D_X10_most (i := 15) rfl) rfl (by decide) ?_
        exact s_iret hX hR (dec_of D_X10_most (i := 16) rfl) rfl
  · refine s_icmp_eq (tgt := 18) (n := 10) hX (dec_of D_X10_most (i := 5) rfl) rfl rfl ?_ ?_
    · exact s_sub [0, 1, 2] rfl (hkk4 ())
    · refine s_aload_n 0 (n := 11) hX (dec_of D_X10_most (i := 6) rfl) rfl rfl rfl ?_
      refine s_iload_n 1 (n := 12) hX (dec_of D_X10_most (i := 7) rfl) rfl rfl rfl ?_
      refine s_callVI (c := 10) (n := 15) hX cls10 (vk131 (by omega)) lk_RX10_257 (dec_of D_X10_most (i := 8) rfl) rfl (by decide) (c_X10_isLand (l := _) hG _ _) rfl rfl (Nat.le_of_ble_eq_true rfl) (fun q11 => ?_)
      refine s_if_eq (tgt := 27) (n := 18) hX (dec_of D_X10_most (i := 9) rfl) rfl rfl ?_ ?_
      · refine s_iconst (v := (-1)) (n := 28) hX (dec_of D_X10_most (i := 15) rfl) rfl (by decide) ?_
        exact s_iret hX hR (dec_of D_X10_most (i := 16) rfl) rfl
      · exact s_sub [0, 1, 2] rfl (hkk4 ())
def T_X10_ranked : List (Nat × Instr × Nat) := [(0, .aload_n 0, 1), (1, .iconst 0, 1), (2, .putfield 86, 3), (5, .iload_n 1, 1), (6, .ifCond .ge 5, 3), (9, .iconst (-1), 1), (10, .ireturn, 1), (11, .iconst 0, 1), (12, .istore_n 2, 1), (13, .iload_n 2, 1), (14, .aload_n 0, 1), (15, .getfield 232, 3), (18, .if_icmp .ge 78, 3), (21, .iconst 0, 1), (22, .istore_n 3, 1), (23, .iconst 0, 1), (24, .istore 4, 2), (26, .iload 4, 2), (28, .aload_n 0, 1), (29, .getfield 232, 3), (32, .if_icmp .ge 51, 3), (35, .iload_n 3, 1), (36, .aload_n 0, 1), (37, .iload 4, 2), (39, .invokevirtual 267, 3), (42, .aload_n 0, 1), (43, .iload_n 2, 1), (44, .invokevirtual 267, 3), (47, .if_icmp .gt 23, 3), (50, .aload_n 0, 1), (51, .iload 4, 2), (53, .invokevirtual 267, 3), (56, .aload_n 0, 1), (57, .iload_n 2, 1), (58, .invokevirtual 267, 3), (61, .if_icmp .ne 13, 3), (64, .iload 4, 2), (66, .iload_n 2, 1), (67, .if_icmp .ge 7, 3), (70, .iconst 1, 1), (71, .goto 4, 3), (74, .iconst 0, 1), (75, .iadd, 1), (76, .istore_n 3, 1), (77, .iinc 4 1, 3), (80, .goto (-54), 3), (83, .iload_n 3, 1), (84, .iload_n 1, 1), (85, .if_icmp .ne 5, 3), (88, .iload_n 2, 1), (89, .ireturn, 1), (90, .iinc 2 1, 3), (93, .goto (-80), 3), (96, .bipush (-2), 2), (98, .ireturn, 1)]
theorem D_X10_ranked : dchk cX10_ranked T_X10_ranked = true := by decide +kernel
def Mo_ranked (σ : ST) (a1 : Int32) : Option (Int32 × ST) :=
  lt_ (setF σ 840 0 0) (fun s1 => (if 0 ≤ a1 then lp_ (fun rec3 (z2 : Int32) => (if (gF s1 851 0) ≤ z2 then some ((-2), s1) else lp_ (fun rec6 (z5 : Int32 × Int32) => (if (gF s1 851 0) ≤ z5.2 then (if z5.1 = a1 then some (z2, s1) else rec3 (z2 + 1)) else bd_ (Mo_paidAll s1 z5.2) (fun q8 => bd_ (Mo_paidAll s1 z2) (fun q9 => (if q9 < q8 then lt_ ((z5.1 + 1)) (fun x10 => rec6 (x10, (z5.2 + 1))) else bd_ (Mo_paidAll s1 z5.2) (fun q11 => bd_ (Mo_paidAll s1 z2) (fun q12 => (if q11 = q12 then (if z2 ≤ z5.2 then lt_ ((z5.1 + 0)) (fun x14 => rec6 (x14, (z5.2 + 1))) else lt_ ((z5.1 + 1)) (fun x15 => rec6 (x15, (z5.2 + 1)))) else lt_ ((z5.1 + 0)) (fun x13 => rec6 (x13, (z5.2 + 1))))))))))) FU (0, 0))) FU 0 else some ((-1), s1)))
set_option maxHeartbeats 4000000 in
set_option maxRecDepth 100000 in
theorem c_X10_ranked {G : GW} (hG : Good G) {l : Launch} (σ : ST) (a1 : Int32) : Ctr G l yX10_ranked cX10_ranked 5 (some .int) 2 [.ref (ga G 131 0), .int a1] σ oP (Mo_ranked σ a1) := by
  refine ctr_of hG (by decide) (Nat.le_of_ble_eq_true rfl) ?_
  intro X hXl hR hX
  have hX : Ok G X cX10_ranked 5 RX10 2 := hX
  unfold Mo_ranked
  show Sim G X 5 (MQX G X oP) σ 0 [(0, .ref (ga G 131 0)), (1, .int a1)] [] _
  refine s_aload_n 0 (n := 1) hX (dec_of D_X10_ranked (i := 0) rfl) rfl rfl rfl ?_
  refine s_iconst (v := 0) (n := 2) hX (dec_of D_X10_ranked (i := 1) rfl) rfl (by decide) ?_
  refine s_putI (c := 10) (p := 0) (n := 5) hX cls10 (vk131 (by omega)) (dec_of D_X10_ranked (i := 2) rfl) rfl rfl (by decide) wd_1346 rfl rfl rfl (fun s1 => ?_)
  refine s_iload_n 1 (n := 6) hX (dec_of D_X10_ranked (i := 3) rfl) rfl rfl rfl ?_
  refine s_if_ge (tgt := 11) (n := 9) hX (dec_of D_X10_ranked (i := 4) rfl) rfl rfl ?_ ?_
  · refine s_iconst (v := 0) (n := 12) hX (dec_of D_X10_ranked (i := 7) rfl) rfl (by decide) ?_
    refine s_istore_n (lv' := [(0, _), (1, _), (2, _)]) [1, 2, 0] (n := 13) hX (dec_of D_X10_ranked (i := 8) rfl) rfl rfl (by decide) rfl ?_
    refine s_sub [0, 1, 2] rfl (s_lp (pc := 13) (Sf := fun (z2 : Int32) => s1) (lvf := fun (z2 : Int32) => [(0, .ref (ga G 131 0)), (1, .int a1), (2, .int z2)]) (fun rec3 hre4 z2 => ?_) FU 0)
    refine s_iload_n 2 (n := 14) hX (dec_of D_X10_ranked (i := 9) rfl) rfl rfl rfl ?_
    refine s_aload_n 0 (n := 15) hX (dec_of D_X10_ranked (i := 10) rfl) rfl rfl rfl ?_
    refine s_getI (c := 10) (p := 11) (id := 851) (n := 18) hX cls10 (vk131 (by omega)) (dec_of D_X10_ranked (i := 11) rfl) rfl rfl wd_1357 ?_
    refine s_icmp_ge (tgt := 96) (n := 21) hX (dec_of D_X10_ranked (i := 12) rfl) rfl rfl ?_ ?_
    · refine s_bipush (v := (-2)) (n := 98) hX (dec_of D_X10_ranked (i := 53) rfl) rfl (by decide) ?_
      exact s_iret hX hR (dec_of D_X10_ranked (i := 54) rfl) rfl
    · refine s_iconst (v := 0) (n := 22) hX (dec_of D_X10_ranked (i := 13) rfl) rfl (by decide) ?_
      refine s_istore_n (lv' := [(0, _), (1, _), (2, _), (3, _)]) [1, 2, 3, 0] (n := 23) hX (dec_of D_X10_ranked (i := 14) rfl) rfl rfl (by decide) rfl ?_
      refine s_iconst (v := 0) (n := 24) hX (dec_of D_X10_ranked (i := 15) rfl) rfl (by decide) ?_
      refine s_istore (lv' := [(0, _), (1, _), (2, _), (3, _), (4, _)]) [1, 2, 3, 4, 0] (n := 26) hX (dec_of D_X10_ranked (i := 16) rfl) rfl (by decide) rfl ?_
      refine s_sub [0, 1, 2, 3, 4] rfl (s_lp (pc := 26) (Sf := fun (z5 : Int32 × Int32) => s1) (lvf := fun (z5 : Int32 × Int32) => [(0, .ref (ga G 131 0)), (1, .int a1), (2, .int z2), (3, .int z5.1), (4, .int z5.2)]) (fun rec6 hre7 z5 => ?_) FU (0, 0))
      refine s_iload 4 (n := 28) hX (dec_of D_X10_ranked (i := 17) rfl) rfl rfl ?_
      refine s_aload_n 0 (n := 29) hX (dec_of D_X10_ranked (i := 18) rfl) rfl rfl rfl ?_
      refine s_getI (c := 10) (p := 11) (id := 851) (n := 32) hX cls10 (vk131 (by omega)) (dec_of D_X10_ranked (i := 19) rfl) rfl rfl wd_1357 ?_
      refine s_icmp_ge (tgt := 83) (n := 35) hX (dec_of D_X10_ranked (i := 20) rfl) rfl rfl ?_ ?_
      · refine s_iload_n 3 (n := 84) hX (dec_of D_X10_ranked (i := 46) rfl) rfl rfl rfl ?_
        refine s_iload_n 1 (n := 85) hX (dec_of D_X10_ranked (i := 47) rfl) rfl rfl rfl ?_
        refine s_icmp_ne (tgt := 90) (n := 88) hX (dec_of D_X10_ranked (i := 48) rfl) rfl rfl ?_ ?_
        · refine s_iinc (v := z2 + 1) (lv' := [(0, _), (1, _), (2, _), (3, _), (4, _)]) 2 [1, 2, 0, 3, 4] (n := 93) hX (dec_of D_X10_ranked (i := 51) rfl) rfl rfl rfl (by decide) rfl ?_
          refine s_goto (n := 13) hX (dec_of D_X10_ranked (i := 52) rfl) rfl ?_
          exact s_sub [0, 1, 2] rfl (hre4 (z2 + 1))
        · refine s_iload_n 2 (n := 89) hX (dec_of D_X10_ranked (i := 49) rfl) rfl rfl rfl ?_
          exact s_iret hX hR (dec_of D_X10_ranked (i := 50) rfl) rfl
      · refine s_iload_n 3 (n := 36) hX (dec_of D_X10_ranked (i := 21) rfl) rfl rfl rfl ?_
        refine s_aload_n 0 (n := 37) hX (dec_of D_X10_ranked (i := 22) rfl) rfl rfl rfl ?_
        refine s_iload 4 (n := 39) hX (dec_of D_X10_ranked (i := 23) rfl) rfl rfl ?_
        refine s_callVI (c := 10) (n := 42) hX cls10 (vk131 (by omega)) lk_RX10_267 (dec_of D_X10_ranked (i := 24) rfl) rfl (by decide) (c_X10_paidAll (l := _) hG _ _) rfl rfl (Nat.le_of_ble_eq_true rfl) (fun q8 => ?_)
        refine s_aload_n 0 (n := 43) hX (dec_of D_X10_ranked (i := 25) rfl) rfl rfl rfl ?_
        refine s_iload_n 2 (n := 44) hX (dec_of D_X10_ranked (i := 26) rfl) rfl rfl rfl ?_
        refine s_callVI (c := 10) (n := 47) hX cls10 (vk131 (by omega)) lk_RX10_267 (dec_of D_X10_ranked (i := 27) rfl) rfl (by decide) (c_X10_paidAll (l := _) hG _ _) rfl rfl (Nat.le_of_ble_eq_true rfl) (fun q9 => ?_)
        refine s_icmp_gt (tgt := 70) (n := 50) hX (dec_of D_X10_ranked (i := 28) rfl) rfl rfl ?_ ?_
        · refine s_iconst (v := 1) (n := 71) hX (dec_of D_X10_ranked (i := 39) rfl) rfl (by decide) ?_
          refine s_goto (n := 75) hX (dec_of D_X10_ranked (i := 40) rfl) rfl ?_
          refine s_iadd (n := 76) hX (dec_of D_X10_ranked (i := 42) rfl) rfl ?_
          refine s_topi (fun x10 => ?_)
          refine s_istore_n (lv' := [(0, _), (1, _), (2, _), (3, _), (4, _)]) [1, 2, 3, 0, 4] (n := 77) hX (dec_of D_X10_ranked (i := 43) rfl) rfl rfl (by decide) rfl ?_
          refine s_iinc (v := z5.2 + 1) (lv' := [(0, _), (1, _), (2, _), (3, _), (4, _)]) 4 [1, 2, 3, 4, 0] (n := 80) hX (dec_of D_X10_ranked (i := 44) rfl) rfl rfl rfl (by decide) rfl ?_
          refine s_goto (n := 26) hX (dec_of D_X10_ranked (i := 45) rfl) rfl ?_
          exact s_sub [0, 1, 2, 3, 4] rfl (hre7 (x10, (z5.2 + 1)))
        · refine s_aload_n 0 (n := 51) hX (dec_of D_X10_ranked (i := 29) rfl) rfl rfl rfl ?_
          refine s_iload 4 (n := 53) hX (dec_of D_X10_ranked (i := 30) rfl) rfl rfl ?_
          refine s_callVI (c := 10) (n := 56) hX cls10 (vk131 (by omega)) lk_RX10_267 (dec_of D_X10_ranked (i := 31) rfl) rfl (by decide) (c_X10_paidAll (l := _) hG _ _) rfl rfl (Nat.le_of_ble_eq_true rfl) (fun q11 => ?_)
          refine s_aload_n 0 (n := 57) hX (dec_of D_X10_ranked (i := 32) rfl) rfl rfl rfl ?_
          refine s_iload_n 2 (n := 58) hX (dec_of D_X10_ranked (i := 33) rfl) rfl rfl rfl ?_
          refine s_callVI (c := 10) (n := 61) hX cls10 (vk131 (by omega)) lk_RX10_267 (dec_of D_X10_ranked (i := 34) rfl) rfl (by decide) (c_X10_paidAll (l := _) hG _ _) rfl rfl (Nat.le_of_ble_eq_true rfl) (fun q12 => ?_)
          refine s_icmp_ne (tgt := 74) (n := 64) hX (dec_of D_X10_ranked (i := 35) rfl) rfl rfl ?_ ?_
          · refine s_iconst (v := 0) (n := 75) hX (dec_of D_X10_ranked (i := 41) rfl) rfl (by decide) ?_
            refine s_iadd (n := 76) hX (dec_of D_X10_ranked (i := 42) rfl) rfl ?_
            refine s_topi (fun x13 => ?_)
            refine s_istore_n (lv' := [(0, _), (1, _), (2, _), (3, _), (4, _)]) [1, 2, 3, 0, 4] (n := 77) hX (dec_of D_X10_ranked (i := 43) rfl) rfl rfl (by decide) rfl ?_
            refine s_iinc (v := z5.2 + 1) (lv' := [(0, _), (1, _), (2, _), (3, _), (4, _)]) 4 [1, 2, 3, 4, 0] (n := 80) hX (dec_of D_X10_ranked (i := 44) rfl) rfl rfl rfl (by decide) rfl ?_
            refine s_goto (n := 26) hX (dec_of D_X10_ranked (i := 45) rfl) rfl ?_
            exact s_sub [0, 1, 2, 3, 4] rfl (hre7 (x13, (z5.2 + 1)))
          · refine s_iload 4 (n := 66) hX (dec_of D_X10_ranked (i := 36) rfl) rfl rfl ?_
            refine s_iload_n 2 (n := 67) hX (dec_of D_X10_ranked (i := 37) rfl) rfl rfl rfl ?_
            refine s_icmp_ge (tgt := 74) (n := 70) hX (dec_of D_X10_ranked (i := 38) rfl) rfl rfl ?_ ?_
            · refine s_iconst (v := 0) (n := 75) hX (dec_of D_X10_ranked (i := 41) rfl) rfl (by decide) ?_
              refine s_iadd (n := 76) hX (dec_of D_X10_ranked (i := 42) rfl) rfl ?_
              refine s_topi (fun x14 => ?_)
              refine s_istore_n (lv' := [(0, _), (1, _), (2, _), (3, _), (4, _)]) [1, 2, 3, 0, 4] (n := 77) hX (dec_of D_X10_ranked (i := 43) rfl) rfl rfl (by decide) rfl ?_
              refine s_iinc (v := z5.2 + 1) (lv' := [(0, _), (1, _), (2, _), (3, _), (4, _)]) 4 [1, 2, 3, 4, 0] (n := 80) hX (dec_of D_X10_ranked (i := 44) rfl) rfl rfl rfl (by decide) rfl ?_
              refine s_goto (n := 26) hX (dec_of D_X10_ranked (i := 45) rfl) rfl ?_
              exact s_sub [0, 1, 2, 3, 4] rfl (hre7 (x14, (z5.2 + 1)))
            · refine s_iconst (v := 1) (n := 71) hX (dec_of D_X10_ranked (i := 39) rfl) rfl (by decide) ?_
              refine s_goto (n := 75) hX (dec_of D_X10_ranked (i := 40) rfl) rfl ?_
              refine s_iadd (n := 76) hX (dec_of D_X10_ranked (i := 42) rfl) rfl ?_
              refine s_topi (fun x15 => ?_)
              refine s_istore_n (lv' := [(0, _), (1, _), (2, _), (3, _), (4, _)]) [1, 2, 3, 0, 4] (n := 77) hX (dec_of D_X10_ranked (i := 43) rfl) rfl rfl (by decide) rfl ?_
              refine s_iinc (v := z5.2 + 1) (lv' := [(0, _), (1, _), (2, _), (3, _), (4, _)]) 4 [1, 2, 3, 4, 0] (n := 80) hX (dec_of D_X10_ranked (i := 44) rfl) rfl rfl rfl (by decide) rfl ?_
              refine s_goto (n := 26) hX (dec_of D_X10_ranked (i := 45) rfl) rfl ?_
              exact s_sub [0, 1, 2, 3, 4] rfl (hre7 (x15, (z5.2 + 1)))
  · refine s_iconst (v := (-1)) (n := 10) hX (dec_of D_X10_ranked (i := 5) rfl) rfl (by decide) ?_
    exact s_iret hX hR (dec_of D_X10_ranked (i := 6) rfl) rfl
def T_X10_paidOver : List (Nat × Instr × Nat) := [(0, .iconst 0, 1), (1, .istore_n 3, 1), (2, .iconst 0, 1), (3, .istore 4, 2), (5, .iload 4, 2), (7, .aload_n 0, 1), (8, .getfield 232, 3), (11, .if_icmp .ge 38, 3), (14, .iload_n 3, 1), (15, .aload_n 0, 1), (16, .getfield 28, 3), (19, .sipush 2672, 3), (22, .iload 4, 2), (24, .iadd, 1), (25, .iaload, 1), (26, .iload_n 2, 1), (27, .if_icmp .ne 13, 3), (30, .aload_n 0, 1), (31, .iload 4, 2), (33, .iload_n 1, 1), (34, .invokevirtual 248, 3), (37, .goto 4, 3), (40, .iconst 0, 1), (41, .iadd, 1), (42, .istore_n 3, 1), (43, .iinc 4 1, 3), (46, .goto (-41), 3), (49, .iload_n 3, 1), (50, .ireturn, 1)]
theorem D_X10_paidOver : dchk cX10_paidOver T_X10_paidOver = true := by decide +kernel
def Mo_paidOver (σ : ST) (a1 : Int32) (a2 : Int32) : Option Int32 :=
  lp_ (fun rec2 (z1 : Int32 × Int32) => (if (gF σ 851 0) ≤ z1.2 then some z1.1 else bd_ (ldI σ 34 0 (2672 + z1.2)) (fun v4 => (if v4 = a2 then bd_ (Mo_paidIn (σ) z1.2 a1) (fun q6 => lt_ ((z1.1 + q6)) (fun x7 => rec2 (x7, (z1.2 + 1)))) else lt_ ((z1.1 + 0)) (fun x5 => rec2 (x5, (z1.2 + 1))))))) FU (0, 0)
set_option maxHeartbeats 4000000 in
set_option maxRecDepth 100000 in
theorem c_X10_paidOver {G : GW} (hG : Good G) {l : Launch} (σ : ST) (a1 : Int32) (a2 : Int32) : Ctr G l yX10_paidOver cX10_paidOver 5 (some .int) 1 [.ref (ga G 131 0), .int a1, .int a2] σ (oI σ) (Mo_paidOver σ a1 a2) := by
  refine ctr_of hG (by decide) (Nat.le_of_ble_eq_true rfl) ?_
  intro X hXl hR hX
  have hX : Ok G X cX10_paidOver 5 RX10 1 := hX
  unfold Mo_paidOver
  show Sim G X 5 (MQX G X (oI σ)) σ 0 [(0, .ref (ga G 131 0)), (1, .int a1), (2, .int a2)] [] _
  refine s_iconst (v := 0) (n := 1) hX (dec_of D_X10_paidOver (i := 0) rfl) rfl (by decide) ?_
  refine s_istore_n (lv' := [(0, _), (1, _), (2, _), (3, _)]) [1, 2, 3, 0] (n := 2) hX (dec_of D_X10_paidOver (i := 1) rfl) rfl rfl (by decide) rfl ?_
  refine s_iconst (v := 0) (n := 3) hX (dec_of D_X10_paidOver (i := 2) rfl) rfl (by decide) ?_
  refine s_istore (lv' := [(0, _), (1, _), (2, _), (3, _), (4, _)]) [1, 2, 3, 4, 0] (n := 5) hX (dec_of D_X10_paidOver (i := 3) rfl) rfl (by decide) rfl ?_
  refine s_sub [0, 1, 2, 3, 4] rfl (s_lp (pc := 5) (Sf := fun (z1 : Int32 × Int32) => σ) (lvf := fun (z1 : Int32 × Int32) => [(0, .ref (ga G 131 0)), (1, .int a1), (2, .int a2), (3, .int z1.1), (4, .int z1.2)]) (fun rec2 hre3 z1 => ?_) FU (0, 0))
  refine s_iload 4 (n := 7) hX (dec_of D_X10_paidOver (i := 4) rfl) rfl rfl ?_
  refine s_aload_n 0 (n := 8) hX (dec_of D_X10_paidOver (i := 5) rfl) rfl rfl rfl ?_
  refine s_getI (c := 10) (p := 11) (id := 851) (n := 11) hX cls10 (vk131 (by omega)) (dec_of D_X10_paidOver (i := 6) rfl) rfl rfl wd_1357 ?_
  refine s_icmp_ge (tgt := 49) (n := 14) hX (dec_of D_X10_paidOver (i := 7) rfl) rfl rfl ?_ ?_
  · refine s_iload_n 3 (n := 50) hX (dec_of D_X10_paidOver (i := 27) rfl) rfl rfl rfl ?_
    exact s_iret hX hR (dec_of D_X10_paidOver (i := 28) rfl) rfl
  · refine s_iload_n 3 (n := 15) hX (dec_of D_X10_paidOver (i := 8) rfl) rfl rfl rfl ?_
    refine s_aload_n 0 (n := 16) hX (dec_of D_X10_paidOver (i := 9) rfl) rfl rfl rfl ?_
    refine s_getR (c := 10) (p := 14) (k' := 34) (n := 19) hX cls10 (vk131 (by omega)) (dec_of D_X10_paidOver (i := 10) rfl) rfl rfl wd_1360 ?_
    refine s_sipush (v := 2672) (n := 22) hX (dec_of D_X10_paidOver (i := 11) rfl) rfl (by decide) ?_
    refine s_iload 4 (n := 24) hX (dec_of D_X10_paidOver (i := 12) rfl) rfl rfl ?_
    refine s_iadd (n := 25) hX (dec_of D_X10_paidOver (i := 13) rfl) rfl ?_
    refine s_iald (n := 26) hX (vk34 (by omega)) (by decide) (dec_of D_X10_paidOver (i := 14) rfl) rfl (fun v4 => ?_)
    refine s_iload_n 2 (n := 27) hX (dec_of D_X10_paidOver (i := 15) rfl) rfl rfl rfl ?_
    refine s_icmp_ne (tgt := 40) (n := 30) hX (dec_of D_X10_paidOver (i := 16) rfl) rfl rfl ?_ ?_
    · refine s_iconst (v := 0) (n := 41) hX (dec_of D_X10_paidOver (i := 22) rfl) rfl (by decide) ?_
      refine s_iadd (n := 42) hX (dec_of D_X10_paidOver (i := 23) rfl) rfl ?_
      refine s_topi (fun x5 => ?_)
      refine s_istore_n (lv' := [(0, _), (1, _), (2, _), (3, _), (4, _)]) [1, 2, 3, 0, 4] (n := 43) hX (dec_of D_X10_paidOver (i := 24) rfl) rfl rfl (by decide) rfl ?_
      refine s_iinc (v := z1.2 + 1) (lv' := [(0, _), (1, _), (2, _), (3, _), (4, _)]) 4 [1, 2, 3, 4, 0] (n := 46) hX (dec_of D_X10_paidOver (i := 25) rfl) rfl rfl rfl (by decide) rfl ?_
      refine s_goto (n := 5) hX (dec_of D_X10_paidOver (i := 26) rfl) rfl ?_
      exact s_sub [0, 1, 2, 3, 4] rfl (hre3 (x5, (z1.2 + 1)))
    · refine s_aload_n 0 (n := 31) hX (dec_of D_X10_paidOver (i := 17) rfl) rfl rfl rfl ?_
      refine s_iload 4 (n := 33) hX (dec_of D_X10_paidOver (i := 18) rfl) rfl rfl ?_
      refine s_iload_n 1 (n := 34) hX (dec_of D_X10_paidOver (i := 19) rfl) rfl rfl rfl ?_
      refine s_callVI (c := 10) (n := 37) hX cls10 (vk131 (by omega)) lk_RX10_248 (dec_of D_X10_paidOver (i := 20) rfl) rfl (by decide) (c_X10_paidIn (l := _) hG _ _ _) rfl rfl (Nat.le_of_ble_eq_true rfl) (fun q6 => ?_)
      refine s_goto (n := 41) hX (dec_of D_X10_paidOver (i := 21) rfl) rfl ?_
      refine s_iadd (n := 42) hX (dec_of D_X10_paidOver (i := 23) rfl) rfl ?_
      refine s_topi (fun x7 => ?_)
      refine s_istore_n (lv' := [(0, _), (1, _), (2, _), (3, _), (4, _)]) [1, 2, 3, 0, 4] (n := 43) hX (dec_of D_X10_paidOver (i := 24) rfl) rfl rfl (by decide) rfl ?_
      refine s_iinc (v := z1.2 + 1) (lv' := [(0, _), (1, _), (2, _), (3, _), (4, _)]) 4 [1, 2, 3, 4, 0] (n := 46) hX (dec_of D_X10_paidOver (i := 25) rfl) rfl rfl rfl (by decide) rfl ?_
      refine s_goto (n := 5) hX (dec_of D_X10_paidOver (i := 26) rfl) rfl ?_
      exact s_sub [0, 1, 2, 3, 4] rfl (hre3 (x7, (z1.2 + 1)))
theorem lk_RX10_403 : LkV RX10 403 RX10 yX10_paidOver cX10_paidOver 5 (some .int) 2 := ⟨wd_1926, wd_1928, wd_76, wd_93, wd_1929, by decide +kernel, by decide⟩
def T_X10_across : List (Nat × Instr × Nat) := [(0, .aload_n 0, 1), (1, .iconst 0, 1), (2, .putfield 86, 3), (5, .aload_n 0, 1), (6, .iload_n 1, 1), (7, .invokevirtual 257, 3), (10, .ifCond .eq 11, 3), (13, .aload_n 0, 1), (14, .iload_n 2, 1), (15, .invokevirtual 257, 3), (18, .ifCond .ne 7, 3), (21, .ldc_w 390, 3), (24, .ireturn, 1), (25, .aload_n 0, 1), (26, .iload_n 1, 1), (27, .iload_n 2, 1), (28, .invokevirtual 403, 3), (31, .iload_n 3, 1), (32, .ifCond .eq 12, 3), (35, .aload_n 0, 1), (36, .iload_n 2, 1), (37, .iload_n 1, 1), (38, .invokevirtual 403, 3), (41, .goto 4, 3), (44, .iconst 0, 1), (45, .isub, 1), (46, .ireturn, 1)]
theorem D_X10_across : dchk cX10_across T_X10_across = true := by decide +kernel
def Mo_across (σ : ST) (a1 : Int32) (a2 : Int32) (a3 : Int32) : Option (Int32 × ST) :=
  lt_ (setF σ 840 0 0) (fun s1 => bd_ (Mo_isLand s1 a1) (fun q2 => (if q2 = 0 then some ((-1000000000), s1) else bd_ (Mo_isLand s1 a2) (fun q3 => (if q3 = 0 then some ((-1000000000), s1) else bd_ (Mo_paidOver s1 a1 a2) (fun q4 => (if a3 = 0 then some ((q4 - 0), s1) else bd_ (Mo_paidOver s1 a2 a1) (fun q5 => some ((q4 - q5), s1)))))))))
set_option maxHeartbeats 4000000 in
set_option maxRecDepth 100000 in
theorem c_X10_across {G : GW} (hG : Good G) {l : Launch} (σ : ST) (a1 : Int32) (a2 : Int32) (a3 : Int32) : Ctr G l yX10_across cX10_across 4 (some .int) 2 [.ref (ga G 131 0), .int a1, .int a2, .int a3] σ oP (Mo_across σ a1 a2 a3) := by
  refine ctr_of hG (by decide) (Nat.le_of_ble_eq_true rfl) ?_
  intro X hXl hR hX
  have hX : Ok G X cX10_across 4 RX10 2 := hX
  unfold Mo_across
  show Sim G X 4 (MQX G X oP) σ 0 [(0, .ref (ga G 131 0)), (1, .int a1), (2, .int a2), (3, .int a3)] [] _
  refine s_aload_n 0 (n := 1) hX (dec_of D_X10_across (i := 0) rfl) rfl rfl rfl ?_
  refine s_iconst (v := 0) (n := 2) hX (dec_of D_X10_across (i := 1) rfl) rfl (by decide) ?_
  refine s_putI (c := 10) (p := 0) (n := 5) hX cls10 (vk131 (by omega)) (dec_of D_X10_across (i := 2) rfl) rfl rfl (by decide) wd_1346 rfl rfl rfl (fun s1 => ?_)
  refine s_aload_n 0 (n := 6) hX (dec_of D_X10_across (i := 3) rfl) rfl rfl rfl ?_
  refine s_iload_n 1 (n := 7) hX (dec_of D_X10_across (i := 4) rfl) rfl rfl rfl ?_
  refine s_callVI (c := 10) (n := 10) hX cls10 (vk131 (by omega)) lk_RX10_257 (dec_of D_X10_across (i := 5) rfl) rfl (by decide) (c_X10_isLand (l := _) hG _ _) rfl rfl (Nat.le_of_ble_eq_true rfl) (fun q2 => ?_)
  refine s_if_eq (tgt := 21) (n := 13) hX (dec_of D_X10_across (i := 6) rfl) rfl rfl ?_ ?_
  · refine s_ldcw (v := (-1000000000)) (n := 24) hX (dec_of D_X10_across (i := 11) rfl) rfl wd_1893 ?_
    exact s_iret hX hR (dec_of D_X10_across (i := 12) rfl) rfl
  · refine s_aload_n 0 (n := 14) hX (dec_of D_X10_across (i := 7) rfl) rfl rfl rfl ?_
    refine s_iload_n 2 (n := 15) hX (dec_of D_X10_across (i := 8) rfl) rfl rfl rfl ?_
    refine s_callVI (c := 10) (n := 18) hX cls10 (vk131 (by omega)) lk_RX10_257 (dec_of D_X10_across (i := 9) rfl) rfl (by decide) (c_X10_isLand (l := _) hG _ _) rfl rfl (Nat.le_of_ble_eq_true rfl) (fun q3 => ?_)
    refine s_if_ne (tgt := 25) (n := 21) hX (dec_of D_X10_across (i := 10) rfl) rfl rfl ?_ ?_
    · refine s_aload_n 0 (n := 26) hX (dec_of D_X10_across (i := 13) rfl) rfl rfl rfl ?_
      refine s_iload_n 1 (n := 27) hX (dec_of D_X10_across (i := 14) rfl) rfl rfl rfl ?_
      refine s_iload_n 2 (n := 28) hX (dec_of D_X10_across (i := 15) rfl) rfl rfl rfl ?_
      refine s_callVI (c := 10) (n := 31) hX cls10 (vk131 (by omega)) lk_RX10_403 (dec_of D_X10_across (i := 16) rfl) rfl (by decide) (c_X10_paidOver (l := _) hG _ _ _) rfl rfl (Nat.le_of_ble_eq_true rfl) (fun q4 => ?_)
      refine s_iload_n 3 (n := 32) hX (dec_of D_X10_across (i := 17) rfl) rfl rfl rfl ?_
      refine s_if_eq (tgt := 44) (n := 35) hX (dec_of D_X10_across (i := 18) rfl) rfl rfl ?_ ?_
      · refine s_iconst (v := 0) (n := 45) hX (dec_of D_X10_across (i := 24) rfl) rfl (by decide) ?_
        refine s_isub (n := 46) hX (dec_of D_X10_across (i := 25) rfl) rfl ?_
        exact s_iret hX hR (dec_of D_X10_across (i := 26) rfl) rfl
      · refine s_aload_n 0 (n := 36) hX (dec_of D_X10_across (i := 19) rfl) rfl rfl rfl ?_
        refine s_iload_n 2 (n := 37) hX (dec_of D_X10_across (i := 20) rfl) rfl rfl rfl ?_
        refine s_iload_n 1 (n := 38) hX (dec_of D_X10_across (i := 21) rfl) rfl rfl rfl ?_
        refine s_callVI (c := 10) (n := 41) hX cls10 (vk131 (by omega)) lk_RX10_403 (dec_of D_X10_across (i := 22) rfl) rfl (by decide) (c_X10_paidOver (l := _) hG _ _ _) rfl rfl (Nat.le_of_ble_eq_true rfl) (fun q5 => ?_)
        refine s_goto (n := 45) hX (dec_of D_X10_across (i := 23) rfl) rfl ?_
        refine s_isub (n := 46) hX (dec_of D_X10_across (i := 25) rfl) rfl ?_
        exact s_iret hX hR (dec_of D_X10_across (i := 26) rfl) rfl
    · refine s_ldcw (v := (-1000000000)) (n := 24) hX (dec_of D_X10_across (i := 11) rfl) rfl wd_1893 ?_
      exact s_iret hX hR (dec_of D_X10_across (i := 12) rfl) rfl
def T_X10_netOf : List (Nat × Instr × Nat) := [(0, .iconst 0, 1), (1, .istore_n 2, 1), (2, .iconst 0, 1), (3, .istore_n 3, 1), (4, .iload_n 3, 1), (5, .aload_n 0, 1), (6, .getfield 229, 3), (9, .if_icmp .ge 25, 3), (12, .iload_n 2, 1), (13, .aload_n 0, 1), (14, .iload_n 3, 1), (15, .iload_n 1, 1), (16, .invokevirtual 403, 3), (19, .aload_n 0, 1), (20, .iload_n 1, 1), (21, .iload_n 3, 1), (22, .invokevirtual 403, 3), (25, .isub, 1), (26, .iadd, 1), (27, .istore_n 2, 1), (28, .iinc 3 1, 3), (31, .goto (-27), 3), (34, .iload_n 2, 1), (35, .ireturn, 1)]
theorem D_X10_netOf : dchk cX10_netOf T_X10_netOf = true := by decide +kernel
def Mo_netOf (σ : ST) (a1 : Int32) : Option Int32 :=
  lp_ (fun rec2 (z1 : Int32 × Int32) => (if (gF σ 850 0) ≤ z1.2 then some z1.1 else bd_ (Mo_paidOver (σ) z1.2 a1) (fun q4 => bd_ (Mo_paidOver (σ) a1 z1.2) (fun q5 => lt_ ((z1.1 + (q4 - q5))) (fun x6 => rec2 (x6, (z1.2 + 1))))))) FU (0, 0)
set_option maxHeartbeats 4000000 in
set_option maxRecDepth 100000 in
theorem c_X10_netOf {G : GW} (hG : Good G) {l : Launch} (σ : ST) (a1 : Int32) : Ctr G l yX10_netOf cX10_netOf 4 (some .int) 2 [.ref (ga G 131 0), .int a1] σ (oI σ) (Mo_netOf σ a1) := by
  refine ctr_of hG (by decide) (Nat.le_of_ble_eq_true rfl) ?_
  intro X hXl hR hX
  have hX : Ok G X cX10_netOf 4 RX10 2 := hX
  unfold Mo_netOf
  show Sim G X 4 (MQX G X (oI σ)) σ 0 [(0, .ref (ga G 131 0)), (1, .int a1)] [] _
  refine s_iconst (v := 0) (n := 1) hX (dec_of D_X10_netOf (i := 0) rfl) rfl (by decide) ?_
  refine s_istore_n (lv' := [(0, _), (1, _), (2, _)]) [1, 2, 0] (n := 2) hX (dec_of D_X10_netOf (i := 1) rfl) rfl rfl (by decide) rfl ?_
  refine s_iconst (v := 0) (n := 3) hX (dec_of D_X10_netOf (i := 2) rfl) rfl (by decide) ?_
  refine s_istore_n (lv' := [(0, _), (1, _), (2, _), (3, _)]) [1, 2, 3, 0] (n := 4) hX (dec_of D_X10_netOf (i := 3) rfl) rfl rfl (by decide) rfl ?_
  refine s_sub [0, 1, 2, 3] rfl (s_lp (pc := 4) (Sf := fun (z1 : Int32 × Int32) => σ) (lvf := fun (z1 : Int32 × Int32) => [(0, .ref (ga G 131 0)), (1, .int a1), (2, .int z1.1), (3, .int z1.2)]) (fun rec2 hre3 z1 => ?_) FU (0, 0))
  refine s_iload_n 3 (n := 5) hX (dec_of D_X10_netOf (i := 4) rfl) rfl rfl rfl ?_
  refine s_aload_n 0 (n := 6) hX (dec_of D_X10_netOf (i := 5) rfl) rfl rfl rfl ?_
  refine s_getI (c := 10) (p := 10) (id := 850) (n := 9) hX cls10 (vk131 (by omega)) (dec_of D_X10_netOf (i := 6) rfl) rfl rfl wd_1356 ?_
  refine s_icmp_ge (tgt := 34) (n := 12) hX (dec_of D_X10_netOf (i := 7) rfl) rfl rfl ?_ ?_
  · refine s_iload_n 2 (n := 35) hX (dec_of D_X10_netOf (i := 22) rfl) rfl rfl rfl ?_
    exact s_iret hX hR (dec_of D_X10_netOf (i := 23) rfl) rfl
  · refine s_iload_n 2 (n := 13) hX (dec_of D_X10_netOf (i := 8) rfl) rfl rfl rfl ?_
    refine s_aload_n 0 (n := 14) hX (dec_of D_X10_netOf (i := 9) rfl) rfl rfl rfl ?_
    refine s_iload_n 3 (n := 15) hX (dec_of D_X10_netOf (i := 10) rfl) rfl rfl rfl ?_
    refine s_iload_n 1 (n := 16) hX (dec_of D_X10_netOf (i := 11) rfl) rfl rfl rfl ?_
    refine s_callVI (c := 10) (n := 19) hX cls10 (vk131 (by omega)) lk_RX10_403 (dec_of D_X10_netOf (i := 12) rfl) rfl (by decide) (c_X10_paidOver (l := _) hG _ _ _) rfl rfl (Nat.le_of_ble_eq_true rfl) (fun q4 => ?_)
    refine s_aload_n 0 (n := 20) hX (dec_of D_X10_netOf (i := 13) rfl) rfl rfl rfl ?_
    refine s_iload_n 1 (n := 21) hX (dec_of D_X10_netOf (i := 14) rfl) rfl rfl rfl ?_
    refine s_iload_n 3 (n := 22) hX (dec_of D_X10_netOf (i := 15) rfl) rfl rfl rfl ?_
    refine s_callVI (c := 10) (n := 25) hX cls10 (vk131 (by omega)) lk_RX10_403 (dec_of D_X10_netOf (i := 16) rfl) rfl (by decide) (c_X10_paidOver (l := _) hG _ _ _) rfl rfl (Nat.le_of_ble_eq_true rfl) (fun q5 => ?_)
    refine s_isub (n := 26) hX (dec_of D_X10_netOf (i := 17) rfl) rfl ?_
    refine s_iadd (n := 27) hX (dec_of D_X10_netOf (i := 18) rfl) rfl ?_
    refine s_topi (fun x6 => ?_)
    refine s_istore_n (lv' := [(0, _), (1, _), (2, _), (3, _)]) [1, 2, 0, 3] (n := 28) hX (dec_of D_X10_netOf (i := 19) rfl) rfl rfl (by decide) rfl ?_
    refine s_iinc (v := z1.2 + 1) (lv' := [(0, _), (1, _), (2, _), (3, _)]) 3 [1, 2, 3, 0] (n := 31) hX (dec_of D_X10_netOf (i := 20) rfl) rfl rfl rfl (by decide) rfl ?_
    refine s_goto (n := 4) hX (dec_of D_X10_netOf (i := 21) rfl) rfl ?_
    exact s_sub [0, 1, 2, 3] rfl (hre3 (x6, (z1.2 + 1)))
theorem lk_RX10_406 : LkV RX10 406 RX10 yX10_netOf cX10_netOf 4 (some .int) 1 := ⟨wd_1934, wd_1936, wd_77, wd_93, wd_1937, by decide +kernel, by decide⟩
def T_X10_net : List (Nat × Instr × Nat) := [(0, .aload_n 0, 1), (1, .iconst 0, 1), (2, .putfield 86, 3), (5, .aload_n 0, 1), (6, .iload_n 1, 1), (7, .invokevirtual 257, 3), (10, .ifCond .eq 11, 3), (13, .aload_n 0, 1), (14, .iload_n 1, 1), (15, .invokevirtual 406, 3), (18, .goto 6, 3), (21, .ldc_w 390, 3), (24, .ireturn, 1)]
theorem D_X10_net : dchk cX10_net T_X10_net = true := by decide +kernel
def Mo_net (σ : ST) (a1 : Int32) : Option (Int32 × ST) :=
  lt_ (setF σ 840 0 0) (fun s1 => bd_ (Mo_isLand s1 a1) (fun q2 => (if q2 = 0 then some ((-1000000000), s1) else bd_ (Mo_netOf s1 a1) (fun q3 => some (q3, s1)))))
set_option maxHeartbeats 4000000 in
set_option maxRecDepth 100000 in
theorem c_X10_net {G : GW} (hG : Good G) {l : Launch} (σ : ST) (a1 : Int32) : Ctr G l yX10_net cX10_net 2 (some .int) 3 [.ref (ga G 131 0), .int a1] σ oP (Mo_net σ a1) := by
  refine ctr_of hG (by decide) (Nat.le_of_ble_eq_true rfl) ?_
  intro X hXl hR hX
  have hX : Ok G X cX10_net 2 RX10 3 := hX
  unfold Mo_net
  show Sim G X 2 (MQX G X oP) σ 0 [(0, .ref (ga G 131 0)), (1, .int a1)] [] _
  refine s_aload_n 0 (n := 1) hX (dec_of D_X10_net (i := 0) rfl) rfl rfl rfl ?_
  refine s_iconst (v := 0) (n := 2) hX (dec_of D_X10_net (i := 1) rfl) rfl (by decide) ?_
  refine s_putI (c := 10) (p := 0) (n := 5) hX cls10 (vk131 (by omega)) (dec_of D_X10_net (i := 2) rfl) rfl rfl (by decide) wd_1346 rfl rfl rfl (fun s1 => ?_)
  refine s_aload_n 0 (n := 6) hX (dec_of D_X10_net (i := 3) rfl) rfl rfl rfl ?_
  refine s_iload_n 1 (n := 7) hX (dec_of D_X10_net (i := 4) rfl) rfl rfl rfl ?_
  refine s_callVI (c := 10) (n := 10) hX cls10 (vk131 (by omega)) lk_RX10_257 (dec_of D_X10_net (i := 5) rfl) rfl (by decide) (c_X10_isLand (l := _) hG _ _) rfl rfl (Nat.le_of_ble_eq_true rfl) (fun q2 => ?_)
  refine s_if_eq (tgt := 21) (n := 13) hX (dec_of D_X10_net (i := 6) rfl) rfl rfl ?_ ?_
  · refine s_ldcw (v := (-1000000000)) (n := 24) hX (dec_of D_X10_net (i := 11) rfl) rfl wd_1893 ?_
    exact s_iret hX hR (dec_of D_X10_net (i := 12) rfl) rfl
  · refine s_aload_n 0 (n := 14) hX (dec_of D_X10_net (i := 7) rfl) rfl rfl rfl ?_
    refine s_iload_n 1 (n := 15) hX (dec_of D_X10_net (i := 8) rfl) rfl rfl rfl ?_
    refine s_callVI (c := 10) (n := 18) hX cls10 (vk131 (by omega)) lk_RX10_406 (dec_of D_X10_net (i := 9) rfl) rfl (by decide) (c_X10_netOf (l := _) hG _ _) rfl rfl (Nat.le_of_ble_eq_true rfl) (fun q3 => ?_)
    refine s_goto (n := 24) hX (dec_of D_X10_net (i := 10) rfl) rfl ?_
    exact s_iret hX hR (dec_of D_X10_net (i := 12) rfl) rfl
def T_X10_extreme : List (Nat × Instr × Nat) := [(0, .aload_n 0, 1), (1, .iconst 0, 1), (2, .putfield 86, 3), (5, .iload_n 1, 1), (6, .ifCond .lt 8, 3), (9, .iload_n 1, 1), (10, .iconst 1, 1), (11, .if_icmp .le 5, 3), (14, .iconst (-1), 1), (15, .ireturn, 1), (16, .bipush (-2), 2), (18, .istore_n 2, 1), (19, .iconst 0, 1), (20, .istore_n 3, 1), (21, .iload_n 3, 1), (22, .aload_n 0, 1), (23, .getfield 229, 3), (26, .if_icmp .ge 50, 3), (29, .iload_n 2, 1), (30, .bipush (-2), 2), (32, .if_icmp .eq 36, 3), (35, .iload_n 1, 1), (36, .ifCond .ne 19, 3), (39, .aload_n 0, 1), (40, .iload_n 3, 1), (41, .invokevirtual 406, 3), (44, .aload_n 0, 1), (45, .iload_n 2, 1), (46, .invokevirtual 406, 3), (49, .if_icmp .le 21, 3), (52, .goto 16, 3), (55, .aload_n 0, 1), (56, .iload_n 3, 1), (57, .invokevirtual 406, 3), (60, .aload_n 0, 1), (61, .iload_n 2, 1), (62, .invokevirtual 406, 3), (65, .if_icmp .ge 5, 3), (68, .iload_n 3, 1), (69, .istore_n 2, 1), (70, .iinc 3 1, 3), (73, .goto (-52), 3), (76, .iload_n 2, 1), (77, .ireturn, 1)]
theorem D_X10_extreme : dchk cX10_extreme T_X10_extreme = true := by decide +kernel
def Mo_extreme (σ : ST) (a1 : Int32) : Option (Int32 × ST) :=
  lt_ (setF σ 840 0 0) (fun s1 => (if a1 < 0 then some ((-1), s1) else (if a1 ≤ 1 then lp_ (fun rec3 (z2 : Int32 × Int32) => (if (gF s1 850 0) ≤ z2.2 then some (z2.1, s1) else (if z2.1 = (-2) then rec3 (z2.2, (z2.2 + 1)) else (if a1 = 0 then bd_ (Mo_netOf s1 z2.2) (fun q7 => bd_ (Mo_netOf s1 z2.1) (fun q8 => (if q7 ≤ q8 then rec3 (z2.1, (z2.2 + 1)) else rec3 (z2.2, (z2.2 + 1))))) else bd_ (Mo_netOf s1 z2.2) (fun q5 => bd_ (Mo_netOf s1 z2.1) (fun q6 => (if q6 ≤ q5 then rec3 (z2.1, (z2.2 + 1)) else rec3 (z2.2, (z2.2 + 1))))))))) FU ((-2), 0) else some ((-1), s1))))
set_option maxHeartbeats 4000000 in
set_option maxRecDepth 100000 in
theorem c_X10_extreme {G : GW} (hG : Good G) {l : Launch} (σ : ST) (a1 : Int32) : Ctr G l yX10_extreme cX10_extreme 4 (some .int) 3 [.ref (ga G 131 0), .int a1] σ oP (Mo_extreme σ a1) := by
  refine ctr_of hG (by decide) (Nat.le_of_ble_eq_true rfl) ?_
  intro X hXl hR hX
  have hX : Ok G X cX10_extreme 4 RX10 3 := hX
  unfold Mo_extreme
  show Sim G X 4 (MQX G X oP) σ 0 [(0, .ref (ga G 131 0)), (1, .int a1)] [] _
  refine s_aload_n 0 (n := 1) hX (dec_of D_X10_extreme (i := 0) rfl) rfl rfl rfl ?_
  refine s_iconst (v := 0) (n := 2) hX (dec_of D_X10_extreme (i := 1) rfl) rfl (by decide) ?_
  refine s_putI (c := 10) (p := 0) (n := 5) hX cls10 (vk131 (by omega)) (dec_of D_X10_extreme (i := 2) rfl) rfl rfl (by decide) wd_1346 rfl rfl rfl (fun s1 => ?_)
  refine s_iload_n 1 (n := 6) hX (dec_of D_X10_extreme (i := 3) rfl) rfl rfl rfl ?_
  refine s_if_lt (tgt := 14) (n := 9) hX (dec_of D_X10_extreme (i := 4) rfl) rfl rfl ?_ ?_
  · refine s_iconst (v := (-1)) (n := 15) hX (dec_of D_X10_extreme (i := 8) rfl) rfl (by decide) ?_
    exact s_iret hX hR (dec_of D_X10_extreme (i := 9) rfl) rfl
  · refine s_iload_n 1 (n := 10) hX (dec_of D_X10_extreme (i := 5) rfl) rfl rfl rfl ?_
    refine s_iconst (v := 1) (n := 11) hX (dec_of D_X10_extreme (i := 6) rfl) rfl (by decide) ?_
    refine s_icmp_le (tgt := 16) (n := 14) hX (dec_of D_X10_extreme (i := 7) rfl) rfl rfl ?_ ?_
    · refine s_bipush (v := (-2)) (n := 18) hX (dec_of D_X10_extreme (i := 10) rfl) rfl (by decide) ?_
      refine s_istore_n (lv' := [(0, _), (1, _), (2, _)]) [1, 2, 0] (n := 19) hX (dec_of D_X10_extreme (i := 11) rfl) rfl rfl (by decide) rfl ?_
      refine s_iconst (v := 0) (n := 20) hX (dec_of D_X10_extreme (i := 12) rfl) rfl (by decide) ?_
      refine s_istore_n (lv' := [(0, _), (1, _), (2, _), (3, _)]) [1, 2, 3, 0] (n := 21) hX (dec_of D_X10_extreme (i := 13) rfl) rfl rfl (by decide) rfl ?_
      refine s_sub [0, 1, 2, 3] rfl (s_lp (pc := 21) (Sf := fun (z2 : Int32 × Int32) => s1) (lvf := fun (z2 : Int32 × Int32) => [(0, .ref (ga G 131 0)), (1, .int a1), (2, .int z2.1), (3, .int z2.2)]) (fun rec3 hre4 z2 => ?_) FU ((-2), 0))
      refine s_iload_n 3 (n := 22) hX (dec_of D_X10_extreme (i := 14) rfl) rfl rfl rfl ?_
      refine s_aload_n 0 (n := 23) hX (dec_of D_X10_extreme (i := 15) rfl) rfl rfl rfl ?_
      refine s_getI (c := 10) (p := 10) (id := 850) (n := 26) hX cls10 (vk131 (by omega)) (dec_of D_X10_extreme (i := 16) rfl) rfl rfl wd_1356 ?_
      refine s_icmp_ge (tgt := 76) (n := 29) hX (dec_of D_X10_extreme (i := 17) rfl) rfl rfl ?_ ?_
      · refine s_iload_n 2 (n := 77) hX (dec_of D_X10_extreme (i := 42) rfl) rfl rfl rfl ?_
        exact s_iret hX hR (dec_of D_X10_extreme (i := 43) rfl) rfl
      · refine s_iload_n 2 (n := 30) hX (dec_of D_X10_extreme (i := 18) rfl) rfl rfl rfl ?_
        refine s_bipush (v := (-2)) (n := 32) hX (dec_of D_X10_extreme (i := 19) rfl) rfl (by decide) ?_
        refine s_icmp_eq (tgt := 68) (n := 35) hX (dec_of D_X10_extreme (i := 20) rfl) rfl rfl ?_ ?_
        · refine s_iload_n 3 (n := 69) hX (dec_of D_X10_extreme (i := 38) rfl) rfl rfl rfl ?_
          refine s_istore_n (lv' := [(0, _), (1, _), (2, _), (3, _)]) [1, 2, 0, 3] (n := 70) hX (dec_of D_X10_extreme (i := 39) rfl) rfl rfl (by decide) rfl ?_
          refine s_iinc (v := z2.2 + 1) (lv' := [(0, _), (1, _), (2, _), (3, _)]) 3 [1, 2, 3, 0] (n := 73) hX (dec_of D_X10_extreme (i := 40) rfl) rfl rfl rfl (by decide) rfl ?_
          refine s_goto (n := 21) hX (dec_of D_X10_extreme (i := 41) rfl) rfl ?_
          exact s_sub [0, 1, 2, 3] rfl (hre4 (z2.2, (z2.2 + 1)))
        · refine s_iload_n 1 (n := 36) hX (dec_of D_X10_extreme (i := 21) rfl) rfl rfl rfl ?_
          refine s_if_ne (tgt := 55) (n := 39) hX (dec_of D_X10_extreme (i := 22) rfl) rfl rfl ?_ ?_
          · refine s_aload_n 0 (n := 56) hX (dec_of D_X10_extreme (i := 31) rfl) rfl rfl rfl ?_
            refine s_iload_n 3 (n := 57) hX (dec_of D_X10_extreme (i := 32) rfl) rfl rfl rfl ?_
            refine s_callVI (c := 10) (n := 60) hX cls10 (vk131 (by omega)) lk_RX10_406 (dec_of D_X10_extreme (i := 33) rfl) rfl (by decide) (c_X10_netOf (l := _) hG _ _) rfl rfl (Nat.le_of_ble_eq_true rfl) (fun q5 => ?_)
            refine s_aload_n 0 (n := 61) hX (dec_of D_X10_extreme (i := 34) rfl) rfl rfl rfl ?_
            refine s_iload_n 2 (n := 62) hX (dec_of D_X10_extreme (i := 35) rfl) rfl rfl rfl ?_
            refine s_callVI (c := 10) (n := 65) hX cls10 (vk131 (by omega)) lk_RX10_406 (dec_of D_X10_extreme (i := 36) rfl) rfl (by decide) (c_X10_netOf (l := _) hG _ _) rfl rfl (Nat.le_of_ble_eq_true rfl) (fun q6 => ?_)
            refine s_icmp_ge (tgt := 70) (n := 68) hX (dec_of D_X10_extreme (i := 37) rfl) rfl rfl ?_ ?_
            · refine s_iinc (v := z2.2 + 1) (lv' := [(0, _), (1, _), (2, _), (3, _)]) 3 [1, 2, 3, 0] (n := 73) hX (dec_of D_X10_extreme (i := 40) rfl) rfl rfl rfl (by decide) rfl ?_
              refine s_goto (n := 21) hX (dec_of D_X10_extreme (i := 41) rfl) rfl ?_
              exact s_sub [0, 1, 2, 3] rfl (hre4 (z2.1, (z2.2 + 1)))
            · refine s_iload_n 3 (n := 69) hX (dec_of D_X10_extreme (i := 38) rfl) rfl rfl rfl ?_
              refine s_istore_n (lv' := [(0, _), (1, _), (2, _), (3, _)]) [1, 2, 0, 3] (n := 70) hX (dec_of D_X10_extreme (i := 39) rfl) rfl rfl (by decide) rfl ?_
              refine s_iinc (v := z2.2 + 1) (lv' := [(0, _), (1, _), (2, _), (3, _)]) 3 [1, 2, 3, 0] (n := 73) hX (dec_of D_X10_extreme (i := 40) rfl) rfl rfl rfl (by decide) rfl ?_
              refine s_goto (n := 21) hX (dec_of D_X10_extreme (i := 41) rfl) rfl ?_
              exact s_sub [0, 1, 2, 3] rfl (hre4 (z2.2, (z2.2 + 1)))
          · refine s_aload_n 0 (n := 40) hX (dec_of D_X10_extreme (i := 23) rfl) rfl rfl rfl ?_
            refine s_iload_n 3 (n := 41) hX (dec_of D_X10_extreme (i := 24) rfl) rfl rfl rfl ?_
            refine s_callVI (c := 10) (n := 44) hX cls10 (vk131 (by omega)) lk_RX10_406 (dec_of D_X10_extreme (i := 25) rfl) rfl (by decide) (c_X10_netOf (l := _) hG _ _) rfl rfl (Nat.le_of_ble_eq_true rfl) (fun q7 => ?_)
            refine s_aload_n 0 (n := 45) hX (dec_of D_X10_extreme (i := 26) rfl) rfl rfl rfl ?_
            refine s_iload_n 2 (n := 46) hX (dec_of D_X10_extreme (i := 27) rfl) rfl rfl rfl ?_
            refine s_callVI (c := 10) (n := 49) hX cls10 (vk131 (by omega)) lk_RX10_406 (dec_of D_X10_extreme (i := 28) rfl) rfl (by decide) (c_X10_netOf (l := _) hG _ _) rfl rfl (Nat.le_of_ble_eq_true rfl) (fun q8 => ?_)
            refine s_icmp_le (tgt := 70) (n := 52) hX (dec_of D_X10_extreme (i := 29) rfl) rfl rfl ?_ ?_
            · refine s_iinc (v := z2.2 + 1) (lv' := [(0, _), (1, _), (2, _), (3, _)]) 3 [1, 2, 3, 0] (n := 73) hX (dec_of D_X10_extreme (i := 40) rfl) rfl rfl rfl (by decide) rfl ?_
              refine s_goto (n := 21) hX (dec_of D_X10_extreme (i := 41) rfl) rfl ?_
              exact s_sub [0, 1, 2, 3] rfl (hre4 (z2.1, (z2.2 + 1)))
            · refine s_goto (n := 68) hX (dec_of D_X10_extreme (i := 30) rfl) rfl ?_
              refine s_iload_n 3 (n := 69) hX (dec_of D_X10_extreme (i := 38) rfl) rfl rfl rfl ?_
              refine s_istore_n (lv' := [(0, _), (1, _), (2, _), (3, _)]) [1, 2, 0, 3] (n := 70) hX (dec_of D_X10_extreme (i := 39) rfl) rfl rfl (by decide) rfl ?_
              refine s_iinc (v := z2.2 + 1) (lv' := [(0, _), (1, _), (2, _), (3, _)]) 3 [1, 2, 3, 0] (n := 73) hX (dec_of D_X10_extreme (i := 40) rfl) rfl rfl rfl (by decide) rfl ?_
              refine s_goto (n := 21) hX (dec_of D_X10_extreme (i := 41) rfl) rfl ?_
              exact s_sub [0, 1, 2, 3] rfl (hre4 (z2.2, (z2.2 + 1)))
    · refine s_iconst (v := (-1)) (n := 15) hX (dec_of D_X10_extreme (i := 8) rfl) rfl (by decide) ?_
      exact s_iret hX hR (dec_of D_X10_extreme (i := 9) rfl) rfl
def T_X10_idle : List (Nat × Instr × Nat) := [(0, .aload_n 0, 1), (1, .iconst 0, 1), (2, .putfield 86, 3), (5, .iconst 0, 1), (6, .istore_n 1, 1), (7, .iconst 0, 1), (8, .istore_n 2, 1), (9, .iload_n 2, 1), (10, .aload_n 0, 1), (11, .getfield 232, 3), (14, .if_icmp .ge 77, 3), (17, .aload_n 0, 1), (18, .iload_n 2, 1), (19, .invokevirtual 267, 3), (22, .ifCond .ne 7, 3), (25, .iconst 1, 1), (26, .goto 4, 3), (29, .iconst 0, 1), (30, .istore_n 3, 1), (31, .iconst 0, 1), (32, .istore 4, 2), (34, .iload 4, 2), (36, .aload_n 0, 1), (37, .getfield 235, 3), (40, .if_icmp .ge 31, 3), (43, .iload_n 3, 1), (44, .ifCond .eq 19, 3), (47, .aload_n 0, 1), (48, .iload_n 2, 1), (49, .iload 4, 2), (51, .invokevirtual 273, 3), (54, .bipush (-2), 2), (56, .if_icmp .ne 7, 3), (59, .iconst 1, 1), (60, .goto 4, 3), (63, .iconst 0, 1), (64, .istore_n 3, 1), (65, .iinc 4 1, 3), (68, .goto (-34), 3), (71, .iload_n 1, 1), (72, .iload_n 3, 1), (73, .ifCond .eq 9, 3), (76, .iconst 1, 1), (77, .iload_n 2, 1), (78, .ishl, 1), (79, .goto 4, 3), (82, .iconst 0, 1), (83, .ior, 1), (84, .istore_n 1, 1), (85, .iinc 2 1, 3), (88, .goto (-79), 3), (91, .iload_n 1, 1), (92, .ireturn, 1)]
theorem D_X10_idle : dchk cX10_idle T_X10_idle = true := by decide +kernel
def Mo_idle (σ : ST)  : Option (Int32 × ST) :=
  lt_ (setF σ 840 0 0) (fun s1 => lp_ (fun rec3 (z2 : Int32 × Int32) => (if (gF s1 851 0) ≤ z2.2 then some (z2.1, s1) else bd_ (Mo_paidAll s1 z2.2) (fun q5 => lk_ (fun kk7 => (if q5 = 0 then kk7 1 else kk7 0)) (fun (j6 : Int32) => lp_ (fun rec10 (z9 : Int32 × Int32) => (if (gF s1 852 0) ≤ z9.2 then (if z9.1 = 0 then lt_ ((z2.1 ||| 0)) (fun x12 => rec3 (x12, (z2.2 + 1))) else lt_ ((z2.1 ||| (1 <<< (z2.2 &&& 31)))) (fun x13 => rec3 (x13, (z2.2 + 1)))) else (if z9.1 = 0 then rec10 (0, (z9.2 + 1)) else bd_ (Mo_roleOf s1 z2.2 z9.2) (fun q14 => (if q14 = (-2) then rec10 (1, (z9.2 + 1)) else rec10 (0, (z9.2 + 1))))))) FU (j6, 0))))) FU (0, 0))
set_option maxHeartbeats 4000000 in
set_option maxRecDepth 100000 in
theorem c_X10_idle {G : GW} (hG : Good G) {l : Launch} (σ : ST)  : Ctr G l yX10_idle cX10_idle 5 (some .int) 2 [.ref (ga G 131 0)] σ oP (Mo_idle σ ) := by
  refine ctr_of hG (by decide) (Nat.le_of_ble_eq_true rfl) ?_
  intro X hXl hR hX
  have hX : Ok G X cX10_idle 5 RX10 2 := hX
  unfold Mo_idle
  show Sim G X 5 (MQX G X oP) σ 0 [(0, .ref (ga G 131 0))] [] _
  refine s_aload_n 0 (n := 1) hX (dec_of D_X10_idle (i := 0) rfl) rfl rfl rfl ?_
  refine s_iconst (v := 0) (n := 2) hX (dec_of D_X10_idle (i := 1) rfl) rfl (by decide) ?_
  refine s_putI (c := 10) (p := 0) (n := 5) hX cls10 (vk131 (by omega)) (dec_of D_X10_idle (i := 2) rfl) rfl rfl (by decide) wd_1346 rfl rfl rfl (fun s1 => ?_)
  refine s_iconst (v := 0) (n := 6) hX (dec_of D_X10_idle (i := 3) rfl) rfl (by decide) ?_
  refine s_istore_n (lv' := [(0, _), (1, _)]) [1, 0] (n := 7) hX (dec_of D_X10_idle (i := 4) rfl) rfl rfl (by decide) rfl ?_
  refine s_iconst (v := 0) (n := 8) hX (dec_of D_X10_idle (i := 5) rfl) rfl (by decide) ?_
  refine s_istore_n (lv' := [(0, _), (1, _), (2, _)]) [1, 2, 0] (n := 9) hX (dec_of D_X10_idle (i := 6) rfl) rfl rfl (by decide) rfl ?_
  refine s_sub [0, 1, 2] rfl (s_lp (pc := 9) (Sf := fun (z2 : Int32 × Int32) => s1) (lvf := fun (z2 : Int32 × Int32) => [(0, .ref (ga G 131 0)), (1, .int z2.1), (2, .int z2.2)]) (fun rec3 hre4 z2 => ?_) FU (0, 0))
  refine s_iload_n 2 (n := 10) hX (dec_of D_X10_idle (i := 7) rfl) rfl rfl rfl ?_
  refine s_aload_n 0 (n := 11) hX (dec_of D_X10_idle (i := 8) rfl) rfl rfl rfl ?_
  refine s_getI (c := 10) (p := 11) (id := 851) (n := 14) hX cls10 (vk131 (by omega)) (dec_of D_X10_idle (i := 9) rfl) rfl rfl wd_1357 ?_
  refine s_icmp_ge (tgt := 91) (n := 17) hX (dec_of D_X10_idle (i := 10) rfl) rfl rfl ?_ ?_
  · refine s_iload_n 1 (n := 92) hX (dec_of D_X10_idle (i := 51) rfl) rfl rfl rfl ?_
    exact s_iret hX hR (dec_of D_X10_idle (i := 52) rfl) rfl
  · refine s_aload_n 0 (n := 18) hX (dec_of D_X10_idle (i := 11) rfl) rfl rfl rfl ?_
    refine s_iload_n 2 (n := 19) hX (dec_of D_X10_idle (i := 12) rfl) rfl rfl rfl ?_
    refine s_callVI (c := 10) (n := 22) hX cls10 (vk131 (by omega)) lk_RX10_267 (dec_of D_X10_idle (i := 13) rfl) rfl (by decide) (c_X10_paidAll (l := _) hG _ _) rfl rfl (Nat.le_of_ble_eq_true rfl) (fun q5 => ?_)
    refine s_lk (pcj := 30) (Sf := fun (j6 : Int32) => s1) (lvf := fun (j6 : Int32) => [(0, .ref (ga G 131 0)), (1, .int z2.1), (2, .int z2.2)]) (stf := fun (j6 : Int32) => [.int j6]) (fun j6 => ?_) (fun kk7 hkk8 => ?_)
    · refine s_istore_n (lv' := [(0, _), (1, _), (2, _), (3, _)]) [1, 2, 3, 0] (n := 31) hX (dec_of D_X10_idle (i := 18) rfl) rfl rfl (by decide) rfl ?_
      refine s_iconst (v := 0) (n := 32) hX (dec_of D_X10_idle (i := 19) rfl) rfl (by decide) ?_
      refine s_istore (lv' := [(0, _), (1, _), (2, _), (3, _), (4, _)]) [1, 2, 3, 4, 0] (n := 34) hX (dec_of D_X10_idle (i := 20) rfl) rfl (by decide) rfl ?_
      refine s_sub [0, 1, 2, 3, 4] rfl (s_lp (pc := 34) (Sf := fun (z9 : Int32 × Int32) => s1) (lvf := fun (z9 : Int32 × Int32) => [(0, .ref (ga G 131 0)), (1, .int z2.1), (2, .int z2.2), (3, .int z9.1), (4, .int z9.2)]) (fun rec10 hre11 z9 => ?_) FU (j6, 0))
      refine s_iload 4 (n := 36) hX (dec_of D_X10_idle (i := 21) rfl) rfl rfl ?_
      refine s_aload_n 0 (n := 37) hX (dec_of D_X10_idle (i := 22) rfl) rfl rfl rfl ?_
      refine s_getI (c := 10) (p := 12) (id := 852) (n := 40) hX cls10 (vk131 (by omega)) (dec_of D_X10_idle (i := 23) rfl) rfl rfl wd_1358 ?_
      refine s_icmp_ge (tgt := 71) (n := 43) hX (dec_of D_X10_idle (i := 24) rfl) rfl rfl ?_ ?_
      · refine s_iload_n 1 (n := 72) hX (dec_of D_X10_idle (i := 39) rfl) rfl rfl rfl ?_
        refine s_iload_n 3 (n := 73) hX (dec_of D_X10_idle (i := 40) rfl) rfl rfl rfl ?_
        refine s_if_eq (tgt := 82) (n := 76) hX (dec_of D_X10_idle (i := 41) rfl) rfl rfl ?_ ?_
        · refine s_iconst (v := 0) (n := 83) hX (dec_of D_X10_idle (i := 46) rfl) rfl (by decide) ?_
          refine s_ior (n := 84) hX (dec_of D_X10_idle (i := 47) rfl) rfl ?_
          refine s_topi (fun x12 => ?_)
          refine s_istore_n (lv' := [(0, _), (1, _), (2, _), (3, _), (4, _)]) [1, 0, 2, 3, 4] (n := 85) hX (dec_of D_X10_idle (i := 48) rfl) rfl rfl (by decide) rfl ?_
          refine s_iinc (v := z2.2 + 1) (lv' := [(0, _), (1, _), (2, _), (3, _), (4, _)]) 2 [1, 2, 0, 3, 4] (n := 88) hX (dec_of D_X10_idle (i := 49) rfl) rfl rfl rfl (by decide) rfl ?_
          refine s_goto (n := 9) hX (dec_of D_X10_idle (i := 50) rfl) rfl ?_
          exact s_sub [0, 1, 2] rfl (hre4 (x12, (z2.2 + 1)))
        · refine s_iconst (v := 1) (n := 77) hX (dec_of D_X10_idle (i := 42) rfl) rfl (by decide) ?_
          refine s_iload_n 2 (n := 78) hX (dec_of D_X10_idle (i := 43) rfl) rfl rfl rfl ?_
          refine s_ishl (n := 79) hX (dec_of D_X10_idle (i := 44) rfl) rfl ?_
          refine s_goto (n := 83) hX (dec_of D_X10_idle (i := 45) rfl) rfl ?_
          refine s_ior (n := 84) hX (dec_of D_X10_idle (i := 47) rfl) rfl ?_
          refine s_topi (fun x13 => ?_)
          refine s_istore_n (lv' := [(0, _), (1, _), (2, _), (3, _), (4, _)]) [1, 0, 2, 3, 4] (n := 85) hX (dec_of D_X10_idle (i := 48) rfl) rfl rfl (by decide) rfl ?_
          refine s_iinc (v := z2.2 + 1) (lv' := [(0, _), (1, _), (2, _), (3, _), (4, _)]) 2 [1, 2, 0, 3, 4] (n := 88) hX (dec_of D_X10_idle (i := 49) rfl) rfl rfl rfl (by decide) rfl ?_
          refine s_goto (n := 9) hX (dec_of D_X10_idle (i := 50) rfl) rfl ?_
          exact s_sub [0, 1, 2] rfl (hre4 (x13, (z2.2 + 1)))
      · refine s_iload_n 3 (n := 44) hX (dec_of D_X10_idle (i := 25) rfl) rfl rfl rfl ?_
        refine s_if_eq (tgt := 63) (n := 47) hX (dec_of D_X10_idle (i := 26) rfl) rfl rfl ?_ ?_
        · refine s_iconst (v := 0) (n := 64) hX (dec_of D_X10_idle (i := 35) rfl) rfl (by decide) ?_
          refine s_istore_n (lv' := [(0, _), (1, _), (2, _), (3, _), (4, _)]) [1, 2, 3, 0, 4] (n := 65) hX (dec_of D_X10_idle (i := 36) rfl) rfl rfl (by decide) rfl ?_
          refine s_iinc (v := z9.2 + 1) (lv' := [(0, _), (1, _), (2, _), (3, _), (4, _)]) 4 [1, 2, 3, 4, 0] (n := 68) hX (dec_of D_X10_idle (i := 37) rfl) rfl rfl rfl (by decide) rfl ?_
          refine s_goto (n := 34) hX (dec_of D_X10_idle (i := 38) rfl) rfl ?_
          exact s_sub [0, 1, 2, 3, 4] rfl (hre11 (0, (z9.2 + 1)))
        · refine s_aload_n 0 (n := 48) hX (dec_of D_X10_idle (i := 27) rfl) rfl rfl rfl ?_
          refine s_iload_n 2 (n := 49) hX (dec_of D_X10_idle (i := 28) rfl) rfl rfl rfl ?_
          refine s_iload 4 (n := 51) hX (dec_of D_X10_idle (i := 29) rfl) rfl rfl ?_
          refine s_callVI (c := 10) (n := 54) hX cls10 (vk131 (by omega)) lk_RX10_273 (dec_of D_X10_idle (i := 30) rfl) rfl (by decide) (c_X10_roleOf (l := _) hG _ _ _) rfl rfl (Nat.le_of_ble_eq_true rfl) (fun q14 => ?_)
          refine s_bipush (v := (-2)) (n := 56) hX (dec_of D_X10_idle (i := 31) rfl) rfl (by decide) ?_
          refine s_icmp_ne (tgt := 63) (n := 59) hX (dec_of D_X10_idle (i := 32) rfl) rfl rfl ?_ ?_
          · refine s_iconst (v := 0) (n := 64) hX (dec_of D_X10_idle (i := 35) rfl) rfl (by decide) ?_
            refine s_istore_n (lv' := [(0, _), (1, _), (2, _), (3, _), (4, _)]) [1, 2, 3, 0, 4] (n := 65) hX (dec_of D_X10_idle (i := 36) rfl) rfl rfl (by decide) rfl ?_
            refine s_iinc (v := z9.2 + 1) (lv' := [(0, _), (1, _), (2, _), (3, _), (4, _)]) 4 [1, 2, 3, 4, 0] (n := 68) hX (dec_of D_X10_idle (i := 37) rfl) rfl rfl rfl (by decide) rfl ?_
            refine s_goto (n := 34) hX (dec_of D_X10_idle (i := 38) rfl) rfl ?_
            exact s_sub [0, 1, 2, 3, 4] rfl (hre11 (0, (z9.2 + 1)))
          · refine s_iconst (v := 1) (n := 60) hX (dec_of D_X10_idle (i := 33) rfl) rfl (by decide) ?_
            refine s_goto (n := 64) hX (dec_of D_X10_idle (i := 34) rfl) rfl ?_
            refine s_istore_n (lv' := [(0, _), (1, _), (2, _), (3, _), (4, _)]) [1, 2, 3, 0, 4] (n := 65) hX (dec_of D_X10_idle (i := 36) rfl) rfl rfl (by decide) rfl ?_
            refine s_iinc (v := z9.2 + 1) (lv' := [(0, _), (1, _), (2, _), (3, _), (4, _)]) 4 [1, 2, 3, 4, 0] (n := 68) hX (dec_of D_X10_idle (i := 37) rfl) rfl rfl rfl (by decide) rfl ?_
            refine s_goto (n := 34) hX (dec_of D_X10_idle (i := 38) rfl) rfl ?_
            exact s_sub [0, 1, 2, 3, 4] rfl (hre11 (1, (z9.2 + 1)))
    · refine s_if_ne (tgt := 29) (n := 25) hX (dec_of D_X10_idle (i := 14) rfl) rfl rfl ?_ ?_
      · refine s_iconst (v := 0) (n := 30) hX (dec_of D_X10_idle (i := 17) rfl) rfl (by decide) ?_
        exact s_sub [0, 1, 2] rfl (hkk8 0)
      · refine s_iconst (v := 1) (n := 26) hX (dec_of D_X10_idle (i := 15) rfl) rfl (by decide) ?_
        refine s_goto (n := 30) hX (dec_of D_X10_idle (i := 16) rfl) rfl ?_
        exact s_sub [0, 1, 2] rfl (hkk8 1)
def T_X10_bestLand : List (Nat × Instr × Nat) := [(0, .aload_n 0, 1), (1, .iconst 0, 1), (2, .putfield 86, 3), (5, .aload_n 0, 1), (6, .iload_n 1, 1), (7, .invokevirtual 264, 3), (10, .ifCond .eq 29, 3), (13, .aload_n 0, 1), (14, .iload_n 2, 1), (15, .invokevirtual 241, 3), (18, .ifCond .eq 21, 3), (21, .iload_n 3, 1), (22, .invokestatic 324, 3), (25, .ifCond .eq 14, 3), (28, .iload 4, 2), (30, .ifCond .lt 9, 3), (33, .iload 4, 2), (35, .iconst 1, 1), (36, .if_icmp .le 5, 3), (39, .iconst (-1), 1), (40, .ireturn, 1), (41, .bipush (-2), 2), (43, .istore 5, 2), (45, .bipush (-2), 2), (47, .istore 6, 2), (49, .iconst 0, 1), (50, .istore 7, 2), (52, .iload 7, 2), (54, .aload_n 0, 1), (55, .getfield 229, 3), (58, .if_icmp .ge 46, 3), (61, .aload_n 0, 1), (62, .iload_n 1, 1), (63, .iload 7, 2), (65, .iload_n 2, 1), (66, .iload_n 3, 1), (67, .aload_n 0, 1), (68, .getfield 13, 3), (71, .iload 7, 2), (73, .iaload, 1), (74, .imul, 1), (75, .invokevirtual 391, 3), (78, .istore 8, 2), (80, .iload 8, 2), (82, .iload 6, 2), (84, .if_icmp .gt 6, 3), (87, .goto 11, 3), (90, .iload 7, 2), (92, .istore 5, 2), (94, .iload 8, 2), (96, .istore 6, 2), (98, .iinc 7 1, 3), (101, .goto (-49), 3), (104, .iload 4, 2), (106, .ifCond .ne 8, 3), (109, .iload 5, 2), (111, .goto 5, 3), (114, .iload 6, 2), (116, .ireturn, 1)]
theorem D_X10_bestLand : dchk cX10_bestLand T_X10_bestLand = true := by decide +kernel
def Mo_bestLand (σ : ST) (a1 : Int32) (a2 : Int32) (a3 : Int32) (a4 : Int32) : Option (Int32 × ST) :=
  lt_ (setF σ 840 0 0) (fun s1 => bd_ (Mo_isPlayer s1 a1) (fun q2 => (if q2 = 0 then some ((-1), s1) else bd_ (Mo_isSession s1 a2) (fun q3 => (if q3 = 0 then some ((-1), s1) else bd_ (Mo_areCopies s1 a3) (fun q4 => (if q4 = 0 then some ((-1), s1) else (if a4 < 0 then some ((-1), s1) else (if a4 ≤ 1 then lp_ (fun rec6 (z5 : ST × Int32 × Int32 × Int32) => (if (gF z5.1 850 0) ≤ z5.2.2.2 then (if a4 = 0 then some (z5.2.1, z5.1) else some (z5.2.2.1, z5.1)) else bd_ (ldI z5.1 29 0 z5.2.2.2) (fun v8 => bd_ (Mo_paidTo z5.1 a1 z5.2.2.2 a2 (a3 * v8)) (fun q9 => (if z5.2.2.1 < q9.1 then rec6 (q9.2, z5.2.2.2, q9.1, (z5.2.2.2 + 1)) else rec6 (q9.2, z5.2.1, z5.2.2.1, (z5.2.2.2 + 1))))))) FU (s1, (-2), (-2), 0) else some ((-1), s1))))))))))
set_option maxHeartbeats 4000000 in
set_option maxRecDepth 100000 in
theorem c_X10_bestLand {G : GW} (hG : Good G) {l : Launch} (σ : ST) (a1 : Int32) (a2 : Int32) (a3 : Int32) (a4 : Int32) : Ctr G l yX10_bestLand cX10_bestLand 9 (some .int) 4 [.ref (ga G 131 0), .int a1, .int a2, .int a3, .int a4] σ oP (Mo_bestLand σ a1 a2 a3 a4) := by
  refine ctr_of hG (by decide) (Nat.le_of_ble_eq_true rfl) ?_
  intro X hXl hR hX
  have hX : Ok G X cX10_bestLand 9 RX10 4 := hX
  unfold Mo_bestLand
  show Sim G X 9 (MQX G X oP) σ 0 [(0, .ref (ga G 131 0)), (1, .int a1), (2, .int a2), (3, .int a3), (4, .int a4)] [] _
  refine s_aload_n 0 (n := 1) hX (dec_of D_X10_bestLand (i := 0) rfl) rfl rfl rfl ?_
  refine s_iconst (v := 0) (n := 2) hX (dec_of D_X10_bestLand (i := 1) rfl) rfl (by decide) ?_
  refine s_putI (c := 10) (p := 0) (n := 5) hX cls10 (vk131 (by omega)) (dec_of D_X10_bestLand (i := 2) rfl) rfl rfl (by decide) wd_1346 rfl rfl rfl (fun s1 => ?_)
  refine s_aload_n 0 (n := 6) hX (dec_of D_X10_bestLand (i := 3) rfl) rfl rfl rfl ?_
  refine s_iload_n 1 (n := 7) hX (dec_of D_X10_bestLand (i := 4) rfl) rfl rfl rfl ?_
  refine s_callVI (c := 10) (n := 10) hX cls10 (vk131 (by omega)) lk_RX10_264 (dec_of D_X10_bestLand (i := 5) rfl) rfl (by decide) (c_X10_isPlayer (l := _) hG _ _) rfl rfl (Nat.le_of_ble_eq_true rfl) (fun q2 => ?_)
  refine s_if_eq (tgt := 39) (n := 13) hX (dec_of D_X10_bestLand (i := 6) rfl) rfl rfl ?_ ?_
  · refine s_iconst (v := (-1)) (n := 40) hX (dec_of D_X10_bestLand (i := 19) rfl) rfl (by decide) ?_
    exact s_iret hX hR (dec_of D_X10_bestLand (i := 20) rfl) rfl
  · refine s_aload_n 0 (n := 14) hX (dec_of D_X10_bestLand (i := 7) rfl) rfl rfl rfl ?_
    refine s_iload_n 2 (n := 15) hX (dec_of D_X10_bestLand (i := 8) rfl) rfl rfl rfl ?_
    refine s_callVI (c := 10) (n := 18) hX cls10 (vk131 (by omega)) lk_RX10_241 (dec_of D_X10_bestLand (i := 9) rfl) rfl (by decide) (c_X10_isSession (l := _) hG _ _) rfl rfl (Nat.le_of_ble_eq_true rfl) (fun q3 => ?_)
    refine s_if_eq (tgt := 39) (n := 21) hX (dec_of D_X10_bestLand (i := 10) rfl) rfl rfl ?_ ?_
    · refine s_iconst (v := (-1)) (n := 40) hX (dec_of D_X10_bestLand (i := 19) rfl) rfl (by decide) ?_
      exact s_iret hX hR (dec_of D_X10_bestLand (i := 20) rfl) rfl
    · refine s_iload_n 3 (n := 22) hX (dec_of D_X10_bestLand (i := 11) rfl) rfl rfl rfl ?_
      refine s_callSI (n := 25) hX lk_RX10_324 (dec_of D_X10_bestLand (i := 12) rfl) rfl (by decide) (c_X10_areCopies (l := _) hG _ _) rfl rfl (Nat.le_of_ble_eq_true rfl) (fun q4 => ?_)
      refine s_if_eq (tgt := 39) (n := 28) hX (dec_of D_X10_bestLand (i := 13) rfl) rfl rfl ?_ ?_
      · refine s_iconst (v := (-1)) (n := 40) hX (dec_of D_X10_bestLand (i := 19) rfl) rfl (by decide) ?_
        exact s_iret hX hR (dec_of D_X10_bestLand (i := 20) rfl) rfl
      · refine s_iload 4 (n := 30) hX (dec_of D_X10_bestLand (i := 14) rfl) rfl rfl ?_
        refine s_if_lt (tgt := 39) (n := 33) hX (dec_of D_X10_bestLand (i := 15) rfl) rfl rfl ?_ ?_
        · refine s_iconst (v := (-1)) (n := 40) hX (dec_of D_X10_bestLand (i := 19) rfl) rfl (by decide) ?_
          exact s_iret hX hR (dec_of D_X10_bestLand (i := 20) rfl) rfl
        · refine s_iload 4 (n := 35) hX (dec_of D_X10_bestLand (i := 16) rfl) rfl rfl ?_
          refine s_iconst (v := 1) (n := 36) hX (dec_of D_X10_bestLand (i := 17) rfl) rfl (by decide) ?_
          refine s_icmp_le (tgt := 41) (n := 39) hX (dec_of D_X10_bestLand (i := 18) rfl) rfl rfl ?_ ?_
          · refine s_bipush (v := (-2)) (n := 43) hX (dec_of D_X10_bestLand (i := 21) rfl) rfl (by decide) ?_
            refine s_istore (lv' := [(0, _), (1, _), (2, _), (3, _), (4, _), (5, _)]) [1, 2, 3, 4, 5, 0] (n := 45) hX (dec_of D_X10_bestLand (i := 22) rfl) rfl (by decide) rfl ?_
            refine s_bipush (v := (-2)) (n := 47) hX (dec_of D_X10_bestLand (i := 23) rfl) rfl (by decide) ?_
            refine s_istore (lv' := [(0, _), (1, _), (2, _), (3, _), (4, _), (5, _), (6, _)]) [1, 2, 3, 4, 5, 6, 0] (n := 49) hX (dec_of D_X10_bestLand (i := 24) rfl) rfl (by decide) rfl ?_
            refine s_iconst (v := 0) (n := 50) hX (dec_of D_X10_bestLand (i := 25) rfl) rfl (by decide) ?_
            refine s_istore (lv' := [(0, _), (1, _), (2, _), (3, _), (4, _), (5, _), (6, _), (7, _)]) [1, 2, 3, 4, 5, 6, 7, 0] (n := 52) hX (dec_of D_X10_bestLand (i := 26) rfl) rfl (by decide) rfl ?_
            refine s_sub [0, 1, 2, 3, 4, 5, 6, 7] rfl (s_lp (pc := 52) (Sf := fun (z5 : ST × Int32 × Int32 × Int32) => z5.1) (lvf := fun (z5 : ST × Int32 × Int32 × Int32) => [(0, .ref (ga G 131 0)), (1, .int a1), (2, .int a2), (3, .int a3), (4, .int a4), (5, .int z5.2.1), (6, .int z5.2.2.1), (7, .int z5.2.2.2)]) (fun rec6 hre7 z5 => ?_) FU (s1, (-2), (-2), 0))
            refine s_iload 7 (n := 54) hX (dec_of D_X10_bestLand (i := 27) rfl) rfl rfl ?_
            refine s_aload_n 0 (n := 55) hX (dec_of D_X10_bestLand (i := 28) rfl) rfl rfl rfl ?_
            refine s_getI (c := 10) (p := 10) (id := 850) (n := 58) hX cls10 (vk131 (by omega)) (dec_of D_X10_bestLand (i := 29) rfl) rfl rfl wd_1356 ?_
            refine s_icmp_ge (tgt := 104) (n := 61) hX (dec_of D_X10_bestLand (i := 30) rfl) rfl rfl ?_ ?_
            · refine s_iload 4 (n := 106) hX (dec_of D_X10_bestLand (i := 53) rfl) rfl rfl ?_
              refine s_if_ne (tgt := 114) (n := 109) hX (dec_of D_X10_bestLand (i := 54) rfl) rfl rfl ?_ ?_
              · refine s_iload 6 (n := 116) hX (dec_of D_X10_bestLand (i := 57) rfl) rfl rfl ?_
                exact s_iret hX hR (dec_of D_X10_bestLand (i := 58) rfl) rfl
              · refine s_iload 5 (n := 111) hX (dec_of D_X10_bestLand (i := 55) rfl) rfl rfl ?_
                refine s_goto (n := 116) hX (dec_of D_X10_bestLand (i := 56) rfl) rfl ?_
                exact s_iret hX hR (dec_of D_X10_bestLand (i := 58) rfl) rfl
            · refine s_aload_n 0 (n := 62) hX (dec_of D_X10_bestLand (i := 31) rfl) rfl rfl rfl ?_
              refine s_iload_n 1 (n := 63) hX (dec_of D_X10_bestLand (i := 32) rfl) rfl rfl rfl ?_
              refine s_iload 7 (n := 65) hX (dec_of D_X10_bestLand (i := 33) rfl) rfl rfl ?_
              refine s_iload_n 2 (n := 66) hX (dec_of D_X10_bestLand (i := 34) rfl) rfl rfl rfl ?_
              refine s_iload_n 3 (n := 67) hX (dec_of D_X10_bestLand (i := 35) rfl) rfl rfl rfl ?_
              refine s_aload_n 0 (n := 68) hX (dec_of D_X10_bestLand (i := 36) rfl) rfl rfl rfl ?_
              refine s_getR (c := 10) (p := 3) (k' := 29) (n := 71) hX cls10 (vk131 (by omega)) (dec_of D_X10_bestLand (i := 37) rfl) rfl rfl wd_1349 ?_
              refine s_iload 7 (n := 73) hX (dec_of D_X10_bestLand (i := 38) rfl) rfl rfl ?_
              refine s_iald (n := 74) hX (vk29 (by omega)) (by decide) (dec_of D_X10_bestLand (i := 39) rfl) rfl (fun v8 => ?_)
              refine s_imul (n := 75) hX (dec_of D_X10_bestLand (i := 40) rfl) rfl ?_
              refine s_callVP (c := 10) (n := 78) hX cls10 (vk131 (by omega)) lk_RX10_391 (dec_of D_X10_bestLand (i := 41) rfl) rfl (by decide) (c_X10_paidTo (l := _) hG _ _ _ _ _) rfl rfl (Nat.le_of_ble_eq_true rfl) (fun q9 => ?_)
              refine s_istore (lv' := [(0, _), (1, _), (2, _), (3, _), (4, _), (5, _), (6, _), (7, _), (8, _)]) [1, 2, 3, 4, 5, 6, 7, 8, 0] (n := 80) hX (dec_of D_X10_bestLand (i := 42) rfl) rfl (by decide) rfl ?_
              refine s_iload 8 (n := 82) hX (dec_of D_X10_bestLand (i := 43) rfl) rfl rfl ?_
              refine s_iload 6 (n := 84) hX (dec_of D_X10_bestLand (i := 44) rfl) rfl rfl ?_
              refine s_icmp_gt (tgt := 90) (n := 87) hX (dec_of D_X10_bestLand (i := 45) rfl) rfl rfl ?_ ?_
              · refine s_iload 7 (n := 92) hX (dec_of D_X10_bestLand (i := 47) rfl) rfl rfl ?_
                refine s_istore (lv' := [(0, _), (1, _), (2, _), (3, _), (4, _), (5, _), (6, _), (7, _), (8, _)]) [1, 2, 3, 4, 5, 0, 6, 7, 8] (n := 94) hX (dec_of D_X10_bestLand (i := 48) rfl) rfl (by decide) rfl ?_
                refine s_iload 8 (n := 96) hX (dec_of D_X10_bestLand (i := 49) rfl) rfl rfl ?_
                refine s_istore (lv' := [(0, _), (1, _), (2, _), (3, _), (4, _), (5, _), (6, _), (7, _), (8, _)]) [1, 2, 3, 4, 5, 6, 0, 7, 8] (n := 98) hX (dec_of D_X10_bestLand (i := 50) rfl) rfl (by decide) rfl ?_
                refine s_iinc (v := z5.2.2.2 + 1) (lv' := [(0, _), (1, _), (2, _), (3, _), (4, _), (5, _), (6, _), (7, _), (8, _)]) 7 [1, 2, 3, 4, 5, 6, 7, 0, 8] (n := 101) hX (dec_of D_X10_bestLand (i := 51) rfl) rfl rfl rfl (by decide) rfl ?_
                refine s_goto (n := 52) hX (dec_of D_X10_bestLand (i := 52) rfl) rfl ?_
                exact s_sub [0, 1, 2, 3, 4, 5, 6, 7] rfl (hre7 (q9.2, z5.2.2.2, q9.1, (z5.2.2.2 + 1)))
              · refine s_goto (n := 98) hX (dec_of D_X10_bestLand (i := 46) rfl) rfl ?_
                refine s_iinc (v := z5.2.2.2 + 1) (lv' := [(0, _), (1, _), (2, _), (3, _), (4, _), (5, _), (6, _), (7, _), (8, _)]) 7 [1, 2, 3, 4, 5, 6, 7, 0, 8] (n := 101) hX (dec_of D_X10_bestLand (i := 51) rfl) rfl rfl rfl (by decide) rfl ?_
                refine s_goto (n := 52) hX (dec_of D_X10_bestLand (i := 52) rfl) rfl ?_
                exact s_sub [0, 1, 2, 3, 4, 5, 6, 7] rfl (hre7 (q9.2, z5.2.1, z5.2.2.1, (z5.2.2.2 + 1)))
          · refine s_iconst (v := (-1)) (n := 40) hX (dec_of D_X10_bestLand (i := 19) rfl) rfl (by decide) ?_
            exact s_iret hX hR (dec_of D_X10_bestLand (i := 20) rfl) rfl
def T_X10_toPlayersOf : List (Nat × Instr × Nat) := [(0, .iconst 0, 1), (1, .istore_n 2, 1), (2, .iconst 0, 1), (3, .istore_n 3, 1), (4, .iload_n 3, 1), (5, .aload_n 0, 1), (6, .getfield 229, 3), (9, .if_icmp .ge 120, 3), (12, .iconst 0, 1), (13, .istore 4, 2), (15, .iload 4, 2), (17, .aload_n 0, 1), (18, .getfield 235, 3), (21, .if_icmp .ge 102, 3), (24, .aload_n 0, 1), (25, .iload 4, 2), (27, .sipush 1000, 3), (30, .aload_n 0, 1), (31, .getfield 13, 3), (34, .iload_n 3, 1), (35, .iaload, 1), (36, .imul, 1), (37, .invokevirtual 316, 3), (40, .iconst 0, 1), (41, .istore 5, 2), (43, .iload 5, 2), (45, .aload_n 0, 1), (46, .iload 4, 2), (48, .invokevirtual 305, 3), (51, .if_icmp .ge 66, 3), (54, .aload_n 0, 1), (55, .iload 4, 2), (57, .iload 5, 2), (59, .invokevirtual 313, 3), (62, .istore 6, 2), (64, .iload_n 2, 1), (65, .iload 6, 2), (67, .iconst (-1), 1), (68, .if_icmp .eq 40, 3), (71, .aload_n 0, 1), (72, .getfield 28, 3), (75, .sipush 2672, 3), (78, .iload 6, 2), (80, .iadd, 1), (81, .iaload, 1), (82, .iload_n 1, 1), (83, .if_icmp .ne 25, 3), (86, .aload_n 0, 1), (87, .iload_n 3, 1), (88, .iload 4, 2), (90, .iload 5, 2), (92, .invokevirtual 320, 3), (95, .ifCond .ne 13, 3), (98, .aload_n 0, 1), (99, .getfield 71, 3), (102, .iload 5, 2), (104, .iaload, 1), (105, .goto 4, 3), (108, .iconst 0, 1), (109, .iadd, 1), (110, .istore_n 2, 1), (111, .iinc 5 1, 3), (114, .goto (-71), 3), (117, .iinc 4 1, 3), (120, .goto (-105), 3), (123, .iinc 3 1, 3), (126, .goto (-122), 3), (129, .iload_n 2, 1), (130, .ireturn, 1)]
theorem D_X10_toPlayersOf : dchk cX10_toPlayersOf T_X10_toPlayersOf = true := by decide +kernel
def Mo_toPlayersOf (σ : ST) (a1 : Int32) : Option (Int32 × ST) :=
  lp_ (fun rec2 (z1 : ST × Int32 × Int32) => (if (gF z1.1 850 0) ≤ z1.2.2 then some (z1.2.1, z1.1) else lp_ (fun rec5 (z4 : ST × Int32 × Int32) => (if (gF z4.1 852 0) ≤ z4.2.2 then rec2 (z4.1, z4.2.1, (z1.2.2 + 1)) else bd_ (ldI z4.1 29 0 z1.2.2) (fun v7 => bd_ (Mo_laysShares z4.1 z4.2.2 (1000 * v7)) (fun q8 => lp_ (fun rec10 (z9 : Int32 × Int32) => bd_ (Mo_whole q8 z4.2.2) (fun q12 => (if q12 ≤ z9.2 then rec5 (q8, z9.1, (z4.2.2 + 1)) else bd_ (Mo_whose q8 z4.2.2 z9.2) (fun q13 => (if q13 = (-1) then lt_ ((z9.1 + 0)) (fun x14 => rec10 (x14, (z9.2 + 1))) else bd_ (ldI q8 34 0 (2672 + q13)) (fun v15 => (if v15 = a1 then bd_ (Mo_where q8 z1.2.2 z4.2.2 z9.2) (fun q17 => (if q17 = 0 then bd_ (ldI q8 47 0 z9.2) (fun v19 => lt_ ((z9.1 + v19)) (fun x20 => rec10 (x20, (z9.2 + 1)))) else lt_ ((z9.1 + 0)) (fun x18 => rec10 (x18, (z9.2 + 1))))) else lt_ ((z9.1 + 0)) (fun x16 => rec10 (x16, (z9.2 + 1)))))))))) FU (z4.2.1, 0))))) FU (z1.1, z1.2.1, 0))) FU (σ, 0, 0)
set_option maxHeartbeats 4000000 in
set_option maxRecDepth 100000 in
theorem c_X10_toPlayersOf {G : GW} (hG : Good G) {l : Launch} (σ : ST) (a1 : Int32) : Ctr G l yX10_toPlayersOf cX10_toPlayersOf 7 (some .int) 3 [.ref (ga G 131 0), .int a1] σ oP (Mo_toPlayersOf σ a1) := by
  refine ctr_of hG (by decide) (Nat.le_of_ble_eq_true rfl) ?_
  intro X hXl hR hX
  have hX : Ok G X cX10_toPlayersOf 7 RX10 3 := hX
  unfold Mo_toPlayersOf
  show Sim G X 7 (MQX G X oP) σ 0 [(0, .ref (ga G 131 0)), (1, .int a1)] [] _
  refine s_iconst (v := 0) (n := 1) hX (dec_of D_X10_toPlayersOf (i := 0) rfl) rfl (by decide) ?_
  refine s_istore_n (lv' := [(0, _), (1, _), (2, _)]) [1, 2, 0] (n := 2) hX (dec_of D_X10_toPlayersOf (i := 1) rfl) rfl rfl (by decide) rfl ?_
  refine s_iconst (v := 0) (n := 3) hX (dec_of D_X10_toPlayersOf (i := 2) rfl) rfl (by decide) ?_
  refine s_istore_n (lv' := [(0, _), (1, _), (2, _), (3, _)]) [1, 2, 3, 0] (n := 4) hX (dec_of D_X10_toPlayersOf (i := 3) rfl) rfl rfl (by decide) rfl ?_
  refine s_sub [0, 1, 2, 3] rfl (s_lp (pc := 4) (Sf := fun (z1 : ST × Int32 × Int32) => z1.1) (lvf := fun (z1 : ST × Int32 × Int32) => [(0, .ref (ga G 131 0)), (1, .int a1), (2, .int z1.2.1), (3, .int z1.2.2)]) (fun rec2 hre3 z1 => ?_) FU (σ, 0, 0))
  refine s_iload_n 3 (n := 5) hX (dec_of D_X10_toPlayersOf (i := 4) rfl) rfl rfl rfl ?_
  refine s_aload_n 0 (n := 6) hX (dec_of D_X10_toPlayersOf (i := 5) rfl) rfl rfl rfl ?_
  refine s_getI (c := 10) (p := 10) (id := 850) (n := 9) hX cls10 (vk131 (by omega)) (dec_of D_X10_toPlayersOf (i := 6) rfl) rfl rfl wd_1356 ?_
  refine s_icmp_ge (tgt := 129) (n := 12) hX (dec_of D_X10_toPlayersOf (i := 7) rfl) rfl rfl ?_ ?_
  · refine s_iload_n 2 (n := 130) hX (dec_of D_X10_toPlayersOf (i := 67) rfl) rfl rfl rfl ?_
    exact s_iret hX hR (dec_of D_X10_toPlayersOf (i := 68) rfl) rfl
  · refine s_iconst (v := 0) (n := 13) hX (dec_of D_X10_toPlayersOf (i := 8) rfl) rfl (by decide) ?_
    refine s_istore (lv' := [(0, _), (1, _), (2, _), (3, _), (4, _)]) [1, 2, 3, 4, 0] (n := 15) hX (dec_of D_X10_toPlayersOf (i := 9) rfl) rfl (by decide) rfl ?_
    refine s_sub [0, 1, 2, 3, 4] rfl (s_lp (pc := 15) (Sf := fun (z4 : ST × Int32 × Int32) => z4.1) (lvf := fun (z4 : ST × Int32 × Int32) => [(0, .ref (ga G 131 0)), (1, .int a1), (2, .int z4.2.1), (3, .int z1.2.2), (4, .int z4.2.2)]) (fun rec5 hre6 z4 => ?_) FU (z1.1, z1.2.1, 0))
    refine s_iload 4 (n := 17) hX (dec_of D_X10_toPlayersOf (i := 10) rfl) rfl rfl ?_
    refine s_aload_n 0 (n := 18) hX (dec_of D_X10_toPlayersOf (i := 11) rfl) rfl rfl rfl ?_
    refine s_getI (c := 10) (p := 12) (id := 852) (n := 21) hX cls10 (vk131 (by omega)) (dec_of D_X10_toPlayersOf (i := 12) rfl) rfl rfl wd_1358 ?_
    refine s_icmp_ge (tgt := 123) (n := 24) hX (dec_of D_X10_toPlayersOf (i := 13) rfl) rfl rfl ?_ ?_
    · refine s_iinc (v := z1.2.2 + 1) (lv' := [(0, _), (1, _), (2, _), (3, _), (4, _)]) 3 [1, 2, 3, 0, 4] (n := 126) hX (dec_of D_X10_toPlayersOf (i := 65) rfl) rfl rfl rfl (by decide) rfl ?_
      refine s_goto (n := 4) hX (dec_of D_X10_toPlayersOf (i := 66) rfl) rfl ?_
      exact s_sub [0, 1, 2, 3] rfl (hre3 (z4.1, z4.2.1, (z1.2.2 + 1)))
    · refine s_aload_n 0 (n := 25) hX (dec_of D_X10_toPlayersOf (i := 14) rfl) rfl rfl rfl ?_
      refine s_iload 4 (n := 27) hX (dec_of D_X10_toPlayersOf (i := 15) rfl) rfl rfl ?_
      refine s_sipush (v := 1000) (n := 30) hX (dec_of D_X10_toPlayersOf (i := 16) rfl) rfl (by decide) ?_
      refine s_aload_n 0 (n := 31) hX (dec_of D_X10_toPlayersOf (i := 17) rfl) rfl rfl rfl ?_
      refine s_getR (c := 10) (p := 3) (k' := 29) (n := 34) hX cls10 (vk131 (by omega)) (dec_of D_X10_toPlayersOf (i := 18) rfl) rfl rfl wd_1349 ?_
      refine s_iload_n 3 (n := 35) hX (dec_of D_X10_toPlayersOf (i := 19) rfl) rfl rfl rfl ?_
      refine s_iald (n := 36) hX (vk29 (by omega)) (by decide) (dec_of D_X10_toPlayersOf (i := 20) rfl) rfl (fun v7 => ?_)
      refine s_imul (n := 37) hX (dec_of D_X10_toPlayersOf (i := 21) rfl) rfl ?_
      refine s_callVV (c := 10) (n := 40) hX cls10 (vk131 (by omega)) lk_RX10_316 (dec_of D_X10_toPlayersOf (i := 22) rfl) rfl (by decide) (c_X10_laysShares (l := _) hG _ _ _) rfl rfl (Nat.le_of_ble_eq_true rfl) (fun q8 => ?_)
      refine s_iconst (v := 0) (n := 41) hX (dec_of D_X10_toPlayersOf (i := 23) rfl) rfl (by decide) ?_
      refine s_istore (lv' := [(0, _), (1, _), (2, _), (3, _), (4, _), (5, _)]) [1, 2, 3, 4, 5, 0] (n := 43) hX (dec_of D_X10_toPlayersOf (i := 24) rfl) rfl (by decide) rfl ?_
      refine s_sub [0, 1, 2, 3, 4, 5] rfl (s_lp (pc := 43) (Sf := fun (z9 : Int32 × Int32) => q8) (lvf := fun (z9 : Int32 × Int32) => [(0, .ref (ga G 131 0)), (1, .int a1), (2, .int z9.1), (3, .int z1.2.2), (4, .int z4.2.2), (5, .int z9.2)]) (fun rec10 hre11 z9 => ?_) FU (z4.2.1, 0))
      refine s_iload 5 (n := 45) hX (dec_of D_X10_toPlayersOf (i := 25) rfl) rfl rfl ?_
      refine s_aload_n 0 (n := 46) hX (dec_of D_X10_toPlayersOf (i := 26) rfl) rfl rfl rfl ?_
      refine s_iload 4 (n := 48) hX (dec_of D_X10_toPlayersOf (i := 27) rfl) rfl rfl ?_
      refine s_callVI (c := 10) (n := 51) hX cls10 (vk131 (by omega)) lk_RX10_305 (dec_of D_X10_toPlayersOf (i := 28) rfl) rfl (by decide) (c_X10_whole (l := _) hG _ _) rfl rfl (Nat.le_of_ble_eq_true rfl) (fun q12 => ?_)
      refine s_icmp_ge (tgt := 117) (n := 54) hX (dec_of D_X10_toPlayersOf (i := 29) rfl) rfl rfl ?_ ?_
      · refine s_iinc (v := z4.2.2 + 1) (lv' := [(0, _), (1, _), (2, _), (3, _), (4, _), (5, _)]) 4 [1, 2, 3, 4, 0, 5] (n := 120) hX (dec_of D_X10_toPlayersOf (i := 63) rfl) rfl rfl rfl (by decide) rfl ?_
        refine s_goto (n := 15) hX (dec_of D_X10_toPlayersOf (i := 64) rfl) rfl ?_
        exact s_sub [0, 1, 2, 3, 4] rfl (hre6 (q8, z9.1, (z4.2.2 + 1)))
      · refine s_aload_n 0 (n := 55) hX (dec_of D_X10_toPlayersOf (i := 30) rfl) rfl rfl rfl ?_
        refine s_iload 4 (n := 57) hX (dec_of D_X10_toPlayersOf (i := 31) rfl) rfl rfl ?_
        refine s_iload 5 (n := 59) hX (dec_of D_X10_toPlayersOf (i := 32) rfl) rfl rfl ?_
        refine s_callVI (c := 10) (n := 62) hX cls10 (vk131 (by omega)) lk_RX10_313 (dec_of D_X10_toPlayersOf (i := 33) rfl) rfl (by decide) (c_X10_whose (l := _) hG _ _ _) rfl rfl (Nat.le_of_ble_eq_true rfl) (fun q13 => ?_)
        refine s_istore (lv' := [(0, _), (1, _), (2, _), (3, _), (4, _), (5, _), (6, _)]) [1, 2, 3, 4, 5, 6, 0] (n := 64) hX (dec_of D_X10_toPlayersOf (i := 34) rfl) rfl (by decide) rfl ?_
        refine s_iload_n 2 (n := 65) hX (dec_of D_X10_toPlayersOf (i := 35) rfl) rfl rfl rfl ?_
        refine s_iload 6 (n := 67) hX (dec_of D_X10_toPlayersOf (i := 36) rfl) rfl rfl ?_
        refine s_iconst (v := (-1)) (n := 68) hX (dec_of D_X10_toPlayersOf (i := 37) rfl) rfl (by decide) ?_
        refine s_icmp_eq (tgt := 108) (n := 71) hX (dec_of D_X10_toPlayersOf (i := 38) rfl) rfl rfl ?_ ?_
        · refine s_iconst (v := 0) (n := 109) hX (dec_of D_X10_toPlayersOf (i := 58) rfl) rfl (by decide) ?_
          refine s_iadd (n := 110) hX (dec_of D_X10_toPlayersOf (i := 59) rfl) rfl ?_
          refine s_topi (fun x14 => ?_)
          refine s_istore_n (lv' := [(0, _), (1, _), (2, _), (3, _), (4, _), (5, _), (6, _)]) [1, 2, 0, 3, 4, 5, 6] (n := 111) hX (dec_of D_X10_toPlayersOf (i := 60) rfl) rfl rfl (by decide) rfl ?_
          refine s_iinc (v := z9.2 + 1) (lv' := [(0, _), (1, _), (2, _), (3, _), (4, _), (5, _), (6, _)]) 5 [1, 2, 3, 4, 5, 0, 6] (n := 114) hX (dec_of D_X10_toPlayersOf (i := 61) rfl) rfl rfl rfl (by decide) rfl ?_
          refine s_goto (n := 43) hX (dec_of D_X10_toPlayersOf (i := 62) rfl) rfl ?_
          exact s_sub [0, 1, 2, 3, 4, 5] rfl (hre11 (x14, (z9.2 + 1)))
        · refine s_aload_n 0 (n := 72) hX (dec_of D_X10_toPlayersOf (i := 39) rfl) rfl rfl rfl ?_
          refine s_getR (c := 10) (p := 14) (k' := 34) (n := 75) hX cls10 (vk131 (by omega)) (dec_of D_X10_toPlayersOf (i := 40) rfl) rfl rfl wd_1360 ?_
          refine s_sipush (v := 2672) (n := 78) hX (dec_of D_X10_toPlayersOf (i := 41) rfl) rfl (by decide) ?_
          refine s_iload 6 (n := 80) hX (dec_of D_X10_toPlayersOf (i := 42) rfl) rfl rfl ?_
          refine s_iadd (n := 81) hX (dec_of D_X10_toPlayersOf (i := 43) rfl) rfl ?_
          refine s_iald (n := 82) hX (vk34 (by omega)) (by decide) (dec_of D_X10_toPlayersOf (i := 44) rfl) rfl (fun v15 => ?_)
          refine s_iload_n 1 (n := 83) hX (dec_of D_X10_toPlayersOf (i := 45) rfl) rfl rfl rfl ?_
          refine s_icmp_ne (tgt := 108) (n := 86) hX (dec_of D_X10_toPlayersOf (i := 46) rfl) rfl rfl ?_ ?_
          · refine s_iconst (v := 0) (n := 109) hX (dec_of D_X10_toPlayersOf (i := 58) rfl) rfl (by decide) ?_
            refine s_iadd (n := 110) hX (dec_of D_X10_toPlayersOf (i := 59) rfl) rfl ?_
            refine s_topi (fun x16 => ?_)
            refine s_istore_n (lv' := [(0, _), (1, _), (2, _), (3, _), (4, _), (5, _), (6, _)]) [1, 2, 0, 3, 4, 5, 6] (n := 111) hX (dec_of D_X10_toPlayersOf (i := 60) rfl) rfl rfl (by decide) rfl ?_
            refine s_iinc (v := z9.2 + 1) (lv' := [(0, _), (1, _), (2, _), (3, _), (4, _), (5, _), (6, _)]) 5 [1, 2, 3, 4, 5, 0, 6] (n := 114) hX (dec_of D_X10_toPlayersOf (i := 61) rfl) rfl rfl rfl (by decide) rfl ?_
            refine s_goto (n := 43) hX (dec_of D_X10_toPlayersOf (i := 62) rfl) rfl ?_
            exact s_sub [0, 1, 2, 3, 4, 5] rfl (hre11 (x16, (z9.2 + 1)))
          · refine s_aload_n 0 (n := 87) hX (dec_of D_X10_toPlayersOf (i := 47) rfl) rfl rfl rfl ?_
            refine s_iload_n 3 (n := 88) hX (dec_of D_X10_toPlayersOf (i := 48) rfl) rfl rfl rfl ?_
            refine s_iload 4 (n := 90) hX (dec_of D_X10_toPlayersOf (i := 49) rfl) rfl rfl ?_
            refine s_iload 5 (n := 92) hX (dec_of D_X10_toPlayersOf (i := 50) rfl) rfl rfl ?_
            refine s_callVI (c := 10) (n := 95) hX cls10 (vk131 (by omega)) lk_RX10_320 (dec_of D_X10_toPlayersOf (i := 51) rfl) rfl (by decide) (c_X10_where (l := _) hG _ _ _ _) rfl rfl (Nat.le_of_ble_eq_true rfl) (fun q17 => ?_)
            refine s_if_ne (tgt := 108) (n := 98) hX (dec_of D_X10_toPlayersOf (i := 52) rfl) rfl rfl ?_ ?_
            · refine s_iconst (v := 0) (n := 109) hX (dec_of D_X10_toPlayersOf (i := 58) rfl) rfl (by decide) ?_
              refine s_iadd (n := 110) hX (dec_of D_X10_toPlayersOf (i := 59) rfl) rfl ?_
              refine s_topi (fun x18 => ?_)
              refine s_istore_n (lv' := [(0, _), (1, _), (2, _), (3, _), (4, _), (5, _), (6, _)]) [1, 2, 0, 3, 4, 5, 6] (n := 111) hX (dec_of D_X10_toPlayersOf (i := 60) rfl) rfl rfl (by decide) rfl ?_
              refine s_iinc (v := z9.2 + 1) (lv' := [(0, _), (1, _), (2, _), (3, _), (4, _), (5, _), (6, _)]) 5 [1, 2, 3, 4, 5, 0, 6] (n := 114) hX (dec_of D_X10_toPlayersOf (i := 61) rfl) rfl rfl rfl (by decide) rfl ?_
              refine s_goto (n := 43) hX (dec_of D_X10_toPlayersOf (i := 62) rfl) rfl ?_
              exact s_sub [0, 1, 2, 3, 4, 5] rfl (hre11 (x18, (z9.2 + 1)))
            · refine s_aload_n 0 (n := 99) hX (dec_of D_X10_toPlayersOf (i := 53) rfl) rfl rfl rfl ?_
              refine s_getR (c := 10) (p := 46) (k' := 47) (n := 102) hX cls10 (vk131 (by omega)) (dec_of D_X10_toPlayersOf (i := 54) rfl) rfl rfl wd_1392 ?_
              refine s_iload 5 (n := 104) hX (dec_of D_X10_toPlayersOf (i := 55) rfl) rfl rfl ?_
              refine s_iald (n := 105) hX (vk47 (by omega)) (by decide) (dec_of D_X10_toPlayersOf (i := 56) rfl) rfl (fun v19 => ?_)
              refine s_goto (n := 109) hX (dec_of D_X10_toPlayersOf (i := 57) rfl) rfl ?_
              refine s_iadd (n := 110) hX (dec_of D_X10_toPlayersOf (i := 59) rfl) rfl ?_
              refine s_topi (fun x20 => ?_)
              refine s_istore_n (lv' := [(0, _), (1, _), (2, _), (3, _), (4, _), (5, _), (6, _)]) [1, 2, 0, 3, 4, 5, 6] (n := 111) hX (dec_of D_X10_toPlayersOf (i := 60) rfl) rfl rfl (by decide) rfl ?_
              refine s_iinc (v := z9.2 + 1) (lv' := [(0, _), (1, _), (2, _), (3, _), (4, _), (5, _), (6, _)]) 5 [1, 2, 3, 4, 5, 0, 6] (n := 114) hX (dec_of D_X10_toPlayersOf (i := 61) rfl) rfl rfl rfl (by decide) rfl ?_
              refine s_goto (n := 43) hX (dec_of D_X10_toPlayersOf (i := 62) rfl) rfl ?_
              exact s_sub [0, 1, 2, 3, 4, 5] rfl (hre11 (x20, (z9.2 + 1)))
theorem lk_RX10_409 : LkV RX10 409 RX10 yX10_toPlayersOf cX10_toPlayersOf 7 (some .int) 1 := ⟨wd_1954, wd_1956, wd_78, wd_93, wd_1957, by decide +kernel, by decide⟩
def T_X10_round : List (Nat × Instr × Nat) := [(0, .aload_n 0, 1), (1, .iconst 0, 1), (2, .putfield 86, 3), (5, .aload_n 0, 1), (6, .iload_n 1, 1), (7, .invokevirtual 257, 3), (10, .ifCond .eq 12, 3), (13, .iload_n 2, 1), (14, .ifCond .lt 8, 3), (17, .iload_n 2, 1), (18, .iconst 3, 1), (19, .if_icmp .le 5, 3), (22, .iconst (-1), 1), (23, .ireturn, 1), (24, .iload_n 2, 1), (25, .ifCond .ne 9, 3), (28, .aload_n 0, 1), (29, .iload_n 1, 1), (30, .invokevirtual 409, 3), (33, .ireturn, 1), (34, .iconst 0, 1), (35, .istore_n 3, 1), (36, .iconst 0, 1), (37, .istore 4, 2), (39, .iload 4, 2), (41, .aload_n 0, 1), (42, .getfield 235, 3), (45, .if_icmp .ge 48, 3), (48, .iload_n 3, 1), (49, .aload_n 0, 1), (50, .iload_n 1, 1), (51, .iload 4, 2), (53, .sipush 1000, 3), (56, .aload_n 0, 1), (57, .getfield 13, 3), (60, .iload_n 1, 1), (61, .iaload, 1), (62, .imul, 1), (63, .iload_n 2, 1), (64, .iconst 1, 1), (65, .if_icmp .ne 7, 3), (68, .iconst 0, 1), (69, .goto 13, 3), (72, .iload_n 2, 1), (73, .iconst 2, 1), (74, .if_icmp .ne 7, 3), (77, .iconst 2, 1), (78, .goto 4, 3), (81, .iconst 1, 1), (82, .invokevirtual 333, 3), (85, .iadd, 1), (86, .istore_n 3, 1), (87, .iinc 4 1, 3), (90, .goto (-51), 3), (93, .iload_n 3, 1), (94, .ireturn, 1)]
theorem D_X10_round : dchk cX10_round T_X10_round = true := by decide +kernel
def Mo_round (σ : ST) (a1 : Int32) (a2 : Int32) : Option (Int32 × ST) :=
  lt_ (setF σ 840 0 0) (fun s1 => bd_ (Mo_isLand s1 a1) (fun q2 => (if q2 = 0 then some ((-1), s1) else (if a2 < 0 then some ((-1), s1) else (if a2 ≤ 3 then (if a2 = 0 then bd_ (Mo_toPlayersOf s1 a1) (fun q12 => some (q12.1, q12.2)) else lp_ (fun rec4 (z3 : ST × Int32 × Int32) => (if (gF z3.1 852 0) ≤ z3.2.2 then some (z3.2.1, z3.1) else bd_ (ldI z3.1 29 0 a1) (fun v6 => lk_ (fun kk8 => (if a2 = 1 then kk8 0 else (if a2 = 2 then kk8 2 else kk8 1))) (fun (j7 : Int32) => bd_ (Mo_sumOf z3.1 a1 z3.2.2 (1000 * v6) j7) (fun q10 => lt_ ((z3.2.1 + q10.1)) (fun x11 => rec4 (q10.2, x11, (z3.2.2 + 1)))))))) FU (s1, 0, 0)) else some ((-1), s1))))))
set_option maxHeartbeats 4000000 in
set_option maxRecDepth 100000 in
theorem c_X10_round {G : GW} (hG : Good G) {l : Launch} (σ : ST) (a1 : Int32) (a2 : Int32) : Ctr G l yX10_round cX10_round 5 (some .int) 4 [.ref (ga G 131 0), .int a1, .int a2] σ oP (Mo_round σ a1 a2) := by
  refine ctr_of hG (by decide) (Nat.le_of_ble_eq_true rfl) ?_
  intro X hXl hR hX
  have hX : Ok G X cX10_round 5 RX10 4 := hX
  unfold Mo_round
  show Sim G X 5 (MQX G X oP) σ 0 [(0, .ref (ga G 131 0)), (1, .int a1), (2, .int a2)] [] _
  refine s_aload_n 0 (n := 1) hX (dec_of D_X10_round (i := 0) rfl) rfl rfl rfl ?_
  refine s_iconst (v := 0) (n := 2) hX (dec_of D_X10_round (i := 1) rfl) rfl (by decide) ?_
  refine s_putI (c := 10) (p := 0) (n := 5) hX cls10 (vk131 (by omega)) (dec_of D_X10_round (i := 2) rfl) rfl rfl (by decide) wd_1346 rfl rfl rfl (fun s1 => ?_)
  refine s_aload_n 0 (n := 6) hX (dec_of D_X10_round (i := 3) rfl) rfl rfl rfl ?_
  refine s_iload_n 1 (n := 7) hX (dec_of D_X10_round (i := 4) rfl) rfl rfl rfl ?_
  refine s_callVI (c := 10) (n := 10) hX cls10 (vk131 (by omega)) lk_RX10_257 (dec_of D_X10_round (i := 5) rfl) rfl (by decide) (c_X10_isLand (l := _) hG _ _) rfl rfl (Nat.le_of_ble_eq_true rfl) (fun q2 => ?_)
  refine s_if_eq (tgt := 22) (n := 13) hX (dec_of D_X10_round (i := 6) rfl) rfl rfl ?_ ?_
  · refine s_iconst (v := (-1)) (n := 23) hX (dec_of D_X10_round (i := 12) rfl) rfl (by decide) ?_
    exact s_iret hX hR (dec_of D_X10_round (i := 13) rfl) rfl
  · refine s_iload_n 2 (n := 14) hX (dec_of D_X10_round (i := 7) rfl) rfl rfl rfl ?_
    refine s_if_lt (tgt := 22) (n := 17) hX (dec_of D_X10_round (i := 8) rfl) rfl rfl ?_ ?_
    · refine s_iconst (v := (-1)) (n := 23) hX (dec_of D_X10_round (i := 12) rfl) rfl (by decide) ?_
      exact s_iret hX hR (dec_of D_X10_round (i := 13) rfl) rfl
    · refine s_iload_n 2 (n := 18) hX (dec_of D_X10_round (i := 9) rfl) rfl rfl rfl ?_
      refine s_iconst (v := 3) (n := 19) hX (dec_of D_X10_round (i := 10) rfl) rfl (by decide) ?_
      refine s_icmp_le (tgt := 24) (n := 22) hX (dec_of D_X10_round (i := 11) rfl) rfl rfl ?_ ?_
      · refine s_iload_n 2 (n := 25) hX (dec_of D_X10_round (i := 14) rfl) rfl rfl rfl ?_
        refine s_if_ne (tgt := 34) (n := 28) hX (dec_of D_X10_round (i := 15) rfl) rfl rfl ?_ ?_
        · refine s_iconst (v := 0) (n := 35) hX (dec_of D_X10_round (i := 20) rfl) rfl (by decide) ?_
          refine s_istore_n (lv' := [(0, _), (1, _), (2, _), (3, _)]) [1, 2, 3, 0] (n := 36) hX (dec_of D_X10_round (i := 21) rfl) rfl rfl (by decide) rfl ?_
          refine s_iconst (v := 0) (n := 37) hX (dec_of D_X10_round (i := 22) rfl) rfl (by decide) ?_
          refine s_istore (lv' := [(0, _), (1, _), (2, _), (3, _), (4, _)]) [1, 2, 3, 4, 0] (n := 39) hX (dec_of D_X10_round (i := 23) rfl) rfl (by decide) rfl ?_
          refine s_sub [0, 1, 2, 3, 4] rfl (s_lp (pc := 39) (Sf := fun (z3 : ST × Int32 × Int32) => z3.1) (lvf := fun (z3 : ST × Int32 × Int32) => [(0, .ref (ga G 131 0)), (1, .int a1), (2, .int a2), (3, .int z3.2.1), (4, .int z3.2.2)]) (fun rec4 hre5 z3 => ?_) FU (s1, 0, 0))
          refine s_iload 4 (n := 41) hX (dec_of D_X10_round (i := 24) rfl) rfl rfl ?_
          refine s_aload_n 0 (n := 42) hX (dec_of D_X10_round (i := 25) rfl) rfl rfl rfl ?_
          refine s_getI (c := 10) (p := 12) (id := 852) (n := 45) hX cls10 (vk131 (by omega)) (dec_of D_X10_round (i := 26) rfl) rfl rfl wd_1358 ?_
          refine s_icmp_ge (tgt := 93) (n := 48) hX (dec_of D_X10_round (i := 27) rfl) rfl rfl ?_ ?_
          · refine s_iload_n 3 (n := 94) hX (dec_of D_X10_round (i := 54) rfl) rfl rfl rfl ?_
            exact s_iret hX hR (dec_of D_X10_round (i := 55) rfl) rfl
          · refine s_iload_n 3 (n := 49) hX (dec_of D_X10_round (i := 28) rfl) rfl rfl rfl ?_
            refine s_aload_n 0 (n := 50) hX (dec_of D_X10_round (i := 29) rfl) rfl rfl rfl ?_
            refine s_iload_n 1 (n := 51) hX (dec_of D_X10_round (i := 30) rfl) rfl rfl rfl ?_
            refine s_iload 4 (n := 53) hX (dec_of D_X10_round (i := 31) rfl) rfl rfl ?_
            refine s_sipush (v := 1000) (n := 56) hX (dec_of D_X10_round (i := 32) rfl) rfl (by decide) ?_
            refine s_aload_n 0 (n := 57) hX (dec_of D_X10_round (i := 33) rfl) rfl rfl rfl ?_
            refine s_getR (c := 10) (p := 3) (k' := 29) (n := 60) hX cls10 (vk131 (by omega)) (dec_of D_X10_round (i := 34) rfl) rfl rfl wd_1349 ?_
            refine s_iload_n 1 (n := 61) hX (dec_of D_X10_round (i := 35) rfl) rfl rfl rfl ?_
            refine s_iald (n := 62) hX (vk29 (by omega)) (by decide) (dec_of D_X10_round (i := 36) rfl) rfl (fun v6 => ?_)
            refine s_imul (n := 63) hX (dec_of D_X10_round (i := 37) rfl) rfl ?_
            refine s_iload_n 2 (n := 64) hX (dec_of D_X10_round (i := 38) rfl) rfl rfl rfl ?_
            refine s_iconst (v := 1) (n := 65) hX (dec_of D_X10_round (i := 39) rfl) rfl (by decide) ?_
            refine s_lk (pcj := 82) (Sf := fun (j7 : Int32) => z3.1) (lvf := fun (j7 : Int32) => [(0, .ref (ga G 131 0)), (1, .int a1), (2, .int a2), (4, .int z3.2.2)]) (stf := fun (j7 : Int32) => [.int j7, .int (1000 * v6), .int z3.2.2, .int a1, .ref (ga G 131 0), .int z3.2.1]) (fun j7 => ?_) (fun kk8 hkk9 => ?_)
            · refine s_callVP (c := 10) (n := 85) hX cls10 (vk131 (by omega)) lk_RX10_333 (dec_of D_X10_round (i := 49) rfl) rfl (by decide) (c_X10_sumOf (l := _) hG _ _ _ _ _) rfl rfl (Nat.le_of_ble_eq_true rfl) (fun q10 => ?_)
              refine s_iadd (n := 86) hX (dec_of D_X10_round (i := 50) rfl) rfl ?_
              refine s_topi (fun x11 => ?_)
              refine s_istore_n (lv' := [(0, _), (1, _), (2, _), (3, _), (4, _)]) [1, 2, 3, 0, 4] (n := 87) hX (dec_of D_X10_round (i := 51) rfl) rfl rfl (by decide) rfl ?_
              refine s_iinc (v := z3.2.2 + 1) (lv' := [(0, _), (1, _), (2, _), (3, _), (4, _)]) 4 [1, 2, 3, 4, 0] (n := 90) hX (dec_of D_X10_round (i := 52) rfl) rfl rfl rfl (by decide) rfl ?_
              refine s_goto (n := 39) hX (dec_of D_X10_round (i := 53) rfl) rfl ?_
              exact s_sub [0, 1, 2, 3, 4] rfl (hre5 (q10.2, x11, (z3.2.2 + 1)))
            · refine s_icmp_ne (tgt := 72) (n := 68) hX (dec_of D_X10_round (i := 40) rfl) rfl rfl ?_ ?_
              · refine s_iload_n 2 (n := 73) hX (dec_of D_X10_round (i := 43) rfl) rfl rfl rfl ?_
                refine s_iconst (v := 2) (n := 74) hX (dec_of D_X10_round (i := 44) rfl) rfl (by decide) ?_
                refine s_icmp_ne (tgt := 81) (n := 77) hX (dec_of D_X10_round (i := 45) rfl) rfl rfl ?_ ?_
                · refine s_iconst (v := 1) (n := 82) hX (dec_of D_X10_round (i := 48) rfl) rfl (by decide) ?_
                  exact s_sub [0, 1, 2, 4] rfl (hkk9 1)
                · refine s_iconst (v := 2) (n := 78) hX (dec_of D_X10_round (i := 46) rfl) rfl (by decide) ?_
                  refine s_goto (n := 82) hX (dec_of D_X10_round (i := 47) rfl) rfl ?_
                  exact s_sub [0, 1, 2, 4] rfl (hkk9 2)
              · refine s_iconst (v := 0) (n := 69) hX (dec_of D_X10_round (i := 41) rfl) rfl (by decide) ?_
                refine s_goto (n := 82) hX (dec_of D_X10_round (i := 42) rfl) rfl ?_
                exact s_sub [0, 1, 2, 4] rfl (hkk9 0)
        · refine s_aload_n 0 (n := 29) hX (dec_of D_X10_round (i := 16) rfl) rfl rfl rfl ?_
          refine s_iload_n 1 (n := 30) hX (dec_of D_X10_round (i := 17) rfl) rfl rfl rfl ?_
          refine s_callVP (c := 10) (n := 33) hX cls10 (vk131 (by omega)) lk_RX10_409 (dec_of D_X10_round (i := 18) rfl) rfl (by decide) (c_X10_toPlayersOf (l := _) hG _ _) rfl rfl (Nat.le_of_ble_eq_true rfl) (fun q12 => ?_)
          exact s_iret hX hR (dec_of D_X10_round (i := 19) rfl) rfl
      · refine s_iconst (v := (-1)) (n := 23) hX (dec_of D_X10_round (i := 12) rfl) rfl (by decide) ?_
        exact s_iret hX hR (dec_of D_X10_round (i := 13) rfl) rfl
def T_X10_bestTerms : List (Nat × Instr × Nat) := [(0, .aload_n 0, 1), (1, .iconst 0, 1), (2, .putfield 86, 3), (5, .aload_n 0, 1), (6, .iload_n 1, 1), (7, .invokevirtual 257, 3), (10, .ifCond .eq 12, 3), (13, .iload_n 2, 1), (14, .ifCond .lt 8, 3), (17, .iload_n 2, 1), (18, .iconst 2, 1), (19, .if_icmp .le 5, 3), (22, .iconst (-1), 1), (23, .ireturn, 1), (24, .iconst 0, 1), (25, .istore_n 3, 1), (26, .iconst (-1), 1), (27, .istore 4, 2), (29, .iconst 0, 1), (30, .istore 5, 2), (32, .iload 5, 2), (34, .bipush 9, 2), (36, .if_icmp .ge 53, 3), (39, .aload_n 0, 1), (40, .iload_n 1, 1), (41, .iload 5, 2), (43, .iconst 3, 1), (44, .idiv, 1), (45, .iconst 1, 1), (46, .iload 5, 2), (48, .iconst 3, 1), (49, .irem, 1), (50, .iadd, 1), (51, .invokevirtual 394, 3), (54, .aload_n 0, 1), (55, .iload_n 1, 1), (56, .invokevirtual 409, 3), (59, .istore 6, 2), (61, .aload_n 0, 1), (62, .iload_n 1, 1), (63, .invokevirtual 397, 3), (66, .iload 6, 2), (68, .iload 4, 2), (70, .if_icmp .gt 6, 3), (73, .goto 10, 3), (76, .iload 5, 2), (78, .istore_n 3, 1), (79, .iload 6, 2), (81, .istore 4, 2), (83, .iinc 5 1, 3), (86, .goto (-54), 3), (89, .iload_n 2, 1), (90, .ifCond .ne 9, 3), (93, .iload_n 3, 1), (94, .iconst 3, 1), (95, .idiv, 1), (96, .goto 18, 3), (99, .iload_n 2, 1), (100, .iconst 1, 1), (101, .if_icmp .ne 11, 3), (104, .iconst 1, 1), (105, .iload_n 3, 1), (106, .iconst 3, 1), (107, .irem, 1), (108, .iadd, 1), (109, .goto 5, 3), (112, .iload 4, 2), (114, .ireturn, 1)]
theorem D_X10_bestTerms : dchk cX10_bestTerms T_X10_bestTerms = true := by decide +kernel
def Mo_bestTerms (σ : ST) (a1 : Int32) (a2 : Int32) : Option (Int32 × ST) :=
  lt_ (setF σ 840 0 0) (fun s1 => bd_ (Mo_isLand s1 a1) (fun q2 => (if q2 = 0 then some ((-1), s1) else (if a2 < 0 then some ((-1), s1) else (if a2 ≤ 2 then lp_ (fun rec4 (z3 : ST × Int32 × Int32 × Int32) => (if 9 ≤ z3.2.2.2 then (if a2 = 0 then bd_ (idv z3.2.1 3) (fun v7 => some (v7, z3.1)) else (if a2 = 1 then bd_ (irm z3.2.1 3) (fun v6 => some ((1 + v6), z3.1)) else some (z3.2.2.1, z3.1))) else bd_ (idv z3.2.2.2 3) (fun v8 => bd_ (irm z3.2.2.2 3) (fun v9 => bd_ (Mo_lends z3.1 a1 v8 (1 + v9)) (fun q10 => bd_ (Mo_toPlayersOf q10 a1) (fun q11 => bd_ (Mo_back q11.2 a1) (fun q12 => (if z3.2.2.1 < q11.1 then rec4 (q12, z3.2.2.2, q11.1, (z3.2.2.2 + 1)) else rec4 (q12, z3.2.1, z3.2.2.1, (z3.2.2.2 + 1)))))))))) FU (s1, 0, (-1), 0) else some ((-1), s1))))))
set_option maxHeartbeats 4000000 in
set_option maxRecDepth 100000 in
theorem c_X10_bestTerms {G : GW} (hG : Good G) {l : Launch} (σ : ST) (a1 : Int32) (a2 : Int32) : Ctr G l yX10_bestTerms cX10_bestTerms 7 (some .int) 4 [.ref (ga G 131 0), .int a1, .int a2] σ oP (Mo_bestTerms σ a1 a2) := by
  refine ctr_of hG (by decide) (Nat.le_of_ble_eq_true rfl) ?_
  intro X hXl hR hX
  have hX : Ok G X cX10_bestTerms 7 RX10 4 := hX
  unfold Mo_bestTerms
  show Sim G X 7 (MQX G X oP) σ 0 [(0, .ref (ga G 131 0)), (1, .int a1), (2, .int a2)] [] _
  refine s_aload_n 0 (n := 1) hX (dec_of D_X10_bestTerms (i := 0) rfl) rfl rfl rfl ?_
  refine s_iconst (v := 0) (n := 2) hX (dec_of D_X10_bestTerms (i := 1) rfl) rfl (by decide) ?_
  refine s_putI (c := 10) (p := 0) (n := 5) hX cls10 (vk131 (by omega)) (dec_of D_X10_bestTerms (i := 2) rfl) rfl rfl (by decide) wd_1346 rfl rfl rfl (fun s1 => ?_)
  refine s_aload_n 0 (n := 6) hX (dec_of D_X10_bestTerms (i := 3) rfl) rfl rfl rfl ?_
  refine s_iload_n 1 (n := 7) hX (dec_of D_X10_bestTerms (i := 4) rfl) rfl rfl rfl ?_
  refine s_callVI (c := 10) (n := 10) hX cls10 (vk131 (by omega)) lk_RX10_257 (dec_of D_X10_bestTerms (i := 5) rfl) rfl (by decide) (c_X10_isLand (l := _) hG _ _) rfl rfl (Nat.le_of_ble_eq_true rfl) (fun q2 => ?_)
  refine s_if_eq (tgt := 22) (n := 13) hX (dec_of D_X10_bestTerms (i := 6) rfl) rfl rfl ?_ ?_
  · refine s_iconst (v := (-1)) (n := 23) hX (dec_of D_X10_bestTerms (i := 12) rfl) rfl (by decide) ?_
    exact s_iret hX hR (dec_of D_X10_bestTerms (i := 13) rfl) rfl
  · refine s_iload_n 2 (n := 14) hX (dec_of D_X10_bestTerms (i := 7) rfl) rfl rfl rfl ?_
    refine s_if_lt (tgt := 22) (n := 17) hX (dec_of D_X10_bestTerms (i := 8) rfl) rfl rfl ?_ ?_
    · refine s_iconst (v := (-1)) (n := 23) hX (dec_of D_X10_bestTerms (i := 12) rfl) rfl (by decide) ?_
      exact s_iret hX hR (dec_of D_X10_bestTerms (i := 13) rfl) rfl
    · refine s_iload_n 2 (n := 18) hX (dec_of D_X10_bestTerms (i := 9) rfl) rfl rfl rfl ?_
      refine s_iconst (v := 2) (n := 19) hX (dec_of D_X10_bestTerms (i := 10) rfl) rfl (by decide) ?_
      refine s_icmp_le (tgt := 24) (n := 22) hX (dec_of D_X10_bestTerms (i := 11) rfl) rfl rfl ?_ ?_
      · refine s_iconst (v := 0) (n := 25) hX (dec_of D_X10_bestTerms (i := 14) rfl) rfl (by decide) ?_
        refine s_istore_n (lv' := [(0, _), (1, _), (2, _), (3, _)]) [1, 2, 3, 0] (n := 26) hX (dec_of D_X10_bestTerms (i := 15) rfl) rfl rfl (by decide) rfl ?_
        refine s_iconst (v := (-1)) (n := 27) hX (dec_of D_X10_bestTerms (i := 16) rfl) rfl (by decide) ?_
        refine s_istore (lv' := [(0, _), (1, _), (2, _), (3, _), (4, _)]) [1, 2, 3, 4, 0] (n := 29) hX (dec_of D_X10_bestTerms (i := 17) rfl) rfl (by decide) rfl ?_
        refine s_iconst (v := 0) (n := 30) hX (dec_of D_X10_bestTerms (i := 18) rfl) rfl (by decide) ?_
        refine s_istore (lv' := [(0, _), (1, _), (2, _), (3, _), (4, _), (5, _)]) [1, 2, 3, 4, 5, 0] (n := 32) hX (dec_of D_X10_bestTerms (i := 19) rfl) rfl (by decide) rfl ?_
        refine s_sub [0, 1, 2, 3, 4, 5] rfl (s_lp (pc := 32) (Sf := fun (z3 : ST × Int32 × Int32 × Int32) => z3.1) (lvf := fun (z3 : ST × Int32 × Int32 × Int32) => [(0, .ref (ga G 131 0)), (1, .int a1), (2, .int a2), (3, .int z3.2.1), (4, .int z3.2.2.1), (5, .int z3.2.2.2)]) (fun rec4 hre5 z3 => ?_) FU (s1, 0, (-1), 0))
        refine s_iload 5 (n := 34) hX (dec_of D_X10_bestTerms (i := 20) rfl) rfl rfl ?_
        refine s_bipush (v := 9) (n := 36) hX (dec_of D_X10_bestTerms (i := 21) rfl) rfl (by decide) ?_
        refine s_icmp_ge (tgt := 89) (n := 39) hX (dec_of D_X10_bestTerms (i := 22) rfl) rfl rfl ?_ ?_
        · refine s_iload_n 2 (n := 90) hX (dec_of D_X10_bestTerms (i := 51) rfl) rfl rfl rfl ?_
          refine s_if_ne (tgt := 99) (n := 93) hX (dec_of D_X10_bestTerms (i := 52) rfl) rfl rfl ?_ ?_
          · refine s_iload_n 2 (n := 100) hX (dec_of D_X10_bestTerms (i := 57) rfl) rfl rfl rfl ?_
            refine s_iconst (v := 1) (n := 101) hX (dec_of D_X10_bestTerms (i := 58) rfl) rfl (by decide) ?_
            refine s_icmp_ne (tgt := 112) (n := 104) hX (dec_of D_X10_bestTerms (i := 59) rfl) rfl rfl ?_ ?_
            · refine s_iload 4 (n := 114) hX (dec_of D_X10_bestTerms (i := 66) rfl) rfl rfl ?_
              exact s_iret hX hR (dec_of D_X10_bestTerms (i := 67) rfl) rfl
            · refine s_iconst (v := 1) (n := 105) hX (dec_of D_X10_bestTerms (i := 60) rfl) rfl (by decide) ?_
              refine s_iload_n 3 (n := 106) hX (dec_of D_X10_bestTerms (i := 61) rfl) rfl rfl rfl ?_
              refine s_iconst (v := 3) (n := 107) hX (dec_of D_X10_bestTerms (i := 62) rfl) rfl (by decide) ?_
              refine s_irem (n := 108) hX (dec_of D_X10_bestTerms (i := 63) rfl) rfl (fun v6 => ?_)
              refine s_iadd (n := 109) hX (dec_of D_X10_bestTerms (i := 64) rfl) rfl ?_
              refine s_goto (n := 114) hX (dec_of D_X10_bestTerms (i := 65) rfl) rfl ?_
              exact s_iret hX hR (dec_of D_X10_bestTerms (i := 67) rfl) rfl
          · refine s_iload_n 3 (n := 94) hX (dec_of D_X10_bestTerms (i := 53) rfl) rfl rfl rfl ?_
            refine s_iconst (v := 3) (n := 95) hX (dec_of D_X10_bestTerms (i := 54) rfl) rfl (by decide) ?_
            refine s_idiv (n := 96) hX (dec_of D_X10_bestTerms (i := 55) rfl) rfl (fun v7 => ?_)
            refine s_goto (n := 114) hX (dec_of D_X10_bestTerms (i := 56) rfl) rfl ?_
            exact s_iret hX hR (dec_of D_X10_bestTerms (i := 67) rfl) rfl
        · refine s_aload_n 0 (n := 40) hX (dec_of D_X10_bestTerms (i := 23) rfl) rfl rfl rfl ?_
          refine s_iload_n 1 (n := 41) hX (dec_of D_X10_bestTerms (i := 24) rfl) rfl rfl rfl ?_
          refine s_iload 5 (n := 43) hX (dec_of D_X10_bestTerms (i := 25) rfl) rfl rfl ?_
          refine s_iconst (v := 3) (n := 44) hX (dec_of D_X10_bestTerms (i := 26) rfl) rfl (by decide) ?_
          refine s_idiv (n := 45) hX (dec_of D_X10_bestTerms (i := 27) rfl) rfl (fun v8 => ?_)
          refine s_iconst (v := 1) (n := 46) hX (dec_of D_X10_bestTerms (i := 28) rfl) rfl (by decide) ?_
          refine s_iload 5 (n := 48) hX (dec_of D_X10_bestTerms (i := 29) rfl) rfl rfl ?_
          refine s_iconst (v := 3) (n := 49) hX (dec_of D_X10_bestTerms (i := 30) rfl) rfl (by decide) ?_
          refine s_irem (n := 50) hX (dec_of D_X10_bestTerms (i := 31) rfl) rfl (fun v9 => ?_)
          refine s_iadd (n := 51) hX (dec_of D_X10_bestTerms (i := 32) rfl) rfl ?_
          refine s_callVV (c := 10) (n := 54) hX cls10 (vk131 (by omega)) lk_RX10_394 (dec_of D_X10_bestTerms (i := 33) rfl) rfl (by decide) (c_X10_lends (l := _) hG _ _ _ _) rfl rfl (Nat.le_of_ble_eq_true rfl) (fun q10 => ?_)
          refine s_aload_n 0 (n := 55) hX (dec_of D_X10_bestTerms (i := 34) rfl) rfl rfl rfl ?_
          refine s_iload_n 1 (n := 56) hX (dec_of D_X10_bestTerms (i := 35) rfl) rfl rfl rfl ?_
          refine s_callVP (c := 10) (n := 59) hX cls10 (vk131 (by omega)) lk_RX10_409 (dec_of D_X10_bestTerms (i := 36) rfl) rfl (by decide) (c_X10_toPlayersOf (l := _) hG _ _) rfl rfl (Nat.le_of_ble_eq_true rfl) (fun q11 => ?_)
          refine s_istore (lv' := [(0, _), (1, _), (2, _), (3, _), (4, _), (5, _), (6, _)]) [1, 2, 3, 4, 5, 6, 0] (n := 61) hX (dec_of D_X10_bestTerms (i := 37) rfl) rfl (by decide) rfl ?_
          refine s_aload_n 0 (n := 62) hX (dec_of D_X10_bestTerms (i := 38) rfl) rfl rfl rfl ?_
          refine s_iload_n 1 (n := 63) hX (dec_of D_X10_bestTerms (i := 39) rfl) rfl rfl rfl ?_
          refine s_callVV (c := 10) (n := 66) hX cls10 (vk131 (by omega)) lk_RX10_397 (dec_of D_X10_bestTerms (i := 40) rfl) rfl (by decide) (c_X10_back (l := _) hG _ _) rfl rfl (Nat.le_of_ble_eq_true rfl) (fun q12 => ?_)
          refine s_iload 6 (n := 68) hX (dec_of D_X10_bestTerms (i := 41) rfl) rfl rfl ?_
          refine s_iload 4 (n := 70) hX (dec_of D_X10_bestTerms (i := 42) rfl) rfl rfl ?_
          refine s_icmp_gt (tgt := 76) (n := 73) hX (dec_of D_X10_bestTerms (i := 43) rfl) rfl rfl ?_ ?_
          · refine s_iload 5 (n := 78) hX (dec_of D_X10_bestTerms (i := 45) rfl) rfl rfl ?_
            refine s_istore_n (lv' := [(0, _), (1, _), (2, _), (3, _), (4, _), (5, _), (6, _)]) [1, 2, 3, 0, 4, 5, 6] (n := 79) hX (dec_of D_X10_bestTerms (i := 46) rfl) rfl rfl (by decide) rfl ?_
            refine s_iload 6 (n := 81) hX (dec_of D_X10_bestTerms (i := 47) rfl) rfl rfl ?_
            refine s_istore (lv' := [(0, _), (1, _), (2, _), (3, _), (4, _), (5, _), (6, _)]) [1, 2, 3, 4, 0, 5, 6] (n := 83) hX (dec_of D_X10_bestTerms (i := 48) rfl) rfl (by decide) rfl ?_
            refine s_iinc (v := z3.2.2.2 + 1) (lv' := [(0, _), (1, _), (2, _), (3, _), (4, _), (5, _), (6, _)]) 5 [1, 2, 3, 4, 5, 0, 6] (n := 86) hX (dec_of D_X10_bestTerms (i := 49) rfl) rfl rfl rfl (by decide) rfl ?_
            refine s_goto (n := 32) hX (dec_of D_X10_bestTerms (i := 50) rfl) rfl ?_
            exact s_sub [0, 1, 2, 3, 4, 5] rfl (hre5 (q12, z3.2.2.2, q11.1, (z3.2.2.2 + 1)))
          · refine s_goto (n := 83) hX (dec_of D_X10_bestTerms (i := 44) rfl) rfl ?_
            refine s_iinc (v := z3.2.2.2 + 1) (lv' := [(0, _), (1, _), (2, _), (3, _), (4, _), (5, _), (6, _)]) 5 [1, 2, 3, 4, 5, 0, 6] (n := 86) hX (dec_of D_X10_bestTerms (i := 49) rfl) rfl rfl rfl (by decide) rfl ?_
            refine s_goto (n := 32) hX (dec_of D_X10_bestTerms (i := 50) rfl) rfl ?_
            exact s_sub [0, 1, 2, 3, 4, 5] rfl (hre5 (q12, z3.2.1, z3.2.2.1, (z3.2.2.2 + 1)))
      · refine s_iconst (v := (-1)) (n := 23) hX (dec_of D_X10_bestTerms (i := 12) rfl) rfl (by decide) ?_
        exact s_iret hX hR (dec_of D_X10_bestTerms (i := 13) rfl) rfl
def T_X10_unknown : List (Nat × Instr × Nat) := [(0, .aload_n 0, 1), (1, .iconst 0, 1), (2, .putfield 86, 3), (5, .iload_n 1, 1), (6, .ifCond .lt 8, 3), (9, .iload_n 1, 1), (10, .iconst 1, 1), (11, .if_icmp .le 5, 3), (14, .iconst (-1), 1), (15, .ireturn, 1), (16, .iconst 0, 1), (17, .istore_n 2, 1), (18, .iconst 0, 1), (19, .istore_n 3, 1), (20, .iload_n 3, 1), (21, .aload_n 0, 1), (22, .getfield 229, 3), (25, .if_icmp .ge 104, 3), (28, .iconst 0, 1), (29, .istore 4, 2), (31, .iload 4, 2), (33, .aload_n 0, 1), (34, .getfield 235, 3), (37, .if_icmp .ge 86, 3), (40, .aload_n 0, 1), (41, .iload 4, 2), (43, .sipush 1000, 3), (46, .aload_n 0, 1), (47, .getfield 13, 3), (50, .iload_n 3, 1), (51, .iaload, 1), (52, .imul, 1), (53, .invokevirtual 316, 3), (56, .iconst 0, 1), (57, .istore 5, 2), (59, .iload 5, 2), (61, .aload_n 0, 1), (62, .iload 4, 2), (64, .invokevirtual 305, 3), (67, .if_icmp .ge 50, 3), (70, .iload_n 2, 1), (71, .aload_n 0, 1), (72, .iload 4, 2), (74, .iload 5, 2), (76, .invokevirtual 313, 3), (79, .iconst (-1), 1), (80, .if_icmp .ne 28, 3), (83, .aload_n 0, 1), (84, .iload_n 3, 1), (85, .iload 4, 2), (87, .iload 5, 2), (89, .invokevirtual 320, 3), (92, .iload_n 1, 1), (93, .iconst 1, 1), (94, .iadd, 1), (95, .if_icmp .ne 13, 3), (98, .aload_n 0, 1), (99, .getfield 71, 3), (102, .iload 5, 2), (104, .iaload, 1), (105, .goto 4, 3), (108, .iconst 0, 1), (109, .iadd, 1), (110, .istore_n 2, 1), (111, .iinc 5 1, 3), (114, .goto (-55), 3), (117, .iinc 4 1, 3), (120, .goto (-89), 3), (123, .iinc 3 1, 3), (126, .goto (-106), 3), (129, .iload_n 2, 1), (130, .ireturn, 1)]
theorem D_X10_unknown : dchk cX10_unknown T_X10_unknown = true := by decide +kernel
def Mo_unknown (σ : ST) (a1 : Int32) : Option (Int32 × ST) :=
  lt_ (setF σ 840 0 0) (fun s1 => (if a1 < 0 then some ((-1), s1) else (if a1 ≤ 1 then lp_ (fun rec3 (z2 : ST × Int32 × Int32) => (if (gF z2.1 850 0) ≤ z2.2.2 then some (z2.2.1, z2.1) else lp_ (fun rec6 (z5 : ST × Int32 × Int32) => (if (gF z5.1 852 0) ≤ z5.2.2 then rec3 (z5.1, z5.2.1, (z2.2.2 + 1)) else bd_ (ldI z5.1 29 0 z2.2.2) (fun v8 => bd_ (Mo_laysShares z5.1 z5.2.2 (1000 * v8)) (fun q9 => lp_ (fun rec11 (z10 : Int32 × Int32) => bd_ (Mo_whole q9 z5.2.2) (fun q13 => (if q13 ≤ z10.2 then rec6 (q9, z10.1, (z5.2.2 + 1)) else bd_ (Mo_whose q9 z5.2.2 z10.2) (fun q14 => (if q14 = (-1) then bd_ (Mo_where q9 z2.2.2 z5.2.2 z10.2) (fun q16 => (if q16 = (a1 + 1) then bd_ (ldI q9 47 0 z10.2) (fun v18 => lt_ ((z10.1 + v18)) (fun x19 => rec11 (x19, (z10.2 + 1)))) else lt_ ((z10.1 + 0)) (fun x17 => rec11 (x17, (z10.2 + 1))))) else lt_ ((z10.1 + 0)) (fun x15 => rec11 (x15, (z10.2 + 1)))))))) FU (z5.2.1, 0))))) FU (z2.1, z2.2.1, 0))) FU (s1, 0, 0) else some ((-1), s1))))
set_option maxHeartbeats 4000000 in
set_option maxRecDepth 100000 in
theorem c_X10_unknown {G : GW} (hG : Good G) {l : Launch} (σ : ST) (a1 : Int32) : Ctr G l yX10_unknown cX10_unknown 6 (some .int) 3 [.ref (ga G 131 0), .int a1] σ oP (Mo_unknown σ a1) := by
  refine ctr_of hG (by decide) (Nat.le_of_ble_eq_true rfl) ?_
  intro X hXl hR hX
  have hX : Ok G X cX10_unknown 6 RX10 3 := hX
  unfold Mo_unknown
  show Sim G X 6 (MQX G X oP) σ 0 [(0, .ref (ga G 131 0)), (1, .int a1)] [] _
  refine s_aload_n 0 (n := 1) hX (dec_of D_X10_unknown (i := 0) rfl) rfl rfl rfl ?_
  refine s_iconst (v := 0) (n := 2) hX (dec_of D_X10_unknown (i := 1) rfl) rfl (by decide) ?_
  refine s_putI (c := 10) (p := 0) (n := 5) hX cls10 (vk131 (by omega)) (dec_of D_X10_unknown (i := 2) rfl) rfl rfl (by decide) wd_1346 rfl rfl rfl (fun s1 => ?_)
  refine s_iload_n 1 (n := 6) hX (dec_of D_X10_unknown (i := 3) rfl) rfl rfl rfl ?_
  refine s_if_lt (tgt := 14) (n := 9) hX (dec_of D_X10_unknown (i := 4) rfl) rfl rfl ?_ ?_
  · refine s_iconst (v := (-1)) (n := 15) hX (dec_of D_X10_unknown (i := 8) rfl) rfl (by decide) ?_
    exact s_iret hX hR (dec_of D_X10_unknown (i := 9) rfl) rfl
  · refine s_iload_n 1 (n := 10) hX (dec_of D_X10_unknown (i := 5) rfl) rfl rfl rfl ?_
    refine s_iconst (v := 1) (n := 11) hX (dec_of D_X10_unknown (i := 6) rfl) rfl (by decide) ?_
    refine s_icmp_le (tgt := 16) (n := 14) hX (dec_of D_X10_unknown (i := 7) rfl) rfl rfl ?_ ?_
    · refine s_iconst (v := 0) (n := 17) hX (dec_of D_X10_unknown (i := 10) rfl) rfl (by decide) ?_
      refine s_istore_n (lv' := [(0, _), (1, _), (2, _)]) [1, 2, 0] (n := 18) hX (dec_of D_X10_unknown (i := 11) rfl) rfl rfl (by decide) rfl ?_
      refine s_iconst (v := 0) (n := 19) hX (dec_of D_X10_unknown (i := 12) rfl) rfl (by decide) ?_
      refine s_istore_n (lv' := [(0, _), (1, _), (2, _), (3, _)]) [1, 2, 3, 0] (n := 20) hX (dec_of D_X10_unknown (i := 13) rfl) rfl rfl (by decide) rfl ?_
      refine s_sub [0, 1, 2, 3] rfl (s_lp (pc := 20) (Sf := fun (z2 : ST × Int32 × Int32) => z2.1) (lvf := fun (z2 : ST × Int32 × Int32) => [(0, .ref (ga G 131 0)), (1, .int a1), (2, .int z2.2.1), (3, .int z2.2.2)]) (fun rec3 hre4 z2 => ?_) FU (s1, 0, 0))
      refine s_iload_n 3 (n := 21) hX (dec_of D_X10_unknown (i := 14) rfl) rfl rfl rfl ?_
      refine s_aload_n 0 (n := 22) hX (dec_of D_X10_unknown (i := 15) rfl) rfl rfl rfl ?_
      refine s_getI (c := 10) (p := 10) (id := 850) (n := 25) hX cls10 (vk131 (by omega)) (dec_of D_X10_unknown (i := 16) rfl) rfl rfl wd_1356 ?_
      refine s_icmp_ge (tgt := 129) (n := 28) hX (dec_of D_X10_unknown (i := 17) rfl) rfl rfl ?_ ?_
      · refine s_iload_n 2 (n := 130) hX (dec_of D_X10_unknown (i := 70) rfl) rfl rfl rfl ?_
        exact s_iret hX hR (dec_of D_X10_unknown (i := 71) rfl) rfl
      · refine s_iconst (v := 0) (n := 29) hX (dec_of D_X10_unknown (i := 18) rfl) rfl (by decide) ?_
        refine s_istore (lv' := [(0, _), (1, _), (2, _), (3, _), (4, _)]) [1, 2, 3, 4, 0] (n := 31) hX (dec_of D_X10_unknown (i := 19) rfl) rfl (by decide) rfl ?_
        refine s_sub [0, 1, 2, 3, 4] rfl (s_lp (pc := 31) (Sf := fun (z5 : ST × Int32 × Int32) => z5.1) (lvf := fun (z5 : ST × Int32 × Int32) => [(0, .ref (ga G 131 0)), (1, .int a1), (2, .int z5.2.1), (3, .int z2.2.2), (4, .int z5.2.2)]) (fun rec6 hre7 z5 => ?_) FU (z2.1, z2.2.1, 0))
        refine s_iload 4 (n := 33) hX (dec_of D_X10_unknown (i := 20) rfl) rfl rfl ?_
        refine s_aload_n 0 (n := 34) hX (dec_of D_X10_unknown (i := 21) rfl) rfl rfl rfl ?_
        refine s_getI (c := 10) (p := 12) (id := 852) (n := 37) hX cls10 (vk131 (by omega)) (dec_of D_X10_unknown (i := 22) rfl) rfl rfl wd_1358 ?_
        refine s_icmp_ge (tgt := 123) (n := 40) hX (dec_of D_X10_unknown (i := 23) rfl) rfl rfl ?_ ?_
        · refine s_iinc (v := z2.2.2 + 1) (lv' := [(0, _), (1, _), (2, _), (3, _), (4, _)]) 3 [1, 2, 3, 0, 4] (n := 126) hX (dec_of D_X10_unknown (i := 68) rfl) rfl rfl rfl (by decide) rfl ?_
          refine s_goto (n := 20) hX (dec_of D_X10_unknown (i := 69) rfl) rfl ?_
          exact s_sub [0, 1, 2, 3] rfl (hre4 (z5.1, z5.2.1, (z2.2.2 + 1)))
        · refine s_aload_n 0 (n := 41) hX (dec_of D_X10_unknown (i := 24) rfl) rfl rfl rfl ?_
          refine s_iload 4 (n := 43) hX (dec_of D_X10_unknown (i := 25) rfl) rfl rfl ?_
          refine s_sipush (v := 1000) (n := 46) hX (dec_of D_X10_unknown (i := 26) rfl) rfl (by decide) ?_
          refine s_aload_n 0 (n := 47) hX (dec_of D_X10_unknown (i := 27) rfl) rfl rfl rfl ?_
          refine s_getR (c := 10) (p := 3) (k' := 29) (n := 50) hX cls10 (vk131 (by omega)) (dec_of D_X10_unknown (i := 28) rfl) rfl rfl wd_1349 ?_
          refine s_iload_n 3 (n := 51) hX (dec_of D_X10_unknown (i := 29) rfl) rfl rfl rfl ?_
          refine s_iald (n := 52) hX (vk29 (by omega)) (by decide) (dec_of D_X10_unknown (i := 30) rfl) rfl (fun v8 => ?_)
          refine s_imul (n := 53) hX (dec_of D_X10_unknown (i := 31) rfl) rfl ?_
          refine s_callVV (c := 10) (n := 56) hX cls10 (vk131 (by omega)) lk_RX10_316 (dec_of D_X10_unknown (i := 32) rfl) rfl (by decide) (c_X10_laysShares (l := _) hG _ _ _) rfl rfl (Nat.le_of_ble_eq_true rfl) (fun q9 => ?_)
          refine s_iconst (v := 0) (n := 57) hX (dec_of D_X10_unknown (i := 33) rfl) rfl (by decide) ?_
          refine s_istore (lv' := [(0, _), (1, _), (2, _), (3, _), (4, _), (5, _)]) [1, 2, 3, 4, 5, 0] (n := 59) hX (dec_of D_X10_unknown (i := 34) rfl) rfl (by decide) rfl ?_
          refine s_sub [0, 1, 2, 3, 4, 5] rfl (s_lp (pc := 59) (Sf := fun (z10 : Int32 × Int32) => q9) (lvf := fun (z10 : Int32 × Int32) => [(0, .ref (ga G 131 0)), (1, .int a1), (2, .int z10.1), (3, .int z2.2.2), (4, .int z5.2.2), (5, .int z10.2)]) (fun rec11 hre12 z10 => ?_) FU (z5.2.1, 0))
          refine s_iload 5 (n := 61) hX (dec_of D_X10_unknown (i := 35) rfl) rfl rfl ?_
          refine s_aload_n 0 (n := 62) hX (dec_of D_X10_unknown (i := 36) rfl) rfl rfl rfl ?_
          refine s_iload 4 (n := 64) hX (dec_of D_X10_unknown (i := 37) rfl) rfl rfl ?_
          refine s_callVI (c := 10) (n := 67) hX cls10 (vk131 (by omega)) lk_RX10_305 (dec_of D_X10_unknown (i := 38) rfl) rfl (by decide) (c_X10_whole (l := _) hG _ _) rfl rfl (Nat.le_of_ble_eq_true rfl) (fun q13 => ?_)
          refine s_icmp_ge (tgt := 117) (n := 70) hX (dec_of D_X10_unknown (i := 39) rfl) rfl rfl ?_ ?_
          · refine s_iinc (v := z5.2.2 + 1) (lv' := [(0, _), (1, _), (2, _), (3, _), (4, _), (5, _)]) 4 [1, 2, 3, 4, 0, 5] (n := 120) hX (dec_of D_X10_unknown (i := 66) rfl) rfl rfl rfl (by decide) rfl ?_
            refine s_goto (n := 31) hX (dec_of D_X10_unknown (i := 67) rfl) rfl ?_
            exact s_sub [0, 1, 2, 3, 4] rfl (hre7 (q9, z10.1, (z5.2.2 + 1)))
          · refine s_iload_n 2 (n := 71) hX (dec_of D_X10_unknown (i := 40) rfl) rfl rfl rfl ?_
            refine s_aload_n 0 (n := 72) hX (dec_of D_X10_unknown (i := 41) rfl) rfl rfl rfl ?_
            refine s_iload 4 (n := 74) hX (dec_of D_X10_unknown (i := 42) rfl) rfl rfl ?_
            refine s_iload 5 (n := 76) hX (dec_of D_X10_unknown (i := 43) rfl) rfl rfl ?_
            refine s_callVI (c := 10) (n := 79) hX cls10 (vk131 (by omega)) lk_RX10_313 (dec_of D_X10_unknown (i := 44) rfl) rfl (by decide) (c_X10_whose (l := _) hG _ _ _) rfl rfl (Nat.le_of_ble_eq_true rfl) (fun q14 => ?_)
            refine s_iconst (v := (-1)) (n := 80) hX (dec_of D_X10_unknown (i := 45) rfl) rfl (by decide) ?_
            refine s_icmp_ne (tgt := 108) (n := 83) hX (dec_of D_X10_unknown (i := 46) rfl) rfl rfl ?_ ?_
            · refine s_iconst (v := 0) (n := 109) hX (dec_of D_X10_unknown (i := 61) rfl) rfl (by decide) ?_
              refine s_iadd (n := 110) hX (dec_of D_X10_unknown (i := 62) rfl) rfl ?_
              refine s_topi (fun x15 => ?_)
              refine s_istore_n (lv' := [(0, _), (1, _), (2, _), (3, _), (4, _), (5, _)]) [1, 2, 0, 3, 4, 5] (n := 111) hX (dec_of D_X10_unknown (i := 63) rfl) rfl rfl (by decide) rfl ?_
              refine s_iinc (v := z10.2 + 1) (lv' := [(0, _), (1, _), (2, _), (3, _), (4, _), (5, _)]) 5 [1, 2, 3, 4, 5, 0] (n := 114) hX (dec_of D_X10_unknown (i := 64) rfl) rfl rfl rfl (by decide) rfl ?_
              refine s_goto (n := 59) hX (dec_of D_X10_unknown (i := 65) rfl) rfl ?_
              exact s_sub [0, 1, 2, 3, 4, 5] rfl (hre12 (x15, (z10.2 + 1)))
            · refine s_aload_n 0 (n := 84) hX (dec_of D_X10_unknown (i := 47) rfl) rfl rfl rfl ?_
              refine s_iload_n 3 (n := 85) hX (dec_of D_X10_unknown (i := 48) rfl) rfl rfl rfl ?_
              refine s_iload 4 (n := 87) hX (dec_of D_X10_unknown (i := 49) rfl) rfl rfl ?_
              refine s_iload 5 (n := 89) hX (dec_of D_X10_unknown (i := 50) rfl) rfl rfl ?_
              refine s_callVI (c := 10) (n := 92) hX cls10 (vk131 (by omega)) lk_RX10_320 (dec_of D_X10_unknown (i := 51) rfl) rfl (by decide) (c_X10_where (l := _) hG _ _ _ _) rfl rfl (Nat.le_of_ble_eq_true rfl) (fun q16 => ?_)
              refine s_iload_n 1 (n := 93) hX (dec_of D_X10_unknown (i := 52) rfl) rfl rfl rfl ?_
              refine s_iconst (v := 1) (n := 94) hX (dec_of D_X10_unknown (i := 53) rfl) rfl (by decide) ?_
              refine s_iadd (n := 95) hX (dec_of D_X10_unknown (i := 54) rfl) rfl ?_
              refine s_icmp_ne (tgt := 108) (n := 98) hX (dec_of D_X10_unknown (i := 55) rfl) rfl rfl ?_ ?_
              · refine s_iconst (v := 0) (n := 109) hX (dec_of D_X10_unknown (i := 61) rfl) rfl (by decide) ?_
                refine s_iadd (n := 110) hX (dec_of D_X10_unknown (i := 62) rfl) rfl ?_
                refine s_topi (fun x17 => ?_)
                refine s_istore_n (lv' := [(0, _), (1, _), (2, _), (3, _), (4, _), (5, _)]) [1, 2, 0, 3, 4, 5] (n := 111) hX (dec_of D_X10_unknown (i := 63) rfl) rfl rfl (by decide) rfl ?_
                refine s_iinc (v := z10.2 + 1) (lv' := [(0, _), (1, _), (2, _), (3, _), (4, _), (5, _)]) 5 [1, 2, 3, 4, 5, 0] (n := 114) hX (dec_of D_X10_unknown (i := 64) rfl) rfl rfl rfl (by decide) rfl ?_
                refine s_goto (n := 59) hX (dec_of D_X10_unknown (i := 65) rfl) rfl ?_
                exact s_sub [0, 1, 2, 3, 4, 5] rfl (hre12 (x17, (z10.2 + 1)))
              · refine s_aload_n 0 (n := 99) hX (dec_of D_X10_unknown (i := 56) rfl) rfl rfl rfl ?_
                refine s_getR (c := 10) (p := 46) (k' := 47) (n := 102) hX cls10 (vk131 (by omega)) (dec_of D_X10_unknown (i := 57) rfl) rfl rfl wd_1392 ?_
                refine s_iload 5 (n := 104) hX (dec_of D_X10_unknown (i := 58) rfl) rfl rfl ?_
                refine s_iald (n := 105) hX (vk47 (by omega)) (by decide) (dec_of D_X10_unknown (i := 59) rfl) rfl (fun v18 => ?_)
                refine s_goto (n := 109) hX (dec_of D_X10_unknown (i := 60) rfl) rfl ?_
                refine s_iadd (n := 110) hX (dec_of D_X10_unknown (i := 62) rfl) rfl ?_
                refine s_topi (fun x19 => ?_)
                refine s_istore_n (lv' := [(0, _), (1, _), (2, _), (3, _), (4, _), (5, _)]) [1, 2, 0, 3, 4, 5] (n := 111) hX (dec_of D_X10_unknown (i := 63) rfl) rfl rfl (by decide) rfl ?_
                refine s_iinc (v := z10.2 + 1) (lv' := [(0, _), (1, _), (2, _), (3, _), (4, _), (5, _)]) 5 [1, 2, 3, 4, 5, 0] (n := 114) hX (dec_of D_X10_unknown (i := 64) rfl) rfl rfl rfl (by decide) rfl ?_
                refine s_goto (n := 59) hX (dec_of D_X10_unknown (i := 65) rfl) rfl ?_
                exact s_sub [0, 1, 2, 3, 4, 5] rfl (hre12 (x19, (z10.2 + 1)))
    · refine s_iconst (v := (-1)) (n := 15) hX (dec_of D_X10_unknown (i := 8) rfl) rfl (by decide) ?_
      exact s_iret hX hR (dec_of D_X10_unknown (i := 9) rfl) rfl
def T_X10_statement : List (Nat × Instr × Nat) := [(0, .aload_n 0, 1), (1, .iconst 0, 1), (2, .putfield 86, 3), (5, .aload_n 0, 1), (6, .iload_n 1, 1), (7, .invokevirtual 264, 3), (10, .ifCond .eq 16, 3), (13, .iload_n 2, 1), (14, .ifCond .lt 12, 3), (17, .iload_n 3, 1), (18, .ifCond .lt 8, 3), (21, .iload_n 3, 1), (22, .iconst 1, 1), (23, .if_icmp .le 5, 3), (26, .iconst (-1), 1), (27, .ireturn, 1), (28, .iconst 0, 1), (29, .istore 4, 2), (31, .iconst 0, 1), (32, .istore 5, 2), (34, .iload 5, 2), (36, .aload_n 0, 1), (37, .getfield 229, 3), (40, .if_icmp .ge 48, 3), (43, .aload_n 0, 1), (44, .iload_n 1, 1), (45, .iload 5, 2), (47, .invokevirtual 248, 3), (50, .ifCond .ne 6, 3), (53, .goto 29, 3), (56, .iload 4, 2), (58, .iload_n 2, 1), (59, .if_icmp .ne 20, 3), (62, .iload_n 3, 1), (63, .ifCond .ne 8, 3), (66, .iload 5, 2), (68, .goto 10, 3), (71, .aload_n 0, 1), (72, .iload_n 1, 1), (73, .iload 5, 2), (75, .invokevirtual 248, 3), (78, .ireturn, 1), (79, .iinc 4 1, 3), (82, .iinc 5 1, 3), (85, .goto (-51), 3), (88, .bipush (-2), 2), (90, .ireturn, 1)]
theorem D_X10_statement : dchk cX10_statement T_X10_statement = true := by decide +kernel
def Mo_statement (σ : ST) (a1 : Int32) (a2 : Int32) (a3 : Int32) : Option (Int32 × ST) :=
  lt_ (setF σ 840 0 0) (fun s1 => bd_ (Mo_isPlayer s1 a1) (fun q2 => (if q2 = 0 then some ((-1), s1) else (if a2 < 0 then some ((-1), s1) else (if a3 < 0 then some ((-1), s1) else (if a3 ≤ 1 then lp_ (fun rec4 (z3 : Int32 × Int32) => (if (gF s1 850 0) ≤ z3.2 then some ((-2), s1) else bd_ (Mo_paidIn s1 a1 z3.2) (fun q6 => (if q6 = 0 then rec4 (z3.1, (z3.2 + 1)) else (if z3.1 = a2 then (if a3 = 0 then some (z3.2, s1) else bd_ (Mo_paidIn s1 a1 z3.2) (fun q7 => some (q7, s1))) else rec4 ((z3.1 + 1), (z3.2 + 1))))))) FU (0, 0) else some ((-1), s1)))))))
set_option maxHeartbeats 4000000 in
set_option maxRecDepth 100000 in
theorem c_X10_statement {G : GW} (hG : Good G) {l : Launch} (σ : ST) (a1 : Int32) (a2 : Int32) (a3 : Int32) : Ctr G l yX10_statement cX10_statement 6 (some .int) 1 [.ref (ga G 131 0), .int a1, .int a2, .int a3] σ oP (Mo_statement σ a1 a2 a3) := by
  refine ctr_of hG (by decide) (Nat.le_of_ble_eq_true rfl) ?_
  intro X hXl hR hX
  have hX : Ok G X cX10_statement 6 RX10 1 := hX
  unfold Mo_statement
  show Sim G X 6 (MQX G X oP) σ 0 [(0, .ref (ga G 131 0)), (1, .int a1), (2, .int a2), (3, .int a3)] [] _
  refine s_aload_n 0 (n := 1) hX (dec_of D_X10_statement (i := 0) rfl) rfl rfl rfl ?_
  refine s_iconst (v := 0) (n := 2) hX (dec_of D_X10_statement (i := 1) rfl) rfl (by decide) ?_
  refine s_putI (c := 10) (p := 0) (n := 5) hX cls10 (vk131 (by omega)) (dec_of D_X10_statement (i := 2) rfl) rfl rfl (by decide) wd_1346 rfl rfl rfl (fun s1 => ?_)
  refine s_aload_n 0 (n := 6) hX (dec_of D_X10_statement (i := 3) rfl) rfl rfl rfl ?_
  refine s_iload_n 1 (n := 7) hX (dec_of D_X10_statement (i := 4) rfl) rfl rfl rfl ?_
  refine s_callVI (c := 10) (n := 10) hX cls10 (vk131 (by omega)) lk_RX10_264 (dec_of D_X10_statement (i := 5) rfl) rfl (by decide) (c_X10_isPlayer (l := _) hG _ _) rfl rfl (Nat.le_of_ble_eq_true rfl) (fun q2 => ?_)
  refine s_if_eq (tgt := 26) (n := 13) hX (dec_of D_X10_statement (i := 6) rfl) rfl rfl ?_ ?_
  · refine s_iconst (v := (-1)) (n := 27) hX (dec_of D_X10_statement (i := 14) rfl) rfl (by decide) ?_
    exact s_iret hX hR (dec_of D_X10_statement (i := 15) rfl) rfl
  · refine s_iload_n 2 (n := 14) hX (dec_of D_X10_statement (i := 7) rfl) rfl rfl rfl ?_
    refine s_if_lt (tgt := 26) (n := 17) hX (dec_of D_X10_statement (i := 8) rfl) rfl rfl ?_ ?_
    · refine s_iconst (v := (-1)) (n := 27) hX (dec_of D_X10_statement (i := 14) rfl) rfl (by decide) ?_
      exact s_iret hX hR (dec_of D_X10_statement (i := 15) rfl) rfl
    · refine s_iload_n 3 (n := 18) hX (dec_of D_X10_statement (i := 9) rfl) rfl rfl rfl ?_
      refine s_if_lt (tgt := 26) (n := 21) hX (dec_of D_X10_statement (i := 10) rfl) rfl rfl ?_ ?_
      · refine s_iconst (v := (-1)) (n := 27) hX (dec_of D_X10_statement (i := 14) rfl) rfl (by decide) ?_
        exact s_iret hX hR (dec_of D_X10_statement (i := 15) rfl) rfl
      · refine s_iload_n 3 (n := 22) hX (dec_of D_X10_statement (i := 11) rfl) rfl rfl rfl ?_
        refine s_iconst (v := 1) (n := 23) hX (dec_of D_X10_statement (i := 12) rfl) rfl (by decide) ?_
        refine s_icmp_le (tgt := 28) (n := 26) hX (dec_of D_X10_statement (i := 13) rfl) rfl rfl ?_ ?_
        · refine s_iconst (v := 0) (n := 29) hX (dec_of D_X10_statement (i := 16) rfl) rfl (by decide) ?_
          refine s_istore (lv' := [(0, _), (1, _), (2, _), (3, _), (4, _)]) [1, 2, 3, 4, 0] (n := 31) hX (dec_of D_X10_statement (i := 17) rfl) rfl (by decide) rfl ?_
          refine s_iconst (v := 0) (n := 32) hX (dec_of D_X10_statement (i := 18) rfl) rfl (by decide) ?_
          refine s_istore (lv' := [(0, _), (1, _), (2, _), (3, _), (4, _), (5, _)]) [1, 2, 3, 4, 5, 0] (n := 34) hX (dec_of D_X10_statement (i := 19) rfl) rfl (by decide) rfl ?_
          refine s_sub [0, 1, 2, 3, 4, 5] rfl (s_lp (pc := 34) (Sf := fun (z3 : Int32 × Int32) => s1) (lvf := fun (z3 : Int32 × Int32) => [(0, .ref (ga G 131 0)), (1, .int a1), (2, .int a2), (3, .int a3), (4, .int z3.1), (5, .int z3.2)]) (fun rec4 hre5 z3 => ?_) FU (0, 0))
          refine s_iload 5 (n := 36) hX (dec_of D_X10_statement (i := 20) rfl) rfl rfl ?_
          refine s_aload_n 0 (n := 37) hX (dec_of D_X10_statement (i := 21) rfl) rfl rfl rfl ?_
          refine s_getI (c := 10) (p := 10) (id := 850) (n := 40) hX cls10 (vk131 (by omega)) (dec_of D_X10_statement (i := 22) rfl) rfl rfl wd_1356 ?_
          refine s_icmp_ge (tgt := 88) (n := 43) hX (dec_of D_X10_statement (i := 23) rfl) rfl rfl ?_ ?_
          · refine s_bipush (v := (-2)) (n := 90) hX (dec_of D_X10_statement (i := 45) rfl) rfl (by decide) ?_
            exact s_iret hX hR (dec_of D_X10_statement (i := 46) rfl) rfl
          · refine s_aload_n 0 (n := 44) hX (dec_of D_X10_statement (i := 24) rfl) rfl rfl rfl ?_
            refine s_iload_n 1 (n := 45) hX (dec_of D_X10_statement (i := 25) rfl) rfl rfl rfl ?_
            refine s_iload 5 (n := 47) hX (dec_of D_X10_statement (i := 26) rfl) rfl rfl ?_
            refine s_callVI (c := 10) (n := 50) hX cls10 (vk131 (by omega)) lk_RX10_248 (dec_of D_X10_statement (i := 27) rfl) rfl (by decide) (c_X10_paidIn (l := _) hG _ _ _) rfl rfl (Nat.le_of_ble_eq_true rfl) (fun q6 => ?_)
            refine s_if_ne (tgt := 56) (n := 53) hX (dec_of D_X10_statement (i := 28) rfl) rfl rfl ?_ ?_
            · refine s_iload 4 (n := 58) hX (dec_of D_X10_statement (i := 30) rfl) rfl rfl ?_
              refine s_iload_n 2 (n := 59) hX (dec_of D_X10_statement (i := 31) rfl) rfl rfl rfl ?_
              refine s_icmp_ne (tgt := 79) (n := 62) hX (dec_of D_X10_statement (i := 32) rfl) rfl rfl ?_ ?_
              · refine s_iinc (v := z3.1 + 1) (lv' := [(0, _), (1, _), (2, _), (3, _), (4, _), (5, _)]) 4 [1, 2, 3, 4, 0, 5] (n := 82) hX (dec_of D_X10_statement (i := 42) rfl) rfl rfl rfl (by decide) rfl ?_
                refine s_iinc (v := z3.2 + 1) (lv' := [(0, _), (1, _), (2, _), (3, _), (4, _), (5, _)]) 5 [1, 2, 3, 4, 5, 0] (n := 85) hX (dec_of D_X10_statement (i := 43) rfl) rfl rfl rfl (by decide) rfl ?_
                refine s_goto (n := 34) hX (dec_of D_X10_statement (i := 44) rfl) rfl ?_
                exact s_sub [0, 1, 2, 3, 4, 5] rfl (hre5 ((z3.1 + 1), (z3.2 + 1)))
              · refine s_iload_n 3 (n := 63) hX (dec_of D_X10_statement (i := 33) rfl) rfl rfl rfl ?_
                refine s_if_ne (tgt := 71) (n := 66) hX (dec_of D_X10_statement (i := 34) rfl) rfl rfl ?_ ?_
                · refine s_aload_n 0 (n := 72) hX (dec_of D_X10_statement (i := 37) rfl) rfl rfl rfl ?_
                  refine s_iload_n 1 (n := 73) hX (dec_of D_X10_statement (i := 38) rfl) rfl rfl rfl ?_
                  refine s_iload 5 (n := 75) hX (dec_of D_X10_statement (i := 39) rfl) rfl rfl ?_
                  refine s_callVI (c := 10) (n := 78) hX cls10 (vk131 (by omega)) lk_RX10_248 (dec_of D_X10_statement (i := 40) rfl) rfl (by decide) (c_X10_paidIn (l := _) hG _ _ _) rfl rfl (Nat.le_of_ble_eq_true rfl) (fun q7 => ?_)
                  exact s_iret hX hR (dec_of D_X10_statement (i := 41) rfl) rfl
                · refine s_iload 5 (n := 68) hX (dec_of D_X10_statement (i := 35) rfl) rfl rfl ?_
                  refine s_goto (n := 78) hX (dec_of D_X10_statement (i := 36) rfl) rfl ?_
                  exact s_iret hX hR (dec_of D_X10_statement (i := 41) rfl) rfl
            · refine s_goto (n := 82) hX (dec_of D_X10_statement (i := 29) rfl) rfl ?_
              refine s_iinc (v := z3.2 + 1) (lv' := [(0, _), (1, _), (2, _), (3, _), (4, _), (5, _)]) 5 [1, 2, 3, 4, 5, 0] (n := 85) hX (dec_of D_X10_statement (i := 43) rfl) rfl rfl rfl (by decide) rfl ?_
              refine s_goto (n := 34) hX (dec_of D_X10_statement (i := 44) rfl) rfl ?_
              exact s_sub [0, 1, 2, 3, 4, 5] rfl (hre5 (z3.1, (z3.2 + 1)))
        · refine s_iconst (v := (-1)) (n := 27) hX (dec_of D_X10_statement (i := 14) rfl) rfl (by decide) ?_
          exact s_iret hX hR (dec_of D_X10_statement (i := 15) rfl) rfl
def T_X10_roundOf : List (Nat × Instr × Nat) := [(0, .aload_n 0, 1), (1, .getfield 28, 3), (4, .sipush 2672, 3), (7, .iload_n 1, 1), (8, .iadd, 1), (9, .iaload, 1), (10, .istore_n 3, 1), (11, .aload_n 0, 1), (12, .getfield 28, 3), (15, .sipush 2672, 3), (18, .iload_n 1, 1), (19, .iadd, 1), (20, .iload_n 2, 1), (21, .iastore, 1), (22, .iconst 0, 1), (23, .istore 4, 2), (25, .iconst 0, 1), (26, .istore 5, 2), (28, .iload 5, 2), (30, .aload_n 0, 1), (31, .getfield 229, 3), (34, .if_icmp .ge 52, 3), (37, .iconst 0, 1), (38, .istore 6, 2), (40, .iload 6, 2), (42, .aload_n 0, 1), (43, .getfield 235, 3), (46, .if_icmp .ge 34, 3), (49, .iload 4, 2), (51, .aload_n 0, 1), (52, .iload_n 1, 1), (53, .iload 5, 2), (55, .iload 6, 2), (57, .sipush 1000, 3), (60, .aload_n 0, 1), (61, .getfield 13, 3), (64, .iload 5, 2), (66, .iaload, 1), (67, .imul, 1), (68, .invokevirtual 391, 3), (71, .iadd, 1), (72, .istore 4, 2), (74, .iinc 6 1, 3), (77, .goto (-37), 3), (80, .iinc 5 1, 3), (83, .goto (-55), 3), (86, .aload_n 0, 1), (87, .getfield 28, 3), (90, .sipush 2672, 3), (93, .iload_n 1, 1), (94, .iadd, 1), (95, .iload_n 3, 1), (96, .iastore, 1), (97, .iload 4, 2), (99, .ireturn, 1)]
theorem D_X10_roundOf : dchk cX10_roundOf T_X10_roundOf = true := by decide +kernel
def Mo_roundOf (σ : ST) (a1 : Int32) (a2 : Int32) : Option (Int32 × ST) :=
  bd_ (ldI σ 34 0 (2672 + a1)) (fun v1 => bd_ (stI σ 34 0 (2672 + a1) a2) (fun s2 => lp_ (fun rec4 (z3 : ST × Int32 × Int32) => (if (gF z3.1 850 0) ≤ z3.2.2 then bd_ (stI z3.1 34 0 (2672 + a1) v1) (fun s6 => some (z3.2.1, s6)) else lp_ (fun rec8 (z7 : ST × Int32 × Int32) => (if (gF z7.1 852 0) ≤ z7.2.2 then rec4 (z7.1, z7.2.1, (z3.2.2 + 1)) else bd_ (ldI z7.1 29 0 z3.2.2) (fun v10 => bd_ (Mo_paidTo z7.1 a1 z3.2.2 z7.2.2 (1000 * v10)) (fun q11 => lt_ ((z7.2.1 + q11.1)) (fun x12 => rec8 (q11.2, x12, (z7.2.2 + 1))))))) FU (z3.1, z3.2.1, 0))) FU (s2, 0, 0)))
set_option maxHeartbeats 4000000 in
set_option maxRecDepth 100000 in
theorem c_X10_roundOf {G : GW} (hG : Good G) {l : Launch} (σ : ST) (a1 : Int32) (a2 : Int32) : Ctr G l yX10_roundOf cX10_roundOf 7 (some .int) 4 [.ref (ga G 131 0), .int a1, .int a2] σ oP (Mo_roundOf σ a1 a2) := by
  refine ctr_of hG (by decide) (Nat.le_of_ble_eq_true rfl) ?_
  intro X hXl hR hX
  have hX : Ok G X cX10_roundOf 7 RX10 4 := hX
  unfold Mo_roundOf
  show Sim G X 7 (MQX G X oP) σ 0 [(0, .ref (ga G 131 0)), (1, .int a1), (2, .int a2)] [] _
  refine s_aload_n 0 (n := 1) hX (dec_of D_X10_roundOf (i := 0) rfl) rfl rfl rfl ?_
  refine s_getR (c := 10) (p := 14) (k' := 34) (n := 4) hX cls10 (vk131 (by omega)) (dec_of D_X10_roundOf (i := 1) rfl) rfl rfl wd_1360 ?_
  refine s_sipush (v := 2672) (n := 7) hX (dec_of D_X10_roundOf (i := 2) rfl) rfl (by decide) ?_
  refine s_iload_n 1 (n := 8) hX (dec_of D_X10_roundOf (i := 3) rfl) rfl rfl rfl ?_
  refine s_iadd (n := 9) hX (dec_of D_X10_roundOf (i := 4) rfl) rfl ?_
  refine s_iald (n := 10) hX (vk34 (by omega)) (by decide) (dec_of D_X10_roundOf (i := 5) rfl) rfl (fun v1 => ?_)
  refine s_istore_n (lv' := [(0, _), (1, _), (2, _), (3, _)]) [1, 2, 3, 0] (n := 11) hX (dec_of D_X10_roundOf (i := 6) rfl) rfl rfl (by decide) rfl ?_
  refine s_aload_n 0 (n := 12) hX (dec_of D_X10_roundOf (i := 7) rfl) rfl rfl rfl ?_
  refine s_getR (c := 10) (p := 14) (k' := 34) (n := 15) hX cls10 (vk131 (by omega)) (dec_of D_X10_roundOf (i := 8) rfl) rfl rfl wd_1360 ?_
  refine s_sipush (v := 2672) (n := 18) hX (dec_of D_X10_roundOf (i := 9) rfl) rfl (by decide) ?_
  refine s_iload_n 1 (n := 19) hX (dec_of D_X10_roundOf (i := 10) rfl) rfl rfl rfl ?_
  refine s_iadd (n := 20) hX (dec_of D_X10_roundOf (i := 11) rfl) rfl ?_
  refine s_iload_n 2 (n := 21) hX (dec_of D_X10_roundOf (i := 12) rfl) rfl rfl rfl ?_
  refine s_iast (n := 22) hX (vk34 (by omega)) (by decide) (dec_of D_X10_roundOf (i := 13) rfl) rfl (fun s2 => ?_)
  refine s_iconst (v := 0) (n := 23) hX (dec_of D_X10_roundOf (i := 14) rfl) rfl (by decide) ?_
  refine s_istore (lv' := [(0, _), (1, _), (2, _), (3, _), (4, _)]) [1, 2, 3, 4, 0] (n := 25) hX (dec_of D_X10_roundOf (i := 15) rfl) rfl (by decide) rfl ?_
  refine s_iconst (v := 0) (n := 26) hX (dec_of D_X10_roundOf (i := 16) rfl) rfl (by decide) ?_
  refine s_istore (lv' := [(0, _), (1, _), (2, _), (3, _), (4, _), (5, _)]) [1, 2, 3, 4, 5, 0] (n := 28) hX (dec_of D_X10_roundOf (i := 17) rfl) rfl (by decide) rfl ?_
  refine s_sub [0, 1, 3, 4, 5] rfl (s_lp (pc := 28) (Sf := fun (z3 : ST × Int32 × Int32) => z3.1) (lvf := fun (z3 : ST × Int32 × Int32) => [(0, .ref (ga G 131 0)), (1, .int a1), (3, .int v1), (4, .int z3.2.1), (5, .int z3.2.2)]) (fun rec4 hre5 z3 => ?_) FU (s2, 0, 0))
  refine s_iload 4 (n := 30) hX (dec_of D_X10_roundOf (i := 18) rfl) rfl rfl ?_
  refine s_aload_n 0 (n := 31) hX (dec_of D_X10_roundOf (i := 19) rfl) rfl rfl rfl ?_
  refine s_getI (c := 10) (p := 10) (id := 850) (n := 34) hX cls10 (vk131 (by omega)) (dec_of D_X10_roundOf (i := 20) rfl) rfl rfl wd_1356 ?_
  refine s_icmp_ge (tgt := 86) (n := 37) hX (dec_of D_X10_roundOf (i := 21) rfl) rfl rfl ?_ ?_
  · refine s_aload_n 0 (n := 87) hX (dec_of D_X10_roundOf (i := 46) rfl) rfl rfl rfl ?_
    refine s_getR (c := 10) (p := 14) (k' := 34) (n := 90) hX cls10 (vk131 (by omega)) (dec_of D_X10_roundOf (i := 47) rfl) rfl rfl wd_1360 ?_
    refine s_sipush (v := 2672) (n := 93) hX (dec_of D_X10_roundOf (i := 48) rfl) rfl (by decide) ?_
    refine s_iload_n 1 (n := 94) hX (dec_of D_X10_roundOf (i := 49) rfl) rfl rfl rfl ?_
    refine s_iadd (n := 95) hX (dec_of D_X10_roundOf (i := 50) rfl) rfl ?_
    refine s_iload_n 2 (n := 96) hX (dec_of D_X10_roundOf (i := 51) rfl) rfl rfl rfl ?_
    refine s_iast (n := 97) hX (vk34 (by omega)) (by decide) (dec_of D_X10_roundOf (i := 52) rfl) rfl (fun s6 => ?_)
    refine s_iload 3 (n := 99) hX (dec_of D_X10_roundOf (i := 53) rfl) rfl rfl ?_
    exact s_iret hX hR (dec_of D_X10_roundOf (i := 54) rfl) rfl
  · refine s_iconst (v := 0) (n := 38) hX (dec_of D_X10_roundOf (i := 22) rfl) rfl (by decide) ?_
    refine s_istore (lv' := [(0, _), (1, _), (3, _), (4, _), (5, _), (6, _)]) [1, 2, 3, 4, 5, 0] (n := 40) hX (dec_of D_X10_roundOf (i := 23) rfl) rfl (by decide) rfl ?_
    refine s_sub [0, 1, 2, 3, 4, 5] rfl (s_lp (pc := 40) (Sf := fun (z7 : ST × Int32 × Int32) => z7.1) (lvf := fun (z7 : ST × Int32 × Int32) => [(0, .ref (ga G 131 0)), (1, .int a1), (3, .int v1), (4, .int z7.2.1), (5, .int z3.2.2), (6, .int z7.2.2)]) (fun rec8 hre9 z7 => ?_) FU (z3.1, z3.2.1, 0))
    refine s_iload 5 (n := 42) hX (dec_of D_X10_roundOf (i := 24) rfl) rfl rfl ?_
    refine s_aload_n 0 (n := 43) hX (dec_of D_X10_roundOf (i := 25) rfl) rfl rfl rfl ?_
    refine s_getI (c := 10) (p := 12) (id := 852) (n := 46) hX cls10 (vk131 (by omega)) (dec_of D_X10_roundOf (i := 26) rfl) rfl rfl wd_1358 ?_
    refine s_icmp_ge (tgt := 80) (n := 49) hX (dec_of D_X10_roundOf (i := 27) rfl) rfl rfl ?_ ?_
    · refine s_iinc (v := z3.2.2 + 1) (lv' := [(0, _), (1, _), (3, _), (4, _), (5, _), (6, _)]) 4 [1, 2, 3, 4, 0, 5] (n := 83) hX (dec_of D_X10_roundOf (i := 44) rfl) rfl rfl rfl (by decide) rfl ?_
      refine s_goto (n := 28) hX (dec_of D_X10_roundOf (i := 45) rfl) rfl ?_
      exact s_sub [0, 1, 2, 3, 4] rfl (hre5 (z7.1, z7.2.1, (z3.2.2 + 1)))
    · refine s_iload 3 (n := 51) hX (dec_of D_X10_roundOf (i := 28) rfl) rfl rfl ?_
      refine s_aload_n 0 (n := 52) hX (dec_of D_X10_roundOf (i := 29) rfl) rfl rfl rfl ?_
      refine s_iload_n 1 (n := 53) hX (dec_of D_X10_roundOf (i := 30) rfl) rfl rfl rfl ?_
      refine s_iload 4 (n := 55) hX (dec_of D_X10_roundOf (i := 31) rfl) rfl rfl ?_
      refine s_iload 5 (n := 57) hX (dec_of D_X10_roundOf (i := 32) rfl) rfl rfl ?_
      refine s_sipush (v := 1000) (n := 60) hX (dec_of D_X10_roundOf (i := 33) rfl) rfl (by decide) ?_
      refine s_aload_n 0 (n := 61) hX (dec_of D_X10_roundOf (i := 34) rfl) rfl rfl rfl ?_
      refine s_getR (c := 10) (p := 3) (k' := 29) (n := 64) hX cls10 (vk131 (by omega)) (dec_of D_X10_roundOf (i := 35) rfl) rfl rfl wd_1349 ?_
      refine s_iload 4 (n := 66) hX (dec_of D_X10_roundOf (i := 36) rfl) rfl rfl ?_
      refine s_iald (n := 67) hX (vk29 (by omega)) (by decide) (dec_of D_X10_roundOf (i := 37) rfl) rfl (fun v10 => ?_)
      refine s_imul (n := 68) hX (dec_of D_X10_roundOf (i := 38) rfl) rfl ?_
      refine s_callVP (c := 10) (n := 71) hX cls10 (vk131 (by omega)) lk_RX10_391 (dec_of D_X10_roundOf (i := 39) rfl) rfl (by decide) (c_X10_paidTo (l := _) hG _ _ _ _ _) rfl rfl (Nat.le_of_ble_eq_true rfl) (fun q11 => ?_)
      refine s_iadd (n := 72) hX (dec_of D_X10_roundOf (i := 40) rfl) rfl ?_
      refine s_topi (fun x12 => ?_)
      refine s_istore (lv' := [(0, _), (1, _), (3, _), (4, _), (5, _), (6, _)]) [1, 2, 3, 0, 4, 5] (n := 74) hX (dec_of D_X10_roundOf (i := 41) rfl) rfl (by decide) rfl ?_
      refine s_iinc (v := z7.2.2 + 1) (lv' := [(0, _), (1, _), (3, _), (4, _), (5, _), (6, _)]) 5 [1, 2, 3, 4, 5, 0] (n := 77) hX (dec_of D_X10_roundOf (i := 42) rfl) rfl rfl rfl (by decide) rfl ?_
      refine s_goto (n := 40) hX (dec_of D_X10_roundOf (i := 43) rfl) rfl ?_
      exact s_sub [0, 1, 2, 3, 4, 5] rfl (hre9 (q11.2, x12, (z7.2.2 + 1)))
theorem lk_RX10_412 : LkV RX10 412 RX10 yX10_roundOf cX10_roundOf 7 (some .int) 2 := ⟨wd_1974, wd_1976, wd_79, wd_93, wd_1977, by decide +kernel, by decide⟩
def T_X10_moveGain : List (Nat × Instr × Nat) := [(0, .aload_n 0, 1), (1, .iconst 0, 1), (2, .putfield 86, 3), (5, .aload_n 0, 1), (6, .iload_n 1, 1), (7, .invokevirtual 264, 3), (10, .ifCond .eq 36, 3), (13, .aload_n 0, 1), (14, .iload_n 2, 1), (15, .invokevirtual 257, 3), (18, .ifCond .eq 28, 3), (21, .aload_n 0, 1), (22, .iload_n 1, 1), (23, .iload_n 2, 1), (24, .invokevirtual 412, 3), (27, .aload_n 0, 1), (28, .iload_n 1, 1), (29, .aload_n 0, 1), (30, .getfield 28, 3), (33, .sipush 2672, 3), (36, .iload_n 1, 1), (37, .iadd, 1), (38, .iaload, 1), (39, .invokevirtual 412, 3), (42, .isub, 1), (43, .goto 6, 3), (46, .ldc_w 390, 3), (49, .ireturn, 1)]
theorem D_X10_moveGain : dchk cX10_moveGain T_X10_moveGain = true := by decide +kernel
def Mo_moveGain (σ : ST) (a1 : Int32) (a2 : Int32) : Option (Int32 × ST) :=
  lt_ (setF σ 840 0 0) (fun s1 => bd_ (Mo_isPlayer s1 a1) (fun q2 => (if q2 = 0 then some ((-1000000000), s1) else bd_ (Mo_isLand s1 a2) (fun q3 => (if q3 = 0 then some ((-1000000000), s1) else bd_ (Mo_roundOf s1 a1 a2) (fun q4 => bd_ (ldI q4.2 34 0 (2672 + a1)) (fun v5 => bd_ (Mo_roundOf q4.2 a1 v5) (fun q6 => some ((q4.1 - q6.1), q6.2)))))))))
set_option maxHeartbeats 4000000 in
set_option maxRecDepth 100000 in
theorem c_X10_moveGain {G : GW} (hG : Good G) {l : Launch} (σ : ST) (a1 : Int32) (a2 : Int32) : Ctr G l yX10_moveGain cX10_moveGain 3 (some .int) 5 [.ref (ga G 131 0), .int a1, .int a2] σ oP (Mo_moveGain σ a1 a2) := by
  refine ctr_of hG (by decide) (Nat.le_of_ble_eq_true rfl) ?_
  intro X hXl hR hX
  have hX : Ok G X cX10_moveGain 3 RX10 5 := hX
  unfold Mo_moveGain
  show Sim G X 3 (MQX G X oP) σ 0 [(0, .ref (ga G 131 0)), (1, .int a1), (2, .int a2)] [] _
  refine s_aload_n 0 (n := 1) hX (dec_of D_X10_moveGain (i := 0) rfl) rfl rfl rfl ?_
  refine s_iconst (v := 0) (n := 2) hX (dec_of D_X10_moveGain (i := 1) rfl) rfl (by decide) ?_
  refine s_putI (c := 10) (p := 0) (n := 5) hX cls10 (vk131 (by omega)) (dec_of D_X10_moveGain (i := 2) rfl) rfl rfl (by decide) wd_1346 rfl rfl rfl (fun s1 => ?_)
  refine s_aload_n 0 (n := 6) hX (dec_of D_X10_moveGain (i := 3) rfl) rfl rfl rfl ?_
  refine s_iload_n 1 (n := 7) hX (dec_of D_X10_moveGain (i := 4) rfl) rfl rfl rfl ?_
  refine s_callVI (c := 10) (n := 10) hX cls10 (vk131 (by omega)) lk_RX10_264 (dec_of D_X10_moveGain (i := 5) rfl) rfl (by decide) (c_X10_isPlayer (l := _) hG _ _) rfl rfl (Nat.le_of_ble_eq_true rfl) (fun q2 => ?_)
  refine s_if_eq (tgt := 46) (n := 13) hX (dec_of D_X10_moveGain (i := 6) rfl) rfl rfl ?_ ?_
  · refine s_ldcw (v := (-1000000000)) (n := 49) hX (dec_of D_X10_moveGain (i := 26) rfl) rfl wd_1893 ?_
    exact s_iret hX hR (dec_of D_X10_moveGain (i := 27) rfl) rfl
  · refine s_aload_n 0 (n := 14) hX (dec_of D_X10_moveGain (i := 7) rfl) rfl rfl rfl ?_
    refine s_iload_n 2 (n := 15) hX (dec_of D_X10_moveGain (i := 8) rfl) rfl rfl rfl ?_
    refine s_callVI (c := 10) (n := 18) hX cls10 (vk131 (by omega)) lk_RX10_257 (dec_of D_X10_moveGain (i := 9) rfl) rfl (by decide) (c_X10_isLand (l := _) hG _ _) rfl rfl (Nat.le_of_ble_eq_true rfl) (fun q3 => ?_)
    refine s_if_eq (tgt := 46) (n := 21) hX (dec_of D_X10_moveGain (i := 10) rfl) rfl rfl ?_ ?_
    · refine s_ldcw (v := (-1000000000)) (n := 49) hX (dec_of D_X10_moveGain (i := 26) rfl) rfl wd_1893 ?_
      exact s_iret hX hR (dec_of D_X10_moveGain (i := 27) rfl) rfl
    · refine s_aload_n 0 (n := 22) hX (dec_of D_X10_moveGain (i := 11) rfl) rfl rfl rfl ?_
      refine s_iload_n 1 (n := 23) hX (dec_of D_X10_moveGain (i := 12) rfl) rfl rfl rfl ?_
      refine s_iload_n 2 (n := 24) hX (dec_of D_X10_moveGain (i := 13) rfl) rfl rfl rfl ?_
      refine s_callVP (c := 10) (n := 27) hX cls10 (vk131 (by omega)) lk_RX10_412 (dec_of D_X10_moveGain (i := 14) rfl) rfl (by decide) (c_X10_roundOf (l := _) hG _ _ _) rfl rfl (Nat.le_of_ble_eq_true rfl) (fun q4 => ?_)
      refine s_aload_n 0 (n := 28) hX (dec_of D_X10_moveGain (i := 15) rfl) rfl rfl rfl ?_
      refine s_iload_n 1 (n := 29) hX (dec_of D_X10_moveGain (i := 16) rfl) rfl rfl rfl ?_
      refine s_aload_n 0 (n := 30) hX (dec_of D_X10_moveGain (i := 17) rfl) rfl rfl rfl ?_
      refine s_getR (c := 10) (p := 14) (k' := 34) (n := 33) hX cls10 (vk131 (by omega)) (dec_of D_X10_moveGain (i := 18) rfl) rfl rfl wd_1360 ?_
      refine s_sipush (v := 2672) (n := 36) hX (dec_of D_X10_moveGain (i := 19) rfl) rfl (by decide) ?_
      refine s_iload_n 1 (n := 37) hX (dec_of D_X10_moveGain (i := 20) rfl) rfl rfl rfl ?_
      refine s_iadd (n := 38) hX (dec_of D_X10_moveGain (i := 21) rfl) rfl ?_
      refine s_iald (n := 39) hX (vk34 (by omega)) (by decide) (dec_of D_X10_moveGain (i := 22) rfl) rfl (fun v5 => ?_)
      refine s_callVP (c := 10) (n := 42) hX cls10 (vk131 (by omega)) lk_RX10_412 (dec_of D_X10_moveGain (i := 23) rfl) rfl (by decide) (c_X10_roundOf (l := _) hG _ _ _) rfl rfl (Nat.le_of_ble_eq_true rfl) (fun q6 => ?_)
      refine s_isub (n := 43) hX (dec_of D_X10_moveGain (i := 24) rfl) rfl ?_
      refine s_goto (n := 49) hX (dec_of D_X10_moveGain (i := 25) rfl) rfl ?_
      exact s_iret hX hR (dec_of D_X10_moveGain (i := 27) rfl) rfl
def T_X10_bestHome : List (Nat × Instr × Nat) := [(0, .aload_n 0, 1), (1, .iconst 0, 1), (2, .putfield 86, 3), (5, .aload_n 0, 1), (6, .iload_n 1, 1), (7, .invokevirtual 264, 3), (10, .ifCond .eq 12, 3), (13, .iload_n 2, 1), (14, .ifCond .lt 8, 3), (17, .iload_n 2, 1), (18, .iconst 1, 1), (19, .if_icmp .le 5, 3), (22, .iconst (-1), 1), (23, .ireturn, 1), (24, .iconst 0, 1), (25, .istore_n 3, 1), (26, .iconst 1, 1), (27, .istore 4, 2), (29, .iload 4, 2), (31, .aload_n 0, 1), (32, .getfield 229, 3), (35, .if_icmp .ge 28, 3), (38, .aload_n 0, 1), (39, .iload_n 1, 1), (40, .iload 4, 2), (42, .invokevirtual 412, 3), (45, .aload_n 0, 1), (46, .iload_n 1, 1), (47, .iload_n 3, 1), (48, .invokevirtual 412, 3), (51, .if_icmp .le 6, 3), (54, .iload 4, 2), (56, .istore_n 3, 1), (57, .iinc 4 1, 3), (60, .goto (-31), 3), (63, .iload_n 2, 1), (64, .ifCond .ne 7, 3), (67, .iload_n 3, 1), (68, .goto 9, 3), (71, .aload_n 0, 1), (72, .iload_n 1, 1), (73, .iload_n 3, 1), (74, .invokevirtual 412, 3), (77, .ireturn, 1)]
theorem D_X10_bestHome : dchk cX10_bestHome T_X10_bestHome = true := by decide +kernel
def Mo_bestHome (σ : ST) (a1 : Int32) (a2 : Int32) : Option (Int32 × ST) :=
  lt_ (setF σ 840 0 0) (fun s1 => bd_ (Mo_isPlayer s1 a1) (fun q2 => (if q2 = 0 then some ((-1), s1) else (if a2 < 0 then some ((-1), s1) else (if a2 ≤ 1 then lp_ (fun rec4 (z3 : ST × Int32 × Int32) => (if (gF z3.1 850 0) ≤ z3.2.2 then (if a2 = 0 then some (z3.2.1, z3.1) else bd_ (Mo_roundOf z3.1 a1 z3.2.1) (fun q6 => some (q6.1, q6.2))) else bd_ (Mo_roundOf z3.1 a1 z3.2.2) (fun q7 => bd_ (Mo_roundOf q7.2 a1 z3.2.1) (fun q8 => (if q7.1 ≤ q8.1 then rec4 (q8.2, z3.2.1, (z3.2.2 + 1)) else rec4 (q8.2, z3.2.2, (z3.2.2 + 1))))))) FU (s1, 0, 1) else some ((-1), s1))))))
set_option maxHeartbeats 4000000 in
set_option maxRecDepth 100000 in
theorem c_X10_bestHome {G : GW} (hG : Good G) {l : Launch} (σ : ST) (a1 : Int32) (a2 : Int32) : Ctr G l yX10_bestHome cX10_bestHome 5 (some .int) 5 [.ref (ga G 131 0), .int a1, .int a2] σ oP (Mo_bestHome σ a1 a2) := by
  refine ctr_of hG (by decide) (Nat.le_of_ble_eq_true rfl) ?_
  intro X hXl hR hX
  have hX : Ok G X cX10_bestHome 5 RX10 5 := hX
  unfold Mo_bestHome
  show Sim G X 5 (MQX G X oP) σ 0 [(0, .ref (ga G 131 0)), (1, .int a1), (2, .int a2)] [] _
  refine s_aload_n 0 (n := 1) hX (dec_of D_X10_bestHome (i := 0) rfl) rfl rfl rfl ?_
  refine s_iconst (v := 0) (n := 2) hX (dec_of D_X10_bestHome (i := 1) rfl) rfl (by decide) ?_
  refine s_putI (c := 10) (p := 0) (n := 5) hX cls10 (vk131 (by omega)) (dec_of D_X10_bestHome (i := 2) rfl) rfl rfl (by decide) wd_1346 rfl rfl rfl (fun s1 => ?_)
  refine s_aload_n 0 (n := 6) hX (dec_of D_X10_bestHome (i := 3) rfl) rfl rfl rfl ?_
  refine s_iload_n 1 (n := 7) hX (dec_of D_X10_bestHome (i := 4) rfl) rfl rfl rfl ?_
  refine s_callVI (c := 10) (n := 10) hX cls10 (vk131 (by omega)) lk_RX10_264 (dec_of D_X10_bestHome (i := 5) rfl) rfl (by decide) (c_X10_isPlayer (l := _) hG _ _) rfl rfl (Nat.le_of_ble_eq_true rfl) (fun q2 => ?_)
  refine s_if_eq (tgt := 22) (n := 13) hX (dec_of D_X10_bestHome (i := 6) rfl) rfl rfl ?_ ?_
  · refine s_iconst (v := (-1)) (n := 23) hX (dec_of D_X10_bestHome (i := 12) rfl) rfl (by decide) ?_
    exact s_iret hX hR (dec_of D_X10_bestHome (i := 13) rfl) rfl
  · refine s_iload_n 2 (n := 14) hX (dec_of D_X10_bestHome (i := 7) rfl) rfl rfl rfl ?_
    refine s_if_lt (tgt := 22) (n := 17) hX (dec_of D_X10_bestHome (i := 8) rfl) rfl rfl ?_ ?_
    · refine s_iconst (v := (-1)) (n := 23) hX (dec_of D_X10_bestHome (i := 12) rfl) rfl (by decide) ?_
      exact s_iret hX hR (dec_of D_X10_bestHome (i := 13) rfl) rfl
    · refine s_iload_n 2 (n := 18) hX (dec_of D_X10_bestHome (i := 9) rfl) rfl rfl rfl ?_
      refine s_iconst (v := 1) (n := 19) hX (dec_of D_X10_bestHome (i := 10) rfl) rfl (by decide) ?_
      refine s_icmp_le (tgt := 24) (n := 22) hX (dec_of D_X10_bestHome (i := 11) rfl) rfl rfl ?_ ?_
      · refine s_iconst (v := 0) (n := 25) hX (dec_of D_X10_bestHome (i := 14) rfl) rfl (by decide) ?_
        refine s_istore_n (lv' := [(0, _), (1, _), (2, _), (3, _)]) [1, 2, 3, 0] (n := 26) hX (dec_of D_X10_bestHome (i := 15) rfl) rfl rfl (by decide) rfl ?_
        refine s_iconst (v := 1) (n := 27) hX (dec_of D_X10_bestHome (i := 16) rfl) rfl (by decide) ?_
        refine s_istore (lv' := [(0, _), (1, _), (2, _), (3, _), (4, _)]) [1, 2, 3, 4, 0] (n := 29) hX (dec_of D_X10_bestHome (i := 17) rfl) rfl (by decide) rfl ?_
        refine s_sub [0, 1, 2, 3, 4] rfl (s_lp (pc := 29) (Sf := fun (z3 : ST × Int32 × Int32) => z3.1) (lvf := fun (z3 : ST × Int32 × Int32) => [(0, .ref (ga G 131 0)), (1, .int a1), (2, .int a2), (3, .int z3.2.1), (4, .int z3.2.2)]) (fun rec4 hre5 z3 => ?_) FU (s1, 0, 1))
        refine s_iload 4 (n := 31) hX (dec_of D_X10_bestHome (i := 18) rfl) rfl rfl ?_
        refine s_aload_n 0 (n := 32) hX (dec_of D_X10_bestHome (i := 19) rfl) rfl rfl rfl ?_
        refine s_getI (c := 10) (p := 10) (id := 850) (n := 35) hX cls10 (vk131 (by omega)) (dec_of D_X10_bestHome (i := 20) rfl) rfl rfl wd_1356 ?_
        refine s_icmp_ge (tgt := 63) (n := 38) hX (dec_of D_X10_bestHome (i := 21) rfl) rfl rfl ?_ ?_
        · refine s_iload_n 2 (n := 64) hX (dec_of D_X10_bestHome (i := 35) rfl) rfl rfl rfl ?_
          refine s_if_ne (tgt := 71) (n := 67) hX (dec_of D_X10_bestHome (i := 36) rfl) rfl rfl ?_ ?_
          · refine s_aload_n 0 (n := 72) hX (dec_of D_X10_bestHome (i := 39) rfl) rfl rfl rfl ?_
            refine s_iload_n 1 (n := 73) hX (dec_of D_X10_bestHome (i := 40) rfl) rfl rfl rfl ?_
            refine s_iload_n 3 (n := 74) hX (dec_of D_X10_bestHome (i := 41) rfl) rfl rfl rfl ?_
            refine s_callVP (c := 10) (n := 77) hX cls10 (vk131 (by omega)) lk_RX10_412 (dec_of D_X10_bestHome (i := 42) rfl) rfl (by decide) (c_X10_roundOf (l := _) hG _ _ _) rfl rfl (Nat.le_of_ble_eq_true rfl) (fun q6 => ?_)
            exact s_iret hX hR (dec_of D_X10_bestHome (i := 43) rfl) rfl
          · refine s_iload_n 3 (n := 68) hX (dec_of D_X10_bestHome (i := 37) rfl) rfl rfl rfl ?_
            refine s_goto (n := 77) hX (dec_of D_X10_bestHome (i := 38) rfl) rfl ?_
            exact s_iret hX hR (dec_of D_X10_bestHome (i := 43) rfl) rfl
        · refine s_aload_n 0 (n := 39) hX (dec_of D_X10_bestHome (i := 22) rfl) rfl rfl rfl ?_
          refine s_iload_n 1 (n := 40) hX (dec_of D_X10_bestHome (i := 23) rfl) rfl rfl rfl ?_
          refine s_iload 4 (n := 42) hX (dec_of D_X10_bestHome (i := 24) rfl) rfl rfl ?_
          refine s_callVP (c := 10) (n := 45) hX cls10 (vk131 (by omega)) lk_RX10_412 (dec_of D_X10_bestHome (i := 25) rfl) rfl (by decide) (c_X10_roundOf (l := _) hG _ _ _) rfl rfl (Nat.le_of_ble_eq_true rfl) (fun q7 => ?_)
          refine s_aload_n 0 (n := 46) hX (dec_of D_X10_bestHome (i := 26) rfl) rfl rfl rfl ?_
          refine s_iload_n 1 (n := 47) hX (dec_of D_X10_bestHome (i := 27) rfl) rfl rfl rfl ?_
          refine s_iload_n 3 (n := 48) hX (dec_of D_X10_bestHome (i := 28) rfl) rfl rfl rfl ?_
          refine s_callVP (c := 10) (n := 51) hX cls10 (vk131 (by omega)) lk_RX10_412 (dec_of D_X10_bestHome (i := 29) rfl) rfl (by decide) (c_X10_roundOf (l := _) hG _ _ _) rfl rfl (Nat.le_of_ble_eq_true rfl) (fun q8 => ?_)
          refine s_icmp_le (tgt := 57) (n := 54) hX (dec_of D_X10_bestHome (i := 30) rfl) rfl rfl ?_ ?_
          · refine s_iinc (v := z3.2.2 + 1) (lv' := [(0, _), (1, _), (2, _), (3, _), (4, _)]) 4 [1, 2, 3, 4, 0] (n := 60) hX (dec_of D_X10_bestHome (i := 33) rfl) rfl rfl rfl (by decide) rfl ?_
            refine s_goto (n := 29) hX (dec_of D_X10_bestHome (i := 34) rfl) rfl ?_
            exact s_sub [0, 1, 2, 3, 4] rfl (hre5 (q8.2, z3.2.1, (z3.2.2 + 1)))
          · refine s_iload 4 (n := 56) hX (dec_of D_X10_bestHome (i := 31) rfl) rfl rfl ?_
            refine s_istore_n (lv' := [(0, _), (1, _), (2, _), (3, _), (4, _)]) [1, 2, 3, 0, 4] (n := 57) hX (dec_of D_X10_bestHome (i := 32) rfl) rfl rfl (by decide) rfl ?_
            refine s_iinc (v := z3.2.2 + 1) (lv' := [(0, _), (1, _), (2, _), (3, _), (4, _)]) 4 [1, 2, 3, 4, 0] (n := 60) hX (dec_of D_X10_bestHome (i := 33) rfl) rfl rfl rfl (by decide) rfl ?_
            refine s_goto (n := 29) hX (dec_of D_X10_bestHome (i := 34) rfl) rfl ?_
            exact s_sub [0, 1, 2, 3, 4] rfl (hre5 (q8.2, z3.2.2, (z3.2.2 + 1)))
      · refine s_iconst (v := (-1)) (n := 23) hX (dec_of D_X10_bestHome (i := 12) rfl) rfl (by decide) ?_
        exact s_iret hX hR (dec_of D_X10_bestHome (i := 13) rfl) rfl
def T_X10_answers : List (Nat × Instr × Nat) := [(0, .aload_n 0, 1), (1, .iconst 0, 1), (2, .putfield 86, 3), (5, .aload_n 0, 1), (6, .iload_n 1, 1), (7, .invokevirtual 257, 3), (10, .ifCond .ne 5, 3), (13, .iconst (-1), 1), (14, .ireturn, 1), (15, .iconst 0, 1), (16, .istore_n 2, 1), (17, .iconst 0, 1), (18, .istore_n 3, 1), (19, .iload_n 3, 1), (20, .aload_n 0, 1), (21, .getfield 229, 3), (24, .if_icmp .ge 33, 3), (27, .iload_n 2, 1), (28, .iload_n 3, 1), (29, .iload_n 1, 1), (30, .if_icmp .eq 18, 3), (33, .aload_n 0, 1), (34, .iload_n 1, 1), (35, .iload_n 3, 1), (36, .invokevirtual 299, 3), (39, .ifCond .eq 9, 3), (42, .iconst 1, 1), (43, .iload_n 3, 1), (44, .ishl, 1), (45, .goto 4, 3), (48, .iconst 0, 1), (49, .ior, 1), (50, .istore_n 2, 1), (51, .iinc 3 1, 3), (54, .goto (-35), 3), (57, .iload_n 2, 1), (58, .ireturn, 1)]
theorem D_X10_answers : dchk cX10_answers T_X10_answers = true := by decide +kernel
def Mo_answers (σ : ST) (a1 : Int32) : Option (Int32 × ST) :=
  lt_ (setF σ 840 0 0) (fun s1 => bd_ (Mo_isLand s1 a1) (fun q2 => (if q2 = 0 then some ((-1), s1) else lp_ (fun rec4 (z3 : Int32 × Int32) => (if (gF s1 850 0) ≤ z3.2 then some (z3.1, s1) else (if z3.2 = a1 then lt_ ((z3.1 ||| 0)) (fun x6 => rec4 (x6, (z3.2 + 1))) else bd_ (Mo_doAnswer s1 a1 z3.2) (fun q7 => (if q7 = 0 then lt_ ((z3.1 ||| 0)) (fun x8 => rec4 (x8, (z3.2 + 1))) else lt_ ((z3.1 ||| (1 <<< (z3.2 &&& 31)))) (fun x9 => rec4 (x9, (z3.2 + 1)))))))) FU (0, 0))))
set_option maxHeartbeats 4000000 in
set_option maxRecDepth 100000 in
theorem c_X10_answers {G : GW} (hG : Good G) {l : Launch} (σ : ST) (a1 : Int32) : Ctr G l yX10_answers cX10_answers 4 (some .int) 2 [.ref (ga G 131 0), .int a1] σ oP (Mo_answers σ a1) := by
  refine ctr_of hG (by decide) (Nat.le_of_ble_eq_true rfl) ?_
  intro X hXl hR hX
  have hX : Ok G X cX10_answers 4 RX10 2 := hX
  unfold Mo_answers
  show Sim G X 4 (MQX G X oP) σ 0 [(0, .ref (ga G 131 0)), (1, .int a1)] [] _
  refine s_aload_n 0 (n := 1) hX (dec_of D_X10_answers (i := 0) rfl) rfl rfl rfl ?_
  refine s_iconst (v := 0) (n := 2) hX (dec_of D_X10_answers (i := 1) rfl) rfl (by decide) ?_
  refine s_putI (c := 10) (p := 0) (n := 5) hX cls10 (vk131 (by omega)) (dec_of D_X10_answers (i := 2) rfl) rfl rfl (by decide) wd_1346 rfl rfl rfl (fun s1 => ?_)
  refine s_aload_n 0 (n := 6) hX (dec_of D_X10_answers (i := 3) rfl) rfl rfl rfl ?_
  refine s_iload_n 1 (n := 7) hX (dec_of D_X10_answers (i := 4) rfl) rfl rfl rfl ?_
  refine s_callVI (c := 10) (n := 10) hX cls10 (vk131 (by omega)) lk_RX10_257 (dec_of D_X10_answers (i := 5) rfl) rfl (by decide) (c_X10_isLand (l := _) hG _ _) rfl rfl (Nat.le_of_ble_eq_true rfl) (fun q2 => ?_)
  refine s_if_ne (tgt := 15) (n := 13) hX (dec_of D_X10_answers (i := 6) rfl) rfl rfl ?_ ?_
  · refine s_iconst (v := 0) (n := 16) hX (dec_of D_X10_answers (i := 9) rfl) rfl (by decide) ?_
    refine s_istore_n (lv' := [(0, _), (1, _), (2, _)]) [1, 2, 0] (n := 17) hX (dec_of D_X10_answers (i := 10) rfl) rfl rfl (by decide) rfl ?_
    refine s_iconst (v := 0) (n := 18) hX (dec_of D_X10_answers (i := 11) rfl) rfl (by decide) ?_
    refine s_istore_n (lv' := [(0, _), (1, _), (2, _), (3, _)]) [1, 2, 3, 0] (n := 19) hX (dec_of D_X10_answers (i := 12) rfl) rfl rfl (by decide) rfl ?_
    refine s_sub [0, 1, 2, 3] rfl (s_lp (pc := 19) (Sf := fun (z3 : Int32 × Int32) => s1) (lvf := fun (z3 : Int32 × Int32) => [(0, .ref (ga G 131 0)), (1, .int a1), (2, .int z3.1), (3, .int z3.2)]) (fun rec4 hre5 z3 => ?_) FU (0, 0))
    refine s_iload_n 3 (n := 20) hX (dec_of D_X10_answers (i := 13) rfl) rfl rfl rfl ?_
    refine s_aload_n 0 (n := 21) hX (dec_of D_X10_answers (i := 14) rfl) rfl rfl rfl ?_
    refine s_getI (c := 10) (p := 10) (id := 850) (n := 24) hX cls10 (vk131 (by omega)) (dec_of D_X10_answers (i := 15) rfl) rfl rfl wd_1356 ?_
    refine s_icmp_ge (tgt := 57) (n := 27) hX (dec_of D_X10_answers (i := 16) rfl) rfl rfl ?_ ?_
    · refine s_iload_n 2 (n := 58) hX (dec_of D_X10_answers (i := 35) rfl) rfl rfl rfl ?_
      exact s_iret hX hR (dec_of D_X10_answers (i := 36) rfl) rfl
    · refine s_iload_n 2 (n := 28) hX (dec_of D_X10_answers (i := 17) rfl) rfl rfl rfl ?_
      refine s_iload_n 3 (n := 29) hX (dec_of D_X10_answers (i := 18) rfl) rfl rfl rfl ?_
      refine s_iload_n 1 (n := 30) hX (dec_of D_X10_answers (i := 19) rfl) rfl rfl rfl ?_
      refine s_icmp_eq (tgt := 48) (n := 33) hX (dec_of D_X10_answers (i := 20) rfl) rfl rfl ?_ ?_
      · refine s_iconst (v := 0) (n := 49) hX (dec_of D_X10_answers (i := 30) rfl) rfl (by decide) ?_
        refine s_ior (n := 50) hX (dec_of D_X10_answers (i := 31) rfl) rfl ?_
        refine s_topi (fun x6 => ?_)
        refine s_istore_n (lv' := [(0, _), (1, _), (2, _), (3, _)]) [1, 2, 0, 3] (n := 51) hX (dec_of D_X10_answers (i := 32) rfl) rfl rfl (by decide) rfl ?_
        refine s_iinc (v := z3.2 + 1) (lv' := [(0, _), (1, _), (2, _), (3, _)]) 3 [1, 2, 3, 0] (n := 54) hX (dec_of D_X10_answers (i := 33) rfl) rfl rfl rfl (by decide) rfl ?_
        refine s_goto (n := 19) hX (dec_of D_X10_answers (i := 34) rfl) rfl ?_
        exact s_sub [0, 1, 2, 3] rfl (hre5 (x6, (z3.2 + 1)))
      · refine s_aload_n 0 (n := 34) hX (dec_of D_X10_answers (i := 21) rfl) rfl rfl rfl ?_
        refine s_iload_n 1 (n := 35) hX (dec_of D_X10_answers (i := 22) rfl) rfl rfl rfl ?_
        refine s_iload_n 3 (n := 36) hX (dec_of D_X10_answers (i := 23) rfl) rfl rfl rfl ?_
        refine s_callVI (c := 10) (n := 39) hX cls10 (vk131 (by omega)) lk_RX10_299 (dec_of D_X10_answers (i := 24) rfl) rfl (by decide) (c_X10_doAnswer (l := _) hG _ _ _) rfl rfl (Nat.le_of_ble_eq_true rfl) (fun q7 => ?_)
        refine s_if_eq (tgt := 48) (n := 42) hX (dec_of D_X10_answers (i := 25) rfl) rfl rfl ?_ ?_
        · refine s_iconst (v := 0) (n := 49) hX (dec_of D_X10_answers (i := 30) rfl) rfl (by decide) ?_
          refine s_ior (n := 50) hX (dec_of D_X10_answers (i := 31) rfl) rfl ?_
          refine s_topi (fun x8 => ?_)
          refine s_istore_n (lv' := [(0, _), (1, _), (2, _), (3, _)]) [1, 2, 0, 3] (n := 51) hX (dec_of D_X10_answers (i := 32) rfl) rfl rfl (by decide) rfl ?_
          refine s_iinc (v := z3.2 + 1) (lv' := [(0, _), (1, _), (2, _), (3, _)]) 3 [1, 2, 3, 0] (n := 54) hX (dec_of D_X10_answers (i := 33) rfl) rfl rfl rfl (by decide) rfl ?_
          refine s_goto (n := 19) hX (dec_of D_X10_answers (i := 34) rfl) rfl ?_
          exact s_sub [0, 1, 2, 3] rfl (hre5 (x8, (z3.2 + 1)))
        · refine s_iconst (v := 1) (n := 43) hX (dec_of D_X10_answers (i := 26) rfl) rfl (by decide) ?_
          refine s_iload_n 3 (n := 44) hX (dec_of D_X10_answers (i := 27) rfl) rfl rfl rfl ?_
          refine s_ishl (n := 45) hX (dec_of D_X10_answers (i := 28) rfl) rfl ?_
          refine s_goto (n := 49) hX (dec_of D_X10_answers (i := 29) rfl) rfl ?_
          refine s_ior (n := 50) hX (dec_of D_X10_answers (i := 31) rfl) rfl ?_
          refine s_topi (fun x9 => ?_)
          refine s_istore_n (lv' := [(0, _), (1, _), (2, _), (3, _)]) [1, 2, 0, 3] (n := 51) hX (dec_of D_X10_answers (i := 32) rfl) rfl rfl (by decide) rfl ?_
          refine s_iinc (v := z3.2 + 1) (lv' := [(0, _), (1, _), (2, _), (3, _)]) 3 [1, 2, 3, 0] (n := 54) hX (dec_of D_X10_answers (i := 33) rfl) rfl rfl rfl (by decide) rfl ?_
          refine s_goto (n := 19) hX (dec_of D_X10_answers (i := 34) rfl) rfl ?_
          exact s_sub [0, 1, 2, 3] rfl (hre5 (x9, (z3.2 + 1)))
  · refine s_iconst (v := (-1)) (n := 14) hX (dec_of D_X10_answers (i := 7) rfl) rfl (by decide) ?_
    exact s_iret hX hR (dec_of D_X10_answers (i := 8) rfl) rfl
def T_X10_poorest : List (Nat × Instr × Nat) := [(0, .aload_n 0, 1), (1, .iconst 0, 1), (2, .putfield 86, 3), (5, .aload_n 0, 1), (6, .iload_n 1, 1), (7, .invokevirtual 257, 3), (10, .ifCond .eq 12, 3), (13, .iload_n 2, 1), (14, .ifCond .lt 8, 3), (17, .iload_n 2, 1), (18, .iconst 1, 1), (19, .if_icmp .le 5, 3), (22, .iconst (-1), 1), (23, .ireturn, 1), (24, .bipush (-2), 2), (26, .istore_n 3, 1), (27, .iconst 0, 1), (28, .istore 4, 2), (30, .iload 4, 2), (32, .aload_n 0, 1), (33, .getfield 232, 3), (36, .if_icmp .ge 47, 3), (39, .aload_n 0, 1), (40, .getfield 28, 3), (43, .sipush 2672, 3), (46, .iload 4, 2), (48, .iadd, 1), (49, .iaload, 1), (50, .iload_n 1, 1), (51, .if_icmp .ne 26, 3), (54, .iload_n 3, 1), (55, .bipush (-2), 2), (57, .if_icmp .eq 17, 3), (60, .aload_n 0, 1), (61, .iload 4, 2), (63, .invokevirtual 267, 3), (66, .aload_n 0, 1), (67, .iload_n 3, 1), (68, .invokevirtual 267, 3), (71, .if_icmp .ge 6, 3), (74, .iload 4, 2), (76, .istore_n 3, 1), (77, .iinc 4 1, 3), (80, .goto (-50), 3), (83, .iload_n 3, 1), (84, .bipush (-2), 2), (86, .if_icmp .eq 7, 3), (89, .iload_n 2, 1), (90, .ifCond .ne 7, 3), (93, .iload_n 3, 1), (94, .goto 8, 3), (97, .aload_n 0, 1), (98, .iload_n 3, 1), (99, .invokevirtual 267, 3), (102, .ireturn, 1)]
theorem D_X10_poorest : dchk cX10_poorest T_X10_poorest = true := by decide +kernel
def Mo_poorest (σ : ST) (a1 : Int32) (a2 : Int32) : Option (Int32 × ST) :=
  lt_ (setF σ 840 0 0) (fun s1 => bd_ (Mo_isLand s1 a1) (fun q2 => (if q2 = 0 then some ((-1), s1) else (if a2 < 0 then some ((-1), s1) else (if a2 ≤ 1 then lp_ (fun rec4 (z3 : Int32 × Int32) => (if (gF s1 851 0) ≤ z3.2 then (if z3.1 = (-2) then some (z3.1, s1) else (if a2 = 0 then some (z3.1, s1) else bd_ (Mo_paidAll s1 z3.1) (fun q6 => some (q6, s1)))) else bd_ (ldI s1 34 0 (2672 + z3.2)) (fun v7 => (if v7 = a1 then (if z3.1 = (-2) then rec4 (z3.2, (z3.2 + 1)) else bd_ (Mo_paidAll s1 z3.2) (fun q8 => bd_ (Mo_paidAll s1 z3.1) (fun q9 => (if q9 ≤ q8 then rec4 (z3.1, (z3.2 + 1)) else rec4 (z3.2, (z3.2 + 1)))))) else rec4 (z3.1, (z3.2 + 1)))))) FU ((-2), 0) else some ((-1), s1))))))
set_option maxHeartbeats 4000000 in
set_option maxRecDepth 100000 in
theorem c_X10_poorest {G : GW} (hG : Good G) {l : Launch} (σ : ST) (a1 : Int32) (a2 : Int32) : Ctr G l yX10_poorest cX10_poorest 5 (some .int) 2 [.ref (ga G 131 0), .int a1, .int a2] σ oP (Mo_poorest σ a1 a2) := by
  refine ctr_of hG (by decide) (Nat.le_of_ble_eq_true rfl) ?_
  intro X hXl hR hX
  have hX : Ok G X cX10_poorest 5 RX10 2 := hX
  unfold Mo_poorest
  show Sim G X 5 (MQX G X oP) σ 0 [(0, .ref (ga G 131 0)), (1, .int a1), (2, .int a2)] [] _
  refine s_aload_n 0 (n := 1) hX (dec_of D_X10_poorest (i := 0) rfl) rfl rfl rfl ?_
  refine s_iconst (v := 0) (n := 2) hX (dec_of D_X10_poorest (i := 1) rfl) rfl (by decide) ?_
  refine s_putI (c := 10) (p := 0) (n := 5) hX cls10 (vk131 (by omega)) (dec_of D_X10_poorest (i := 2) rfl) rfl rfl (by decide) wd_1346 rfl rfl rfl (fun s1 => ?_)
  refine s_aload_n 0 (n := 6) hX (dec_of D_X10_poorest (i := 3) rfl) rfl rfl rfl ?_
  refine s_iload_n 1 (n := 7) hX (dec_of D_X10_poorest (i := 4) rfl) rfl rfl rfl ?_
  refine s_callVI (c := 10) (n := 10) hX cls10 (vk131 (by omega)) lk_RX10_257 (dec_of D_X10_poorest (i := 5) rfl) rfl (by decide) (c_X10_isLand (l := _) hG _ _) rfl rfl (Nat.le_of_ble_eq_true rfl) (fun q2 => ?_)
  refine s_if_eq (tgt := 22) (n := 13) hX (dec_of D_X10_poorest (i := 6) rfl) rfl rfl ?_ ?_
  · refine s_iconst (v := (-1)) (n := 23) hX (dec_of D_X10_poorest (i := 12) rfl) rfl (by decide) ?_
    exact s_iret hX hR (dec_of D_X10_poorest (i := 13) rfl) rfl
  · refine s_iload_n 2 (n := 14) hX (dec_of D_X10_poorest (i := 7) rfl) rfl rfl rfl ?_
    refine s_if_lt (tgt := 22) (n := 17) hX (dec_of D_X10_poorest (i := 8) rfl) rfl rfl ?_ ?_
    · refine s_iconst (v := (-1)) (n := 23) hX (dec_of D_X10_poorest (i := 12) rfl) rfl (by decide) ?_
      exact s_iret hX hR (dec_of D_X10_poorest (i := 13) rfl) rfl
    · refine s_iload_n 2 (n := 18) hX (dec_of D_X10_poorest (i := 9) rfl) rfl rfl rfl ?_
      refine s_iconst (v := 1) (n := 19) hX (dec_of D_X10_poorest (i := 10) rfl) rfl (by decide) ?_
      refine s_icmp_le (tgt := 24) (n := 22) hX (dec_of D_X10_poorest (i := 11) rfl) rfl rfl ?_ ?_
      · refine s_bipush (v := (-2)) (n := 26) hX (dec_of D_X10_poorest (i := 14) rfl) rfl (by decide) ?_
        refine s_istore_n (lv' := [(0, _), (1, _), (2, _), (3, _)]) [1, 2, 3, 0] (n := 27) hX (dec_of D_X10_poorest (i := 15) rfl) rfl rfl (by decide) rfl ?_
        refine s_iconst (v := 0) (n := 28) hX (dec_of D_X10_poorest (i := 16) rfl) rfl (by decide) ?_
        refine s_istore (lv' := [(0, _), (1, _), (2, _), (3, _), (4, _)]) [1, 2, 3, 4, 0] (n := 30) hX (dec_of D_X10_poorest (i := 17) rfl) rfl (by decide) rfl ?_
        refine s_sub [0, 1, 2, 3, 4] rfl (s_lp (pc := 30) (Sf := fun (z3 : Int32 × Int32) => s1) (lvf := fun (z3 : Int32 × Int32) => [(0, .ref (ga G 131 0)), (1, .int a1), (2, .int a2), (3, .int z3.1), (4, .int z3.2)]) (fun rec4 hre5 z3 => ?_) FU ((-2), 0))
        refine s_iload 4 (n := 32) hX (dec_of D_X10_poorest (i := 18) rfl) rfl rfl ?_
        refine s_aload_n 0 (n := 33) hX (dec_of D_X10_poorest (i := 19) rfl) rfl rfl rfl ?_
        refine s_getI (c := 10) (p := 11) (id := 851) (n := 36) hX cls10 (vk131 (by omega)) (dec_of D_X10_poorest (i := 20) rfl) rfl rfl wd_1357 ?_
        refine s_icmp_ge (tgt := 83) (n := 39) hX (dec_of D_X10_poorest (i := 21) rfl) rfl rfl ?_ ?_
        · refine s_iload_n 3 (n := 84) hX (dec_of D_X10_poorest (i := 44) rfl) rfl rfl rfl ?_
          refine s_bipush (v := (-2)) (n := 86) hX (dec_of D_X10_poorest (i := 45) rfl) rfl (by decide) ?_
          refine s_icmp_eq (tgt := 93) (n := 89) hX (dec_of D_X10_poorest (i := 46) rfl) rfl rfl ?_ ?_
          · refine s_iload_n 3 (n := 94) hX (dec_of D_X10_poorest (i := 49) rfl) rfl rfl rfl ?_
            refine s_goto (n := 102) hX (dec_of D_X10_poorest (i := 50) rfl) rfl ?_
            exact s_iret hX hR (dec_of D_X10_poorest (i := 54) rfl) rfl
          · refine s_iload_n 2 (n := 90) hX (dec_of D_X10_poorest (i := 47) rfl) rfl rfl rfl ?_
            refine s_if_ne (tgt := 97) (n := 93) hX (dec_of D_X10_poorest (i := 48) rfl) rfl rfl ?_ ?_
            · refine s_aload_n 0 (n := 98) hX (dec_of D_X10_poorest (i := 51) rfl) rfl rfl rfl ?_
              refine s_iload_n 3 (n := 99) hX (dec_of D_X10_poorest (i := 52) rfl) rfl rfl rfl ?_
              refine s_callVI (c := 10) (n := 102) hX cls10 (vk131 (by omega)) lk_RX10_267 (dec_of D_X10_poorest (i := 53) rfl) rfl (by decide) (c_X10_paidAll (l := _) hG _ _) rfl rfl (Nat.le_of_ble_eq_true rfl) (fun q6 => ?_)
              exact s_iret hX hR (dec_of D_X10_poorest (i := 54) rfl) rfl
            · refine s_iload_n 3 (n := 94) hX (dec_of D_X10_poorest (i := 49) rfl) rfl rfl rfl ?_
              refine s_goto (n := 102) hX (dec_of D_X10_poorest (i := 50) rfl) rfl ?_
              exact s_iret hX hR (dec_of D_X10_poorest (i := 54) rfl) rfl
        · refine s_aload_n 0 (n := 40) hX (dec_of D_X10_poorest (i := 22) rfl) rfl rfl rfl ?_
          refine s_getR (c := 10) (p := 14) (k' := 34) (n := 43) hX cls10 (vk131 (by omega)) (dec_of D_X10_poorest (i := 23) rfl) rfl rfl wd_1360 ?_
          refine s_sipush (v := 2672) (n := 46) hX (dec_of D_X10_poorest (i := 24) rfl) rfl (by decide) ?_
          refine s_iload 4 (n := 48) hX (dec_of D_X10_poorest (i := 25) rfl) rfl rfl ?_
          refine s_iadd (n := 49) hX (dec_of D_X10_poorest (i := 26) rfl) rfl ?_
          refine s_iald (n := 50) hX (vk34 (by omega)) (by decide) (dec_of D_X10_poorest (i := 27) rfl) rfl (fun v7 => ?_)
          refine s_iload_n 1 (n := 51) hX (dec_of D_X10_poorest (i := 28) rfl) rfl rfl rfl ?_
          refine s_icmp_ne (tgt := 77) (n := 54) hX (dec_of D_X10_poorest (i := 29) rfl) rfl rfl ?_ ?_
          · refine s_iinc (v := z3.2 + 1) (lv' := [(0, _), (1, _), (2, _), (3, _), (4, _)]) 4 [1, 2, 3, 4, 0] (n := 80) hX (dec_of D_X10_poorest (i := 42) rfl) rfl rfl rfl (by decide) rfl ?_
            refine s_goto (n := 30) hX (dec_of D_X10_poorest (i := 43) rfl) rfl ?_
            exact s_sub [0, 1, 2, 3, 4] rfl (hre5 (z3.1, (z3.2 + 1)))
          · refine s_iload_n 3 (n := 55) hX (dec_of D_X10_poorest (i := 30) rfl) rfl rfl rfl ?_
            refine s_bipush (v := (-2)) (n := 57) hX (dec_of D_X10_poorest (i := 31) rfl) rfl (by decide) ?_
            refine s_icmp_eq (tgt := 74) (n := 60) hX (dec_of D_X10_poorest (i := 32) rfl) rfl rfl ?_ ?_
            · refine s_iload 4 (n := 76) hX (dec_of D_X10_poorest (i := 40) rfl) rfl rfl ?_
              refine s_istore_n (lv' := [(0, _), (1, _), (2, _), (3, _), (4, _)]) [1, 2, 3, 0, 4] (n := 77) hX (dec_of D_X10_poorest (i := 41) rfl) rfl rfl (by decide) rfl ?_
              refine s_iinc (v := z3.2 + 1) (lv' := [(0, _), (1, _), (2, _), (3, _), (4, _)]) 4 [1, 2, 3, 4, 0] (n := 80) hX (dec_of D_X10_poorest (i := 42) rfl) rfl rfl rfl (by decide) rfl ?_
              refine s_goto (n := 30) hX (dec_of D_X10_poorest (i := 43) rfl) rfl ?_
              exact s_sub [0, 1, 2, 3, 4] rfl (hre5 (z3.2, (z3.2 + 1)))
            · refine s_aload_n 0 (n := 61) hX (dec_of D_X10_poorest (i := 33) rfl) rfl rfl rfl ?_
              refine s_iload 4 (n := 63) hX (dec_of D_X10_poorest (i := 34) rfl) rfl rfl ?_
              refine s_callVI (c := 10) (n := 66) hX cls10 (vk131 (by omega)) lk_RX10_267 (dec_of D_X10_poorest (i := 35) rfl) rfl (by decide) (c_X10_paidAll (l := _) hG _ _) rfl rfl (Nat.le_of_ble_eq_true rfl) (fun q8 => ?_)
              refine s_aload_n 0 (n := 67) hX (dec_of D_X10_poorest (i := 36) rfl) rfl rfl rfl ?_
              refine s_iload_n 3 (n := 68) hX (dec_of D_X10_poorest (i := 37) rfl) rfl rfl rfl ?_
              refine s_callVI (c := 10) (n := 71) hX cls10 (vk131 (by omega)) lk_RX10_267 (dec_of D_X10_poorest (i := 38) rfl) rfl (by decide) (c_X10_paidAll (l := _) hG _ _) rfl rfl (Nat.le_of_ble_eq_true rfl) (fun q9 => ?_)
              refine s_icmp_ge (tgt := 77) (n := 74) hX (dec_of D_X10_poorest (i := 39) rfl) rfl rfl ?_ ?_
              · refine s_iinc (v := z3.2 + 1) (lv' := [(0, _), (1, _), (2, _), (3, _), (4, _)]) 4 [1, 2, 3, 4, 0] (n := 80) hX (dec_of D_X10_poorest (i := 42) rfl) rfl rfl rfl (by decide) rfl ?_
                refine s_goto (n := 30) hX (dec_of D_X10_poorest (i := 43) rfl) rfl ?_
                exact s_sub [0, 1, 2, 3, 4] rfl (hre5 (z3.1, (z3.2 + 1)))
              · refine s_iload 4 (n := 76) hX (dec_of D_X10_poorest (i := 40) rfl) rfl rfl ?_
                refine s_istore_n (lv' := [(0, _), (1, _), (2, _), (3, _), (4, _)]) [1, 2, 3, 0, 4] (n := 77) hX (dec_of D_X10_poorest (i := 41) rfl) rfl rfl (by decide) rfl ?_
                refine s_iinc (v := z3.2 + 1) (lv' := [(0, _), (1, _), (2, _), (3, _), (4, _)]) 4 [1, 2, 3, 4, 0] (n := 80) hX (dec_of D_X10_poorest (i := 42) rfl) rfl rfl rfl (by decide) rfl ?_
                refine s_goto (n := 30) hX (dec_of D_X10_poorest (i := 43) rfl) rfl ?_
                exact s_sub [0, 1, 2, 3, 4] rfl (hre5 (z3.2, (z3.2 + 1)))
      · refine s_iconst (v := (-1)) (n := 23) hX (dec_of D_X10_poorest (i := 12) rfl) rfl (by decide) ?_
        exact s_iret hX hR (dec_of D_X10_poorest (i := 13) rfl) rfl

def T_X10_openSeats : List (Nat × Instr × Nat) := [(0, .aload_n 0, 1), (1, .iconst 0, 1), (2, .putfield 86, 3), (5, .aload_n 0, 1), (6, .iload_n 1, 1), (7, .invokevirtual 241, 3), (10, .ifCond .ne 5, 3), (13, .iconst (-1), 1), (14, .ireturn, 1), (15, .iconst 0, 1), (16, .istore_n 2, 1), (17, .iconst 0, 1), (18, .istore_n 3, 1), (19, .iload_n 3, 1), (20, .aload_n 0, 1), (21, .getfield 25, 3), (24, .iload_n 1, 1), (25, .iaload, 1), (26, .if_icmp .ge 29, 3), (29, .iload_n 2, 1), (30, .aload_n 0, 1), (31, .iload_n 1, 1), (32, .iload_n 3, 1), (33, .invokevirtual 254, 3), (36, .iconst (-1), 1), (37, .if_icmp .ne 9, 3), (40, .iconst 1, 1), (41, .iload_n 3, 1), (42, .ishl, 1), (43, .goto 4, 3), (46, .iconst 0, 1), (47, .ior, 1), (48, .istore_n 2, 1), (49, .iinc 3 1, 3), (52, .goto (-33), 3), (55, .iload_n 2, 1), (56, .ireturn, 1)]
theorem D_X10_openSeats : dchk cX10_openSeats T_X10_openSeats = true := by decide +kernel
def Mo_openSeats (σ : ST) (a1 : Int32) : Option (Int32 × ST) :=
  lt_ (setF σ 840 0 0) (fun s1 => bd_ (Mo_isSession s1 a1) (fun q2 => (if q2 = 0 then some ((-1), s1) else lp_ (fun rec4 (z3 : Int32 × Int32) => bd_ (ldI s1 33 0 a1) (fun v6 => (if v6 ≤ z3.2 then some (z3.1, s1) else bd_ (Mo_owner s1 a1 z3.2) (fun q7 => (if q7 = (-1) then lt_ ((z3.1 ||| (1 <<< (z3.2 &&& 31)))) (fun x9 => rec4 (x9, (z3.2 + 1))) else lt_ ((z3.1 ||| 0)) (fun x8 => rec4 (x8, (z3.2 + 1)))))))) FU (0, 0))))
set_option maxHeartbeats 4000000 in
set_option maxRecDepth 100000 in
theorem c_X10_openSeats {G : GW} (hG : Good G) {l : Launch} (σ : ST) (a1 : Int32) : Ctr G l yX10_openSeats cX10_openSeats 4 (some .int) 1 [.ref (ga G 131 0), .int a1] σ oP (Mo_openSeats σ a1) := by
  refine ctr_of hG (by decide) (Nat.le_of_ble_eq_true rfl) ?_
  intro X hXl hR hX
  have hX : Ok G X cX10_openSeats 4 RX10 1 := hX
  unfold Mo_openSeats
  show Sim G X 4 (MQX G X oP) σ 0 [(0, .ref (ga G 131 0)), (1, .int a1)] [] _
  refine s_aload_n 0 (n := 1) hX (dec_of D_X10_openSeats (i := 0) rfl) rfl rfl rfl ?_
  refine s_iconst (v := 0) (n := 2) hX (dec_of D_X10_openSeats (i := 1) rfl) rfl (by decide) ?_
  refine s_putI (c := 10) (p := 0) (n := 5) hX cls10 (vk131 (by omega)) (dec_of D_X10_openSeats (i := 2) rfl) rfl rfl (by decide) wd_1346 rfl rfl rfl (fun s1 => ?_)
  refine s_aload_n 0 (n := 6) hX (dec_of D_X10_openSeats (i := 3) rfl) rfl rfl rfl ?_
  refine s_iload_n 1 (n := 7) hX (dec_of D_X10_openSeats (i := 4) rfl) rfl rfl rfl ?_
  refine s_callVI (c := 10) (n := 10) hX cls10 (vk131 (by omega)) lk_RX10_241 (dec_of D_X10_openSeats (i := 5) rfl) rfl (by decide) (c_X10_isSession (l := _) hG _ _) rfl rfl (Nat.le_of_ble_eq_true rfl) (fun q2 => ?_)
  refine s_if_ne (tgt := 15) (n := 13) hX (dec_of D_X10_openSeats (i := 6) rfl) rfl rfl ?_ ?_
  · refine s_iconst (v := 0) (n := 16) hX (dec_of D_X10_openSeats (i := 9) rfl) rfl (by decide) ?_
    refine s_istore_n (lv' := [(0, _), (1, _), (2, _)]) [1, 2, 0] (n := 17) hX (dec_of D_X10_openSeats (i := 10) rfl) rfl rfl (by decide) rfl ?_
    refine s_iconst (v := 0) (n := 18) hX (dec_of D_X10_openSeats (i := 11) rfl) rfl (by decide) ?_
    refine s_istore_n (lv' := [(0, _), (1, _), (2, _), (3, _)]) [1, 2, 3, 0] (n := 19) hX (dec_of D_X10_openSeats (i := 12) rfl) rfl rfl (by decide) rfl ?_
    refine s_sub [0, 1, 2, 3] rfl (s_lp (pc := 19) (Sf := fun (z3 : Int32 × Int32) => s1) (lvf := fun (z3 : Int32 × Int32) => [(0, .ref (ga G 131 0)), (1, .int a1), (2, .int z3.1), (3, .int z3.2)]) (fun rec4 hre5 z3 => ?_) FU (0, 0))
    refine s_iload_n 3 (n := 20) hX (dec_of D_X10_openSeats (i := 13) rfl) rfl rfl rfl ?_
    refine s_aload_n 0 (n := 21) hX (dec_of D_X10_openSeats (i := 14) rfl) rfl rfl rfl ?_
    refine s_getR (c := 10) (p := 7) (k' := 33) (n := 24) hX cls10 (vk131 (by omega)) (dec_of D_X10_openSeats (i := 15) rfl) rfl rfl wd_1353 ?_
    refine s_iload_n 1 (n := 25) hX (dec_of D_X10_openSeats (i := 16) rfl) rfl rfl rfl ?_
    refine s_iald (n := 26) hX (vk33 (by omega)) (by decide) (dec_of D_X10_openSeats (i := 17) rfl) rfl (fun v6 => ?_)
    refine s_icmp_ge (tgt := 55) (n := 29) hX (dec_of D_X10_openSeats (i := 18) rfl) rfl rfl ?_ ?_
    · refine s_iload_n 2 (n := 56) hX (dec_of D_X10_openSeats (i := 35) rfl) rfl rfl rfl ?_
      exact s_iret hX hR (dec_of D_X10_openSeats (i := 36) rfl) rfl
    · refine s_iload_n 2 (n := 30) hX (dec_of D_X10_openSeats (i := 19) rfl) rfl rfl rfl ?_
      refine s_aload_n 0 (n := 31) hX (dec_of D_X10_openSeats (i := 20) rfl) rfl rfl rfl ?_
      refine s_iload_n 1 (n := 32) hX (dec_of D_X10_openSeats (i := 21) rfl) rfl rfl rfl ?_
      refine s_iload_n 3 (n := 33) hX (dec_of D_X10_openSeats (i := 22) rfl) rfl rfl rfl ?_
      refine s_callVI (c := 10) (n := 36) hX cls10 (vk131 (by omega)) lk_RX10_254 (dec_of D_X10_openSeats (i := 23) rfl) rfl (by decide) (c_X10_owner (l := _) hG _ _ _) rfl rfl (Nat.le_of_ble_eq_true rfl) (fun q7 => ?_)
      refine s_iconst (v := (-1)) (n := 37) hX (dec_of D_X10_openSeats (i := 24) rfl) rfl (by decide) ?_
      refine s_icmp_ne (tgt := 46) (n := 40) hX (dec_of D_X10_openSeats (i := 25) rfl) rfl rfl ?_ ?_
      · refine s_iconst (v := 0) (n := 47) hX (dec_of D_X10_openSeats (i := 30) rfl) rfl (by decide) ?_
        refine s_ior (n := 48) hX (dec_of D_X10_openSeats (i := 31) rfl) rfl ?_
        refine s_topi (fun x8 => ?_)
        refine s_istore_n (lv' := [(0, _), (1, _), (2, _), (3, _)]) [1, 2, 0, 3] (n := 49) hX (dec_of D_X10_openSeats (i := 32) rfl) rfl rfl (by decide) rfl ?_
        refine s_iinc (v := z3.2 + 1) (lv' := [(0, _), (1, _), (2, _), (3, _)]) 3 [1, 2, 3, 0] (n := 52) hX (dec_of D_X10_openSeats (i := 33) rfl) rfl rfl rfl (by decide) rfl ?_
        refine s_goto (n := 19) hX (dec_of D_X10_openSeats (i := 34) rfl) rfl ?_
        exact s_sub [0, 1, 2, 3] rfl (hre5 (x8, (z3.2 + 1)))
      · refine s_iconst (v := 1) (n := 41) hX (dec_of D_X10_openSeats (i := 26) rfl) rfl (by decide) ?_
        refine s_iload_n 3 (n := 42) hX (dec_of D_X10_openSeats (i := 27) rfl) rfl rfl rfl ?_
        refine s_ishl (n := 43) hX (dec_of D_X10_openSeats (i := 28) rfl) rfl ?_
        refine s_goto (n := 47) hX (dec_of D_X10_openSeats (i := 29) rfl) rfl ?_
        refine s_ior (n := 48) hX (dec_of D_X10_openSeats (i := 31) rfl) rfl ?_
        refine s_topi (fun x9 => ?_)
        refine s_istore_n (lv' := [(0, _), (1, _), (2, _), (3, _)]) [1, 2, 0, 3] (n := 49) hX (dec_of D_X10_openSeats (i := 32) rfl) rfl rfl (by decide) rfl ?_
        refine s_iinc (v := z3.2 + 1) (lv' := [(0, _), (1, _), (2, _), (3, _)]) 3 [1, 2, 3, 0] (n := 52) hX (dec_of D_X10_openSeats (i := 33) rfl) rfl rfl rfl (by decide) rfl ?_
        refine s_goto (n := 19) hX (dec_of D_X10_openSeats (i := 34) rfl) rfl ?_
        exact s_sub [0, 1, 2, 3] rfl (hre5 (x9, (z3.2 + 1)))
  · refine s_iconst (v := (-1)) (n := 14) hX (dec_of D_X10_openSeats (i := 7) rfl) rfl (by decide) ?_
    exact s_iret hX hR (dec_of D_X10_openSeats (i := 8) rfl) rfl
def T_X10_late : List (Nat × Instr × Nat) := [(0, .aload_n 0, 1), (1, .iconst 0, 1), (2, .putfield 86, 3), (5, .aload_n 0, 1), (6, .iload_n 1, 1), (7, .invokevirtual 241, 3), (10, .ifCond .ne 5, 3), (13, .iconst (-1), 1), (14, .ireturn, 1), (15, .aload_n 0, 1), (16, .iload_n 1, 1), (17, .invokevirtual 347, 3), (20, .istore_n 2, 1), (21, .iload_n 2, 1), (22, .iconst (-1), 1), (23, .if_icmp .ne 6, 3), (26, .bipush (-3), 2), (28, .ireturn, 1), (29, .iconst 0, 1), (30, .istore_n 3, 1), (31, .iconst 0, 1), (32, .istore 4, 2), (34, .iload 4, 2), (36, .aload_n 0, 1), (37, .getfield 229, 3), (40, .if_icmp .ge 24, 3), (43, .iload_n 3, 1), (44, .aload_n 0, 1), (45, .getfield 28, 3), (48, .iload 4, 2), (50, .iload_n 1, 1), (51, .iload_n 2, 1), (52, .invokestatic 344, 3), (55, .iaload, 1), (56, .iadd, 1), (57, .istore_n 3, 1), (58, .iinc 4 1, 3), (61, .goto (-27), 3), (64, .iload_n 3, 1), (65, .ireturn, 1)]
theorem D_X10_late : dchk cX10_late T_X10_late = true := by decide +kernel
def Mo_late (σ : ST) (a1 : Int32) : Option (Int32 × ST) :=
  lt_ (setF σ 840 0 0) (fun s1 => bd_ (Mo_isSession s1 a1) (fun q2 => (if q2 = 0 then some ((-1), s1) else bd_ (Mo_openSeat s1 a1) (fun q3 => (if q3 = (-1) then some ((-3), s1) else lp_ (fun rec5 (z4 : Int32 × Int32) => (if (gF s1 850 0) ≤ z4.2 then some (z4.1, s1) else bd_ (Mo_lapsedAt s1 z4.2 a1 q3) (fun q7 => bd_ (ldI s1 34 0 q7) (fun v8 => lt_ ((z4.1 + v8)) (fun x9 => rec5 (x9, (z4.2 + 1))))))) FU (0, 0))))))
set_option maxHeartbeats 4000000 in
set_option maxRecDepth 100000 in
theorem c_X10_late {G : GW} (hG : Good G) {l : Launch} (σ : ST) (a1 : Int32) : Ctr G l yX10_late cX10_late 5 (some .int) 2 [.ref (ga G 131 0), .int a1] σ oP (Mo_late σ a1) := by
  refine ctr_of hG (by decide) (Nat.le_of_ble_eq_true rfl) ?_
  intro X hXl hR hX
  have hX : Ok G X cX10_late 5 RX10 2 := hX
  unfold Mo_late
  show Sim G X 5 (MQX G X oP) σ 0 [(0, .ref (ga G 131 0)), (1, .int a1)] [] _
  refine s_aload_n 0 (n := 1) hX (dec_of D_X10_late (i := 0) rfl) rfl rfl rfl ?_
  refine s_iconst (v := 0) (n := 2) hX (dec_of D_X10_late (i := 1) rfl) rfl (by decide) ?_
  refine s_putI (c := 10) (p := 0) (n := 5) hX cls10 (vk131 (by omega)) (dec_of D_X10_late (i := 2) rfl) rfl rfl (by decide) wd_1346 rfl rfl rfl (fun s1 => ?_)
  refine s_aload_n 0 (n := 6) hX (dec_of D_X10_late (i := 3) rfl) rfl rfl rfl ?_
  refine s_iload_n 1 (n := 7) hX (dec_of D_X10_late (i := 4) rfl) rfl rfl rfl ?_
  refine s_callVI (c := 10) (n := 10) hX cls10 (vk131 (by omega)) lk_RX10_241 (dec_of D_X10_late (i := 5) rfl) rfl (by decide) (c_X10_isSession (l := _) hG _ _) rfl rfl (Nat.le_of_ble_eq_true rfl) (fun q2 => ?_)
  refine s_if_ne (tgt := 15) (n := 13) hX (dec_of D_X10_late (i := 6) rfl) rfl rfl ?_ ?_
  · refine s_aload_n 0 (n := 16) hX (dec_of D_X10_late (i := 9) rfl) rfl rfl rfl ?_
    refine s_iload_n 1 (n := 17) hX (dec_of D_X10_late (i := 10) rfl) rfl rfl rfl ?_
    refine s_callVI (c := 10) (n := 20) hX cls10 (vk131 (by omega)) lk_RX10_347 (dec_of D_X10_late (i := 11) rfl) rfl (by decide) (c_X10_openSeat (l := _) hG _ _) rfl rfl (Nat.le_of_ble_eq_true rfl) (fun q3 => ?_)
    refine s_istore_n (lv' := [(0, _), (1, _), (2, _)]) [1, 2, 0] (n := 21) hX (dec_of D_X10_late (i := 12) rfl) rfl rfl (by decide) rfl ?_
    refine s_iload_n 2 (n := 22) hX (dec_of D_X10_late (i := 13) rfl) rfl rfl rfl ?_
    refine s_iconst (v := (-1)) (n := 23) hX (dec_of D_X10_late (i := 14) rfl) rfl (by decide) ?_
    refine s_icmp_ne (tgt := 29) (n := 26) hX (dec_of D_X10_late (i := 15) rfl) rfl rfl ?_ ?_
    · refine s_iconst (v := 0) (n := 30) hX (dec_of D_X10_late (i := 18) rfl) rfl (by decide) ?_
      refine s_istore_n (lv' := [(0, _), (1, _), (2, _), (3, _)]) [1, 2, 3, 0] (n := 31) hX (dec_of D_X10_late (i := 19) rfl) rfl rfl (by decide) rfl ?_
      refine s_iconst (v := 0) (n := 32) hX (dec_of D_X10_late (i := 20) rfl) rfl (by decide) ?_
      refine s_istore (lv' := [(0, _), (1, _), (2, _), (3, _), (4, _)]) [1, 2, 3, 4, 0] (n := 34) hX (dec_of D_X10_late (i := 21) rfl) rfl (by decide) rfl ?_
      refine s_sub [0, 1, 2, 3, 4] rfl (s_lp (pc := 34) (Sf := fun (z4 : Int32 × Int32) => s1) (lvf := fun (z4 : Int32 × Int32) => [(0, .ref (ga G 131 0)), (1, .int a1), (2, .int q3), (3, .int z4.1), (4, .int z4.2)]) (fun rec5 hre6 z4 => ?_) FU (0, 0))
      refine s_iload 4 (n := 36) hX (dec_of D_X10_late (i := 22) rfl) rfl rfl ?_
      refine s_aload_n 0 (n := 37) hX (dec_of D_X10_late (i := 23) rfl) rfl rfl rfl ?_
      refine s_getI (c := 10) (p := 10) (id := 850) (n := 40) hX cls10 (vk131 (by omega)) (dec_of D_X10_late (i := 24) rfl) rfl rfl wd_1356 ?_
      refine s_icmp_ge (tgt := 64) (n := 43) hX (dec_of D_X10_late (i := 25) rfl) rfl rfl ?_ ?_
      · refine s_iload_n 3 (n := 65) hX (dec_of D_X10_late (i := 38) rfl) rfl rfl rfl ?_
        exact s_iret hX hR (dec_of D_X10_late (i := 39) rfl) rfl
      · refine s_iload_n 3 (n := 44) hX (dec_of D_X10_late (i := 26) rfl) rfl rfl rfl ?_
        refine s_aload_n 0 (n := 45) hX (dec_of D_X10_late (i := 27) rfl) rfl rfl rfl ?_
        refine s_getR (c := 10) (p := 14) (k' := 34) (n := 48) hX cls10 (vk131 (by omega)) (dec_of D_X10_late (i := 28) rfl) rfl rfl wd_1360 ?_
        refine s_iload 4 (n := 50) hX (dec_of D_X10_late (i := 29) rfl) rfl rfl ?_
        refine s_iload_n 1 (n := 51) hX (dec_of D_X10_late (i := 30) rfl) rfl rfl rfl ?_
        refine s_iload_n 2 (n := 52) hX (dec_of D_X10_late (i := 31) rfl) rfl rfl rfl ?_
        refine s_callSI (n := 55) hX lk_RX10_344 (dec_of D_X10_late (i := 32) rfl) rfl (by decide) (c_X10_lapsedAt (l := _) hG _ _ _ _) rfl rfl (Nat.le_of_ble_eq_true rfl) (fun q7 => ?_)
        refine s_iald (n := 56) hX (vk34 (by omega)) (by decide) (dec_of D_X10_late (i := 33) rfl) rfl (fun v8 => ?_)
        refine s_iadd (n := 57) hX (dec_of D_X10_late (i := 34) rfl) rfl ?_
        refine s_topi (fun x9 => ?_)
        refine s_istore_n (lv' := [(0, _), (1, _), (2, _), (3, _), (4, _)]) [1, 2, 3, 0, 4] (n := 58) hX (dec_of D_X10_late (i := 35) rfl) rfl rfl (by decide) rfl ?_
        refine s_iinc (v := z4.2 + 1) (lv' := [(0, _), (1, _), (2, _), (3, _), (4, _)]) 4 [1, 2, 3, 4, 0] (n := 61) hX (dec_of D_X10_late (i := 36) rfl) rfl rfl rfl (by decide) rfl ?_
        refine s_goto (n := 34) hX (dec_of D_X10_late (i := 37) rfl) rfl ?_
        exact s_sub [0, 1, 2, 3, 4] rfl (hre6 (x9, (z4.2 + 1)))
    · refine s_bipush (v := (-3)) (n := 28) hX (dec_of D_X10_late (i := 16) rfl) rfl (by decide) ?_
      exact s_iret hX hR (dec_of D_X10_late (i := 17) rfl) rfl
  · refine s_iconst (v := (-1)) (n := 14) hX (dec_of D_X10_late (i := 7) rfl) rfl (by decide) ?_
    exact s_iret hX hR (dec_of D_X10_late (i := 8) rfl) rfl
def T_X10_split : List (Nat × Instr × Nat) := [(0, .aload_n 0, 1), (1, .iconst 0, 1), (2, .putfield 86, 3), (5, .aload_n 0, 1), (6, .iload_n 1, 1), (7, .invokevirtual 257, 3), (10, .ifCond .eq 29, 3), (13, .aload_n 0, 1), (14, .iload_n 2, 1), (15, .invokevirtual 241, 3), (18, .ifCond .eq 21, 3), (21, .iload_n 3, 1), (22, .invokestatic 324, 3), (25, .ifCond .eq 14, 3), (28, .iload 4, 2), (30, .ifCond .lt 9, 3), (33, .iload 4, 2), (35, .iconst 2, 1), (36, .if_icmp .le 5, 3), (39, .iconst (-1), 1), (40, .ireturn, 1), (41, .aload_n 0, 1), (42, .iload_n 2, 1), (43, .iload_n 3, 1), (44, .aload_n 0, 1), (45, .getfield 13, 3), (48, .iload_n 1, 1), (49, .iaload, 1), (50, .imul, 1), (51, .invokevirtual 316, 3), (54, .iconst 0, 1), (55, .istore 5, 2), (57, .iconst 0, 1), (58, .istore 6, 2), (60, .iload 6, 2), (62, .aload_n 0, 1), (63, .iload_n 2, 1), (64, .invokevirtual 305, 3), (67, .if_icmp .ge 74, 3), (70, .iload 4, 2), (72, .iconst 2, 1), (73, .if_icmp .ne 22, 3), (76, .aload_n 0, 1), (77, .iload_n 2, 1), (78, .iload 6, 2), (80, .invokevirtual 313, 3), (83, .iconst (-1), 1), (84, .if_icmp .ne 7, 3), (87, .iconst 1, 1), (88, .goto 24, 3), (91, .iconst 0, 1), (92, .goto 20, 3), (95, .aload_n 0, 1), (96, .iload_n 2, 1), (97, .iload 6, 2), (99, .invokevirtual 310, 3), (102, .iload 4, 2), (104, .if_icmp .ne 7, 3), (107, .iconst 1, 1), (108, .goto 4, 3), (111, .iconst 0, 1), (112, .istore 7, 2), (114, .iload 5, 2), (116, .iload 7, 2), (118, .ifCond .eq 13, 3), (121, .aload_n 0, 1), (122, .getfield 71, 3), (125, .iload 6, 2), (127, .iaload, 1), (128, .goto 4, 3), (131, .iconst 0, 1), (132, .iadd, 1), (133, .istore 5, 2), (135, .iinc 6 1, 3), (138, .goto (-78), 3), (141, .iload 5, 2), (143, .ireturn, 1)]
theorem D_X10_split : dchk cX10_split T_X10_split = true := by decide +kernel
def Mo_split (σ : ST) (a1 : Int32) (a2 : Int32) (a3 : Int32) (a4 : Int32) : Option (Int32 × ST) :=
  lt_ (setF σ 840 0 0) (fun s1 => bd_ (Mo_isLand s1 a1) (fun q2 => (if q2 = 0 then some ((-1), s1) else bd_ (Mo_isSession s1 a2) (fun q3 => (if q3 = 0 then some ((-1), s1) else bd_ (Mo_areCopies s1 a3) (fun q4 => (if q4 = 0 then some ((-1), s1) else (if a4 < 0 then some ((-1), s1) else (if a4 ≤ 2 then bd_ (ldI s1 29 0 a1) (fun v5 => bd_ (Mo_laysShares s1 a2 (a3 * v5)) (fun q6 => lp_ (fun rec8 (z7 : Int32 × Int32) => bd_ (Mo_whole q6 a2) (fun q10 => (if q10 ≤ z7.2 then some (z7.1, q6) else lk_ (fun kk12 => (if a4 = 2 then bd_ (Mo_whose q6 a2 z7.2) (fun q18 => (if q18 = (-1) then kk12 1 else kk12 0)) else bd_ (Mo_roleAt q6 a2 z7.2) (fun q17 => (if q17 = a4 then kk12 1 else kk12 0)))) (fun (j11 : Int32) => (if j11 = 0 then lt_ ((z7.1 + 0)) (fun x14 => rec8 (x14, (z7.2 + 1))) else bd_ (ldI q6 47 0 z7.2) (fun v15 => lt_ ((z7.1 + v15)) (fun x16 => rec8 (x16, (z7.2 + 1))))))))) FU (0, 0))) else some ((-1), s1))))))))))
set_option maxHeartbeats 4000000 in
set_option maxRecDepth 100000 in
theorem c_X10_split {G : GW} (hG : Good G) {l : Launch} (σ : ST) (a1 : Int32) (a2 : Int32) (a3 : Int32) (a4 : Int32) : Ctr G l yX10_split cX10_split 8 (some .int) 2 [.ref (ga G 131 0), .int a1, .int a2, .int a3, .int a4] σ oP (Mo_split σ a1 a2 a3 a4) := by
  refine ctr_of hG (by decide) (Nat.le_of_ble_eq_true rfl) ?_
  intro X hXl hR hX
  have hX : Ok G X cX10_split 8 RX10 2 := hX
  unfold Mo_split
  show Sim G X 8 (MQX G X oP) σ 0 [(0, .ref (ga G 131 0)), (1, .int a1), (2, .int a2), (3, .int a3), (4, .int a4)] [] _
  refine s_aload_n 0 (n := 1) hX (dec_of D_X10_split (i := 0) rfl) rfl rfl rfl ?_
  refine s_iconst (v := 0) (n := 2) hX (dec_of D_X10_split (i := 1) rfl) rfl (by decide) ?_
  refine s_putI (c := 10) (p := 0) (n := 5) hX cls10 (vk131 (by omega)) (dec_of D_X10_split (i := 2) rfl) rfl rfl (by decide) wd_1346 rfl rfl rfl (fun s1 => ?_)
  refine s_aload_n 0 (n := 6) hX (dec_of D_X10_split (i := 3) rfl) rfl rfl rfl ?_
  refine s_iload_n 1 (n := 7) hX (dec_of D_X10_split (i := 4) rfl) rfl rfl rfl ?_
  refine s_callVI (c := 10) (n := 10) hX cls10 (vk131 (by omega)) lk_RX10_257 (dec_of D_X10_split (i := 5) rfl) rfl (by decide) (c_X10_isLand (l := _) hG _ _) rfl rfl (Nat.le_of_ble_eq_true rfl) (fun q2 => ?_)
  refine s_if_eq (tgt := 39) (n := 13) hX (dec_of D_X10_split (i := 6) rfl) rfl rfl ?_ ?_
  · refine s_iconst (v := (-1)) (n := 40) hX (dec_of D_X10_split (i := 19) rfl) rfl (by decide) ?_
    exact s_iret hX hR (dec_of D_X10_split (i := 20) rfl) rfl
  · refine s_aload_n 0 (n := 14) hX (dec_of D_X10_split (i := 7) rfl) rfl rfl rfl ?_
    refine s_iload_n 2 (n := 15) hX (dec_of D_X10_split (i := 8) rfl) rfl rfl rfl ?_
    refine s_callVI (c := 10) (n := 18) hX cls10 (vk131 (by omega)) lk_RX10_241 (dec_of D_X10_split (i := 9) rfl) rfl (by decide) (c_X10_isSession (l := _) hG _ _) rfl rfl (Nat.le_of_ble_eq_true rfl) (fun q3 => ?_)
    refine s_if_eq (tgt := 39) (n := 21) hX (dec_of D_X10_split (i := 10) rfl) rfl rfl ?_ ?_
    · refine s_iconst (v := (-1)) (n := 40) hX (dec_of D_X10_split (i := 19) rfl) rfl (by decide) ?_
      exact s_iret hX hR (dec_of D_X10_split (i := 20) rfl) rfl
    · refine s_iload_n 3 (n := 22) hX (dec_of D_X10_split (i := 11) rfl) rfl rfl rfl ?_
      refine s_callSI (n := 25) hX lk_RX10_324 (dec_of D_X10_split (i := 12) rfl) rfl (by decide) (c_X10_areCopies (l := _) hG _ _) rfl rfl (Nat.le_of_ble_eq_true rfl) (fun q4 => ?_)
      refine s_if_eq (tgt := 39) (n := 28) hX (dec_of D_X10_split (i := 13) rfl) rfl rfl ?_ ?_
      · refine s_iconst (v := (-1)) (n := 40) hX (dec_of D_X10_split (i := 19) rfl) rfl (by decide) ?_
        exact s_iret hX hR (dec_of D_X10_split (i := 20) rfl) rfl
      · refine s_iload 4 (n := 30) hX (dec_of D_X10_split (i := 14) rfl) rfl rfl ?_
        refine s_if_lt (tgt := 39) (n := 33) hX (dec_of D_X10_split (i := 15) rfl) rfl rfl ?_ ?_
        · refine s_iconst (v := (-1)) (n := 40) hX (dec_of D_X10_split (i := 19) rfl) rfl (by decide) ?_
          exact s_iret hX hR (dec_of D_X10_split (i := 20) rfl) rfl
        · refine s_iload 4 (n := 35) hX (dec_of D_X10_split (i := 16) rfl) rfl rfl ?_
          refine s_iconst (v := 2) (n := 36) hX (dec_of D_X10_split (i := 17) rfl) rfl (by decide) ?_
          refine s_icmp_le (tgt := 41) (n := 39) hX (dec_of D_X10_split (i := 18) rfl) rfl rfl ?_ ?_
          · refine s_aload_n 0 (n := 42) hX (dec_of D_X10_split (i := 21) rfl) rfl rfl rfl ?_
            refine s_iload_n 2 (n := 43) hX (dec_of D_X10_split (i := 22) rfl) rfl rfl rfl ?_
            refine s_iload_n 3 (n := 44) hX (dec_of D_X10_split (i := 23) rfl) rfl rfl rfl ?_
            refine s_aload_n 0 (n := 45) hX (dec_of D_X10_split (i := 24) rfl) rfl rfl rfl ?_
            refine s_getR (c := 10) (p := 3) (k' := 29) (n := 48) hX cls10 (vk131 (by omega)) (dec_of D_X10_split (i := 25) rfl) rfl rfl wd_1349 ?_
            refine s_iload_n 1 (n := 49) hX (dec_of D_X10_split (i := 26) rfl) rfl rfl rfl ?_
            refine s_iald (n := 50) hX (vk29 (by omega)) (by decide) (dec_of D_X10_split (i := 27) rfl) rfl (fun v5 => ?_)
            refine s_imul (n := 51) hX (dec_of D_X10_split (i := 28) rfl) rfl ?_
            refine s_callVV (c := 10) (n := 54) hX cls10 (vk131 (by omega)) lk_RX10_316 (dec_of D_X10_split (i := 29) rfl) rfl (by decide) (c_X10_laysShares (l := _) hG _ _ _) rfl rfl (Nat.le_of_ble_eq_true rfl) (fun q6 => ?_)
            refine s_iconst (v := 0) (n := 55) hX (dec_of D_X10_split (i := 30) rfl) rfl (by decide) ?_
            refine s_istore (lv' := [(0, _), (1, _), (2, _), (3, _), (4, _), (5, _)]) [1, 2, 3, 4, 5, 0] (n := 57) hX (dec_of D_X10_split (i := 31) rfl) rfl (by decide) rfl ?_
            refine s_iconst (v := 0) (n := 58) hX (dec_of D_X10_split (i := 32) rfl) rfl (by decide) ?_
            refine s_istore (lv' := [(0, _), (1, _), (2, _), (3, _), (4, _), (5, _), (6, _)]) [1, 2, 3, 4, 5, 6, 0] (n := 60) hX (dec_of D_X10_split (i := 33) rfl) rfl (by decide) rfl ?_
            refine s_sub [0, 2, 4, 5, 6] rfl (s_lp (pc := 60) (Sf := fun (z7 : Int32 × Int32) => q6) (lvf := fun (z7 : Int32 × Int32) => [(0, .ref (ga G 131 0)), (2, .int a2), (4, .int a4), (5, .int z7.1), (6, .int z7.2)]) (fun rec8 hre9 z7 => ?_) FU (0, 0))
            refine s_iload 4 (n := 62) hX (dec_of D_X10_split (i := 34) rfl) rfl rfl ?_
            refine s_aload_n 0 (n := 63) hX (dec_of D_X10_split (i := 35) rfl) rfl rfl rfl ?_
            refine s_iload_n 1 (n := 64) hX (dec_of D_X10_split (i := 36) rfl) rfl rfl rfl ?_
            refine s_callVI (c := 10) (n := 67) hX cls10 (vk131 (by omega)) lk_RX10_305 (dec_of D_X10_split (i := 37) rfl) rfl (by decide) (c_X10_whole (l := _) hG _ _) rfl rfl (Nat.le_of_ble_eq_true rfl) (fun q10 => ?_)
            refine s_icmp_ge (tgt := 141) (n := 70) hX (dec_of D_X10_split (i := 38) rfl) rfl rfl ?_ ?_
            · refine s_iload 3 (n := 143) hX (dec_of D_X10_split (i := 75) rfl) rfl rfl ?_
              exact s_iret hX hR (dec_of D_X10_split (i := 76) rfl) rfl
            · refine s_iload 2 (n := 72) hX (dec_of D_X10_split (i := 39) rfl) rfl rfl ?_
              refine s_iconst (v := 2) (n := 73) hX (dec_of D_X10_split (i := 40) rfl) rfl (by decide) ?_
              refine s_lk (pcj := 112) (Sf := fun (j11 : Int32) => q6) (lvf := fun (j11 : Int32) => [(0, .ref (ga G 131 0)), (2, .int a2), (4, .int a4), (5, .int z7.1), (6, .int z7.2)]) (stf := fun (j11 : Int32) => [.int j11]) (fun j11 => ?_) (fun kk12 hkk13 => ?_)
              · refine s_istore (lv' := [(0, _), (2, _), (4, _), (5, _), (6, _), (7, _)]) [1, 2, 3, 4, 5, 0] (n := 114) hX (dec_of D_X10_split (i := 61) rfl) rfl (by decide) rfl ?_
                refine s_iload 3 (n := 116) hX (dec_of D_X10_split (i := 62) rfl) rfl rfl ?_
                refine s_iload 5 (n := 118) hX (dec_of D_X10_split (i := 63) rfl) rfl rfl ?_
                refine s_if_eq (tgt := 131) (n := 121) hX (dec_of D_X10_split (i := 64) rfl) rfl rfl ?_ ?_
                · refine s_iconst (v := 0) (n := 132) hX (dec_of D_X10_split (i := 70) rfl) rfl (by decide) ?_
                  refine s_iadd (n := 133) hX (dec_of D_X10_split (i := 71) rfl) rfl ?_
                  refine s_topi (fun x14 => ?_)
                  refine s_istore (lv' := [(0, _), (2, _), (4, _), (5, _), (6, _), (7, _)]) [1, 2, 3, 0, 4, 5] (n := 135) hX (dec_of D_X10_split (i := 72) rfl) rfl (by decide) rfl ?_
                  refine s_iinc (v := z7.2 + 1) (lv' := [(0, _), (2, _), (4, _), (5, _), (6, _), (7, _)]) 4 [1, 2, 3, 4, 0, 5] (n := 138) hX (dec_of D_X10_split (i := 73) rfl) rfl rfl rfl (by decide) rfl ?_
                  refine s_goto (n := 60) hX (dec_of D_X10_split (i := 74) rfl) rfl ?_
                  exact s_sub [0, 1, 2, 3, 4] rfl (hre9 (x14, (z7.2 + 1)))
                · refine s_aload_n 0 (n := 122) hX (dec_of D_X10_split (i := 65) rfl) rfl rfl rfl ?_
                  refine s_getR (c := 10) (p := 46) (k' := 47) (n := 125) hX cls10 (vk131 (by omega)) (dec_of D_X10_split (i := 66) rfl) rfl rfl wd_1392 ?_
                  refine s_iload 4 (n := 127) hX (dec_of D_X10_split (i := 67) rfl) rfl rfl ?_
                  refine s_iald (n := 128) hX (vk47 (by omega)) (by decide) (dec_of D_X10_split (i := 68) rfl) rfl (fun v15 => ?_)
                  refine s_goto (n := 132) hX (dec_of D_X10_split (i := 69) rfl) rfl ?_
                  refine s_iadd (n := 133) hX (dec_of D_X10_split (i := 71) rfl) rfl ?_
                  refine s_topi (fun x16 => ?_)
                  refine s_istore (lv' := [(0, _), (2, _), (4, _), (5, _), (6, _), (7, _)]) [1, 2, 3, 0, 4, 5] (n := 135) hX (dec_of D_X10_split (i := 72) rfl) rfl (by decide) rfl ?_
                  refine s_iinc (v := z7.2 + 1) (lv' := [(0, _), (2, _), (4, _), (5, _), (6, _), (7, _)]) 4 [1, 2, 3, 4, 0, 5] (n := 138) hX (dec_of D_X10_split (i := 73) rfl) rfl rfl rfl (by decide) rfl ?_
                  refine s_goto (n := 60) hX (dec_of D_X10_split (i := 74) rfl) rfl ?_
                  exact s_sub [0, 1, 2, 3, 4] rfl (hre9 (x16, (z7.2 + 1)))
              · refine s_icmp_ne (tgt := 95) (n := 76) hX (dec_of D_X10_split (i := 41) rfl) rfl rfl ?_ ?_
                · refine s_aload_n 0 (n := 96) hX (dec_of D_X10_split (i := 52) rfl) rfl rfl rfl ?_
                  refine s_iload_n 1 (n := 97) hX (dec_of D_X10_split (i := 53) rfl) rfl rfl rfl ?_
                  refine s_iload 4 (n := 99) hX (dec_of D_X10_split (i := 54) rfl) rfl rfl ?_
                  refine s_callVI (c := 10) (n := 102) hX cls10 (vk131 (by omega)) lk_RX10_310 (dec_of D_X10_split (i := 55) rfl) rfl (by decide) (c_X10_roleAt (l := _) hG _ _ _) rfl rfl (Nat.le_of_ble_eq_true rfl) (fun q17 => ?_)
                  refine s_iload 2 (n := 104) hX (dec_of D_X10_split (i := 56) rfl) rfl rfl ?_
                  refine s_icmp_ne (tgt := 111) (n := 107) hX (dec_of D_X10_split (i := 57) rfl) rfl rfl ?_ ?_
                  · refine s_iconst (v := 0) (n := 112) hX (dec_of D_X10_split (i := 60) rfl) rfl (by decide) ?_
                    exact s_sub [0, 1, 2, 3, 4] rfl (hkk13 0)
                  · refine s_iconst (v := 1) (n := 108) hX (dec_of D_X10_split (i := 58) rfl) rfl (by decide) ?_
                    refine s_goto (n := 112) hX (dec_of D_X10_split (i := 59) rfl) rfl ?_
                    exact s_sub [0, 1, 2, 3, 4] rfl (hkk13 1)
                · refine s_aload_n 0 (n := 77) hX (dec_of D_X10_split (i := 42) rfl) rfl rfl rfl ?_
                  refine s_iload_n 1 (n := 78) hX (dec_of D_X10_split (i := 43) rfl) rfl rfl rfl ?_
                  refine s_iload 4 (n := 80) hX (dec_of D_X10_split (i := 44) rfl) rfl rfl ?_
                  refine s_callVI (c := 10) (n := 83) hX cls10 (vk131 (by omega)) lk_RX10_313 (dec_of D_X10_split (i := 45) rfl) rfl (by decide) (c_X10_whose (l := _) hG _ _ _) rfl rfl (Nat.le_of_ble_eq_true rfl) (fun q18 => ?_)
                  refine s_iconst (v := (-1)) (n := 84) hX (dec_of D_X10_split (i := 46) rfl) rfl (by decide) ?_
                  refine s_icmp_ne (tgt := 91) (n := 87) hX (dec_of D_X10_split (i := 47) rfl) rfl rfl ?_ ?_
                  · refine s_iconst (v := 0) (n := 92) hX (dec_of D_X10_split (i := 50) rfl) rfl (by decide) ?_
                    refine s_goto (n := 112) hX (dec_of D_X10_split (i := 51) rfl) rfl ?_
                    exact s_sub [0, 1, 2, 3, 4] rfl (hkk13 0)
                  · refine s_iconst (v := 1) (n := 88) hX (dec_of D_X10_split (i := 48) rfl) rfl (by decide) ?_
                    refine s_goto (n := 112) hX (dec_of D_X10_split (i := 49) rfl) rfl ?_
                    exact s_sub [0, 1, 2, 3, 4] rfl (hkk13 1)
          · refine s_iconst (v := (-1)) (n := 40) hX (dec_of D_X10_split (i := 19) rfl) rfl (by decide) ?_
            exact s_iret hX hR (dec_of D_X10_split (i := 20) rfl) rfl
def T_X10_dearest : List (Nat × Instr × Nat) := [(0, .aload_n 0, 1), (1, .iconst 0, 1), (2, .putfield 86, 3), (5, .iload_n 1, 1), (6, .ifCond .lt 8, 3), (9, .iload_n 1, 1), (10, .iconst 1, 1), (11, .if_icmp .le 5, 3), (14, .iconst (-1), 1), (15, .ireturn, 1), (16, .bipush (-2), 2), (18, .istore_n 2, 1), (19, .iconst 0, 1), (20, .istore_n 3, 1), (21, .iload_n 3, 1), (22, .aload_n 0, 1), (23, .getfield 235, 3), (26, .if_icmp .ge 40, 3), (29, .iload_n 2, 1), (30, .bipush (-2), 2), (32, .if_icmp .eq 26, 3), (35, .aload_n 0, 1), (36, .getfield 28, 3), (39, .sipush 2652, 3), (42, .iload_n 3, 1), (43, .iadd, 1), (44, .iaload, 1), (45, .aload_n 0, 1), (46, .getfield 28, 3), (49, .sipush 2652, 3), (52, .iload_n 2, 1), (53, .iadd, 1), (54, .iaload, 1), (55, .if_icmp .le 5, 3), (58, .iload_n 3, 1), (59, .istore_n 2, 1), (60, .iinc 3 1, 3), (63, .goto (-42), 3), (66, .iload_n 2, 1), (67, .bipush (-2), 2), (69, .if_icmp .eq 7, 3), (72, .iload_n 1, 1), (73, .ifCond .ne 7, 3), (76, .iload_n 2, 1), (77, .goto 13, 3), (80, .aload_n 0, 1), (81, .getfield 28, 3), (84, .sipush 2652, 3), (87, .iload_n 2, 1), (88, .iadd, 1), (89, .iaload, 1), (90, .ireturn, 1)]
theorem D_X10_dearest : dchk cX10_dearest T_X10_dearest = true := by decide +kernel
def Mo_dearest (σ : ST) (a1 : Int32) : Option (Int32 × ST) :=
  lt_ (setF σ 840 0 0) (fun s1 => (if a1 < 0 then some ((-1), s1) else (if a1 ≤ 1 then lp_ (fun rec3 (z2 : Int32 × Int32) => (if (gF s1 852 0) ≤ z2.2 then (if z2.1 = (-2) then some (z2.1, s1) else (if a1 = 0 then some (z2.1, s1) else bd_ (ldI s1 34 0 (2652 + z2.1)) (fun v5 => some (v5, s1)))) else (if z2.1 = (-2) then rec3 (z2.2, (z2.2 + 1)) else bd_ (ldI s1 34 0 (2652 + z2.2)) (fun v6 => bd_ (ldI s1 34 0 (2652 + z2.1)) (fun v7 => (if v6 ≤ v7 then rec3 (z2.1, (z2.2 + 1)) else rec3 (z2.2, (z2.2 + 1)))))))) FU ((-2), 0) else some ((-1), s1))))
set_option maxHeartbeats 4000000 in
set_option maxRecDepth 100000 in
theorem c_X10_dearest {G : GW} (hG : Good G) {l : Launch} (σ : ST) (a1 : Int32) : Ctr G l yX10_dearest cX10_dearest 4 (some .int) 0 [.ref (ga G 131 0), .int a1] σ oP (Mo_dearest σ a1) := by
  refine ctr_of hG (by decide) (Nat.le_of_ble_eq_true rfl) ?_
  intro X hXl hR hX
  have hX : Ok G X cX10_dearest 4 RX10 0 := hX
  unfold Mo_dearest
  show Sim G X 4 (MQX G X oP) σ 0 [(0, .ref (ga G 131 0)), (1, .int a1)] [] _
  refine s_aload_n 0 (n := 1) hX (dec_of D_X10_dearest (i := 0) rfl) rfl rfl rfl ?_
  refine s_iconst (v := 0) (n := 2) hX (dec_of D_X10_dearest (i := 1) rfl) rfl (by decide) ?_
  refine s_putI (c := 10) (p := 0) (n := 5) hX cls10 (vk131 (by omega)) (dec_of D_X10_dearest (i := 2) rfl) rfl rfl (by decide) wd_1346 rfl rfl rfl (fun s1 => ?_)
  refine s_iload_n 1 (n := 6) hX (dec_of D_X10_dearest (i := 3) rfl) rfl rfl rfl ?_
  refine s_if_lt (tgt := 14) (n := 9) hX (dec_of D_X10_dearest (i := 4) rfl) rfl rfl ?_ ?_
  · refine s_iconst (v := (-1)) (n := 15) hX (dec_of D_X10_dearest (i := 8) rfl) rfl (by decide) ?_
    exact s_iret hX hR (dec_of D_X10_dearest (i := 9) rfl) rfl
  · refine s_iload_n 1 (n := 10) hX (dec_of D_X10_dearest (i := 5) rfl) rfl rfl rfl ?_
    refine s_iconst (v := 1) (n := 11) hX (dec_of D_X10_dearest (i := 6) rfl) rfl (by decide) ?_
    refine s_icmp_le (tgt := 16) (n := 14) hX (dec_of D_X10_dearest (i := 7) rfl) rfl rfl ?_ ?_
    · refine s_bipush (v := (-2)) (n := 18) hX (dec_of D_X10_dearest (i := 10) rfl) rfl (by decide) ?_
      refine s_istore_n (lv' := [(0, _), (1, _), (2, _)]) [1, 2, 0] (n := 19) hX (dec_of D_X10_dearest (i := 11) rfl) rfl rfl (by decide) rfl ?_
      refine s_iconst (v := 0) (n := 20) hX (dec_of D_X10_dearest (i := 12) rfl) rfl (by decide) ?_
      refine s_istore_n (lv' := [(0, _), (1, _), (2, _), (3, _)]) [1, 2, 3, 0] (n := 21) hX (dec_of D_X10_dearest (i := 13) rfl) rfl rfl (by decide) rfl ?_
      refine s_sub [0, 1, 2, 3] rfl (s_lp (pc := 21) (Sf := fun (z2 : Int32 × Int32) => s1) (lvf := fun (z2 : Int32 × Int32) => [(0, .ref (ga G 131 0)), (1, .int a1), (2, .int z2.1), (3, .int z2.2)]) (fun rec3 hre4 z2 => ?_) FU ((-2), 0))
      refine s_iload_n 3 (n := 22) hX (dec_of D_X10_dearest (i := 14) rfl) rfl rfl rfl ?_
      refine s_aload_n 0 (n := 23) hX (dec_of D_X10_dearest (i := 15) rfl) rfl rfl rfl ?_
      refine s_getI (c := 10) (p := 12) (id := 852) (n := 26) hX cls10 (vk131 (by omega)) (dec_of D_X10_dearest (i := 16) rfl) rfl rfl wd_1358 ?_
      refine s_icmp_ge (tgt := 66) (n := 29) hX (dec_of D_X10_dearest (i := 17) rfl) rfl rfl ?_ ?_
      · refine s_iload_n 2 (n := 67) hX (dec_of D_X10_dearest (i := 38) rfl) rfl rfl rfl ?_
        refine s_bipush (v := (-2)) (n := 69) hX (dec_of D_X10_dearest (i := 39) rfl) rfl (by decide) ?_
        refine s_icmp_eq (tgt := 76) (n := 72) hX (dec_of D_X10_dearest (i := 40) rfl) rfl rfl ?_ ?_
        · refine s_iload_n 2 (n := 77) hX (dec_of D_X10_dearest (i := 43) rfl) rfl rfl rfl ?_
          refine s_goto (n := 90) hX (dec_of D_X10_dearest (i := 44) rfl) rfl ?_
          exact s_iret hX hR (dec_of D_X10_dearest (i := 51) rfl) rfl
        · refine s_iload_n 1 (n := 73) hX (dec_of D_X10_dearest (i := 41) rfl) rfl rfl rfl ?_
          refine s_if_ne (tgt := 80) (n := 76) hX (dec_of D_X10_dearest (i := 42) rfl) rfl rfl ?_ ?_
          · refine s_aload_n 0 (n := 81) hX (dec_of D_X10_dearest (i := 45) rfl) rfl rfl rfl ?_
            refine s_getR (c := 10) (p := 14) (k' := 34) (n := 84) hX cls10 (vk131 (by omega)) (dec_of D_X10_dearest (i := 46) rfl) rfl rfl wd_1360 ?_
            refine s_sipush (v := 2652) (n := 87) hX (dec_of D_X10_dearest (i := 47) rfl) rfl (by decide) ?_
            refine s_iload_n 2 (n := 88) hX (dec_of D_X10_dearest (i := 48) rfl) rfl rfl rfl ?_
            refine s_iadd (n := 89) hX (dec_of D_X10_dearest (i := 49) rfl) rfl ?_
            refine s_iald (n := 90) hX (vk34 (by omega)) (by decide) (dec_of D_X10_dearest (i := 50) rfl) rfl (fun v5 => ?_)
            exact s_iret hX hR (dec_of D_X10_dearest (i := 51) rfl) rfl
          · refine s_iload_n 2 (n := 77) hX (dec_of D_X10_dearest (i := 43) rfl) rfl rfl rfl ?_
            refine s_goto (n := 90) hX (dec_of D_X10_dearest (i := 44) rfl) rfl ?_
            exact s_iret hX hR (dec_of D_X10_dearest (i := 51) rfl) rfl
      · refine s_iload_n 2 (n := 30) hX (dec_of D_X10_dearest (i := 18) rfl) rfl rfl rfl ?_
        refine s_bipush (v := (-2)) (n := 32) hX (dec_of D_X10_dearest (i := 19) rfl) rfl (by decide) ?_
        refine s_icmp_eq (tgt := 58) (n := 35) hX (dec_of D_X10_dearest (i := 20) rfl) rfl rfl ?_ ?_
        · refine s_iload_n 3 (n := 59) hX (dec_of D_X10_dearest (i := 34) rfl) rfl rfl rfl ?_
          refine s_istore_n (lv' := [(0, _), (1, _), (2, _), (3, _)]) [1, 2, 0, 3] (n := 60) hX (dec_of D_X10_dearest (i := 35) rfl) rfl rfl (by decide) rfl ?_
          refine s_iinc (v := z2.2 + 1) (lv' := [(0, _), (1, _), (2, _), (3, _)]) 3 [1, 2, 3, 0] (n := 63) hX (dec_of D_X10_dearest (i := 36) rfl) rfl rfl rfl (by decide) rfl ?_
          refine s_goto (n := 21) hX (dec_of D_X10_dearest (i := 37) rfl) rfl ?_
          exact s_sub [0, 1, 2, 3] rfl (hre4 (z2.2, (z2.2 + 1)))
        · refine s_aload_n 0 (n := 36) hX (dec_of D_X10_dearest (i := 21) rfl) rfl rfl rfl ?_
          refine s_getR (c := 10) (p := 14) (k' := 34) (n := 39) hX cls10 (vk131 (by omega)) (dec_of D_X10_dearest (i := 22) rfl) rfl rfl wd_1360 ?_
          refine s_sipush (v := 2652) (n := 42) hX (dec_of D_X10_dearest (i := 23) rfl) rfl (by decide) ?_
          refine s_iload_n 3 (n := 43) hX (dec_of D_X10_dearest (i := 24) rfl) rfl rfl rfl ?_
          refine s_iadd (n := 44) hX (dec_of D_X10_dearest (i := 25) rfl) rfl ?_
          refine s_iald (n := 45) hX (vk34 (by omega)) (by decide) (dec_of D_X10_dearest (i := 26) rfl) rfl (fun v6 => ?_)
          refine s_aload_n 0 (n := 46) hX (dec_of D_X10_dearest (i := 27) rfl) rfl rfl rfl ?_
          refine s_getR (c := 10) (p := 14) (k' := 34) (n := 49) hX cls10 (vk131 (by omega)) (dec_of D_X10_dearest (i := 28) rfl) rfl rfl wd_1360 ?_
          refine s_sipush (v := 2652) (n := 52) hX (dec_of D_X10_dearest (i := 29) rfl) rfl (by decide) ?_
          refine s_iload_n 2 (n := 53) hX (dec_of D_X10_dearest (i := 30) rfl) rfl rfl rfl ?_
          refine s_iadd (n := 54) hX (dec_of D_X10_dearest (i := 31) rfl) rfl ?_
          refine s_iald (n := 55) hX (vk34 (by omega)) (by decide) (dec_of D_X10_dearest (i := 32) rfl) rfl (fun v7 => ?_)
          refine s_icmp_le (tgt := 60) (n := 58) hX (dec_of D_X10_dearest (i := 33) rfl) rfl rfl ?_ ?_
          · refine s_iinc (v := z2.2 + 1) (lv' := [(0, _), (1, _), (2, _), (3, _)]) 3 [1, 2, 3, 0] (n := 63) hX (dec_of D_X10_dearest (i := 36) rfl) rfl rfl rfl (by decide) rfl ?_
            refine s_goto (n := 21) hX (dec_of D_X10_dearest (i := 37) rfl) rfl ?_
            exact s_sub [0, 1, 2, 3] rfl (hre4 (z2.1, (z2.2 + 1)))
          · refine s_iload_n 3 (n := 59) hX (dec_of D_X10_dearest (i := 34) rfl) rfl rfl rfl ?_
            refine s_istore_n (lv' := [(0, _), (1, _), (2, _), (3, _)]) [1, 2, 0, 3] (n := 60) hX (dec_of D_X10_dearest (i := 35) rfl) rfl rfl (by decide) rfl ?_
            refine s_iinc (v := z2.2 + 1) (lv' := [(0, _), (1, _), (2, _), (3, _)]) 3 [1, 2, 3, 0] (n := 63) hX (dec_of D_X10_dearest (i := 36) rfl) rfl rfl rfl (by decide) rfl ?_
            refine s_goto (n := 21) hX (dec_of D_X10_dearest (i := 37) rfl) rfl ?_
            exact s_sub [0, 1, 2, 3] rfl (hre4 (z2.2, (z2.2 + 1)))
    · refine s_iconst (v := (-1)) (n := 15) hX (dec_of D_X10_dearest (i := 8) rfl) rfl (by decide) ?_
      exact s_iret hX hR (dec_of D_X10_dearest (i := 9) rfl) rfl
def T_X10_reached : List (Nat × Instr × Nat) := [(0, .aload_n 0, 1), (1, .iconst 0, 1), (2, .putfield 86, 3), (5, .aload_n 0, 1), (6, .iload_n 1, 1), (7, .invokevirtual 257, 3), (10, .ifCond .eq 11, 3), (13, .aload_n 0, 1), (14, .iload_n 2, 1), (15, .invokevirtual 241, 3), (18, .ifCond .ne 5, 3), (21, .iconst (-1), 1), (22, .ireturn, 1), (23, .iconst 0, 1), (24, .istore_n 3, 1), (25, .iconst 0, 1), (26, .istore 4, 2), (28, .iload 4, 2), (30, .aload_n 0, 1), (31, .iload_n 2, 1), (32, .invokevirtual 305, 3), (35, .if_icmp .ge 39, 3), (38, .iload_n 3, 1), (39, .aload_n 0, 1), (40, .iload_n 2, 1), (41, .iload 4, 2), (43, .invokevirtual 313, 3), (46, .iconst (-1), 1), (47, .if_icmp .eq 18, 3), (50, .aload_n 0, 1), (51, .iload_n 1, 1), (52, .iload_n 2, 1), (53, .iload 4, 2), (55, .invokevirtual 320, 3), (58, .ifCond .ne 7, 3), (61, .iconst 1, 1), (62, .goto 4, 3), (65, .iconst 0, 1), (66, .iadd, 1), (67, .istore_n 3, 1), (68, .iinc 4 1, 3), (71, .goto (-43), 3), (74, .iload_n 3, 1), (75, .ireturn, 1)]
theorem D_X10_reached : dchk cX10_reached T_X10_reached = true := by decide +kernel
def Mo_reached (σ : ST) (a1 : Int32) (a2 : Int32) : Option (Int32 × ST) :=
  lt_ (setF σ 840 0 0) (fun s1 => bd_ (Mo_isLand s1 a1) (fun q2 => (if q2 = 0 then some ((-1), s1) else bd_ (Mo_isSession s1 a2) (fun q3 => (if q3 = 0 then some ((-1), s1) else lp_ (fun rec5 (z4 : Int32 × Int32) => bd_ (Mo_whole s1 a2) (fun q7 => (if q7 ≤ z4.2 then some (z4.1, s1) else bd_ (Mo_whose s1 a2 z4.2) (fun q8 => (if q8 = (-1) then lt_ ((z4.1 + 0)) (fun x9 => rec5 (x9, (z4.2 + 1))) else bd_ (Mo_where s1 a1 a2 z4.2) (fun q10 => (if q10 = 0 then lt_ ((z4.1 + 1)) (fun x12 => rec5 (x12, (z4.2 + 1))) else lt_ ((z4.1 + 0)) (fun x11 => rec5 (x11, (z4.2 + 1)))))))))) FU (0, 0))))))
set_option maxHeartbeats 4000000 in
set_option maxRecDepth 100000 in
theorem c_X10_reached {G : GW} (hG : Good G) {l : Launch} (σ : ST) (a1 : Int32) (a2 : Int32) : Ctr G l yX10_reached cX10_reached 5 (some .int) 3 [.ref (ga G 131 0), .int a1, .int a2] σ oP (Mo_reached σ a1 a2) := by
  refine ctr_of hG (by decide) (Nat.le_of_ble_eq_true rfl) ?_
  intro X hXl hR hX
  have hX : Ok G X cX10_reached 5 RX10 3 := hX
  unfold Mo_reached
  show Sim G X 5 (MQX G X oP) σ 0 [(0, .ref (ga G 131 0)), (1, .int a1), (2, .int a2)] [] _
  refine s_aload_n 0 (n := 1) hX (dec_of D_X10_reached (i := 0) rfl) rfl rfl rfl ?_
  refine s_iconst (v := 0) (n := 2) hX (dec_of D_X10_reached (i := 1) rfl) rfl (by decide) ?_
  refine s_putI (c := 10) (p := 0) (n := 5) hX cls10 (vk131 (by omega)) (dec_of D_X10_reached (i := 2) rfl) rfl rfl (by decide) wd_1346 rfl rfl rfl (fun s1 => ?_)
  refine s_aload_n 0 (n := 6) hX (dec_of D_X10_reached (i := 3) rfl) rfl rfl rfl ?_
  refine s_iload_n 1 (n := 7) hX (dec_of D_X10_reached (i := 4) rfl) rfl rfl rfl ?_
  refine s_callVI (c := 10) (n := 10) hX cls10 (vk131 (by omega)) lk_RX10_257 (dec_of D_X10_reached (i := 5) rfl) rfl (by decide) (c_X10_isLand (l := _) hG _ _) rfl rfl (Nat.le_of_ble_eq_true rfl) (fun q2 => ?_)
  refine s_if_eq (tgt := 21) (n := 13) hX (dec_of D_X10_reached (i := 6) rfl) rfl rfl ?_ ?_
  · refine s_iconst (v := (-1)) (n := 22) hX (dec_of D_X10_reached (i := 11) rfl) rfl (by decide) ?_
    exact s_iret hX hR (dec_of D_X10_reached (i := 12) rfl) rfl
  · refine s_aload_n 0 (n := 14) hX (dec_of D_X10_reached (i := 7) rfl) rfl rfl rfl ?_
    refine s_iload_n 2 (n := 15) hX (dec_of D_X10_reached (i := 8) rfl) rfl rfl rfl ?_
    refine s_callVI (c := 10) (n := 18) hX cls10 (vk131 (by omega)) lk_RX10_241 (dec_of D_X10_reached (i := 9) rfl) rfl (by decide) (c_X10_isSession (l := _) hG _ _) rfl rfl (Nat.le_of_ble_eq_true rfl) (fun q3 => ?_)
    refine s_if_ne (tgt := 23) (n := 21) hX (dec_of D_X10_reached (i := 10) rfl) rfl rfl ?_ ?_
    · refine s_iconst (v := 0) (n := 24) hX (dec_of D_X10_reached (i := 13) rfl) rfl (by decide) ?_
      refine s_istore_n (lv' := [(0, _), (1, _), (2, _), (3, _)]) [1, 2, 3, 0] (n := 25) hX (dec_of D_X10_reached (i := 14) rfl) rfl rfl (by decide) rfl ?_
      refine s_iconst (v := 0) (n := 26) hX (dec_of D_X10_reached (i := 15) rfl) rfl (by decide) ?_
      refine s_istore (lv' := [(0, _), (1, _), (2, _), (3, _), (4, _)]) [1, 2, 3, 4, 0] (n := 28) hX (dec_of D_X10_reached (i := 16) rfl) rfl (by decide) rfl ?_
      refine s_sub [0, 1, 2, 3, 4] rfl (s_lp (pc := 28) (Sf := fun (z4 : Int32 × Int32) => s1) (lvf := fun (z4 : Int32 × Int32) => [(0, .ref (ga G 131 0)), (1, .int a1), (2, .int a2), (3, .int z4.1), (4, .int z4.2)]) (fun rec5 hre6 z4 => ?_) FU (0, 0))
      refine s_iload 4 (n := 30) hX (dec_of D_X10_reached (i := 17) rfl) rfl rfl ?_
      refine s_aload_n 0 (n := 31) hX (dec_of D_X10_reached (i := 18) rfl) rfl rfl rfl ?_
      refine s_iload_n 2 (n := 32) hX (dec_of D_X10_reached (i := 19) rfl) rfl rfl rfl ?_
      refine s_callVI (c := 10) (n := 35) hX cls10 (vk131 (by omega)) lk_RX10_305 (dec_of D_X10_reached (i := 20) rfl) rfl (by decide) (c_X10_whole (l := _) hG _ _) rfl rfl (Nat.le_of_ble_eq_true rfl) (fun q7 => ?_)
      refine s_icmp_ge (tgt := 74) (n := 38) hX (dec_of D_X10_reached (i := 21) rfl) rfl rfl ?_ ?_
      · refine s_iload_n 3 (n := 75) hX (dec_of D_X10_reached (i := 42) rfl) rfl rfl rfl ?_
        exact s_iret hX hR (dec_of D_X10_reached (i := 43) rfl) rfl
      · refine s_iload_n 3 (n := 39) hX (dec_of D_X10_reached (i := 22) rfl) rfl rfl rfl ?_
        refine s_aload_n 0 (n := 40) hX (dec_of D_X10_reached (i := 23) rfl) rfl rfl rfl ?_
        refine s_iload_n 2 (n := 41) hX (dec_of D_X10_reached (i := 24) rfl) rfl rfl rfl ?_
        refine s_iload 4 (n := 43) hX (dec_of D_X10_reached (i := 25) rfl) rfl rfl ?_
        refine s_callVI (c := 10) (n := 46) hX cls10 (vk131 (by omega)) lk_RX10_313 (dec_of D_X10_reached (i := 26) rfl) rfl (by decide) (c_X10_whose (l := _) hG _ _ _) rfl rfl (Nat.le_of_ble_eq_true rfl) (fun q8 => ?_)
        refine s_iconst (v := (-1)) (n := 47) hX (dec_of D_X10_reached (i := 27) rfl) rfl (by decide) ?_
        refine s_icmp_eq (tgt := 65) (n := 50) hX (dec_of D_X10_reached (i := 28) rfl) rfl rfl ?_ ?_
        · refine s_iconst (v := 0) (n := 66) hX (dec_of D_X10_reached (i := 37) rfl) rfl (by decide) ?_
          refine s_iadd (n := 67) hX (dec_of D_X10_reached (i := 38) rfl) rfl ?_
          refine s_topi (fun x9 => ?_)
          refine s_istore_n (lv' := [(0, _), (1, _), (2, _), (3, _), (4, _)]) [1, 2, 3, 0, 4] (n := 68) hX (dec_of D_X10_reached (i := 39) rfl) rfl rfl (by decide) rfl ?_
          refine s_iinc (v := z4.2 + 1) (lv' := [(0, _), (1, _), (2, _), (3, _), (4, _)]) 4 [1, 2, 3, 4, 0] (n := 71) hX (dec_of D_X10_reached (i := 40) rfl) rfl rfl rfl (by decide) rfl ?_
          refine s_goto (n := 28) hX (dec_of D_X10_reached (i := 41) rfl) rfl ?_
          exact s_sub [0, 1, 2, 3, 4] rfl (hre6 (x9, (z4.2 + 1)))
        · refine s_aload_n 0 (n := 51) hX (dec_of D_X10_reached (i := 29) rfl) rfl rfl rfl ?_
          refine s_iload_n 1 (n := 52) hX (dec_of D_X10_reached (i := 30) rfl) rfl rfl rfl ?_
          refine s_iload_n 2 (n := 53) hX (dec_of D_X10_reached (i := 31) rfl) rfl rfl rfl ?_
          refine s_iload 4 (n := 55) hX (dec_of D_X10_reached (i := 32) rfl) rfl rfl ?_
          refine s_callVI (c := 10) (n := 58) hX cls10 (vk131 (by omega)) lk_RX10_320 (dec_of D_X10_reached (i := 33) rfl) rfl (by decide) (c_X10_where (l := _) hG _ _ _ _) rfl rfl (Nat.le_of_ble_eq_true rfl) (fun q10 => ?_)
          refine s_if_ne (tgt := 65) (n := 61) hX (dec_of D_X10_reached (i := 34) rfl) rfl rfl ?_ ?_
          · refine s_iconst (v := 0) (n := 66) hX (dec_of D_X10_reached (i := 37) rfl) rfl (by decide) ?_
            refine s_iadd (n := 67) hX (dec_of D_X10_reached (i := 38) rfl) rfl ?_
            refine s_topi (fun x11 => ?_)
            refine s_istore_n (lv' := [(0, _), (1, _), (2, _), (3, _), (4, _)]) [1, 2, 3, 0, 4] (n := 68) hX (dec_of D_X10_reached (i := 39) rfl) rfl rfl (by decide) rfl ?_
            refine s_iinc (v := z4.2 + 1) (lv' := [(0, _), (1, _), (2, _), (3, _), (4, _)]) 4 [1, 2, 3, 4, 0] (n := 71) hX (dec_of D_X10_reached (i := 40) rfl) rfl rfl rfl (by decide) rfl ?_
            refine s_goto (n := 28) hX (dec_of D_X10_reached (i := 41) rfl) rfl ?_
            exact s_sub [0, 1, 2, 3, 4] rfl (hre6 (x11, (z4.2 + 1)))
          · refine s_iconst (v := 1) (n := 62) hX (dec_of D_X10_reached (i := 35) rfl) rfl (by decide) ?_
            refine s_goto (n := 66) hX (dec_of D_X10_reached (i := 36) rfl) rfl ?_
            refine s_iadd (n := 67) hX (dec_of D_X10_reached (i := 38) rfl) rfl ?_
            refine s_topi (fun x12 => ?_)
            refine s_istore_n (lv' := [(0, _), (1, _), (2, _), (3, _), (4, _)]) [1, 2, 3, 0, 4] (n := 68) hX (dec_of D_X10_reached (i := 39) rfl) rfl rfl (by decide) rfl ?_
            refine s_iinc (v := z4.2 + 1) (lv' := [(0, _), (1, _), (2, _), (3, _), (4, _)]) 4 [1, 2, 3, 4, 0] (n := 71) hX (dec_of D_X10_reached (i := 40) rfl) rfl rfl rfl (by decide) rfl ?_
            refine s_goto (n := 28) hX (dec_of D_X10_reached (i := 41) rfl) rfl ?_
            exact s_sub [0, 1, 2, 3, 4] rfl (hre6 (x12, (z4.2 + 1)))
    · refine s_iconst (v := (-1)) (n := 22) hX (dec_of D_X10_reached (i := 11) rfl) rfl (by decide) ?_
      exact s_iret hX hR (dec_of D_X10_reached (i := 12) rfl) rfl
def T_X10_sumIn : List (Nat × Instr × Nat) := [(0, .iconst 0, 1), (1, .istore_n 3, 1), (2, .iload_n 1, 1), (3, .istore 4, 2), (5, .iload 4, 2), (7, .iload_n 2, 1), (8, .if_icmp .ge 19, 3), (11, .iload_n 3, 1), (12, .aload_n 0, 1), (13, .getfield 28, 3), (16, .iload 4, 2), (18, .iaload, 1), (19, .iadd, 1), (20, .istore_n 3, 1), (21, .iinc 4 1, 3), (24, .goto (-19), 3), (27, .iload_n 3, 1), (28, .ireturn, 1)]
theorem D_X10_sumIn : dchk cX10_sumIn T_X10_sumIn = true := by decide +kernel
def Mo_sumIn (σ : ST) (a1 : Int32) (a2 : Int32) : Option Int32 :=
  lp_ (fun rec2 (z1 : Int32 × Int32) => (if a2 ≤ z1.2 then some z1.1 else bd_ (ldI σ 34 0 z1.2) (fun v4 => lt_ ((z1.1 + v4)) (fun x5 => rec2 (x5, (z1.2 + 1)))))) FU (0, a1)
set_option maxHeartbeats 4000000 in
set_option maxRecDepth 100000 in
theorem c_X10_sumIn {G : GW} (hG : Good G) {l : Launch} (σ : ST) (a1 : Int32) (a2 : Int32) : Ctr G l yX10_sumIn cX10_sumIn 5 (some .int) 0 [.ref (ga G 131 0), .int a1, .int a2] σ (oI σ) (Mo_sumIn σ a1 a2) := by
  refine ctr_of hG (by decide) (Nat.le_of_ble_eq_true rfl) ?_
  intro X hXl hR hX
  have hX : Ok G X cX10_sumIn 5 RX10 0 := hX
  unfold Mo_sumIn
  show Sim G X 5 (MQX G X (oI σ)) σ 0 [(0, .ref (ga G 131 0)), (1, .int a1), (2, .int a2)] [] _
  refine s_iconst (v := 0) (n := 1) hX (dec_of D_X10_sumIn (i := 0) rfl) rfl (by decide) ?_
  refine s_istore_n (lv' := [(0, _), (1, _), (2, _), (3, _)]) [1, 2, 3, 0] (n := 2) hX (dec_of D_X10_sumIn (i := 1) rfl) rfl rfl (by decide) rfl ?_
  refine s_iload_n 1 (n := 3) hX (dec_of D_X10_sumIn (i := 2) rfl) rfl rfl rfl ?_
  refine s_istore (lv' := [(0, _), (1, _), (2, _), (3, _), (4, _)]) [1, 2, 3, 4, 0] (n := 5) hX (dec_of D_X10_sumIn (i := 3) rfl) rfl (by decide) rfl ?_
  refine s_sub [0, 2, 3, 4] rfl (s_lp (pc := 5) (Sf := fun (z1 : Int32 × Int32) => σ) (lvf := fun (z1 : Int32 × Int32) => [(0, .ref (ga G 131 0)), (2, .int a2), (3, .int z1.1), (4, .int z1.2)]) (fun rec2 hre3 z1 => ?_) FU (0, a1))
  refine s_iload 3 (n := 7) hX (dec_of D_X10_sumIn (i := 4) rfl) rfl rfl ?_
  refine s_iload_n 1 (n := 8) hX (dec_of D_X10_sumIn (i := 5) rfl) rfl rfl rfl ?_
  refine s_icmp_ge (tgt := 27) (n := 11) hX (dec_of D_X10_sumIn (i := 6) rfl) rfl rfl ?_ ?_
  · refine s_iload_n 2 (n := 28) hX (dec_of D_X10_sumIn (i := 16) rfl) rfl rfl rfl ?_
    exact s_iret hX hR (dec_of D_X10_sumIn (i := 17) rfl) rfl
  · refine s_iload_n 2 (n := 12) hX (dec_of D_X10_sumIn (i := 7) rfl) rfl rfl rfl ?_
    refine s_aload_n 0 (n := 13) hX (dec_of D_X10_sumIn (i := 8) rfl) rfl rfl rfl ?_
    refine s_getR (c := 10) (p := 14) (k' := 34) (n := 16) hX cls10 (vk131 (by omega)) (dec_of D_X10_sumIn (i := 9) rfl) rfl rfl wd_1360 ?_
    refine s_iload 3 (n := 18) hX (dec_of D_X10_sumIn (i := 10) rfl) rfl rfl ?_
    refine s_iald (n := 19) hX (vk34 (by omega)) (by decide) (dec_of D_X10_sumIn (i := 11) rfl) rfl (fun v4 => ?_)
    refine s_iadd (n := 20) hX (dec_of D_X10_sumIn (i := 12) rfl) rfl ?_
    refine s_topi (fun x5 => ?_)
    refine s_istore_n (lv' := [(0, _), (2, _), (3, _), (4, _)]) [1, 2, 0, 3] (n := 21) hX (dec_of D_X10_sumIn (i := 13) rfl) rfl rfl (by decide) rfl ?_
    refine s_iinc (v := z1.2 + 1) (lv' := [(0, _), (2, _), (3, _), (4, _)]) 3 [1, 2, 3, 0] (n := 24) hX (dec_of D_X10_sumIn (i := 14) rfl) rfl rfl rfl (by decide) rfl ?_
    refine s_goto (n := 5) hX (dec_of D_X10_sumIn (i := 15) rfl) rfl ?_
    exact s_sub [0, 1, 2, 3] rfl (hre3 (x5, (z1.2 + 1)))
theorem lk_RX10_415 : LkV RX10 415 RX10 yX10_sumIn cX10_sumIn 5 (some .int) 2 := ⟨wd_2014, wd_2016, wd_80, wd_93, wd_2017, by decide +kernel, by decide⟩
def T_X10_money : List (Nat × Instr × Nat) := [(0, .aload_n 0, 1), (1, .iconst 0, 1), (2, .putfield 86, 3), (5, .iload_n 1, 1), (6, .tableswitch 108 0 5 #[38, 49, 57, 68, 79, 97], 38), (44, .aload_n 0, 1), (45, .sipush 198, 3), (48, .sipush 204, 3), (51, .invokevirtual 415, 3), (54, .ireturn, 1), (55, .aload_n 0, 1), (56, .iconst 0, 1), (57, .bipush 96, 2), (59, .invokevirtual 415, 3), (62, .ireturn, 1), (63, .aload_n 0, 1), (64, .sipush 204, 3), (67, .sipush 2364, 3), (70, .invokevirtual 415, 3), (73, .ireturn, 1), (74, .aload_n 0, 1), (75, .sipush 192, 3), (78, .sipush 198, 3), (81, .invokevirtual 415, 3), (84, .ireturn, 1), (85, .aload_n 0, 1), (86, .iconst 0, 1), (87, .bipush 96, 2), (89, .invokevirtual 415, 3), (92, .aload_n 0, 1), (93, .bipush 96, 2), (95, .sipush 192, 3), (98, .invokevirtual 415, 3), (101, .isub, 1), (102, .ireturn, 1), (103, .aload_n 0, 1), (104, .sipush 2364, 3), (107, .sipush 2604, 3), (110, .invokevirtual 415, 3), (113, .ireturn, 1), (114, .iconst (-1), 1), (115, .ireturn, 1)]
theorem D_X10_money : dchk cX10_money T_X10_money = true := by decide +kernel
def Mo_money (σ : ST) (a1 : Int32) : Option (Int32 × ST) :=
  lt_ (setF σ 840 0 0) (fun s1 => sw_ a1 0 [bd_ (Mo_sumIn s1 198 204) (fun q2 => some (q2, s1)), bd_ (Mo_sumIn s1 0 96) (fun q3 => some (q3, s1)), bd_ (Mo_sumIn s1 204 2364) (fun q4 => some (q4, s1)), bd_ (Mo_sumIn s1 192 198) (fun q5 => some (q5, s1)), bd_ (Mo_sumIn s1 0 96) (fun q6 => bd_ (Mo_sumIn s1 96 192) (fun q7 => some ((q6 - q7), s1))), bd_ (Mo_sumIn s1 2364 2604) (fun q8 => some (q8, s1))] (some ((-1), s1)))
set_option maxHeartbeats 4000000 in
set_option maxRecDepth 100000 in
theorem c_X10_money {G : GW} (hG : Good G) {l : Launch} (σ : ST) (a1 : Int32) : Ctr G l yX10_money cX10_money 2 (some .int) 1 [.ref (ga G 131 0), .int a1] σ oP (Mo_money σ a1) := by
  refine ctr_of hG (by decide) (Nat.le_of_ble_eq_true rfl) ?_
  intro X hXl hR hX
  have hX : Ok G X cX10_money 2 RX10 1 := hX
  unfold Mo_money
  show Sim G X 2 (MQX G X oP) σ 0 [(0, .ref (ga G 131 0)), (1, .int a1)] [] _
  refine s_aload_n 0 (n := 1) hX (dec_of D_X10_money (i := 0) rfl) rfl rfl rfl ?_
  refine s_iconst (v := 0) (n := 2) hX (dec_of D_X10_money (i := 1) rfl) rfl (by decide) ?_
  refine s_putI (c := 10) (p := 0) (n := 5) hX cls10 (vk131 (by omega)) (dec_of D_X10_money (i := 2) rfl) rfl rfl (by decide) wd_1346 rfl rfl rfl (fun s1 => ?_)
  refine s_iload_n 1 (n := 6) hX (dec_of D_X10_money (i := 3) rfl) rfl rfl rfl ?_
  refine s_tsw (lo' := 0) (Ps := [_, _, _, _, _, _]) hX (dec_of D_X10_money (i := 4) rfl) rfl 6 rfl (by decide) (by decide) [44, 55, 63, 74, 85, 103] 114 rfl rfl (by decide +kernel) ?_ ?_
  · skip
    refine swS_cons ?_ ?_
    · refine s_aload_n 0 (n := 45) hX (dec_of D_X10_money (i := 5) rfl) rfl rfl rfl ?_
      refine s_sipush (v := 198) (n := 48) hX (dec_of D_X10_money (i := 6) rfl) rfl (by decide) ?_
      refine s_sipush (v := 204) (n := 51) hX (dec_of D_X10_money (i := 7) rfl) rfl (by decide) ?_
      refine s_callVI (c := 10) (n := 54) hX cls10 (vk131 (by omega)) lk_RX10_415 (dec_of D_X10_money (i := 8) rfl) rfl (by decide) (c_X10_sumIn (l := _) hG _ _ _) rfl rfl (Nat.le_of_ble_eq_true rfl) (fun q2 => ?_)
      exact s_iret hX hR (dec_of D_X10_money (i := 9) rfl) rfl
    refine swS_cons ?_ ?_
    · refine s_aload_n 0 (n := 56) hX (dec_of D_X10_money (i := 10) rfl) rfl rfl rfl ?_
      refine s_iconst (v := 0) (n := 57) hX (dec_of D_X10_money (i := 11) rfl) rfl (by decide) ?_
      refine s_bipush (v := 96) (n := 59) hX (dec_of D_X10_money (i := 12) rfl) rfl (by decide) ?_
      refine s_callVI (c := 10) (n := 62) hX cls10 (vk131 (by omega)) lk_RX10_415 (dec_of D_X10_money (i := 13) rfl) rfl (by decide) (c_X10_sumIn (l := _) hG _ _ _) rfl rfl (Nat.le_of_ble_eq_true rfl) (fun q3 => ?_)
      exact s_iret hX hR (dec_of D_X10_money (i := 14) rfl) rfl
    refine swS_cons ?_ ?_
    · refine s_aload_n 0 (n := 64) hX (dec_of D_X10_money (i := 15) rfl) rfl rfl rfl ?_
      refine s_sipush (v := 204) (n := 67) hX (dec_of D_X10_money (i := 16) rfl) rfl (by decide) ?_
      refine s_sipush (v := 2364) (n := 70) hX (dec_of D_X10_money (i := 17) rfl) rfl (by decide) ?_
      refine s_callVI (c := 10) (n := 73) hX cls10 (vk131 (by omega)) lk_RX10_415 (dec_of D_X10_money (i := 18) rfl) rfl (by decide) (c_X10_sumIn (l := _) hG _ _ _) rfl rfl (Nat.le_of_ble_eq_true rfl) (fun q4 => ?_)
      exact s_iret hX hR (dec_of D_X10_money (i := 19) rfl) rfl
    refine swS_cons ?_ ?_
    · refine s_aload_n 0 (n := 75) hX (dec_of D_X10_money (i := 20) rfl) rfl rfl rfl ?_
      refine s_sipush (v := 192) (n := 78) hX (dec_of D_X10_money (i := 21) rfl) rfl (by decide) ?_
      refine s_sipush (v := 198) (n := 81) hX (dec_of D_X10_money (i := 22) rfl) rfl (by decide) ?_
      refine s_callVI (c := 10) (n := 84) hX cls10 (vk131 (by omega)) lk_RX10_415 (dec_of D_X10_money (i := 23) rfl) rfl (by decide) (c_X10_sumIn (l := _) hG _ _ _) rfl rfl (Nat.le_of_ble_eq_true rfl) (fun q5 => ?_)
      exact s_iret hX hR (dec_of D_X10_money (i := 24) rfl) rfl
    refine swS_cons ?_ ?_
    · refine s_aload_n 0 (n := 86) hX (dec_of D_X10_money (i := 25) rfl) rfl rfl rfl ?_
      refine s_iconst (v := 0) (n := 87) hX (dec_of D_X10_money (i := 26) rfl) rfl (by decide) ?_
      refine s_bipush (v := 96) (n := 89) hX (dec_of D_X10_money (i := 27) rfl) rfl (by decide) ?_
      refine s_callVI (c := 10) (n := 92) hX cls10 (vk131 (by omega)) lk_RX10_415 (dec_of D_X10_money (i := 28) rfl) rfl (by decide) (c_X10_sumIn (l := _) hG _ _ _) rfl rfl (Nat.le_of_ble_eq_true rfl) (fun q6 => ?_)
      refine s_aload_n 0 (n := 93) hX (dec_of D_X10_money (i := 29) rfl) rfl rfl rfl ?_
      refine s_bipush (v := 96) (n := 95) hX (dec_of D_X10_money (i := 30) rfl) rfl (by decide) ?_
      refine s_sipush (v := 192) (n := 98) hX (dec_of D_X10_money (i := 31) rfl) rfl (by decide) ?_
      refine s_callVI (c := 10) (n := 101) hX cls10 (vk131 (by omega)) lk_RX10_415 (dec_of D_X10_money (i := 32) rfl) rfl (by decide) (c_X10_sumIn (l := _) hG _ _ _) rfl rfl (Nat.le_of_ble_eq_true rfl) (fun q7 => ?_)
      refine s_isub (n := 102) hX (dec_of D_X10_money (i := 33) rfl) rfl ?_
      exact s_iret hX hR (dec_of D_X10_money (i := 34) rfl) rfl
    refine swS_cons ?_ ?_
    · refine s_aload_n 0 (n := 104) hX (dec_of D_X10_money (i := 35) rfl) rfl rfl rfl ?_
      refine s_sipush (v := 2364) (n := 107) hX (dec_of D_X10_money (i := 36) rfl) rfl (by decide) ?_
      refine s_sipush (v := 2604) (n := 110) hX (dec_of D_X10_money (i := 37) rfl) rfl (by decide) ?_
      refine s_callVI (c := 10) (n := 113) hX cls10 (vk131 (by omega)) lk_RX10_415 (dec_of D_X10_money (i := 38) rfl) rfl (by decide) (c_X10_sumIn (l := _) hG _ _ _) rfl rfl (Nat.le_of_ble_eq_true rfl) (fun q8 => ?_)
      exact s_iret hX hR (dec_of D_X10_money (i := 39) rfl) rfl
    exact swS_nil
  · refine s_iconst (v := (-1)) (n := 115) hX (dec_of D_X10_money (i := 40) rfl) rfl (by decide) ?_
    exact s_iret hX hR (dec_of D_X10_money (i := 41) rfl) rfl
def T_X10_openAll : List (Nat × Instr × Nat) := [(0, .iconst 0, 1), (1, .istore_n 1, 1), (2, .iconst 0, 1), (3, .istore_n 2, 1), (4, .iload_n 2, 1), (5, .aload_n 0, 1), (6, .getfield 235, 3), (9, .if_icmp .ge 17, 3), (12, .iload_n 1, 1), (13, .aload_n 0, 1), (14, .iload_n 2, 1), (15, .invokevirtual 286, 3), (18, .iadd, 1), (19, .istore_n 1, 1), (20, .iinc 2 1, 3), (23, .goto (-19), 3), (26, .iload_n 1, 1), (27, .ireturn, 1)]
theorem D_X10_openAll : dchk cX10_openAll T_X10_openAll = true := by decide +kernel
def Mo_openAll (σ : ST)  : Option Int32 :=
  lp_ (fun rec2 (z1 : Int32 × Int32) => (if (gF σ 852 0) ≤ z1.2 then some z1.1 else bd_ (Mo_openOf (σ) z1.2) (fun q4 => lt_ ((z1.1 + q4)) (fun x5 => rec2 (x5, (z1.2 + 1)))))) FU (0, 0)
set_option maxHeartbeats 4000000 in
set_option maxRecDepth 100000 in
theorem c_X10_openAll {G : GW} (hG : Good G) {l : Launch} (σ : ST)  : Ctr G l yX10_openAll cX10_openAll 3 (some .int) 2 [.ref (ga G 131 0)] σ (oI σ) (Mo_openAll σ ) := by
  refine ctr_of hG (by decide) (Nat.le_of_ble_eq_true rfl) ?_
  intro X hXl hR hX
  have hX : Ok G X cX10_openAll 3 RX10 2 := hX
  unfold Mo_openAll
  show Sim G X 3 (MQX G X (oI σ)) σ 0 [(0, .ref (ga G 131 0))] [] _
  refine s_iconst (v := 0) (n := 1) hX (dec_of D_X10_openAll (i := 0) rfl) rfl (by decide) ?_
  refine s_istore_n (lv' := [(0, _), (1, _)]) [1, 0] (n := 2) hX (dec_of D_X10_openAll (i := 1) rfl) rfl rfl (by decide) rfl ?_
  refine s_iconst (v := 0) (n := 3) hX (dec_of D_X10_openAll (i := 2) rfl) rfl (by decide) ?_
  refine s_istore_n (lv' := [(0, _), (1, _), (2, _)]) [1, 2, 0] (n := 4) hX (dec_of D_X10_openAll (i := 3) rfl) rfl rfl (by decide) rfl ?_
  refine s_sub [0, 1, 2] rfl (s_lp (pc := 4) (Sf := fun (z1 : Int32 × Int32) => σ) (lvf := fun (z1 : Int32 × Int32) => [(0, .ref (ga G 131 0)), (1, .int z1.1), (2, .int z1.2)]) (fun rec2 hre3 z1 => ?_) FU (0, 0))
  refine s_iload_n 2 (n := 5) hX (dec_of D_X10_openAll (i := 4) rfl) rfl rfl rfl ?_
  refine s_aload_n 0 (n := 6) hX (dec_of D_X10_openAll (i := 5) rfl) rfl rfl rfl ?_
  refine s_getI (c := 10) (p := 12) (id := 852) (n := 9) hX cls10 (vk131 (by omega)) (dec_of D_X10_openAll (i := 6) rfl) rfl rfl wd_1358 ?_
  refine s_icmp_ge (tgt := 26) (n := 12) hX (dec_of D_X10_openAll (i := 7) rfl) rfl rfl ?_ ?_
  · refine s_iload_n 1 (n := 27) hX (dec_of D_X10_openAll (i := 16) rfl) rfl rfl rfl ?_
    exact s_iret hX hR (dec_of D_X10_openAll (i := 17) rfl) rfl
  · refine s_iload_n 1 (n := 13) hX (dec_of D_X10_openAll (i := 8) rfl) rfl rfl rfl ?_
    refine s_aload_n 0 (n := 14) hX (dec_of D_X10_openAll (i := 9) rfl) rfl rfl rfl ?_
    refine s_iload_n 2 (n := 15) hX (dec_of D_X10_openAll (i := 10) rfl) rfl rfl rfl ?_
    refine s_callVI (c := 10) (n := 18) hX cls10 (vk131 (by omega)) lk_RX10_286 (dec_of D_X10_openAll (i := 11) rfl) rfl (by decide) (c_X10_openOf (l := _) hG _ _) rfl rfl (Nat.le_of_ble_eq_true rfl) (fun q4 => ?_)
    refine s_iadd (n := 19) hX (dec_of D_X10_openAll (i := 12) rfl) rfl ?_
    refine s_topi (fun x5 => ?_)
    refine s_istore_n (lv' := [(0, _), (1, _), (2, _)]) [1, 0, 2] (n := 20) hX (dec_of D_X10_openAll (i := 13) rfl) rfl rfl (by decide) rfl ?_
    refine s_iinc (v := z1.2 + 1) (lv' := [(0, _), (1, _), (2, _)]) 2 [1, 2, 0] (n := 23) hX (dec_of D_X10_openAll (i := 14) rfl) rfl rfl rfl (by decide) rfl ?_
    refine s_goto (n := 4) hX (dec_of D_X10_openAll (i := 15) rfl) rfl ?_
    exact s_sub [0, 1, 2] rfl (hre3 (x5, (z1.2 + 1)))
theorem lk_RX10_418 : LkV RX10 418 RX10 yX10_openAll cX10_openAll 3 (some .int) 0 := ⟨wd_2022, wd_2024, wd_81, wd_93, wd_2025, by decide +kernel, by decide⟩
def T_X10_count : List (Nat × Instr × Nat) := [(0, .aload_n 0, 1), (1, .iconst 0, 1), (2, .putfield 86, 3), (5, .iload_n 1, 1), (6, .tableswitch 108 0 9 #[54, 59, 64, 69, 74, 79, 84, 93, 98, 103], 54), (60, .aload_n 0, 1), (61, .getfield 226, 3), (64, .ireturn, 1), (65, .aload_n 0, 1), (66, .getfield 229, 3), (69, .ireturn, 1), (70, .aload_n 0, 1), (71, .getfield 232, 3), (74, .ireturn, 1), (75, .aload_n 0, 1), (76, .getfield 235, 3), (79, .ireturn, 1), (80, .aload_n 0, 1), (81, .getfield 77, 3), (84, .ireturn, 1), (85, .aload_n 0, 1), (86, .getfield 80, 3), (89, .ireturn, 1), (90, .aload_n 0, 1), (91, .getfield 28, 3), (94, .sipush 2688, 3), (97, .iaload, 1), (98, .ireturn, 1), (99, .aload_n 0, 1), (100, .invokevirtual 418, 3), (103, .ireturn, 1), (104, .aload_n 0, 1), (105, .getfield 238, 3), (108, .ireturn, 1), (109, .aload_n 0, 1), (110, .getfield 89, 3), (113, .ireturn, 1), (114, .iconst (-1), 1), (115, .ireturn, 1)]
theorem D_X10_count : dchk cX10_count T_X10_count = true := by decide +kernel
def Mo_count (σ : ST) (a1 : Int32) : Option (Int32 × ST) :=
  lt_ (setF σ 840 0 0) (fun s1 => sw_ a1 0 [some ((gF s1 853 0), s1), some ((gF s1 850 0), s1), some ((gF s1 851 0), s1), some ((gF s1 852 0), s1), some ((gF s1 848 0), s1), some ((gF s1 849 0), s1), bd_ (ldI s1 34 0 2688) (fun v2 => some (v2, s1)), bd_ (Mo_openAll s1) (fun q3 => some (q3, s1)), some ((gF s1 856 0), s1), some ((gF s1 842 0), s1)] (some ((-1), s1)))
set_option maxHeartbeats 4000000 in
set_option maxRecDepth 100000 in
theorem c_X10_count {G : GW} (hG : Good G) {l : Launch} (σ : ST) (a1 : Int32) : Ctr G l yX10_count cX10_count 2 (some .int) 3 [.ref (ga G 131 0), .int a1] σ oP (Mo_count σ a1) := by
  refine ctr_of hG (by decide) (Nat.le_of_ble_eq_true rfl) ?_
  intro X hXl hR hX
  have hX : Ok G X cX10_count 2 RX10 3 := hX
  unfold Mo_count
  show Sim G X 2 (MQX G X oP) σ 0 [(0, .ref (ga G 131 0)), (1, .int a1)] [] _
  refine s_aload_n 0 (n := 1) hX (dec_of D_X10_count (i := 0) rfl) rfl rfl rfl ?_
  refine s_iconst (v := 0) (n := 2) hX (dec_of D_X10_count (i := 1) rfl) rfl (by decide) ?_
  refine s_putI (c := 10) (p := 0) (n := 5) hX cls10 (vk131 (by omega)) (dec_of D_X10_count (i := 2) rfl) rfl rfl (by decide) wd_1346 rfl rfl rfl (fun s1 => ?_)
  refine s_iload_n 1 (n := 6) hX (dec_of D_X10_count (i := 3) rfl) rfl rfl rfl ?_
  refine s_tsw (lo' := 0) (Ps := [_, _, _, _, _, _, _, _, _, _]) hX (dec_of D_X10_count (i := 4) rfl) rfl 10 rfl (by decide) (by decide) [60, 65, 70, 75, 80, 85, 90, 99, 104, 109] 114 rfl rfl (by decide +kernel) ?_ ?_
  · skip
    refine swS_cons ?_ ?_
    · refine s_aload_n 0 (n := 61) hX (dec_of D_X10_count (i := 5) rfl) rfl rfl rfl ?_
      refine s_getI (c := 10) (p := 13) (id := 853) (n := 64) hX cls10 (vk131 (by omega)) (dec_of D_X10_count (i := 6) rfl) rfl rfl wd_1359 ?_
      exact s_iret hX hR (dec_of D_X10_count (i := 7) rfl) rfl
    refine swS_cons ?_ ?_
    · refine s_aload_n 0 (n := 66) hX (dec_of D_X10_count (i := 8) rfl) rfl rfl rfl ?_
      refine s_getI (c := 10) (p := 10) (id := 850) (n := 69) hX cls10 (vk131 (by omega)) (dec_of D_X10_count (i := 9) rfl) rfl rfl wd_1356 ?_
      exact s_iret hX hR (dec_of D_X10_count (i := 10) rfl) rfl
    refine swS_cons ?_ ?_
    · refine s_aload_n 0 (n := 71) hX (dec_of D_X10_count (i := 11) rfl) rfl rfl rfl ?_
      refine s_getI (c := 10) (p := 11) (id := 851) (n := 74) hX cls10 (vk131 (by omega)) (dec_of D_X10_count (i := 12) rfl) rfl rfl wd_1357 ?_
      exact s_iret hX hR (dec_of D_X10_count (i := 13) rfl) rfl
    refine swS_cons ?_ ?_
    · refine s_aload_n 0 (n := 76) hX (dec_of D_X10_count (i := 14) rfl) rfl rfl rfl ?_
      refine s_getI (c := 10) (p := 12) (id := 852) (n := 79) hX cls10 (vk131 (by omega)) (dec_of D_X10_count (i := 15) rfl) rfl rfl wd_1358 ?_
      exact s_iret hX hR (dec_of D_X10_count (i := 16) rfl) rfl
    refine swS_cons ?_ ?_
    · refine s_aload_n 0 (n := 81) hX (dec_of D_X10_count (i := 17) rfl) rfl rfl rfl ?_
      refine s_getI (c := 10) (p := 8) (id := 848) (n := 84) hX cls10 (vk131 (by omega)) (dec_of D_X10_count (i := 18) rfl) rfl rfl wd_1354 ?_
      exact s_iret hX hR (dec_of D_X10_count (i := 19) rfl) rfl
    refine swS_cons ?_ ?_
    · refine s_aload_n 0 (n := 86) hX (dec_of D_X10_count (i := 20) rfl) rfl rfl rfl ?_
      refine s_getI (c := 10) (p := 9) (id := 849) (n := 89) hX cls10 (vk131 (by omega)) (dec_of D_X10_count (i := 21) rfl) rfl rfl wd_1355 ?_
      exact s_iret hX hR (dec_of D_X10_count (i := 22) rfl) rfl
    refine swS_cons ?_ ?_
    · refine s_aload_n 0 (n := 91) hX (dec_of D_X10_count (i := 23) rfl) rfl rfl rfl ?_
      refine s_getR (c := 10) (p := 14) (k' := 34) (n := 94) hX cls10 (vk131 (by omega)) (dec_of D_X10_count (i := 24) rfl) rfl rfl wd_1360 ?_
      refine s_sipush (v := 2688) (n := 97) hX (dec_of D_X10_count (i := 25) rfl) rfl (by decide) ?_
      refine s_iald (n := 98) hX (vk34 (by omega)) (by decide) (dec_of D_X10_count (i := 26) rfl) rfl (fun v2 => ?_)
      exact s_iret hX hR (dec_of D_X10_count (i := 27) rfl) rfl
    refine swS_cons ?_ ?_
    · refine s_aload_n 0 (n := 100) hX (dec_of D_X10_count (i := 28) rfl) rfl rfl rfl ?_
      refine s_callVI (c := 10) (n := 103) hX cls10 (vk131 (by omega)) lk_RX10_418 (dec_of D_X10_count (i := 29) rfl) rfl (by decide) (c_X10_openAll (l := _) hG _) rfl rfl (Nat.le_of_ble_eq_true rfl) (fun q3 => ?_)
      exact s_iret hX hR (dec_of D_X10_count (i := 30) rfl) rfl
    refine swS_cons ?_ ?_
    · refine s_aload_n 0 (n := 105) hX (dec_of D_X10_count (i := 31) rfl) rfl rfl rfl ?_
      refine s_getI (c := 10) (p := 16) (id := 856) (n := 108) hX cls10 (vk131 (by omega)) (dec_of D_X10_count (i := 32) rfl) rfl rfl wd_1362 ?_
      exact s_iret hX hR (dec_of D_X10_count (i := 33) rfl) rfl
    refine swS_cons ?_ ?_
    · refine s_aload_n 0 (n := 110) hX (dec_of D_X10_count (i := 34) rfl) rfl rfl rfl ?_
      refine s_getI (c := 10) (p := 2) (id := 842) (n := 113) hX cls10 (vk131 (by omega)) (dec_of D_X10_count (i := 35) rfl) rfl rfl wd_1348 ?_
      exact s_iret hX hR (dec_of D_X10_count (i := 36) rfl) rfl
    exact swS_nil
  · refine s_iconst (v := (-1)) (n := 115) hX (dec_of D_X10_count (i := 37) rfl) rfl (by decide) ?_
    exact s_iret hX hR (dec_of D_X10_count (i := 38) rfl) rfl

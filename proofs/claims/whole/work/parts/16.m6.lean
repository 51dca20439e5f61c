def T_X10_paidTo : List (Nat × Instr × Nat) := [(0, .aload_n 0, 1), (1, .iload_n 3, 1), (2, .iload 4, 2), (4, .invokevirtual 316, 3), (7, .iconst 0, 1), (8, .istore 5, 2), (10, .iconst 0, 1), (11, .istore 6, 2), (13, .iload 6, 2), (15, .aload_n 0, 1), (16, .iload_n 3, 1), (17, .invokevirtual 305, 3), (20, .if_icmp .ge 47, 3), (23, .iload 5, 2), (25, .aload_n 0, 1), (26, .iload_n 3, 1), (27, .iload 6, 2), (29, .invokevirtual 313, 3), (32, .iload_n 1, 1), (33, .if_icmp .ne 24, 3), (36, .aload_n 0, 1), (37, .iload_n 2, 1), (38, .iload_n 3, 1), (39, .iload 6, 2), (41, .invokevirtual 320, 3), (44, .ifCond .ne 13, 3), (47, .aload_n 0, 1), (48, .getfield 71, 3), (51, .iload 6, 2), (53, .iaload, 1), (54, .goto 4, 3), (57, .iconst 0, 1), (58, .iadd, 1), (59, .istore 5, 2), (61, .iinc 6 1, 3), (64, .goto (-51), 3), (67, .iload 5, 2), (69, .ireturn, 1)]
theorem D_X10_paidTo : dchk cX10_paidTo T_X10_paidTo = true := by decide +kernel
def Mo_paidTo (σ : ST) (a1 : Int32) (a2 : Int32) (a3 : Int32) (a4 : Int32) : Option (Int32 × ST) :=
  bd_ (Mo_laysShares (σ) a3 a4) (fun q1 => lp_ (fun rec3 (z2 : Int32 × Int32) => bd_ (Mo_whole q1 a3) (fun q5 => (if q5 ≤ z2.2 then some (z2.1, q1) else bd_ (Mo_whose q1 a3 z2.2) (fun q6 => (if q6 = a1 then bd_ (Mo_where q1 a2 a3 z2.2) (fun q8 => (if q8 = 0 then bd_ (ldI q1 47 0 z2.2) (fun v10 => lt_ ((z2.1 + v10)) (fun x11 => rec3 (x11, (z2.2 + 1)))) else lt_ ((z2.1 + 0)) (fun x9 => rec3 (x9, (z2.2 + 1))))) else lt_ ((z2.1 + 0)) (fun x7 => rec3 (x7, (z2.2 + 1)))))))) FU (0, 0))
set_option maxHeartbeats 4000000 in
set_option maxRecDepth 100000 in
theorem c_X10_paidTo {G : GW} (hG : Good G) {l : Launch} (σ : ST) (a1 : Int32) (a2 : Int32) (a3 : Int32) (a4 : Int32) : Ctr G l yX10_paidTo cX10_paidTo 7 (some .int) 3 [.ref (ga G 131 0), .int a1, .int a2, .int a3, .int a4] σ oP (Mo_paidTo σ a1 a2 a3 a4) := by
  refine ctr_of hG (by decide) (Nat.le_of_ble_eq_true rfl) ?_
  intro X hXl hR hX
  have hX : Ok G X cX10_paidTo 7 RX10 3 := hX
  unfold Mo_paidTo
  show Sim G X 7 (MQX G X oP) σ 0 [(0, .ref (ga G 131 0)), (1, .int a1), (2, .int a2), (3, .int a3), (4, .int a4)] [] _
  refine s_aload_n 0 (n := 1) hX (dec_of D_X10_paidTo (i := 0) rfl) rfl rfl rfl ?_
  refine s_iload_n 3 (n := 2) hX (dec_of D_X10_paidTo (i := 1) rfl) rfl rfl rfl ?_
  refine s_iload 4 (n := 4) hX (dec_of D_X10_paidTo (i := 2) rfl) rfl rfl ?_
  refine s_callVV (c := 10) (n := 7) hX cls10 (vk131 (by omega)) lk_RX10_316 (dec_of D_X10_paidTo (i := 3) rfl) rfl (by decide) (c_X10_laysShares (l := _) hG _ _ _) rfl rfl (Nat.le_of_ble_eq_true rfl) (fun q1 => ?_)
  refine s_iconst (v := 0) (n := 8) hX (dec_of D_X10_paidTo (i := 4) rfl) rfl (by decide) ?_
  refine s_istore (lv' := [(0, _), (1, _), (2, _), (3, _), (4, _), (5, _)]) [1, 2, 3, 4, 5, 0] (n := 10) hX (dec_of D_X10_paidTo (i := 5) rfl) rfl (by decide) rfl ?_
  refine s_iconst (v := 0) (n := 11) hX (dec_of D_X10_paidTo (i := 6) rfl) rfl (by decide) ?_
  refine s_istore (lv' := [(0, _), (1, _), (2, _), (3, _), (4, _), (5, _), (6, _)]) [1, 2, 3, 4, 5, 6, 0] (n := 13) hX (dec_of D_X10_paidTo (i := 7) rfl) rfl (by decide) rfl ?_
  refine s_sub [0, 1, 2, 3, 5, 6] rfl (s_lp (pc := 13) (Sf := fun (z2 : Int32 × Int32) => q1) (lvf := fun (z2 : Int32 × Int32) => [(0, .ref (ga G 131 0)), (1, .int a1), (2, .int a2), (3, .int a3), (5, .int z2.1), (6, .int z2.2)]) (fun rec3 hre4 z2 => ?_) FU (0, 0))
  refine s_iload 5 (n := 15) hX (dec_of D_X10_paidTo (i := 8) rfl) rfl rfl ?_
  refine s_aload_n 0 (n := 16) hX (dec_of D_X10_paidTo (i := 9) rfl) rfl rfl rfl ?_
  refine s_iload_n 3 (n := 17) hX (dec_of D_X10_paidTo (i := 10) rfl) rfl rfl rfl ?_
  refine s_callVI (c := 10) (n := 20) hX cls10 (vk131 (by omega)) lk_RX10_305 (dec_of D_X10_paidTo (i := 11) rfl) rfl (by decide) (c_X10_whole (l := _) hG _ _) rfl rfl (Nat.le_of_ble_eq_true rfl) (fun q5 => ?_)
  refine s_icmp_ge (tgt := 67) (n := 23) hX (dec_of D_X10_paidTo (i := 12) rfl) rfl rfl ?_ ?_
  · refine s_iload 4 (n := 69) hX (dec_of D_X10_paidTo (i := 36) rfl) rfl rfl ?_
    exact s_iret hX hR (dec_of D_X10_paidTo (i := 37) rfl) rfl
  · refine s_iload 4 (n := 25) hX (dec_of D_X10_paidTo (i := 13) rfl) rfl rfl ?_
    refine s_aload_n 0 (n := 26) hX (dec_of D_X10_paidTo (i := 14) rfl) rfl rfl rfl ?_
    refine s_iload_n 3 (n := 27) hX (dec_of D_X10_paidTo (i := 15) rfl) rfl rfl rfl ?_
    refine s_iload 5 (n := 29) hX (dec_of D_X10_paidTo (i := 16) rfl) rfl rfl ?_
    refine s_callVI (c := 10) (n := 32) hX cls10 (vk131 (by omega)) lk_RX10_313 (dec_of D_X10_paidTo (i := 17) rfl) rfl (by decide) (c_X10_whose (l := _) hG _ _ _) rfl rfl (Nat.le_of_ble_eq_true rfl) (fun q6 => ?_)
    refine s_iload_n 1 (n := 33) hX (dec_of D_X10_paidTo (i := 18) rfl) rfl rfl rfl ?_
    refine s_icmp_ne (tgt := 57) (n := 36) hX (dec_of D_X10_paidTo (i := 19) rfl) rfl rfl ?_ ?_
    · refine s_iconst (v := 0) (n := 58) hX (dec_of D_X10_paidTo (i := 31) rfl) rfl (by decide) ?_
      refine s_iadd (n := 59) hX (dec_of D_X10_paidTo (i := 32) rfl) rfl ?_
      refine s_topi (fun x7 => ?_)
      refine s_istore (lv' := [(0, _), (1, _), (2, _), (3, _), (5, _), (6, _)]) [1, 2, 3, 4, 0, 5] (n := 61) hX (dec_of D_X10_paidTo (i := 33) rfl) rfl (by decide) rfl ?_
      refine s_iinc (v := z2.2 + 1) (lv' := [(0, _), (1, _), (2, _), (3, _), (5, _), (6, _)]) 5 [1, 2, 3, 4, 5, 0] (n := 64) hX (dec_of D_X10_paidTo (i := 34) rfl) rfl rfl rfl (by decide) rfl ?_
      refine s_goto (n := 13) hX (dec_of D_X10_paidTo (i := 35) rfl) rfl ?_
      exact s_sub [0, 1, 2, 3, 4, 5] rfl (hre4 (x7, (z2.2 + 1)))
    · refine s_aload_n 0 (n := 37) hX (dec_of D_X10_paidTo (i := 20) rfl) rfl rfl rfl ?_
      refine s_iload_n 2 (n := 38) hX (dec_of D_X10_paidTo (i := 21) rfl) rfl rfl rfl ?_
      refine s_iload_n 3 (n := 39) hX (dec_of D_X10_paidTo (i := 22) rfl) rfl rfl rfl ?_
      refine s_iload 5 (n := 41) hX (dec_of D_X10_paidTo (i := 23) rfl) rfl rfl ?_
      refine s_callVI (c := 10) (n := 44) hX cls10 (vk131 (by omega)) lk_RX10_320 (dec_of D_X10_paidTo (i := 24) rfl) rfl (by decide) (c_X10_where (l := _) hG _ _ _ _) rfl rfl (Nat.le_of_ble_eq_true rfl) (fun q8 => ?_)
      refine s_if_ne (tgt := 57) (n := 47) hX (dec_of D_X10_paidTo (i := 25) rfl) rfl rfl ?_ ?_
      · refine s_iconst (v := 0) (n := 58) hX (dec_of D_X10_paidTo (i := 31) rfl) rfl (by decide) ?_
        refine s_iadd (n := 59) hX (dec_of D_X10_paidTo (i := 32) rfl) rfl ?_
        refine s_topi (fun x9 => ?_)
        refine s_istore (lv' := [(0, _), (1, _), (2, _), (3, _), (5, _), (6, _)]) [1, 2, 3, 4, 0, 5] (n := 61) hX (dec_of D_X10_paidTo (i := 33) rfl) rfl (by decide) rfl ?_
        refine s_iinc (v := z2.2 + 1) (lv' := [(0, _), (1, _), (2, _), (3, _), (5, _), (6, _)]) 5 [1, 2, 3, 4, 5, 0] (n := 64) hX (dec_of D_X10_paidTo (i := 34) rfl) rfl rfl rfl (by decide) rfl ?_
        refine s_goto (n := 13) hX (dec_of D_X10_paidTo (i := 35) rfl) rfl ?_
        exact s_sub [0, 1, 2, 3, 4, 5] rfl (hre4 (x9, (z2.2 + 1)))
      · refine s_aload_n 0 (n := 48) hX (dec_of D_X10_paidTo (i := 26) rfl) rfl rfl rfl ?_
        refine s_getR (c := 10) (p := 46) (k' := 47) (n := 51) hX cls10 (vk131 (by omega)) (dec_of D_X10_paidTo (i := 27) rfl) rfl rfl wd_1392 ?_
        refine s_iload 5 (n := 53) hX (dec_of D_X10_paidTo (i := 28) rfl) rfl rfl ?_
        refine s_iald (n := 54) hX (vk47 (by omega)) (by decide) (dec_of D_X10_paidTo (i := 29) rfl) rfl (fun v10 => ?_)
        refine s_goto (n := 58) hX (dec_of D_X10_paidTo (i := 30) rfl) rfl ?_
        refine s_iadd (n := 59) hX (dec_of D_X10_paidTo (i := 32) rfl) rfl ?_
        refine s_topi (fun x11 => ?_)
        refine s_istore (lv' := [(0, _), (1, _), (2, _), (3, _), (5, _), (6, _)]) [1, 2, 3, 4, 0, 5] (n := 61) hX (dec_of D_X10_paidTo (i := 33) rfl) rfl (by decide) rfl ?_
        refine s_iinc (v := z2.2 + 1) (lv' := [(0, _), (1, _), (2, _), (3, _), (5, _), (6, _)]) 5 [1, 2, 3, 4, 5, 0] (n := 64) hX (dec_of D_X10_paidTo (i := 34) rfl) rfl rfl rfl (by decide) rfl ?_
        refine s_goto (n := 13) hX (dec_of D_X10_paidTo (i := 35) rfl) rfl ?_
        exact s_sub [0, 1, 2, 3, 4, 5] rfl (hre4 (x11, (z2.2 + 1)))
def T_X10_keeps : List (Nat × Instr × Nat) := [(0, .aload_n 0, 1), (1, .getfield 238, 3), (4, .bipush 12, 2), (6, .if_icmp .ne 48, 3), (9, .sipush 2689, 3), (12, .istore_n 1, 1), (13, .iload_n 1, 1), (14, .aload_n 0, 1), (15, .getfield 31, 3), (18, .arraylength, 1), (19, .if_icmp .ge 25, 3), (22, .aload_n 0, 1), (23, .getfield 31, 3), (26, .iload_n 1, 1), (27, .sipush 2689, 3), (30, .isub, 1), (31, .aload_n 0, 1), (32, .getfield 31, 3), (35, .iload_n 1, 1), (36, .iaload, 1), (37, .iastore, 1), (38, .iinc 1 1, 3), (41, .goto (-28), 3), (44, .aload_n 0, 1), (45, .dup, 1), (46, .getfield 238, 3), (49, .iconst 1, 1), (50, .isub, 1), (51, .putfield 238, 3), (54, .iconst 0, 1), (55, .istore_n 1, 1), (56, .iload_n 1, 1), (57, .sipush 2689, 3), (60, .if_icmp .ge 30, 3), (63, .aload_n 0, 1), (64, .getfield 31, 3), (67, .sipush 2689, 3), (70, .aload_n 0, 1), (71, .getfield 238, 3), (74, .imul, 1), (75, .iload_n 1, 1), (76, .iadd, 1), (77, .aload_n 0, 1), (78, .getfield 28, 3), (81, .iload_n 1, 1), (82, .iaload, 1), (83, .iastore, 1), (84, .iinc 1 1, 3), (87, .goto (-31), 3), (90, .aload_n 0, 1), (91, .dup, 1), (92, .getfield 238, 3), (95, .iconst 1, 1), (96, .iadd, 1), (97, .putfield 238, 3), (100, .return_, 1)]
theorem D_X10_keeps : dchk cX10_keeps T_X10_keeps = true := by decide +kernel
def Mo_keeps (σ : ST)  : Option ST :=
  lk_ (fun kk2 => (if (gF σ 856 0) = 12 then lp_ (fun rec11 (z10 : ST × Int32) => (if 32268 ≤ z10.2 then lt_ (setF z10.1 856 0 ((gF z10.1 856 0) - 1)) (fun s13 => kk2 s13) else bd_ (ldI z10.1 35 0 z10.2) (fun v14 => bd_ (stI z10.1 35 0 (z10.2 - 2689) v14) (fun s15 => rec11 (s15, (z10.2 + 1)))))) FU (σ, 2689) else kk2 (σ))) (fun (j1 : ST) => lp_ (fun rec5 (z4 : ST × Int32) => (if 2689 ≤ z4.2 then lt_ (setF z4.1 856 0 ((gF z4.1 856 0) + 1)) (fun s7 => some s7) else bd_ (ldI z4.1 34 0 z4.2) (fun v8 => bd_ (stI z4.1 35 0 ((2689 * (gF z4.1 856 0)) + z4.2) v8) (fun s9 => rec5 (s9, (z4.2 + 1)))))) FU (j1, 0))
set_option maxHeartbeats 4000000 in
set_option maxRecDepth 100000 in
theorem c_X10_keeps {G : GW} (hG : Good G) {l : Launch} (σ : ST)  : Ctr G l yX10_keeps cX10_keeps 2 none 0 [.ref (ga G 131 0)] σ oV (Mo_keeps σ ) := by
  refine ctr_of hG (by decide) (Nat.le_of_ble_eq_true rfl) ?_
  intro X hXl hR hX
  have hX : Ok G X cX10_keeps 2 RX10 0 := hX
  unfold Mo_keeps
  show Sim G X 2 (MQX G X oV) σ 0 [(0, .ref (ga G 131 0))] [] _
  refine s_aload_n 0 (n := 1) hX (dec_of D_X10_keeps (i := 0) rfl) rfl rfl rfl ?_
  refine s_getI (c := 10) (p := 16) (id := 856) (n := 4) hX cls10 (vk131 (by omega)) (dec_of D_X10_keeps (i := 1) rfl) rfl rfl wd_1362 ?_
  refine s_bipush (v := 12) (n := 6) hX (dec_of D_X10_keeps (i := 2) rfl) rfl (by decide) ?_
  refine s_lk (pcj := 54) (Sf := fun (j1 : ST) => j1) (lvf := fun (j1 : ST) => [(0, .ref (ga G 131 0))]) (stf := fun (j1 : ST) => []) (fun j1 => ?_) (fun kk2 hkk3 => ?_)
  · refine s_iconst (v := 0) (n := 55) hX (dec_of D_X10_keeps (i := 29) rfl) rfl (by decide) ?_
    refine s_istore_n (lv' := [(0, _), (1, _)]) [1, 0] (n := 56) hX (dec_of D_X10_keeps (i := 30) rfl) rfl rfl (by decide) rfl ?_
    refine s_sub [0, 1] rfl (s_lp (pc := 56) (Sf := fun (z4 : ST × Int32) => z4.1) (lvf := fun (z4 : ST × Int32) => [(0, .ref (ga G 131 0)), (1, .int z4.2)]) (fun rec5 hre6 z4 => ?_) FU (j1, 0))
    refine s_iload_n 1 (n := 57) hX (dec_of D_X10_keeps (i := 31) rfl) rfl rfl rfl ?_
    refine s_sipush (v := 2689) (n := 60) hX (dec_of D_X10_keeps (i := 32) rfl) rfl (by decide) ?_
    refine s_icmp_ge (tgt := 90) (n := 63) hX (dec_of D_X10_keeps (i := 33) rfl) rfl rfl ?_ ?_
    · refine s_aload_n 0 (n := 91) hX (dec_of D_X10_keeps (i := 49) rfl) rfl rfl rfl ?_
      refine s_dup (n := 92) hX (dec_of D_X10_keeps (i := 50) rfl) rfl rfl ?_
      refine s_getI (c := 10) (p := 16) (id := 856) (n := 95) hX cls10 (vk131 (by omega)) (dec_of D_X10_keeps (i := 51) rfl) rfl rfl wd_1362 ?_
      refine s_iconst (v := 1) (n := 96) hX (dec_of D_X10_keeps (i := 52) rfl) rfl (by decide) ?_
      refine s_iadd (n := 97) hX (dec_of D_X10_keeps (i := 53) rfl) rfl ?_
      refine s_putI (c := 10) (p := 16) (n := 100) hX cls10 (vk131 (by omega)) (dec_of D_X10_keeps (i := 54) rfl) rfl rfl (by decide) wd_1362 rfl rfl rfl (fun s7 => ?_)
      exact s_vret hX hR (dec_of D_X10_keeps (i := 55) rfl) rfl
    · refine s_aload_n 0 (n := 64) hX (dec_of D_X10_keeps (i := 34) rfl) rfl rfl rfl ?_
      refine s_getR (c := 10) (p := 15) (k' := 35) (n := 67) hX cls10 (vk131 (by omega)) (dec_of D_X10_keeps (i := 35) rfl) rfl rfl wd_1361 ?_
      refine s_sipush (v := 2689) (n := 70) hX (dec_of D_X10_keeps (i := 36) rfl) rfl (by decide) ?_
      refine s_aload_n 0 (n := 71) hX (dec_of D_X10_keeps (i := 37) rfl) rfl rfl rfl ?_
      refine s_getI (c := 10) (p := 16) (id := 856) (n := 74) hX cls10 (vk131 (by omega)) (dec_of D_X10_keeps (i := 38) rfl) rfl rfl wd_1362 ?_
      refine s_imul (n := 75) hX (dec_of D_X10_keeps (i := 39) rfl) rfl ?_
      refine s_iload_n 1 (n := 76) hX (dec_of D_X10_keeps (i := 40) rfl) rfl rfl rfl ?_
      refine s_iadd (n := 77) hX (dec_of D_X10_keeps (i := 41) rfl) rfl ?_
      refine s_aload_n 0 (n := 78) hX (dec_of D_X10_keeps (i := 42) rfl) rfl rfl rfl ?_
      refine s_getR (c := 10) (p := 14) (k' := 34) (n := 81) hX cls10 (vk131 (by omega)) (dec_of D_X10_keeps (i := 43) rfl) rfl rfl wd_1360 ?_
      refine s_iload_n 1 (n := 82) hX (dec_of D_X10_keeps (i := 44) rfl) rfl rfl rfl ?_
      refine s_iald (n := 83) hX (vk34 (by omega)) (by decide) (dec_of D_X10_keeps (i := 45) rfl) rfl (fun v8 => ?_)
      refine s_iast (n := 84) hX (vk35 (by omega)) (by decide) (dec_of D_X10_keeps (i := 46) rfl) rfl (fun s9 => ?_)
      refine s_iinc (v := z4.2 + 1) (lv' := [(0, _), (1, _)]) 1 [1, 0] (n := 87) hX (dec_of D_X10_keeps (i := 47) rfl) rfl rfl rfl (by decide) rfl ?_
      refine s_goto (n := 56) hX (dec_of D_X10_keeps (i := 48) rfl) rfl ?_
      exact s_sub [0, 1] rfl (hre6 (s9, (z4.2 + 1)))
  · refine s_icmp_ne (tgt := 54) (n := 9) hX (dec_of D_X10_keeps (i := 3) rfl) rfl rfl ?_ ?_
    · exact s_sub [0] rfl (hkk3 (σ))
    · refine s_sipush (v := 2689) (n := 12) hX (dec_of D_X10_keeps (i := 4) rfl) rfl (by decide) ?_
      refine s_istore_n (lv' := [(0, _), (1, _)]) [1, 0] (n := 13) hX (dec_of D_X10_keeps (i := 5) rfl) rfl rfl (by decide) rfl ?_
      refine s_sub [0, 1] rfl (s_lp (pc := 13) (Sf := fun (z10 : ST × Int32) => z10.1) (lvf := fun (z10 : ST × Int32) => [(0, .ref (ga G 131 0)), (1, .int z10.2)]) (fun rec11 hre12 z10 => ?_) FU (σ, 2689))
      refine s_iload_n 1 (n := 14) hX (dec_of D_X10_keeps (i := 6) rfl) rfl rfl rfl ?_
      refine s_aload_n 0 (n := 15) hX (dec_of D_X10_keeps (i := 7) rfl) rfl rfl rfl ?_
      refine s_getR (c := 10) (p := 15) (k' := 35) (n := 18) hX cls10 (vk131 (by omega)) (dec_of D_X10_keeps (i := 8) rfl) rfl rfl wd_1361 ?_
      refine s_alen (N := 32268) (n := 19) hX (vk35 (by omega)) (by decide) (dec_of D_X10_keeps (i := 9) rfl) rfl (by decide) ?_
      refine s_icmp_ge (tgt := 44) (n := 22) hX (dec_of D_X10_keeps (i := 10) rfl) rfl rfl ?_ ?_
      · refine s_aload_n 0 (n := 45) hX (dec_of D_X10_keeps (i := 23) rfl) rfl rfl rfl ?_
        refine s_dup (n := 46) hX (dec_of D_X10_keeps (i := 24) rfl) rfl rfl ?_
        refine s_getI (c := 10) (p := 16) (id := 856) (n := 49) hX cls10 (vk131 (by omega)) (dec_of D_X10_keeps (i := 25) rfl) rfl rfl wd_1362 ?_
        refine s_iconst (v := 1) (n := 50) hX (dec_of D_X10_keeps (i := 26) rfl) rfl (by decide) ?_
        refine s_isub (n := 51) hX (dec_of D_X10_keeps (i := 27) rfl) rfl ?_
        refine s_putI (c := 10) (p := 16) (n := 54) hX cls10 (vk131 (by omega)) (dec_of D_X10_keeps (i := 28) rfl) rfl rfl (by decide) wd_1362 rfl rfl rfl (fun s13 => ?_)
        exact s_sub [0] rfl (hkk3 s13)
      · refine s_aload_n 0 (n := 23) hX (dec_of D_X10_keeps (i := 11) rfl) rfl rfl rfl ?_
        refine s_getR (c := 10) (p := 15) (k' := 35) (n := 26) hX cls10 (vk131 (by omega)) (dec_of D_X10_keeps (i := 12) rfl) rfl rfl wd_1361 ?_
        refine s_iload_n 1 (n := 27) hX (dec_of D_X10_keeps (i := 13) rfl) rfl rfl rfl ?_
        refine s_sipush (v := 2689) (n := 30) hX (dec_of D_X10_keeps (i := 14) rfl) rfl (by decide) ?_
        refine s_isub (n := 31) hX (dec_of D_X10_keeps (i := 15) rfl) rfl ?_
        refine s_aload_n 0 (n := 32) hX (dec_of D_X10_keeps (i := 16) rfl) rfl rfl rfl ?_
        refine s_getR (c := 10) (p := 15) (k' := 35) (n := 35) hX cls10 (vk131 (by omega)) (dec_of D_X10_keeps (i := 17) rfl) rfl rfl wd_1361 ?_
        refine s_iload_n 1 (n := 36) hX (dec_of D_X10_keeps (i := 18) rfl) rfl rfl rfl ?_
        refine s_iald (n := 37) hX (vk35 (by omega)) (by decide) (dec_of D_X10_keeps (i := 19) rfl) rfl (fun v14 => ?_)
        refine s_iast (n := 38) hX (vk35 (by omega)) (by decide) (dec_of D_X10_keeps (i := 20) rfl) rfl (fun s15 => ?_)
        refine s_iinc (v := z10.2 + 1) (lv' := [(0, _), (1, _)]) 1 [1, 0] (n := 41) hX (dec_of D_X10_keeps (i := 21) rfl) rfl rfl rfl (by decide) rfl ?_
        refine s_goto (n := 13) hX (dec_of D_X10_keeps (i := 22) rfl) rfl ?_
        exact s_sub [0, 1] rfl (hre12 (s15, (z10.2 + 1)))
def T_X10_undo : List (Nat × Instr × Nat) := [(0, .aload_n 0, 1), (1, .iconst 0, 1), (2, .putfield 86, 3), (5, .aload_n 0, 1), (6, .getfield 238, 3), (9, .ifCond .ne 5, 3), (12, .iconst (-1), 1), (13, .ireturn, 1), (14, .aload_n 0, 1), (15, .dup, 1), (16, .getfield 238, 3), (19, .iconst 1, 1), (20, .isub, 1), (21, .putfield 238, 3), (24, .iconst 0, 1), (25, .istore_n 1, 1), (26, .iload_n 1, 1), (27, .sipush 2689, 3), (30, .if_icmp .ge 30, 3), (33, .aload_n 0, 1), (34, .getfield 28, 3), (37, .iload_n 1, 1), (38, .aload_n 0, 1), (39, .getfield 31, 3), (42, .sipush 2689, 3), (45, .aload_n 0, 1), (46, .getfield 238, 3), (49, .imul, 1), (50, .iload_n 1, 1), (51, .iadd, 1), (52, .iaload, 1), (53, .iastore, 1), (54, .iinc 1 1, 3), (57, .goto (-31), 3), (60, .aload_n 0, 1), (61, .getfield 238, 3), (64, .ireturn, 1)]
theorem D_X10_undo : dchk cX10_undo T_X10_undo = true := by decide +kernel
def Mo_undo (σ : ST)  : Option (Int32 × ST) :=
  lt_ (setF σ 840 0 0) (fun s1 => (if (gF s1 856 0) = 0 then some ((-1), s1) else lt_ (setF s1 856 0 ((gF s1 856 0) - 1)) (fun s2 => lp_ (fun rec4 (z3 : ST × Int32) => (if 2689 ≤ z3.2 then some ((gF z3.1 856 0), z3.1) else bd_ (ldI z3.1 35 0 ((2689 * (gF z3.1 856 0)) + z3.2)) (fun v6 => bd_ (stI z3.1 34 0 z3.2 v6) (fun s7 => rec4 (s7, (z3.2 + 1)))))) FU (s2, 0))))
set_option maxHeartbeats 4000000 in
set_option maxRecDepth 100000 in
theorem c_X10_undo {G : GW} (hG : Good G) {l : Launch} (σ : ST)  : Ctr G l yX10_undo cX10_undo 2 (some .int) 0 [.ref (ga G 131 0)] σ oP (Mo_undo σ ) := by
  refine ctr_of hG (by decide) (Nat.le_of_ble_eq_true rfl) ?_
  intro X hXl hR hX
  have hX : Ok G X cX10_undo 2 RX10 0 := hX
  unfold Mo_undo
  show Sim G X 2 (MQX G X oP) σ 0 [(0, .ref (ga G 131 0))] [] _
  refine s_aload_n 0 (n := 1) hX (dec_of D_X10_undo (i := 0) rfl) rfl rfl rfl ?_
  refine s_iconst (v := 0) (n := 2) hX (dec_of D_X10_undo (i := 1) rfl) rfl (by decide) ?_
  refine s_putI (c := 10) (p := 0) (n := 5) hX cls10 (vk131 (by omega)) (dec_of D_X10_undo (i := 2) rfl) rfl rfl (by decide) wd_1346 rfl rfl rfl (fun s1 => ?_)
  refine s_aload_n 0 (n := 6) hX (dec_of D_X10_undo (i := 3) rfl) rfl rfl rfl ?_
  refine s_getI (c := 10) (p := 16) (id := 856) (n := 9) hX cls10 (vk131 (by omega)) (dec_of D_X10_undo (i := 4) rfl) rfl rfl wd_1362 ?_
  refine s_if_ne (tgt := 14) (n := 12) hX (dec_of D_X10_undo (i := 5) rfl) rfl rfl ?_ ?_
  · refine s_aload_n 0 (n := 15) hX (dec_of D_X10_undo (i := 8) rfl) rfl rfl rfl ?_
    refine s_dup (n := 16) hX (dec_of D_X10_undo (i := 9) rfl) rfl rfl ?_
    refine s_getI (c := 10) (p := 16) (id := 856) (n := 19) hX cls10 (vk131 (by omega)) (dec_of D_X10_undo (i := 10) rfl) rfl rfl wd_1362 ?_
    refine s_iconst (v := 1) (n := 20) hX (dec_of D_X10_undo (i := 11) rfl) rfl (by decide) ?_
    refine s_isub (n := 21) hX (dec_of D_X10_undo (i := 12) rfl) rfl ?_
    refine s_putI (c := 10) (p := 16) (n := 24) hX cls10 (vk131 (by omega)) (dec_of D_X10_undo (i := 13) rfl) rfl rfl (by decide) wd_1362 rfl rfl rfl (fun s2 => ?_)
    refine s_iconst (v := 0) (n := 25) hX (dec_of D_X10_undo (i := 14) rfl) rfl (by decide) ?_
    refine s_istore_n (lv' := [(0, _), (1, _)]) [1, 0] (n := 26) hX (dec_of D_X10_undo (i := 15) rfl) rfl rfl (by decide) rfl ?_
    refine s_sub [0, 1] rfl (s_lp (pc := 26) (Sf := fun (z3 : ST × Int32) => z3.1) (lvf := fun (z3 : ST × Int32) => [(0, .ref (ga G 131 0)), (1, .int z3.2)]) (fun rec4 hre5 z3 => ?_) FU (s2, 0))
    refine s_iload_n 1 (n := 27) hX (dec_of D_X10_undo (i := 16) rfl) rfl rfl rfl ?_
    refine s_sipush (v := 2689) (n := 30) hX (dec_of D_X10_undo (i := 17) rfl) rfl (by decide) ?_
    refine s_icmp_ge (tgt := 60) (n := 33) hX (dec_of D_X10_undo (i := 18) rfl) rfl rfl ?_ ?_
    · refine s_aload_n 0 (n := 61) hX (dec_of D_X10_undo (i := 34) rfl) rfl rfl rfl ?_
      refine s_getI (c := 10) (p := 16) (id := 856) (n := 64) hX cls10 (vk131 (by omega)) (dec_of D_X10_undo (i := 35) rfl) rfl rfl wd_1362 ?_
      exact s_iret hX hR (dec_of D_X10_undo (i := 36) rfl) rfl
    · refine s_aload_n 0 (n := 34) hX (dec_of D_X10_undo (i := 19) rfl) rfl rfl rfl ?_
      refine s_getR (c := 10) (p := 14) (k' := 34) (n := 37) hX cls10 (vk131 (by omega)) (dec_of D_X10_undo (i := 20) rfl) rfl rfl wd_1360 ?_
      refine s_iload_n 1 (n := 38) hX (dec_of D_X10_undo (i := 21) rfl) rfl rfl rfl ?_
      refine s_aload_n 0 (n := 39) hX (dec_of D_X10_undo (i := 22) rfl) rfl rfl rfl ?_
      refine s_getR (c := 10) (p := 15) (k' := 35) (n := 42) hX cls10 (vk131 (by omega)) (dec_of D_X10_undo (i := 23) rfl) rfl rfl wd_1361 ?_
      refine s_sipush (v := 2689) (n := 45) hX (dec_of D_X10_undo (i := 24) rfl) rfl (by decide) ?_
      refine s_aload_n 0 (n := 46) hX (dec_of D_X10_undo (i := 25) rfl) rfl rfl rfl ?_
      refine s_getI (c := 10) (p := 16) (id := 856) (n := 49) hX cls10 (vk131 (by omega)) (dec_of D_X10_undo (i := 26) rfl) rfl rfl wd_1362 ?_
      refine s_imul (n := 50) hX (dec_of D_X10_undo (i := 27) rfl) rfl ?_
      refine s_iload_n 1 (n := 51) hX (dec_of D_X10_undo (i := 28) rfl) rfl rfl rfl ?_
      refine s_iadd (n := 52) hX (dec_of D_X10_undo (i := 29) rfl) rfl ?_
      refine s_iald (n := 53) hX (vk35 (by omega)) (by decide) (dec_of D_X10_undo (i := 30) rfl) rfl (fun v6 => ?_)
      refine s_iast (n := 54) hX (vk34 (by omega)) (by decide) (dec_of D_X10_undo (i := 31) rfl) rfl (fun s7 => ?_)
      refine s_iinc (v := z3.2 + 1) (lv' := [(0, _), (1, _)]) 1 [1, 0] (n := 57) hX (dec_of D_X10_undo (i := 32) rfl) rfl rfl rfl (by decide) rfl ?_
      refine s_goto (n := 26) hX (dec_of D_X10_undo (i := 33) rfl) rfl ?_
      exact s_sub [0, 1] rfl (hre5 (s7, (z3.2 + 1)))
  · refine s_iconst (v := (-1)) (n := 13) hX (dec_of D_X10_undo (i := 6) rfl) rfl (by decide) ?_
    exact s_iret hX hR (dec_of D_X10_undo (i := 7) rfl) rfl
def T_X10_isTooMuch : List (Nat × Instr × Nat) := [(0, .aload_n 0, 1), (1, .getfield 28, 3), (4, .sipush 198, 3), (7, .iload_n 1, 1), (8, .iadd, 1), (9, .iaload, 1), (10, .iload_n 2, 1), (11, .iadd, 1), (12, .ldc_w 323, 3), (15, .if_icmp .le 7, 3), (18, .iconst 1, 1), (19, .goto 4, 3), (22, .iconst 0, 1), (23, .ireturn, 1)]
theorem D_X10_isTooMuch : dchk cX10_isTooMuch T_X10_isTooMuch = true := by decide +kernel
def Mo_isTooMuch (σ : ST) (a1 : Int32) (a2 : Int32) : Option Int32 :=
  bd_ (ldI σ 34 0 (198 + a1)) (fun v1 => (if (v1 + a2) ≤ 300000000 then some 0 else some 1))
set_option maxHeartbeats 4000000 in
set_option maxRecDepth 100000 in
theorem c_X10_isTooMuch {G : GW} (hG : Good G) {l : Launch} (σ : ST) (a1 : Int32) (a2 : Int32) : Ctr G l yX10_isTooMuch cX10_isTooMuch 3 (some .boolean) 0 [.ref (ga G 131 0), .int a1, .int a2] σ (oI σ) (Mo_isTooMuch σ a1 a2) := by
  refine ctr_of hG (by decide) (Nat.le_of_ble_eq_true rfl) ?_
  intro X hXl hR hX
  have hX : Ok G X cX10_isTooMuch 3 RX10 0 := hX
  unfold Mo_isTooMuch
  show Sim G X 3 (MQX G X (oI σ)) σ 0 [(0, .ref (ga G 131 0)), (1, .int a1), (2, .int a2)] [] _
  refine s_aload_n 0 (n := 1) hX (dec_of D_X10_isTooMuch (i := 0) rfl) rfl rfl rfl ?_
  refine s_getR (c := 10) (p := 14) (k' := 34) (n := 4) hX cls10 (vk131 (by omega)) (dec_of D_X10_isTooMuch (i := 1) rfl) rfl rfl wd_1360 ?_
  refine s_sipush (v := 198) (n := 7) hX (dec_of D_X10_isTooMuch (i := 2) rfl) rfl (by decide) ?_
  refine s_iload_n 1 (n := 8) hX (dec_of D_X10_isTooMuch (i := 3) rfl) rfl rfl rfl ?_
  refine s_iadd (n := 9) hX (dec_of D_X10_isTooMuch (i := 4) rfl) rfl ?_
  refine s_iald (n := 10) hX (vk34 (by omega)) (by decide) (dec_of D_X10_isTooMuch (i := 5) rfl) rfl (fun v1 => ?_)
  refine s_iload_n 2 (n := 11) hX (dec_of D_X10_isTooMuch (i := 6) rfl) rfl rfl rfl ?_
  refine s_iadd (n := 12) hX (dec_of D_X10_isTooMuch (i := 7) rfl) rfl ?_
  refine s_ldcw (v := 300000000) (n := 15) hX (dec_of D_X10_isTooMuch (i := 8) rfl) rfl wd_1736 ?_
  refine s_icmp_le (tgt := 22) (n := 18) hX (dec_of D_X10_isTooMuch (i := 9) rfl) rfl rfl ?_ ?_
  · refine s_iconst (v := 0) (n := 23) hX (dec_of D_X10_isTooMuch (i := 12) rfl) rfl (by decide) ?_
    exact s_zret hX hR (dec_of D_X10_isTooMuch (i := 13) rfl) rfl rfl
  · refine s_iconst (v := 1) (n := 19) hX (dec_of D_X10_isTooMuch (i := 10) rfl) rfl (by decide) ?_
    refine s_goto (n := 23) hX (dec_of D_X10_isTooMuch (i := 11) rfl) rfl ?_
    exact s_zret hX hR (dec_of D_X10_isTooMuch (i := 13) rfl) rfl rfl
def T_X10_pays_ : List (Nat × Instr × Nat) := [(0, .aload_n 0, 1), (1, .getfield 28, 3), (4, .iconst 0, 1), (5, .bipush 6, 2), (7, .iload_n 1, 1), (8, .imul, 1), (9, .iadd, 1), (10, .iload_n 2, 1), (11, .iadd, 1), (12, .dup2, 1), (13, .iaload, 1), (14, .iload_n 3, 1), (15, .iadd, 1), (16, .iastore, 1), (17, .aload_n 0, 1), (18, .getfield 28, 3), (21, .bipush 96, 2), (23, .bipush 6, 2), (25, .iload_n 1, 1), (26, .imul, 1), (27, .iadd, 1), (28, .iload_n 2, 1), (29, .iadd, 1), (30, .dup2, 1), (31, .iaload, 1), (32, .iload 4, 2), (34, .ifCond .eq 7, 3), (37, .iload_n 3, 1), (38, .goto 4, 3), (41, .iconst 0, 1), (42, .iadd, 1), (43, .iastore, 1), (44, .return_, 1)]
theorem D_X10_pays_ : dchk cX10_pays_ T_X10_pays_ = true := by decide +kernel
def Mo_pays_2 (σ : ST) (a1 : Int32) (a2 : Int32) (a3 : Int32) (a4 : Int32) : Option ST :=
  bd_ (ldI σ 34 0 ((0 + (6 * a1)) + a2)) (fun v1 => bd_ (stI σ 34 0 ((0 + (6 * a1)) + a2) (v1 + a3)) (fun s2 => bd_ (ldI s2 34 0 ((96 + (6 * a1)) + a2)) (fun v3 => (if a4 = 0 then bd_ (stI s2 34 0 ((96 + (6 * a1)) + a2) (v3 + 0)) (fun s4 => some s4) else bd_ (stI s2 34 0 ((96 + (6 * a1)) + a2) (v3 + a3)) (fun s5 => some s5)))))
set_option maxHeartbeats 4000000 in
set_option maxRecDepth 100000 in
theorem c_X10_pays_ {G : GW} (hG : Good G) {l : Launch} (σ : ST) (a1 : Int32) (a2 : Int32) (a3 : Int32) (a4 : Int32) : Ctr G l yX10_pays_ cX10_pays_ 5 none 0 [.ref (ga G 131 0), .int a1, .int a2, .int a3, .int a4] σ oV (Mo_pays_2 σ a1 a2 a3 a4) := by
  refine ctr_of hG (by decide) (Nat.le_of_ble_eq_true rfl) ?_
  intro X hXl hR hX
  have hX : Ok G X cX10_pays_ 5 RX10 0 := hX
  unfold Mo_pays_2
  show Sim G X 5 (MQX G X oV) σ 0 [(0, .ref (ga G 131 0)), (1, .int a1), (2, .int a2), (3, .int a3), (4, .int a4)] [] _
  refine s_aload_n 0 (n := 1) hX (dec_of D_X10_pays_ (i := 0) rfl) rfl rfl rfl ?_
  refine s_getR (c := 10) (p := 14) (k' := 34) (n := 4) hX cls10 (vk131 (by omega)) (dec_of D_X10_pays_ (i := 1) rfl) rfl rfl wd_1360 ?_
  refine s_iconst (v := 0) (n := 5) hX (dec_of D_X10_pays_ (i := 2) rfl) rfl (by decide) ?_
  refine s_bipush (v := 6) (n := 7) hX (dec_of D_X10_pays_ (i := 3) rfl) rfl (by decide) ?_
  refine s_iload_n 1 (n := 8) hX (dec_of D_X10_pays_ (i := 4) rfl) rfl rfl rfl ?_
  refine s_imul (n := 9) hX (dec_of D_X10_pays_ (i := 5) rfl) rfl ?_
  refine s_iadd (n := 10) hX (dec_of D_X10_pays_ (i := 6) rfl) rfl ?_
  refine s_iload_n 2 (n := 11) hX (dec_of D_X10_pays_ (i := 7) rfl) rfl rfl rfl ?_
  refine s_iadd (n := 12) hX (dec_of D_X10_pays_ (i := 8) rfl) rfl ?_
  refine s_dup2 (n := 13) hX (dec_of D_X10_pays_ (i := 9) rfl) rfl rfl rfl ?_
  refine s_iald (n := 14) hX (vk34 (by omega)) (by decide) (dec_of D_X10_pays_ (i := 10) rfl) rfl (fun v1 => ?_)
  refine s_iload_n 3 (n := 15) hX (dec_of D_X10_pays_ (i := 11) rfl) rfl rfl rfl ?_
  refine s_iadd (n := 16) hX (dec_of D_X10_pays_ (i := 12) rfl) rfl ?_
  refine s_iast (n := 17) hX (vk34 (by omega)) (by decide) (dec_of D_X10_pays_ (i := 13) rfl) rfl (fun s2 => ?_)
  refine s_aload_n 0 (n := 18) hX (dec_of D_X10_pays_ (i := 14) rfl) rfl rfl rfl ?_
  refine s_getR (c := 10) (p := 14) (k' := 34) (n := 21) hX cls10 (vk131 (by omega)) (dec_of D_X10_pays_ (i := 15) rfl) rfl rfl wd_1360 ?_
  refine s_bipush (v := 96) (n := 23) hX (dec_of D_X10_pays_ (i := 16) rfl) rfl (by decide) ?_
  refine s_bipush (v := 6) (n := 25) hX (dec_of D_X10_pays_ (i := 17) rfl) rfl (by decide) ?_
  refine s_iload_n 1 (n := 26) hX (dec_of D_X10_pays_ (i := 18) rfl) rfl rfl rfl ?_
  refine s_imul (n := 27) hX (dec_of D_X10_pays_ (i := 19) rfl) rfl ?_
  refine s_iadd (n := 28) hX (dec_of D_X10_pays_ (i := 20) rfl) rfl ?_
  refine s_iload_n 2 (n := 29) hX (dec_of D_X10_pays_ (i := 21) rfl) rfl rfl rfl ?_
  refine s_iadd (n := 30) hX (dec_of D_X10_pays_ (i := 22) rfl) rfl ?_
  refine s_dup2 (n := 31) hX (dec_of D_X10_pays_ (i := 23) rfl) rfl rfl rfl ?_
  refine s_iald (n := 32) hX (vk34 (by omega)) (by decide) (dec_of D_X10_pays_ (i := 24) rfl) rfl (fun v3 => ?_)
  refine s_iload 4 (n := 34) hX (dec_of D_X10_pays_ (i := 25) rfl) rfl rfl ?_
  refine s_if_eq (tgt := 41) (n := 37) hX (dec_of D_X10_pays_ (i := 26) rfl) rfl rfl ?_ ?_
  · refine s_iconst (v := 0) (n := 42) hX (dec_of D_X10_pays_ (i := 29) rfl) rfl (by decide) ?_
    refine s_iadd (n := 43) hX (dec_of D_X10_pays_ (i := 30) rfl) rfl ?_
    refine s_iast (n := 44) hX (vk34 (by omega)) (by decide) (dec_of D_X10_pays_ (i := 31) rfl) rfl (fun s4 => ?_)
    exact s_vret hX hR (dec_of D_X10_pays_ (i := 32) rfl) rfl
  · refine s_iload_n 3 (n := 38) hX (dec_of D_X10_pays_ (i := 27) rfl) rfl rfl rfl ?_
    refine s_goto (n := 42) hX (dec_of D_X10_pays_ (i := 28) rfl) rfl ?_
    refine s_iadd (n := 43) hX (dec_of D_X10_pays_ (i := 30) rfl) rfl ?_
    refine s_iast (n := 44) hX (vk34 (by omega)) (by decide) (dec_of D_X10_pays_ (i := 31) rfl) rfl (fun s5 => ?_)
    exact s_vret hX hR (dec_of D_X10_pays_ (i := 32) rfl) rfl
theorem lk_RX10_324 : LkS RX10 324 yX10_areCopies cX10_areCopies 1 (some .boolean) 1 := ⟨wd_1729, wd_1730, wd_93, wd_1731, by decide +kernel, by decide⟩
theorem lk_RX10_327 : LkV RX10 327 RX10 yX10_isTooMuch cX10_isTooMuch 3 (some .boolean) 2 := ⟨wd_1732, wd_1734, wd_53, wd_93, wd_1735, by decide +kernel, by decide⟩
theorem lk_RX10_330 : LkV RX10 330 RX10 yX10_keeps cX10_keeps 2 none 0 := ⟨wd_1737, wd_1739, wd_54, wd_93, wd_1740, by decide +kernel, by decide⟩
theorem lk_RX10_333 : LkV RX10 333 RX10 yX10_sumOf cX10_sumOf 7 (some .int) 4 := ⟨wd_1741, wd_1743, wd_55, wd_93, wd_1744, by decide +kernel, by decide⟩
theorem lk_RX10_337 : LkV RX10 337 RX10 yX10_pays_ cX10_pays_ 5 none 4 := ⟨wd_1766, wd_1768, wd_61, wd_93, wd_1769, by decide +kernel, by decide⟩
def T_X10_play : List (Nat × Instr × Nat) := [(0, .aload_n 0, 1), (1, .iconst 0, 1), (2, .putfield 86, 3), (5, .aload_n 0, 1), (6, .iload_n 1, 1), (7, .invokevirtual 257, 3), (10, .ifCond .eq 18, 3), (13, .aload_n 0, 1), (14, .iload_n 2, 1), (15, .invokevirtual 241, 3), (18, .ifCond .eq 10, 3), (21, .iload_n 3, 1), (22, .invokestatic 324, 3), (25, .ifCond .ne 5, 3), (28, .iconst (-1), 1), (29, .ireturn, 1), (30, .iload_n 3, 1), (31, .aload_n 0, 1), (32, .getfield 13, 3), (35, .iload_n 1, 1), (36, .iaload, 1), (37, .imul, 1), (38, .istore 4, 2), (40, .aload_n 0, 1), (41, .iload_n 1, 1), (42, .iload 4, 2), (44, .invokevirtual 327, 3), (47, .ifCond .eq 6, 3), (50, .bipush (-2), 2), (52, .ireturn, 1), (53, .aload_n 0, 1), (54, .invokevirtual 330, 3), (57, .aload_n 0, 1), (58, .getfield 28, 3), (61, .sipush 198, 3), (64, .iload_n 1, 1), (65, .iadd, 1), (66, .dup2, 1), (67, .iaload, 1), (68, .iload 4, 2), (70, .iadd, 1), (71, .iastore, 1), (72, .aload_n 0, 1), (73, .getfield 28, 3), (76, .sipush 2644, 3), (79, .iload_n 2, 1), (80, .iadd, 1), (81, .dup2, 1), (82, .iaload, 1), (83, .iload_n 3, 1), (84, .iadd, 1), (85, .iastore, 1), (86, .aload_n 0, 1), (87, .getfield 28, 3), (90, .sipush 2652, 3), (93, .iload_n 2, 1), (94, .iadd, 1), (95, .dup2, 1), (96, .iaload, 1), (97, .iload 4, 2), (99, .iadd, 1), (100, .iastore, 1), (101, .aload_n 0, 1), (102, .iload_n 1, 1), (103, .iload_n 2, 1), (104, .iload 4, 2), (106, .iconst 0, 1), (107, .invokevirtual 333, 3), (110, .istore 5, 2), (112, .iconst 0, 1), (113, .istore 6, 2), (115, .iload 6, 2), (117, .aload_n 0, 1), (118, .iload_n 2, 1), (119, .invokevirtual 305, 3), (122, .if_icmp .ge 105, 3), (125, .aload_n 0, 1), (126, .iload_n 1, 1), (127, .iload_n 2, 1), (128, .iload 6, 2), (130, .invokevirtual 320, 3), (133, .istore 7, 2), (135, .iload 7, 2), (137, .ifCond .ne 26, 3), (140, .aload_n 0, 1), (141, .aload_n 0, 1), (142, .iload_n 2, 1), (143, .iload 6, 2), (145, .invokevirtual 313, 3), (148, .iload_n 1, 1), (149, .aload_n 0, 1), (150, .getfield 71, 3), (153, .iload 6, 2), (155, .iaload, 1), (156, .iconst 1, 1), (157, .invokevirtual 337, 3), (160, .goto 61, 3), (163, .iload 7, 2), (165, .iconst 1, 1), (166, .if_icmp .ne 35, 3), (169, .aload_n 0, 1), (170, .getfield 28, 3), (173, .iload_n 1, 1), (174, .iload_n 2, 1), (175, .iload 6, 2), (177, .aload_n 0, 1), (178, .getfield 22, 3), (181, .iload_n 2, 1), (182, .iaload, 1), (183, .isub, 1), (184, .invokestatic 244, 3), (187, .dup2, 1), (188, .iaload, 1), (189, .aload_n 0, 1), (190, .getfield 71, 3), (193, .iload 6, 2), (195, .iaload, 1), (196, .iadd, 1), (197, .iastore, 1), (198, .goto 23, 3), (201, .aload_n 0, 1), (202, .getfield 28, 3), (205, .sipush 192, 3), (208, .iload_n 1, 1), (209, .iadd, 1), (210, .dup2, 1), (211, .iaload, 1), (212, .aload_n 0, 1), (213, .getfield 71, 3), (216, .iload 6, 2), (218, .iaload, 1), (219, .iadd, 1), (220, .iastore, 1), (221, .iinc 6 1, 3), (224, .goto (-109), 3), (227, .iload 5, 2), (229, .ireturn, 1)]
theorem D_X10_play : dchk cX10_play T_X10_play = true := by decide +kernel
def Mo_play (σ : ST) (a1 : Int32) (a2 : Int32) (a3 : Int32) : Option (Int32 × ST) :=
  lt_ (setF σ 840 0 0) (fun s1 => bd_ (Mo_isLand s1 a1) (fun q2 => (if q2 = 0 then some ((-1), s1) else bd_ (Mo_isSession s1 a2) (fun q3 => (if q3 = 0 then some ((-1), s1) else bd_ (Mo_areCopies s1 a3) (fun q4 => (if q4 = 0 then some ((-1), s1) else bd_ (ldI s1 29 0 a1) (fun v5 => lt_ ((a3 * v5)) (fun x6 => bd_ (Mo_isTooMuch s1 a1 x6) (fun q7 => (if q7 = 0 then bd_ (Mo_keeps s1) (fun q8 => bd_ (ldI q8 34 0 (198 + a1)) (fun v9 => bd_ (stI q8 34 0 (198 + a1) (v9 + x6)) (fun s10 => bd_ (ldI s10 34 0 (2644 + a2)) (fun v11 => bd_ (stI s10 34 0 (2644 + a2) (v11 + a3)) (fun s12 => bd_ (ldI s12 34 0 (2652 + a2)) (fun v13 => bd_ (stI s12 34 0 (2652 + a2) (v13 + x6)) (fun s14 => bd_ (Mo_sumOf s14 a1 a2 x6 0) (fun q15 => lp_ (fun rec17 (z16 : ST × Int32) => bd_ (Mo_whole z16.1 a2) (fun q19 => (if q19 ≤ z16.2 then some (q15.1, z16.1) else bd_ (Mo_where z16.1 a1 a2 z16.2) (fun q20 => (if q20 = 0 then bd_ (Mo_whose z16.1 a2 z16.2) (fun q29 => bd_ (ldI z16.1 47 0 z16.2) (fun v30 => bd_ (Mo_pays_2 z16.1 q29 a1 v30 1) (fun q31 => rec17 (q31, (z16.2 + 1))))) else (if q20 = 1 then bd_ (ldI z16.1 32 0 a2) (fun v24 => bd_ (Mo_keptAt z16.1 a1 a2 (z16.2 - v24)) (fun q25 => bd_ (ldI z16.1 34 0 q25) (fun v26 => bd_ (ldI z16.1 47 0 z16.2) (fun v27 => bd_ (stI z16.1 34 0 q25 (v26 + v27)) (fun s28 => rec17 (s28, (z16.2 + 1))))))) else bd_ (ldI z16.1 34 0 (192 + a1)) (fun v21 => bd_ (ldI z16.1 47 0 z16.2) (fun v22 => bd_ (stI z16.1 34 0 (192 + a1) (v21 + v22)) (fun s23 => rec17 (s23, (z16.2 + 1))))))))))) FU (q15.2, 0))))))))) else some ((-2), s1))))))))))))
set_option maxHeartbeats 4000000 in
set_option maxRecDepth 100000 in
theorem c_X10_play {G : GW} (hG : Good G) {l : Launch} (σ : ST) (a1 : Int32) (a2 : Int32) (a3 : Int32) : Ctr G l yX10_play cX10_play 8 (some .int) 4 [.ref (ga G 131 0), .int a1, .int a2, .int a3] σ oP (Mo_play σ a1 a2 a3) := by
  refine ctr_of hG (by decide) (Nat.le_of_ble_eq_true rfl) ?_
  intro X hXl hR hX
  have hX : Ok G X cX10_play 8 RX10 4 := hX
  unfold Mo_play
  show Sim G X 8 (MQX G X oP) σ 0 [(0, .ref (ga G 131 0)), (1, .int a1), (2, .int a2), (3, .int a3)] [] _
  refine s_aload_n 0 (n := 1) hX (dec_of D_X10_play (i := 0) rfl) rfl rfl rfl ?_
  refine s_iconst (v := 0) (n := 2) hX (dec_of D_X10_play (i := 1) rfl) rfl (by decide) ?_
  refine s_putI (c := 10) (p := 0) (n := 5) hX cls10 (vk131 (by omega)) (dec_of D_X10_play (i := 2) rfl) rfl rfl (by decide) wd_1346 rfl rfl rfl (fun s1 => ?_)
  refine s_aload_n 0 (n := 6) hX (dec_of D_X10_play (i := 3) rfl) rfl rfl rfl ?_
  refine s_iload_n 1 (n := 7) hX (dec_of D_X10_play (i := 4) rfl) rfl rfl rfl ?_
  refine s_callVI (c := 10) (n := 10) hX cls10 (vk131 (by omega)) lk_RX10_257 (dec_of D_X10_play (i := 5) rfl) rfl (by decide) (c_X10_isLand (l := _) hG _ _) rfl rfl (Nat.le_of_ble_eq_true rfl) (fun q2 => ?_)
  refine s_if_eq (tgt := 28) (n := 13) hX (dec_of D_X10_play (i := 6) rfl) rfl rfl ?_ ?_
  · refine s_iconst (v := (-1)) (n := 29) hX (dec_of D_X10_play (i := 14) rfl) rfl (by decide) ?_
    exact s_iret hX hR (dec_of D_X10_play (i := 15) rfl) rfl
  · refine s_aload_n 0 (n := 14) hX (dec_of D_X10_play (i := 7) rfl) rfl rfl rfl ?_
    refine s_iload_n 2 (n := 15) hX (dec_of D_X10_play (i := 8) rfl) rfl rfl rfl ?_
    refine s_callVI (c := 10) (n := 18) hX cls10 (vk131 (by omega)) lk_RX10_241 (dec_of D_X10_play (i := 9) rfl) rfl (by decide) (c_X10_isSession (l := _) hG _ _) rfl rfl (Nat.le_of_ble_eq_true rfl) (fun q3 => ?_)
    refine s_if_eq (tgt := 28) (n := 21) hX (dec_of D_X10_play (i := 10) rfl) rfl rfl ?_ ?_
    · refine s_iconst (v := (-1)) (n := 29) hX (dec_of D_X10_play (i := 14) rfl) rfl (by decide) ?_
      exact s_iret hX hR (dec_of D_X10_play (i := 15) rfl) rfl
    · refine s_iload_n 3 (n := 22) hX (dec_of D_X10_play (i := 11) rfl) rfl rfl rfl ?_
      refine s_callSI (n := 25) hX lk_RX10_324 (dec_of D_X10_play (i := 12) rfl) rfl (by decide) (c_X10_areCopies (l := _) hG _ _) rfl rfl (Nat.le_of_ble_eq_true rfl) (fun q4 => ?_)
      refine s_if_ne (tgt := 30) (n := 28) hX (dec_of D_X10_play (i := 13) rfl) rfl rfl ?_ ?_
      · refine s_iload_n 3 (n := 31) hX (dec_of D_X10_play (i := 16) rfl) rfl rfl rfl ?_
        refine s_aload_n 0 (n := 32) hX (dec_of D_X10_play (i := 17) rfl) rfl rfl rfl ?_
        refine s_getR (c := 10) (p := 3) (k' := 29) (n := 35) hX cls10 (vk131 (by omega)) (dec_of D_X10_play (i := 18) rfl) rfl rfl wd_1349 ?_
        refine s_iload_n 1 (n := 36) hX (dec_of D_X10_play (i := 19) rfl) rfl rfl rfl ?_
        refine s_iald (n := 37) hX (vk29 (by omega)) (by decide) (dec_of D_X10_play (i := 20) rfl) rfl (fun v5 => ?_)
        refine s_imul (n := 38) hX (dec_of D_X10_play (i := 21) rfl) rfl ?_
        refine s_topi (fun x6 => ?_)
        refine s_istore (lv' := [(0, _), (1, _), (2, _), (3, _), (4, _)]) [1, 2, 3, 4, 0] (n := 40) hX (dec_of D_X10_play (i := 22) rfl) rfl (by decide) rfl ?_
        refine s_aload_n 0 (n := 41) hX (dec_of D_X10_play (i := 23) rfl) rfl rfl rfl ?_
        refine s_iload_n 1 (n := 42) hX (dec_of D_X10_play (i := 24) rfl) rfl rfl rfl ?_
        refine s_iload 4 (n := 44) hX (dec_of D_X10_play (i := 25) rfl) rfl rfl ?_
        refine s_callVI (c := 10) (n := 47) hX cls10 (vk131 (by omega)) lk_RX10_327 (dec_of D_X10_play (i := 26) rfl) rfl (by decide) (c_X10_isTooMuch (l := _) hG _ _ _) rfl rfl (Nat.le_of_ble_eq_true rfl) (fun q7 => ?_)
        refine s_if_eq (tgt := 53) (n := 50) hX (dec_of D_X10_play (i := 27) rfl) rfl rfl ?_ ?_
        · refine s_aload_n 0 (n := 54) hX (dec_of D_X10_play (i := 30) rfl) rfl rfl rfl ?_
          refine s_callVV (c := 10) (n := 57) hX cls10 (vk131 (by omega)) lk_RX10_330 (dec_of D_X10_play (i := 31) rfl) rfl (by decide) (c_X10_keeps (l := _) hG _) rfl rfl (Nat.le_of_ble_eq_true rfl) (fun q8 => ?_)
          refine s_aload_n 0 (n := 58) hX (dec_of D_X10_play (i := 32) rfl) rfl rfl rfl ?_
          refine s_getR (c := 10) (p := 14) (k' := 34) (n := 61) hX cls10 (vk131 (by omega)) (dec_of D_X10_play (i := 33) rfl) rfl rfl wd_1360 ?_
          refine s_sipush (v := 198) (n := 64) hX (dec_of D_X10_play (i := 34) rfl) rfl (by decide) ?_
          refine s_iload_n 1 (n := 65) hX (dec_of D_X10_play (i := 35) rfl) rfl rfl rfl ?_
          refine s_iadd (n := 66) hX (dec_of D_X10_play (i := 36) rfl) rfl ?_
          refine s_dup2 (n := 67) hX (dec_of D_X10_play (i := 37) rfl) rfl rfl rfl ?_
          refine s_iald (n := 68) hX (vk34 (by omega)) (by decide) (dec_of D_X10_play (i := 38) rfl) rfl (fun v9 => ?_)
          refine s_iload 4 (n := 70) hX (dec_of D_X10_play (i := 39) rfl) rfl rfl ?_
          refine s_iadd (n := 71) hX (dec_of D_X10_play (i := 40) rfl) rfl ?_
          refine s_iast (n := 72) hX (vk34 (by omega)) (by decide) (dec_of D_X10_play (i := 41) rfl) rfl (fun s10 => ?_)
          refine s_aload_n 0 (n := 73) hX (dec_of D_X10_play (i := 42) rfl) rfl rfl rfl ?_
          refine s_getR (c := 10) (p := 14) (k' := 34) (n := 76) hX cls10 (vk131 (by omega)) (dec_of D_X10_play (i := 43) rfl) rfl rfl wd_1360 ?_
          refine s_sipush (v := 2644) (n := 79) hX (dec_of D_X10_play (i := 44) rfl) rfl (by decide) ?_
          refine s_iload_n 2 (n := 80) hX (dec_of D_X10_play (i := 45) rfl) rfl rfl rfl ?_
          refine s_iadd (n := 81) hX (dec_of D_X10_play (i := 46) rfl) rfl ?_
          refine s_dup2 (n := 82) hX (dec_of D_X10_play (i := 47) rfl) rfl rfl rfl ?_
          refine s_iald (n := 83) hX (vk34 (by omega)) (by decide) (dec_of D_X10_play (i := 48) rfl) rfl (fun v11 => ?_)
          refine s_iload_n 3 (n := 84) hX (dec_of D_X10_play (i := 49) rfl) rfl rfl rfl ?_
          refine s_iadd (n := 85) hX (dec_of D_X10_play (i := 50) rfl) rfl ?_
          refine s_iast (n := 86) hX (vk34 (by omega)) (by decide) (dec_of D_X10_play (i := 51) rfl) rfl (fun s12 => ?_)
          refine s_aload_n 0 (n := 87) hX (dec_of D_X10_play (i := 52) rfl) rfl rfl rfl ?_
          refine s_getR (c := 10) (p := 14) (k' := 34) (n := 90) hX cls10 (vk131 (by omega)) (dec_of D_X10_play (i := 53) rfl) rfl rfl wd_1360 ?_
          refine s_sipush (v := 2652) (n := 93) hX (dec_of D_X10_play (i := 54) rfl) rfl (by decide) ?_
          refine s_iload_n 2 (n := 94) hX (dec_of D_X10_play (i := 55) rfl) rfl rfl rfl ?_
          refine s_iadd (n := 95) hX (dec_of D_X10_play (i := 56) rfl) rfl ?_
          refine s_dup2 (n := 96) hX (dec_of D_X10_play (i := 57) rfl) rfl rfl rfl ?_
          refine s_iald (n := 97) hX (vk34 (by omega)) (by decide) (dec_of D_X10_play (i := 58) rfl) rfl (fun v13 => ?_)
          refine s_iload 4 (n := 99) hX (dec_of D_X10_play (i := 59) rfl) rfl rfl ?_
          refine s_iadd (n := 100) hX (dec_of D_X10_play (i := 60) rfl) rfl ?_
          refine s_iast (n := 101) hX (vk34 (by omega)) (by decide) (dec_of D_X10_play (i := 61) rfl) rfl (fun s14 => ?_)
          refine s_aload_n 0 (n := 102) hX (dec_of D_X10_play (i := 62) rfl) rfl rfl rfl ?_
          refine s_iload_n 1 (n := 103) hX (dec_of D_X10_play (i := 63) rfl) rfl rfl rfl ?_
          refine s_iload_n 2 (n := 104) hX (dec_of D_X10_play (i := 64) rfl) rfl rfl rfl ?_
          refine s_iload 4 (n := 106) hX (dec_of D_X10_play (i := 65) rfl) rfl rfl ?_
          refine s_iconst (v := 0) (n := 107) hX (dec_of D_X10_play (i := 66) rfl) rfl (by decide) ?_
          refine s_callVP (c := 10) (n := 110) hX cls10 (vk131 (by omega)) lk_RX10_333 (dec_of D_X10_play (i := 67) rfl) rfl (by decide) (c_X10_sumOf (l := _) hG _ _ _ _ _) rfl rfl (Nat.le_of_ble_eq_true rfl) (fun q15 => ?_)
          refine s_istore (lv' := [(0, _), (1, _), (2, _), (3, _), (4, _), (5, _)]) [1, 2, 3, 4, 5, 0] (n := 112) hX (dec_of D_X10_play (i := 68) rfl) rfl (by decide) rfl ?_
          refine s_iconst (v := 0) (n := 113) hX (dec_of D_X10_play (i := 69) rfl) rfl (by decide) ?_
          refine s_istore (lv' := [(0, _), (1, _), (2, _), (3, _), (4, _), (5, _), (6, _)]) [1, 2, 3, 4, 5, 6, 0] (n := 115) hX (dec_of D_X10_play (i := 70) rfl) rfl (by decide) rfl ?_
          refine s_sub [0, 1, 2, 5, 6] rfl (s_lp (pc := 115) (Sf := fun (z16 : ST × Int32) => z16.1) (lvf := fun (z16 : ST × Int32) => [(0, .ref (ga G 131 0)), (1, .int a1), (2, .int a2), (5, .int q15.1), (6, .int z16.2)]) (fun rec17 hre18 z16 => ?_) FU (q15.2, 0))
          refine s_iload 4 (n := 117) hX (dec_of D_X10_play (i := 71) rfl) rfl rfl ?_
          refine s_aload_n 0 (n := 118) hX (dec_of D_X10_play (i := 72) rfl) rfl rfl rfl ?_
          refine s_iload_n 2 (n := 119) hX (dec_of D_X10_play (i := 73) rfl) rfl rfl rfl ?_
          refine s_callVI (c := 10) (n := 122) hX cls10 (vk131 (by omega)) lk_RX10_305 (dec_of D_X10_play (i := 74) rfl) rfl (by decide) (c_X10_whole (l := _) hG _ _) rfl rfl (Nat.le_of_ble_eq_true rfl) (fun q19 => ?_)
          refine s_icmp_ge (tgt := 227) (n := 125) hX (dec_of D_X10_play (i := 75) rfl) rfl rfl ?_ ?_
          · refine s_iload 3 (n := 229) hX (dec_of D_X10_play (i := 135) rfl) rfl rfl ?_
            exact s_iret hX hR (dec_of D_X10_play (i := 136) rfl) rfl
          · refine s_aload_n 0 (n := 126) hX (dec_of D_X10_play (i := 76) rfl) rfl rfl rfl ?_
            refine s_iload_n 1 (n := 127) hX (dec_of D_X10_play (i := 77) rfl) rfl rfl rfl ?_
            refine s_iload_n 2 (n := 128) hX (dec_of D_X10_play (i := 78) rfl) rfl rfl rfl ?_
            refine s_iload 4 (n := 130) hX (dec_of D_X10_play (i := 79) rfl) rfl rfl ?_
            refine s_callVI (c := 10) (n := 133) hX cls10 (vk131 (by omega)) lk_RX10_320 (dec_of D_X10_play (i := 80) rfl) rfl (by decide) (c_X10_where (l := _) hG _ _ _ _) rfl rfl (Nat.le_of_ble_eq_true rfl) (fun q20 => ?_)
            refine s_istore (lv' := [(0, _), (1, _), (2, _), (5, _), (6, _), (7, _)]) [1, 2, 3, 4, 5, 0] (n := 135) hX (dec_of D_X10_play (i := 81) rfl) rfl (by decide) rfl ?_
            refine s_iload 5 (n := 137) hX (dec_of D_X10_play (i := 82) rfl) rfl rfl ?_
            refine s_if_ne (tgt := 163) (n := 140) hX (dec_of D_X10_play (i := 83) rfl) rfl rfl ?_ ?_
            · refine s_iload 5 (n := 165) hX (dec_of D_X10_play (i := 97) rfl) rfl rfl ?_
              refine s_iconst (v := 1) (n := 166) hX (dec_of D_X10_play (i := 98) rfl) rfl (by decide) ?_
              refine s_icmp_ne (tgt := 201) (n := 169) hX (dec_of D_X10_play (i := 99) rfl) rfl rfl ?_ ?_
              · refine s_aload_n 0 (n := 202) hX (dec_of D_X10_play (i := 120) rfl) rfl rfl rfl ?_
                refine s_getR (c := 10) (p := 14) (k' := 34) (n := 205) hX cls10 (vk131 (by omega)) (dec_of D_X10_play (i := 121) rfl) rfl rfl wd_1360 ?_
                refine s_sipush (v := 192) (n := 208) hX (dec_of D_X10_play (i := 122) rfl) rfl (by decide) ?_
                refine s_iload_n 1 (n := 209) hX (dec_of D_X10_play (i := 123) rfl) rfl rfl rfl ?_
                refine s_iadd (n := 210) hX (dec_of D_X10_play (i := 124) rfl) rfl ?_
                refine s_dup2 (n := 211) hX (dec_of D_X10_play (i := 125) rfl) rfl rfl rfl ?_
                refine s_iald (n := 212) hX (vk34 (by omega)) (by decide) (dec_of D_X10_play (i := 126) rfl) rfl (fun v21 => ?_)
                refine s_aload_n 0 (n := 213) hX (dec_of D_X10_play (i := 127) rfl) rfl rfl rfl ?_
                refine s_getR (c := 10) (p := 46) (k' := 47) (n := 216) hX cls10 (vk131 (by omega)) (dec_of D_X10_play (i := 128) rfl) rfl rfl wd_1392 ?_
                refine s_iload 4 (n := 218) hX (dec_of D_X10_play (i := 129) rfl) rfl rfl ?_
                refine s_iald (n := 219) hX (vk47 (by omega)) (by decide) (dec_of D_X10_play (i := 130) rfl) rfl (fun v22 => ?_)
                refine s_iadd (n := 220) hX (dec_of D_X10_play (i := 131) rfl) rfl ?_
                refine s_iast (n := 221) hX (vk34 (by omega)) (by decide) (dec_of D_X10_play (i := 132) rfl) rfl (fun s23 => ?_)
                refine s_iinc (v := z16.2 + 1) (lv' := [(0, _), (1, _), (2, _), (5, _), (6, _), (7, _)]) 4 [1, 2, 3, 4, 0, 5] (n := 224) hX (dec_of D_X10_play (i := 133) rfl) rfl rfl rfl (by decide) rfl ?_
                refine s_goto (n := 115) hX (dec_of D_X10_play (i := 134) rfl) rfl ?_
                exact s_sub [0, 1, 2, 3, 4] rfl (hre18 (s23, (z16.2 + 1)))
              · refine s_aload_n 0 (n := 170) hX (dec_of D_X10_play (i := 100) rfl) rfl rfl rfl ?_
                refine s_getR (c := 10) (p := 14) (k' := 34) (n := 173) hX cls10 (vk131 (by omega)) (dec_of D_X10_play (i := 101) rfl) rfl rfl wd_1360 ?_
                refine s_iload_n 1 (n := 174) hX (dec_of D_X10_play (i := 102) rfl) rfl rfl rfl ?_
                refine s_iload_n 2 (n := 175) hX (dec_of D_X10_play (i := 103) rfl) rfl rfl rfl ?_
                refine s_iload 4 (n := 177) hX (dec_of D_X10_play (i := 104) rfl) rfl rfl ?_
                refine s_aload_n 0 (n := 178) hX (dec_of D_X10_play (i := 105) rfl) rfl rfl rfl ?_
                refine s_getR (c := 10) (p := 6) (k' := 32) (n := 181) hX cls10 (vk131 (by omega)) (dec_of D_X10_play (i := 106) rfl) rfl rfl wd_1352 ?_
                refine s_iload_n 2 (n := 182) hX (dec_of D_X10_play (i := 107) rfl) rfl rfl rfl ?_
                refine s_iald (n := 183) hX (vk32 (by omega)) (by decide) (dec_of D_X10_play (i := 108) rfl) rfl (fun v24 => ?_)
                refine s_isub (n := 184) hX (dec_of D_X10_play (i := 109) rfl) rfl ?_
                refine s_callSI (n := 187) hX lk_RX10_244 (dec_of D_X10_play (i := 110) rfl) rfl (by decide) (c_X10_keptAt (l := _) hG _ _ _ _) rfl rfl (Nat.le_of_ble_eq_true rfl) (fun q25 => ?_)
                refine s_dup2 (n := 188) hX (dec_of D_X10_play (i := 111) rfl) rfl rfl rfl ?_
                refine s_iald (n := 189) hX (vk34 (by omega)) (by decide) (dec_of D_X10_play (i := 112) rfl) rfl (fun v26 => ?_)
                refine s_aload_n 0 (n := 190) hX (dec_of D_X10_play (i := 113) rfl) rfl rfl rfl ?_
                refine s_getR (c := 10) (p := 46) (k' := 47) (n := 193) hX cls10 (vk131 (by omega)) (dec_of D_X10_play (i := 114) rfl) rfl rfl wd_1392 ?_
                refine s_iload 4 (n := 195) hX (dec_of D_X10_play (i := 115) rfl) rfl rfl ?_
                refine s_iald (n := 196) hX (vk47 (by omega)) (by decide) (dec_of D_X10_play (i := 116) rfl) rfl (fun v27 => ?_)
                refine s_iadd (n := 197) hX (dec_of D_X10_play (i := 117) rfl) rfl ?_
                refine s_iast (n := 198) hX (vk34 (by omega)) (by decide) (dec_of D_X10_play (i := 118) rfl) rfl (fun s28 => ?_)
                refine s_goto (n := 221) hX (dec_of D_X10_play (i := 119) rfl) rfl ?_
                refine s_iinc (v := z16.2 + 1) (lv' := [(0, _), (1, _), (2, _), (5, _), (6, _), (7, _)]) 4 [1, 2, 3, 4, 0, 5] (n := 224) hX (dec_of D_X10_play (i := 133) rfl) rfl rfl rfl (by decide) rfl ?_
                refine s_goto (n := 115) hX (dec_of D_X10_play (i := 134) rfl) rfl ?_
                exact s_sub [0, 1, 2, 3, 4] rfl (hre18 (s28, (z16.2 + 1)))
            · refine s_aload_n 0 (n := 141) hX (dec_of D_X10_play (i := 84) rfl) rfl rfl rfl ?_
              refine s_aload_n 0 (n := 142) hX (dec_of D_X10_play (i := 85) rfl) rfl rfl rfl ?_
              refine s_iload_n 2 (n := 143) hX (dec_of D_X10_play (i := 86) rfl) rfl rfl rfl ?_
              refine s_iload 4 (n := 145) hX (dec_of D_X10_play (i := 87) rfl) rfl rfl ?_
              refine s_callVI (c := 10) (n := 148) hX cls10 (vk131 (by omega)) lk_RX10_313 (dec_of D_X10_play (i := 88) rfl) rfl (by decide) (c_X10_whose (l := _) hG _ _ _) rfl rfl (Nat.le_of_ble_eq_true rfl) (fun q29 => ?_)
              refine s_iload_n 1 (n := 149) hX (dec_of D_X10_play (i := 89) rfl) rfl rfl rfl ?_
              refine s_aload_n 0 (n := 150) hX (dec_of D_X10_play (i := 90) rfl) rfl rfl rfl ?_
              refine s_getR (c := 10) (p := 46) (k' := 47) (n := 153) hX cls10 (vk131 (by omega)) (dec_of D_X10_play (i := 91) rfl) rfl rfl wd_1392 ?_
              refine s_iload 4 (n := 155) hX (dec_of D_X10_play (i := 92) rfl) rfl rfl ?_
              refine s_iald (n := 156) hX (vk47 (by omega)) (by decide) (dec_of D_X10_play (i := 93) rfl) rfl (fun v30 => ?_)
              refine s_iconst (v := 1) (n := 157) hX (dec_of D_X10_play (i := 94) rfl) rfl (by decide) ?_
              refine s_callVV (c := 10) (n := 160) hX cls10 (vk131 (by omega)) lk_RX10_337 (dec_of D_X10_play (i := 95) rfl) rfl (by decide) (c_X10_pays_ (l := _) hG _ _ _ _ _) rfl rfl (Nat.le_of_ble_eq_true rfl) (fun q31 => ?_)
              refine s_goto (n := 221) hX (dec_of D_X10_play (i := 96) rfl) rfl ?_
              refine s_iinc (v := z16.2 + 1) (lv' := [(0, _), (1, _), (2, _), (5, _), (6, _), (7, _)]) 4 [1, 2, 3, 4, 0, 5] (n := 224) hX (dec_of D_X10_play (i := 133) rfl) rfl rfl rfl (by decide) rfl ?_
              refine s_goto (n := 115) hX (dec_of D_X10_play (i := 134) rfl) rfl ?_
              exact s_sub [0, 1, 2, 3, 4] rfl (hre18 (q31, (z16.2 + 1)))
        · refine s_bipush (v := (-2)) (n := 52) hX (dec_of D_X10_play (i := 28) rfl) rfl (by decide) ?_
          exact s_iret hX hR (dec_of D_X10_play (i := 29) rfl) rfl
      · refine s_iconst (v := (-1)) (n := 29) hX (dec_of D_X10_play (i := 14) rfl) rfl (by decide) ?_
        exact s_iret hX hR (dec_of D_X10_play (i := 15) rfl) rfl
theorem lk_RX10_344 : LkS RX10 344 yX10_lapsedAt cX10_lapsedAt 3 (some .int) 3 := ⟨wd_1778, wd_1779, wd_93, wd_1780, by decide +kernel, by decide⟩
def T_X10_goesYear : List (Nat × Instr × Nat) := [(0, .iload_n 1, 1), (1, .iload_n 2, 1), (2, .iload_n 3, 1), (3, .invokestatic 244, 3), (6, .istore 4, 2), (8, .aload_n 0, 1), (9, .getfield 28, 3), (12, .iload 4, 2), (14, .aload_n 0, 1), (15, .getfield 80, 3), (18, .iadd, 1), (19, .iconst 1, 1), (20, .isub, 1), (21, .iaload, 1), (22, .istore 5, 2), (24, .aload_n 0, 1), (25, .getfield 80, 3), (28, .iconst 1, 1), (29, .isub, 1), (30, .istore 6, 2), (32, .iload 6, 2), (34, .ifCond .le 31, 3), (37, .aload_n 0, 1), (38, .getfield 28, 3), (41, .iload 4, 2), (43, .iload 6, 2), (45, .iadd, 1), (46, .aload_n 0, 1), (47, .getfield 28, 3), (50, .iload 4, 2), (52, .iload 6, 2), (54, .iadd, 1), (55, .iconst 1, 1), (56, .isub, 1), (57, .iaload, 1), (58, .iastore, 1), (59, .iinc 6 (-1), 3), (62, .goto (-30), 3), (65, .aload_n 0, 1), (66, .getfield 28, 3), (69, .iload 4, 2), (71, .iconst 0, 1), (72, .iastore, 1), (73, .aload_n 0, 1), (74, .getfield 28, 3), (77, .iload_n 1, 1), (78, .iload_n 2, 1), (79, .iload_n 3, 1), (80, .invokestatic 344, 3), (83, .dup2, 1), (84, .iaload, 1), (85, .iload 5, 2), (87, .iadd, 1), (88, .iastore, 1), (89, .aload_n 0, 1), (90, .getfield 28, 3), (93, .sipush 192, 3), (96, .iload_n 1, 1), (97, .iadd, 1), (98, .dup2, 1), (99, .iaload, 1), (100, .iload 5, 2), (102, .iadd, 1), (103, .iastore, 1), (104, .iload 5, 2), (106, .ireturn, 1)]
theorem D_X10_goesYear : dchk cX10_goesYear T_X10_goesYear = true := by decide +kernel
def Mo_goesYear (σ : ST) (a1 : Int32) (a2 : Int32) (a3 : Int32) : Option (Int32 × ST) :=
  bd_ (Mo_keptAt (σ) a1 a2 a3) (fun q1 => bd_ (ldI σ 34 0 ((q1 + (gF σ 849 0)) - 1)) (fun v2 => lt_ (((gF σ 849 0) - 1)) (fun x3 => lp_ (fun rec5 (z4 : ST × Int32) => (if z4.2 ≤ 0 then bd_ (stI z4.1 34 0 q1 0) (fun s7 => bd_ (Mo_lapsedAt s7 a1 a2 a3) (fun q8 => bd_ (ldI s7 34 0 q8) (fun v9 => bd_ (stI s7 34 0 q8 (v9 + v2)) (fun s10 => bd_ (ldI s10 34 0 (192 + a1)) (fun v11 => bd_ (stI s10 34 0 (192 + a1) (v11 + v2)) (fun s12 => some (v2, s12))))))) else bd_ (ldI z4.1 34 0 ((q1 + z4.2) - 1)) (fun v13 => bd_ (stI z4.1 34 0 (q1 + z4.2) v13) (fun s14 => rec5 (s14, (z4.2 + (-1))))))) FU (σ, x3))))
set_option maxHeartbeats 4000000 in
set_option maxRecDepth 100000 in
theorem c_X10_goesYear {G : GW} (hG : Good G) {l : Launch} (σ : ST) (a1 : Int32) (a2 : Int32) (a3 : Int32) : Ctr G l yX10_goesYear cX10_goesYear 7 (some .int) 1 [.ref (ga G 131 0), .int a1, .int a2, .int a3] σ oP (Mo_goesYear σ a1 a2 a3) := by
  refine ctr_of hG (by decide) (Nat.le_of_ble_eq_true rfl) ?_
  intro X hXl hR hX
  have hX : Ok G X cX10_goesYear 7 RX10 1 := hX
  unfold Mo_goesYear
  show Sim G X 7 (MQX G X oP) σ 0 [(0, .ref (ga G 131 0)), (1, .int a1), (2, .int a2), (3, .int a3)] [] _
  refine s_iload_n 1 (n := 1) hX (dec_of D_X10_goesYear (i := 0) rfl) rfl rfl rfl ?_
  refine s_iload_n 2 (n := 2) hX (dec_of D_X10_goesYear (i := 1) rfl) rfl rfl rfl ?_
  refine s_iload_n 3 (n := 3) hX (dec_of D_X10_goesYear (i := 2) rfl) rfl rfl rfl ?_
  refine s_callSI (n := 6) hX lk_RX10_244 (dec_of D_X10_goesYear (i := 3) rfl) rfl (by decide) (c_X10_keptAt (l := _) hG _ _ _ _) rfl rfl (Nat.le_of_ble_eq_true rfl) (fun q1 => ?_)
  refine s_istore (lv' := [(0, _), (1, _), (2, _), (3, _), (4, _)]) [1, 2, 3, 4, 0] (n := 8) hX (dec_of D_X10_goesYear (i := 4) rfl) rfl (by decide) rfl ?_
  refine s_aload_n 0 (n := 9) hX (dec_of D_X10_goesYear (i := 5) rfl) rfl rfl rfl ?_
  refine s_getR (c := 10) (p := 14) (k' := 34) (n := 12) hX cls10 (vk131 (by omega)) (dec_of D_X10_goesYear (i := 6) rfl) rfl rfl wd_1360 ?_
  refine s_iload 4 (n := 14) hX (dec_of D_X10_goesYear (i := 7) rfl) rfl rfl ?_
  refine s_aload_n 0 (n := 15) hX (dec_of D_X10_goesYear (i := 8) rfl) rfl rfl rfl ?_
  refine s_getI (c := 10) (p := 9) (id := 849) (n := 18) hX cls10 (vk131 (by omega)) (dec_of D_X10_goesYear (i := 9) rfl) rfl rfl wd_1355 ?_
  refine s_iadd (n := 19) hX (dec_of D_X10_goesYear (i := 10) rfl) rfl ?_
  refine s_iconst (v := 1) (n := 20) hX (dec_of D_X10_goesYear (i := 11) rfl) rfl (by decide) ?_
  refine s_isub (n := 21) hX (dec_of D_X10_goesYear (i := 12) rfl) rfl ?_
  refine s_iald (n := 22) hX (vk34 (by omega)) (by decide) (dec_of D_X10_goesYear (i := 13) rfl) rfl (fun v2 => ?_)
  refine s_istore (lv' := [(0, _), (1, _), (2, _), (3, _), (4, _), (5, _)]) [1, 2, 3, 4, 5, 0] (n := 24) hX (dec_of D_X10_goesYear (i := 14) rfl) rfl (by decide) rfl ?_
  refine s_aload_n 0 (n := 25) hX (dec_of D_X10_goesYear (i := 15) rfl) rfl rfl rfl ?_
  refine s_getI (c := 10) (p := 9) (id := 849) (n := 28) hX cls10 (vk131 (by omega)) (dec_of D_X10_goesYear (i := 16) rfl) rfl rfl wd_1355 ?_
  refine s_iconst (v := 1) (n := 29) hX (dec_of D_X10_goesYear (i := 17) rfl) rfl (by decide) ?_
  refine s_isub (n := 30) hX (dec_of D_X10_goesYear (i := 18) rfl) rfl ?_
  refine s_topi (fun x3 => ?_)
  refine s_istore (lv' := [(0, _), (1, _), (2, _), (3, _), (4, _), (5, _), (6, _)]) [1, 2, 3, 4, 5, 6, 0] (n := 32) hX (dec_of D_X10_goesYear (i := 19) rfl) rfl (by decide) rfl ?_
  refine s_sub [0, 1, 2, 3, 4, 5, 6] rfl (s_lp (pc := 32) (Sf := fun (z4 : ST × Int32) => z4.1) (lvf := fun (z4 : ST × Int32) => [(0, .ref (ga G 131 0)), (1, .int a1), (2, .int a2), (3, .int a3), (4, .int q1), (5, .int v2), (6, .int z4.2)]) (fun rec5 hre6 z4 => ?_) FU (σ, x3))
  refine s_iload 6 (n := 34) hX (dec_of D_X10_goesYear (i := 20) rfl) rfl rfl ?_
  refine s_if_le (tgt := 65) (n := 37) hX (dec_of D_X10_goesYear (i := 21) rfl) rfl rfl ?_ ?_
  · refine s_aload_n 0 (n := 66) hX (dec_of D_X10_goesYear (i := 38) rfl) rfl rfl rfl ?_
    refine s_getR (c := 10) (p := 14) (k' := 34) (n := 69) hX cls10 (vk131 (by omega)) (dec_of D_X10_goesYear (i := 39) rfl) rfl rfl wd_1360 ?_
    refine s_iload 4 (n := 71) hX (dec_of D_X10_goesYear (i := 40) rfl) rfl rfl ?_
    refine s_iconst (v := 0) (n := 72) hX (dec_of D_X10_goesYear (i := 41) rfl) rfl (by decide) ?_
    refine s_iast (n := 73) hX (vk34 (by omega)) (by decide) (dec_of D_X10_goesYear (i := 42) rfl) rfl (fun s7 => ?_)
    refine s_aload_n 0 (n := 74) hX (dec_of D_X10_goesYear (i := 43) rfl) rfl rfl rfl ?_
    refine s_getR (c := 10) (p := 14) (k' := 34) (n := 77) hX cls10 (vk131 (by omega)) (dec_of D_X10_goesYear (i := 44) rfl) rfl rfl wd_1360 ?_
    refine s_iload_n 1 (n := 78) hX (dec_of D_X10_goesYear (i := 45) rfl) rfl rfl rfl ?_
    refine s_iload_n 2 (n := 79) hX (dec_of D_X10_goesYear (i := 46) rfl) rfl rfl rfl ?_
    refine s_iload_n 3 (n := 80) hX (dec_of D_X10_goesYear (i := 47) rfl) rfl rfl rfl ?_
    refine s_callSI (n := 83) hX lk_RX10_344 (dec_of D_X10_goesYear (i := 48) rfl) rfl (by decide) (c_X10_lapsedAt (l := _) hG _ _ _ _) rfl rfl (Nat.le_of_ble_eq_true rfl) (fun q8 => ?_)
    refine s_dup2 (n := 84) hX (dec_of D_X10_goesYear (i := 49) rfl) rfl rfl rfl ?_
    refine s_iald (n := 85) hX (vk34 (by omega)) (by decide) (dec_of D_X10_goesYear (i := 50) rfl) rfl (fun v9 => ?_)
    refine s_iload 5 (n := 87) hX (dec_of D_X10_goesYear (i := 51) rfl) rfl rfl ?_
    refine s_iadd (n := 88) hX (dec_of D_X10_goesYear (i := 52) rfl) rfl ?_
    refine s_iast (n := 89) hX (vk34 (by omega)) (by decide) (dec_of D_X10_goesYear (i := 53) rfl) rfl (fun s10 => ?_)
    refine s_aload_n 0 (n := 90) hX (dec_of D_X10_goesYear (i := 54) rfl) rfl rfl rfl ?_
    refine s_getR (c := 10) (p := 14) (k' := 34) (n := 93) hX cls10 (vk131 (by omega)) (dec_of D_X10_goesYear (i := 55) rfl) rfl rfl wd_1360 ?_
    refine s_sipush (v := 192) (n := 96) hX (dec_of D_X10_goesYear (i := 56) rfl) rfl (by decide) ?_
    refine s_iload_n 1 (n := 97) hX (dec_of D_X10_goesYear (i := 57) rfl) rfl rfl rfl ?_
    refine s_iadd (n := 98) hX (dec_of D_X10_goesYear (i := 58) rfl) rfl ?_
    refine s_dup2 (n := 99) hX (dec_of D_X10_goesYear (i := 59) rfl) rfl rfl rfl ?_
    refine s_iald (n := 100) hX (vk34 (by omega)) (by decide) (dec_of D_X10_goesYear (i := 60) rfl) rfl (fun v11 => ?_)
    refine s_iload 5 (n := 102) hX (dec_of D_X10_goesYear (i := 61) rfl) rfl rfl ?_
    refine s_iadd (n := 103) hX (dec_of D_X10_goesYear (i := 62) rfl) rfl ?_
    refine s_iast (n := 104) hX (vk34 (by omega)) (by decide) (dec_of D_X10_goesYear (i := 63) rfl) rfl (fun s12 => ?_)
    refine s_iload 5 (n := 106) hX (dec_of D_X10_goesYear (i := 64) rfl) rfl rfl ?_
    exact s_iret hX hR (dec_of D_X10_goesYear (i := 65) rfl) rfl
  · refine s_aload_n 0 (n := 38) hX (dec_of D_X10_goesYear (i := 22) rfl) rfl rfl rfl ?_
    refine s_getR (c := 10) (p := 14) (k' := 34) (n := 41) hX cls10 (vk131 (by omega)) (dec_of D_X10_goesYear (i := 23) rfl) rfl rfl wd_1360 ?_
    refine s_iload 4 (n := 43) hX (dec_of D_X10_goesYear (i := 24) rfl) rfl rfl ?_
    refine s_iload 6 (n := 45) hX (dec_of D_X10_goesYear (i := 25) rfl) rfl rfl ?_
    refine s_iadd (n := 46) hX (dec_of D_X10_goesYear (i := 26) rfl) rfl ?_
    refine s_aload_n 0 (n := 47) hX (dec_of D_X10_goesYear (i := 27) rfl) rfl rfl rfl ?_
    refine s_getR (c := 10) (p := 14) (k' := 34) (n := 50) hX cls10 (vk131 (by omega)) (dec_of D_X10_goesYear (i := 28) rfl) rfl rfl wd_1360 ?_
    refine s_iload 4 (n := 52) hX (dec_of D_X10_goesYear (i := 29) rfl) rfl rfl ?_
    refine s_iload 6 (n := 54) hX (dec_of D_X10_goesYear (i := 30) rfl) rfl rfl ?_
    refine s_iadd (n := 55) hX (dec_of D_X10_goesYear (i := 31) rfl) rfl ?_
    refine s_iconst (v := 1) (n := 56) hX (dec_of D_X10_goesYear (i := 32) rfl) rfl (by decide) ?_
    refine s_isub (n := 57) hX (dec_of D_X10_goesYear (i := 33) rfl) rfl ?_
    refine s_iald (n := 58) hX (vk34 (by omega)) (by decide) (dec_of D_X10_goesYear (i := 34) rfl) rfl (fun v13 => ?_)
    refine s_iast (n := 59) hX (vk34 (by omega)) (by decide) (dec_of D_X10_goesYear (i := 35) rfl) rfl (fun s14 => ?_)
    refine s_iinc (v := z4.2 + (-1)) (lv' := [(0, _), (1, _), (2, _), (3, _), (4, _), (5, _), (6, _)]) 6 [1, 2, 3, 4, 5, 6, 0] (n := 62) hX (dec_of D_X10_goesYear (i := 36) rfl) rfl rfl rfl (by decide) rfl ?_
    refine s_goto (n := 32) hX (dec_of D_X10_goesYear (i := 37) rfl) rfl ?_
    exact s_sub [0, 1, 2, 3, 4, 5, 6] rfl (hre6 (s14, (z4.2 + (-1))))
theorem lk_RX10_341 : LkV RX10 341 RX10 yX10_goesYear cX10_goesYear 7 (some .int) 3 := ⟨wd_1774, wd_1776, wd_62, wd_93, wd_1777, by decide +kernel, by decide⟩
def T_X10_year : List (Nat × Instr × Nat) := [(0, .aload_n 0, 1), (1, .iconst 0, 1), (2, .putfield 86, 3), (5, .aload_n 0, 1), (6, .getfield 28, 3), (9, .sipush 2688, 3), (12, .iaload, 1), (13, .sipush 9999, 3), (16, .if_icmp .ne 6, 3), (19, .bipush (-2), 2), (21, .ireturn, 1), (22, .aload_n 0, 1), (23, .invokevirtual 330, 3), (26, .aload_n 0, 1), (27, .getfield 28, 3), (30, .sipush 2688, 3), (33, .dup2, 1), (34, .iaload, 1), (35, .iconst 1, 1), (36, .iadd, 1), (37, .iastore, 1), (38, .iconst 0, 1), (39, .istore_n 1, 1), (40, .iconst 0, 1), (41, .istore_n 2, 1), (42, .iload_n 2, 1), (43, .aload_n 0, 1), (44, .getfield 229, 3), (47, .if_icmp .ge 56, 3), (50, .iconst 0, 1), (51, .istore_n 3, 1), (52, .iload_n 3, 1), (53, .aload_n 0, 1), (54, .getfield 235, 3), (57, .if_icmp .ge 40, 3), (60, .iconst 0, 1), (61, .istore 4, 2), (63, .iload 4, 2), (65, .aload_n 0, 1), (66, .getfield 25, 3), (69, .iload_n 3, 1), (70, .iaload, 1), (71, .if_icmp .ge 20, 3), (74, .iload_n 1, 1), (75, .aload_n 0, 1), (76, .iload_n 2, 1), (77, .iload_n 3, 1), (78, .iload 4, 2), (80, .invokevirtual 341, 3), (83, .iadd, 1), (84, .istore_n 1, 1), (85, .iinc 4 1, 3), (88, .goto (-25), 3), (91, .iinc 3 1, 3), (94, .goto (-42), 3), (97, .iinc 2 1, 3), (100, .goto (-58), 3), (103, .iload_n 1, 1), (104, .ireturn, 1)]
theorem D_X10_year : dchk cX10_year T_X10_year = true := by decide +kernel
def Mo_year (σ : ST)  : Option (Int32 × ST) :=
  lt_ (setF σ 840 0 0) (fun s1 => bd_ (ldI s1 34 0 2688) (fun v2 => (if v2 = 9999 then some ((-2), s1) else bd_ (Mo_keeps s1) (fun q3 => bd_ (ldI q3 34 0 2688) (fun v4 => bd_ (stI q3 34 0 2688 (v4 + 1)) (fun s5 => lp_ (fun rec7 (z6 : ST × Int32 × Int32) => (if (gF z6.1 850 0) ≤ z6.2.2 then some (z6.2.1, z6.1) else lp_ (fun rec10 (z9 : ST × Int32 × Int32) => (if (gF z9.1 852 0) ≤ z9.2.2 then rec7 (z9.1, z9.2.1, (z6.2.2 + 1)) else lp_ (fun rec13 (z12 : ST × Int32 × Int32) => bd_ (ldI z12.1 33 0 z9.2.2) (fun v15 => (if v15 ≤ z12.2.2 then rec10 (z12.1, z12.2.1, (z9.2.2 + 1)) else bd_ (Mo_goesYear z12.1 z6.2.2 z9.2.2 z12.2.2) (fun q16 => lt_ ((z12.2.1 + q16.1)) (fun x17 => rec13 (q16.2, x17, (z12.2.2 + 1))))))) FU (z9.1, z9.2.1, 0))) FU (z6.1, z6.2.1, 0))) FU (s5, 0, 0)))))))
set_option maxHeartbeats 4000000 in
set_option maxRecDepth 100000 in
theorem c_X10_year {G : GW} (hG : Good G) {l : Launch} (σ : ST)  : Ctr G l yX10_year cX10_year 5 (some .int) 2 [.ref (ga G 131 0)] σ oP (Mo_year σ ) := by
  refine ctr_of hG (by decide) (Nat.le_of_ble_eq_true rfl) ?_
  intro X hXl hR hX
  have hX : Ok G X cX10_year 5 RX10 2 := hX
  unfold Mo_year
  show Sim G X 5 (MQX G X oP) σ 0 [(0, .ref (ga G 131 0))] [] _
  refine s_aload_n 0 (n := 1) hX (dec_of D_X10_year (i := 0) rfl) rfl rfl rfl ?_
  refine s_iconst (v := 0) (n := 2) hX (dec_of D_X10_year (i := 1) rfl) rfl (by decide) ?_
  refine s_putI (c := 10) (p := 0) (n := 5) hX cls10 (vk131 (by omega)) (dec_of D_X10_year (i := 2) rfl) rfl rfl (by decide) wd_1346 rfl rfl rfl (fun s1 => ?_)
  refine s_aload_n 0 (n := 6) hX (dec_of D_X10_year (i := 3) rfl) rfl rfl rfl ?_
  refine s_getR (c := 10) (p := 14) (k' := 34) (n := 9) hX cls10 (vk131 (by omega)) (dec_of D_X10_year (i := 4) rfl) rfl rfl wd_1360 ?_
  refine s_sipush (v := 2688) (n := 12) hX (dec_of D_X10_year (i := 5) rfl) rfl (by decide) ?_
  refine s_iald (n := 13) hX (vk34 (by omega)) (by decide) (dec_of D_X10_year (i := 6) rfl) rfl (fun v2 => ?_)
  refine s_sipush (v := 9999) (n := 16) hX (dec_of D_X10_year (i := 7) rfl) rfl (by decide) ?_
  refine s_icmp_ne (tgt := 22) (n := 19) hX (dec_of D_X10_year (i := 8) rfl) rfl rfl ?_ ?_
  · refine s_aload_n 0 (n := 23) hX (dec_of D_X10_year (i := 11) rfl) rfl rfl rfl ?_
    refine s_callVV (c := 10) (n := 26) hX cls10 (vk131 (by omega)) lk_RX10_330 (dec_of D_X10_year (i := 12) rfl) rfl (by decide) (c_X10_keeps (l := _) hG _) rfl rfl (Nat.le_of_ble_eq_true rfl) (fun q3 => ?_)
    refine s_aload_n 0 (n := 27) hX (dec_of D_X10_year (i := 13) rfl) rfl rfl rfl ?_
    refine s_getR (c := 10) (p := 14) (k' := 34) (n := 30) hX cls10 (vk131 (by omega)) (dec_of D_X10_year (i := 14) rfl) rfl rfl wd_1360 ?_
    refine s_sipush (v := 2688) (n := 33) hX (dec_of D_X10_year (i := 15) rfl) rfl (by decide) ?_
    refine s_dup2 (n := 34) hX (dec_of D_X10_year (i := 16) rfl) rfl rfl rfl ?_
    refine s_iald (n := 35) hX (vk34 (by omega)) (by decide) (dec_of D_X10_year (i := 17) rfl) rfl (fun v4 => ?_)
    refine s_iconst (v := 1) (n := 36) hX (dec_of D_X10_year (i := 18) rfl) rfl (by decide) ?_
    refine s_iadd (n := 37) hX (dec_of D_X10_year (i := 19) rfl) rfl ?_
    refine s_iast (n := 38) hX (vk34 (by omega)) (by decide) (dec_of D_X10_year (i := 20) rfl) rfl (fun s5 => ?_)
    refine s_iconst (v := 0) (n := 39) hX (dec_of D_X10_year (i := 21) rfl) rfl (by decide) ?_
    refine s_istore_n (lv' := [(0, _), (1, _)]) [1, 0] (n := 40) hX (dec_of D_X10_year (i := 22) rfl) rfl rfl (by decide) rfl ?_
    refine s_iconst (v := 0) (n := 41) hX (dec_of D_X10_year (i := 23) rfl) rfl (by decide) ?_
    refine s_istore_n (lv' := [(0, _), (1, _), (2, _)]) [1, 2, 0] (n := 42) hX (dec_of D_X10_year (i := 24) rfl) rfl rfl (by decide) rfl ?_
    refine s_sub [0, 1, 2] rfl (s_lp (pc := 42) (Sf := fun (z6 : ST × Int32 × Int32) => z6.1) (lvf := fun (z6 : ST × Int32 × Int32) => [(0, .ref (ga G 131 0)), (1, .int z6.2.1), (2, .int z6.2.2)]) (fun rec7 hre8 z6 => ?_) FU (s5, 0, 0))
    refine s_iload_n 2 (n := 43) hX (dec_of D_X10_year (i := 25) rfl) rfl rfl rfl ?_
    refine s_aload_n 0 (n := 44) hX (dec_of D_X10_year (i := 26) rfl) rfl rfl rfl ?_
    refine s_getI (c := 10) (p := 10) (id := 850) (n := 47) hX cls10 (vk131 (by omega)) (dec_of D_X10_year (i := 27) rfl) rfl rfl wd_1356 ?_
    refine s_icmp_ge (tgt := 103) (n := 50) hX (dec_of D_X10_year (i := 28) rfl) rfl rfl ?_ ?_
    · refine s_iload_n 1 (n := 104) hX (dec_of D_X10_year (i := 57) rfl) rfl rfl rfl ?_
      exact s_iret hX hR (dec_of D_X10_year (i := 58) rfl) rfl
    · refine s_iconst (v := 0) (n := 51) hX (dec_of D_X10_year (i := 29) rfl) rfl (by decide) ?_
      refine s_istore_n (lv' := [(0, _), (1, _), (2, _), (3, _)]) [1, 2, 3, 0] (n := 52) hX (dec_of D_X10_year (i := 30) rfl) rfl rfl (by decide) rfl ?_
      refine s_sub [0, 1, 2, 3] rfl (s_lp (pc := 52) (Sf := fun (z9 : ST × Int32 × Int32) => z9.1) (lvf := fun (z9 : ST × Int32 × Int32) => [(0, .ref (ga G 131 0)), (1, .int z9.2.1), (2, .int z6.2.2), (3, .int z9.2.2)]) (fun rec10 hre11 z9 => ?_) FU (z6.1, z6.2.1, 0))
      refine s_iload_n 3 (n := 53) hX (dec_of D_X10_year (i := 31) rfl) rfl rfl rfl ?_
      refine s_aload_n 0 (n := 54) hX (dec_of D_X10_year (i := 32) rfl) rfl rfl rfl ?_
      refine s_getI (c := 10) (p := 12) (id := 852) (n := 57) hX cls10 (vk131 (by omega)) (dec_of D_X10_year (i := 33) rfl) rfl rfl wd_1358 ?_
      refine s_icmp_ge (tgt := 97) (n := 60) hX (dec_of D_X10_year (i := 34) rfl) rfl rfl ?_ ?_
      · refine s_iinc (v := z6.2.2 + 1) (lv' := [(0, _), (1, _), (2, _), (3, _)]) 2 [1, 2, 0, 3] (n := 100) hX (dec_of D_X10_year (i := 55) rfl) rfl rfl rfl (by decide) rfl ?_
        refine s_goto (n := 42) hX (dec_of D_X10_year (i := 56) rfl) rfl ?_
        exact s_sub [0, 1, 2] rfl (hre8 (z9.1, z9.2.1, (z6.2.2 + 1)))
      · refine s_iconst (v := 0) (n := 61) hX (dec_of D_X10_year (i := 35) rfl) rfl (by decide) ?_
        refine s_istore (lv' := [(0, _), (1, _), (2, _), (3, _), (4, _)]) [1, 2, 3, 4, 0] (n := 63) hX (dec_of D_X10_year (i := 36) rfl) rfl (by decide) rfl ?_
        refine s_sub [0, 1, 2, 3, 4] rfl (s_lp (pc := 63) (Sf := fun (z12 : ST × Int32 × Int32) => z12.1) (lvf := fun (z12 : ST × Int32 × Int32) => [(0, .ref (ga G 131 0)), (1, .int z12.2.1), (2, .int z6.2.2), (3, .int z9.2.2), (4, .int z12.2.2)]) (fun rec13 hre14 z12 => ?_) FU (z9.1, z9.2.1, 0))
        refine s_iload 4 (n := 65) hX (dec_of D_X10_year (i := 37) rfl) rfl rfl ?_
        refine s_aload_n 0 (n := 66) hX (dec_of D_X10_year (i := 38) rfl) rfl rfl rfl ?_
        refine s_getR (c := 10) (p := 7) (k' := 33) (n := 69) hX cls10 (vk131 (by omega)) (dec_of D_X10_year (i := 39) rfl) rfl rfl wd_1353 ?_
        refine s_iload_n 3 (n := 70) hX (dec_of D_X10_year (i := 40) rfl) rfl rfl rfl ?_
        refine s_iald (n := 71) hX (vk33 (by omega)) (by decide) (dec_of D_X10_year (i := 41) rfl) rfl (fun v15 => ?_)
        refine s_icmp_ge (tgt := 91) (n := 74) hX (dec_of D_X10_year (i := 42) rfl) rfl rfl ?_ ?_
        · refine s_iinc (v := z9.2.2 + 1) (lv' := [(0, _), (1, _), (2, _), (3, _), (4, _)]) 3 [1, 2, 3, 0, 4] (n := 94) hX (dec_of D_X10_year (i := 53) rfl) rfl rfl rfl (by decide) rfl ?_
          refine s_goto (n := 52) hX (dec_of D_X10_year (i := 54) rfl) rfl ?_
          exact s_sub [0, 1, 2, 3] rfl (hre11 (z12.1, z12.2.1, (z9.2.2 + 1)))
        · refine s_iload_n 1 (n := 75) hX (dec_of D_X10_year (i := 43) rfl) rfl rfl rfl ?_
          refine s_aload_n 0 (n := 76) hX (dec_of D_X10_year (i := 44) rfl) rfl rfl rfl ?_
          refine s_iload_n 2 (n := 77) hX (dec_of D_X10_year (i := 45) rfl) rfl rfl rfl ?_
          refine s_iload_n 3 (n := 78) hX (dec_of D_X10_year (i := 46) rfl) rfl rfl rfl ?_
          refine s_iload 4 (n := 80) hX (dec_of D_X10_year (i := 47) rfl) rfl rfl ?_
          refine s_callVP (c := 10) (n := 83) hX cls10 (vk131 (by omega)) lk_RX10_341 (dec_of D_X10_year (i := 48) rfl) rfl (by decide) (c_X10_goesYear (l := _) hG _ _ _ _) rfl rfl (Nat.le_of_ble_eq_true rfl) (fun q16 => ?_)
          refine s_iadd (n := 84) hX (dec_of D_X10_year (i := 49) rfl) rfl ?_
          refine s_topi (fun x17 => ?_)
          refine s_istore_n (lv' := [(0, _), (1, _), (2, _), (3, _), (4, _)]) [1, 0, 2, 3, 4] (n := 85) hX (dec_of D_X10_year (i := 50) rfl) rfl rfl (by decide) rfl ?_
          refine s_iinc (v := z12.2.2 + 1) (lv' := [(0, _), (1, _), (2, _), (3, _), (4, _)]) 4 [1, 2, 3, 4, 0] (n := 88) hX (dec_of D_X10_year (i := 51) rfl) rfl rfl rfl (by decide) rfl ?_
          refine s_goto (n := 63) hX (dec_of D_X10_year (i := 52) rfl) rfl ?_
          exact s_sub [0, 1, 2, 3, 4] rfl (hre14 (q16.2, x17, (z12.2.2 + 1)))
  · refine s_bipush (v := (-2)) (n := 21) hX (dec_of D_X10_year (i := 9) rfl) rfl (by decide) ?_
    exact s_iret hX hR (dec_of D_X10_year (i := 10) rfl) rfl
def T_X10_broughtBy : List (Nat × Instr × Nat) := [(0, .iconst 0, 1), (1, .istore 4, 2), (3, .iconst 0, 1), (4, .istore 5, 2), (6, .iload 5, 2), (8, .aload_n 0, 1), (9, .getfield 229, 3), (12, .if_icmp .ge 59, 3), (15, .iload 4, 2), (17, .aload_n 0, 1), (18, .iload 5, 2), (20, .aload_n 0, 1), (21, .getfield 28, 3), (24, .sipush 2672, 3), (27, .iload_n 1, 1), (28, .iadd, 1), (29, .iaload, 1), (30, .iconst 1, 1), (31, .invokevirtual 279, 3), (34, .ifCond .eq 27, 3), (37, .aload_n 0, 1), (38, .iload 5, 2), (40, .iload_n 2, 1), (41, .iload_n 3, 1), (42, .invokevirtual 289, 3), (45, .aload_n 0, 1), (46, .getfield 28, 3), (49, .iload 5, 2), (51, .iload_n 2, 1), (52, .iload_n 3, 1), (53, .invokestatic 344, 3), (56, .iaload, 1), (57, .iadd, 1), (58, .goto 4, 3), (61, .iconst 0, 1), (62, .iadd, 1), (63, .istore 4, 2), (65, .iinc 5 1, 3), (68, .goto (-62), 3), (71, .iload 4, 2), (73, .ireturn, 1)]
theorem D_X10_broughtBy : dchk cX10_broughtBy T_X10_broughtBy = true := by decide +kernel
def Mo_broughtBy (σ : ST) (a1 : Int32) (a2 : Int32) (a3 : Int32) : Option Int32 :=
  lp_ (fun rec2 (z1 : Int32 × Int32) => (if (gF σ 850 0) ≤ z1.2 then some z1.1 else bd_ (ldI σ 34 0 (2672 + a1)) (fun v4 => bd_ (Mo_doesPay (σ) z1.2 v4 1) (fun q5 => (if q5 = 0 then lt_ ((z1.1 + 0)) (fun x6 => rec2 (x6, (z1.2 + 1))) else bd_ (Mo_keptOf (σ) z1.2 a2 a3) (fun q7 => bd_ (Mo_lapsedAt (σ) z1.2 a2 a3) (fun q8 => bd_ (ldI σ 34 0 q8) (fun v9 => lt_ ((z1.1 + (q7 + v9))) (fun x10 => rec2 (x10, (z1.2 + 1))))))))))) FU (0, 0)
set_option maxHeartbeats 4000000 in
set_option maxRecDepth 100000 in
theorem c_X10_broughtBy {G : GW} (hG : Good G) {l : Launch} (σ : ST) (a1 : Int32) (a2 : Int32) (a3 : Int32) : Ctr G l yX10_broughtBy cX10_broughtBy 6 (some .int) 2 [.ref (ga G 131 0), .int a1, .int a2, .int a3] σ (oI σ) (Mo_broughtBy σ a1 a2 a3) := by
  refine ctr_of hG (by decide) (Nat.le_of_ble_eq_true rfl) ?_
  intro X hXl hR hX
  have hX : Ok G X cX10_broughtBy 6 RX10 2 := hX
  unfold Mo_broughtBy
  show Sim G X 6 (MQX G X (oI σ)) σ 0 [(0, .ref (ga G 131 0)), (1, .int a1), (2, .int a2), (3, .int a3)] [] _
  refine s_iconst (v := 0) (n := 1) hX (dec_of D_X10_broughtBy (i := 0) rfl) rfl (by decide) ?_
  refine s_istore (lv' := [(0, _), (1, _), (2, _), (3, _), (4, _)]) [1, 2, 3, 4, 0] (n := 3) hX (dec_of D_X10_broughtBy (i := 1) rfl) rfl (by decide) rfl ?_
  refine s_iconst (v := 0) (n := 4) hX (dec_of D_X10_broughtBy (i := 2) rfl) rfl (by decide) ?_
  refine s_istore (lv' := [(0, _), (1, _), (2, _), (3, _), (4, _), (5, _)]) [1, 2, 3, 4, 5, 0] (n := 6) hX (dec_of D_X10_broughtBy (i := 3) rfl) rfl (by decide) rfl ?_
  refine s_sub [0, 1, 2, 3, 4, 5] rfl (s_lp (pc := 6) (Sf := fun (z1 : Int32 × Int32) => σ) (lvf := fun (z1 : Int32 × Int32) => [(0, .ref (ga G 131 0)), (1, .int a1), (2, .int a2), (3, .int a3), (4, .int z1.1), (5, .int z1.2)]) (fun rec2 hre3 z1 => ?_) FU (0, 0))
  refine s_iload 5 (n := 8) hX (dec_of D_X10_broughtBy (i := 4) rfl) rfl rfl ?_
  refine s_aload_n 0 (n := 9) hX (dec_of D_X10_broughtBy (i := 5) rfl) rfl rfl rfl ?_
  refine s_getI (c := 10) (p := 10) (id := 850) (n := 12) hX cls10 (vk131 (by omega)) (dec_of D_X10_broughtBy (i := 6) rfl) rfl rfl wd_1356 ?_
  refine s_icmp_ge (tgt := 71) (n := 15) hX (dec_of D_X10_broughtBy (i := 7) rfl) rfl rfl ?_ ?_
  · refine s_iload 4 (n := 73) hX (dec_of D_X10_broughtBy (i := 39) rfl) rfl rfl ?_
    exact s_iret hX hR (dec_of D_X10_broughtBy (i := 40) rfl) rfl
  · refine s_iload 4 (n := 17) hX (dec_of D_X10_broughtBy (i := 8) rfl) rfl rfl ?_
    refine s_aload_n 0 (n := 18) hX (dec_of D_X10_broughtBy (i := 9) rfl) rfl rfl rfl ?_
    refine s_iload 5 (n := 20) hX (dec_of D_X10_broughtBy (i := 10) rfl) rfl rfl ?_
    refine s_aload_n 0 (n := 21) hX (dec_of D_X10_broughtBy (i := 11) rfl) rfl rfl rfl ?_
    refine s_getR (c := 10) (p := 14) (k' := 34) (n := 24) hX cls10 (vk131 (by omega)) (dec_of D_X10_broughtBy (i := 12) rfl) rfl rfl wd_1360 ?_
    refine s_sipush (v := 2672) (n := 27) hX (dec_of D_X10_broughtBy (i := 13) rfl) rfl (by decide) ?_
    refine s_iload_n 1 (n := 28) hX (dec_of D_X10_broughtBy (i := 14) rfl) rfl rfl rfl ?_
    refine s_iadd (n := 29) hX (dec_of D_X10_broughtBy (i := 15) rfl) rfl ?_
    refine s_iald (n := 30) hX (vk34 (by omega)) (by decide) (dec_of D_X10_broughtBy (i := 16) rfl) rfl (fun v4 => ?_)
    refine s_iconst (v := 1) (n := 31) hX (dec_of D_X10_broughtBy (i := 17) rfl) rfl (by decide) ?_
    refine s_callVI (c := 10) (n := 34) hX cls10 (vk131 (by omega)) lk_RX10_279 (dec_of D_X10_broughtBy (i := 18) rfl) rfl (by decide) (c_X10_doesPay (l := _) hG _ _ _ _) rfl rfl (Nat.le_of_ble_eq_true rfl) (fun q5 => ?_)
    refine s_if_eq (tgt := 61) (n := 37) hX (dec_of D_X10_broughtBy (i := 19) rfl) rfl rfl ?_ ?_
    · refine s_iconst (v := 0) (n := 62) hX (dec_of D_X10_broughtBy (i := 34) rfl) rfl (by decide) ?_
      refine s_iadd (n := 63) hX (dec_of D_X10_broughtBy (i := 35) rfl) rfl ?_
      refine s_topi (fun x6 => ?_)
      refine s_istore (lv' := [(0, _), (1, _), (2, _), (3, _), (4, _), (5, _)]) [1, 2, 3, 4, 0, 5] (n := 65) hX (dec_of D_X10_broughtBy (i := 36) rfl) rfl (by decide) rfl ?_
      refine s_iinc (v := z1.2 + 1) (lv' := [(0, _), (1, _), (2, _), (3, _), (4, _), (5, _)]) 5 [1, 2, 3, 4, 5, 0] (n := 68) hX (dec_of D_X10_broughtBy (i := 37) rfl) rfl rfl rfl (by decide) rfl ?_
      refine s_goto (n := 6) hX (dec_of D_X10_broughtBy (i := 38) rfl) rfl ?_
      exact s_sub [0, 1, 2, 3, 4, 5] rfl (hre3 (x6, (z1.2 + 1)))
    · refine s_aload_n 0 (n := 38) hX (dec_of D_X10_broughtBy (i := 20) rfl) rfl rfl rfl ?_
      refine s_iload 5 (n := 40) hX (dec_of D_X10_broughtBy (i := 21) rfl) rfl rfl ?_
      refine s_iload_n 2 (n := 41) hX (dec_of D_X10_broughtBy (i := 22) rfl) rfl rfl rfl ?_
      refine s_iload_n 3 (n := 42) hX (dec_of D_X10_broughtBy (i := 23) rfl) rfl rfl rfl ?_
      refine s_callVI (c := 10) (n := 45) hX cls10 (vk131 (by omega)) lk_RX10_289 (dec_of D_X10_broughtBy (i := 24) rfl) rfl (by decide) (c_X10_keptOf (l := _) hG _ _ _ _) rfl rfl (Nat.le_of_ble_eq_true rfl) (fun q7 => ?_)
      refine s_aload_n 0 (n := 46) hX (dec_of D_X10_broughtBy (i := 25) rfl) rfl rfl rfl ?_
      refine s_getR (c := 10) (p := 14) (k' := 34) (n := 49) hX cls10 (vk131 (by omega)) (dec_of D_X10_broughtBy (i := 26) rfl) rfl rfl wd_1360 ?_
      refine s_iload 5 (n := 51) hX (dec_of D_X10_broughtBy (i := 27) rfl) rfl rfl ?_
      refine s_iload_n 2 (n := 52) hX (dec_of D_X10_broughtBy (i := 28) rfl) rfl rfl rfl ?_
      refine s_iload_n 3 (n := 53) hX (dec_of D_X10_broughtBy (i := 29) rfl) rfl rfl rfl ?_
      refine s_callSI (n := 56) hX lk_RX10_344 (dec_of D_X10_broughtBy (i := 30) rfl) rfl (by decide) (c_X10_lapsedAt (l := _) hG _ _ _ _) rfl rfl (Nat.le_of_ble_eq_true rfl) (fun q8 => ?_)
      refine s_iald (n := 57) hX (vk34 (by omega)) (by decide) (dec_of D_X10_broughtBy (i := 31) rfl) rfl (fun v9 => ?_)
      refine s_iadd (n := 58) hX (dec_of D_X10_broughtBy (i := 32) rfl) rfl ?_
      refine s_goto (n := 62) hX (dec_of D_X10_broughtBy (i := 33) rfl) rfl ?_
      refine s_iadd (n := 63) hX (dec_of D_X10_broughtBy (i := 35) rfl) rfl ?_
      refine s_topi (fun x10 => ?_)
      refine s_istore (lv' := [(0, _), (1, _), (2, _), (3, _), (4, _), (5, _)]) [1, 2, 3, 4, 0, 5] (n := 65) hX (dec_of D_X10_broughtBy (i := 36) rfl) rfl (by decide) rfl ?_
      refine s_iinc (v := z1.2 + 1) (lv' := [(0, _), (1, _), (2, _), (3, _), (4, _), (5, _)]) 5 [1, 2, 3, 4, 5, 0] (n := 68) hX (dec_of D_X10_broughtBy (i := 37) rfl) rfl rfl rfl (by decide) rfl ?_
      refine s_goto (n := 6) hX (dec_of D_X10_broughtBy (i := 38) rfl) rfl ?_
      exact s_sub [0, 1, 2, 3, 4, 5] rfl (hre3 (x10, (z1.2 + 1)))
theorem lk_RX10_347 : LkV RX10 347 RX10 yX10_openSeat cX10_openSeat 3 (some .int) 1 := ⟨wd_1789, wd_1791, wd_64, wd_93, wd_1792, by decide +kernel, by decide⟩
def T_X10_whyNoClaim : List (Nat × Instr × Nat) := [(0, .aload_n 0, 1), (1, .iload_n 1, 1), (2, .invokevirtual 264, 3), (5, .ifCond .eq 11, 3), (8, .aload_n 0, 1), (9, .iload_n 2, 1), (10, .invokevirtual 241, 3), (13, .ifCond .ne 5, 3), (16, .iconst (-1), 1), (17, .ireturn, 1), (18, .aload_n 0, 1), (19, .iload_n 1, 1), (20, .iload_n 2, 1), (21, .invokevirtual 273, 3), (24, .bipush (-2), 2), (26, .if_icmp .eq 8, 3), (29, .bipush (-2), 2), (31, .goto 18, 3), (34, .aload_n 0, 1), (35, .iload_n 2, 1), (36, .invokevirtual 347, 3), (39, .iconst (-1), 1), (40, .if_icmp .ne 8, 3), (43, .bipush (-3), 2), (45, .goto 4, 3), (48, .iconst 0, 1), (49, .ireturn, 1)]
theorem D_X10_whyNoClaim : dchk cX10_whyNoClaim T_X10_whyNoClaim = true := by decide +kernel
def Mo_whyNoClaim (σ : ST) (a1 : Int32) (a2 : Int32) : Option Int32 :=
  bd_ (Mo_isPlayer (σ) a1) (fun q1 => (if q1 = 0 then some (-1) else bd_ (Mo_isSession (σ) a2) (fun q2 => (if q2 = 0 then some (-1) else bd_ (Mo_roleOf (σ) a1 a2) (fun q3 => (if q3 = (-2) then bd_ (Mo_openSeat (σ) a2) (fun q4 => (if q4 = (-1) then some (-3) else some 0)) else some (-2)))))))
set_option maxHeartbeats 4000000 in
set_option maxRecDepth 100000 in
theorem c_X10_whyNoClaim {G : GW} (hG : Good G) {l : Launch} (σ : ST) (a1 : Int32) (a2 : Int32) : Ctr G l yX10_whyNoClaim cX10_whyNoClaim 3 (some .int) 2 [.ref (ga G 131 0), .int a1, .int a2] σ (oI σ) (Mo_whyNoClaim σ a1 a2) := by
  refine ctr_of hG (by decide) (Nat.le_of_ble_eq_true rfl) ?_
  intro X hXl hR hX
  have hX : Ok G X cX10_whyNoClaim 3 RX10 2 := hX
  unfold Mo_whyNoClaim
  show Sim G X 3 (MQX G X (oI σ)) σ 0 [(0, .ref (ga G 131 0)), (1, .int a1), (2, .int a2)] [] _
  refine s_aload_n 0 (n := 1) hX (dec_of D_X10_whyNoClaim (i := 0) rfl) rfl rfl rfl ?_
  refine s_iload_n 1 (n := 2) hX (dec_of D_X10_whyNoClaim (i := 1) rfl) rfl rfl rfl ?_
  refine s_callVI (c := 10) (n := 5) hX cls10 (vk131 (by omega)) lk_RX10_264 (dec_of D_X10_whyNoClaim (i := 2) rfl) rfl (by decide) (c_X10_isPlayer (l := _) hG _ _) rfl rfl (Nat.le_of_ble_eq_true rfl) (fun q1 => ?_)
  refine s_if_eq (tgt := 16) (n := 8) hX (dec_of D_X10_whyNoClaim (i := 3) rfl) rfl rfl ?_ ?_
  · refine s_iconst (v := (-1)) (n := 17) hX (dec_of D_X10_whyNoClaim (i := 8) rfl) rfl (by decide) ?_
    exact s_iret hX hR (dec_of D_X10_whyNoClaim (i := 9) rfl) rfl
  · refine s_aload_n 0 (n := 9) hX (dec_of D_X10_whyNoClaim (i := 4) rfl) rfl rfl rfl ?_
    refine s_iload_n 2 (n := 10) hX (dec_of D_X10_whyNoClaim (i := 5) rfl) rfl rfl rfl ?_
    refine s_callVI (c := 10) (n := 13) hX cls10 (vk131 (by omega)) lk_RX10_241 (dec_of D_X10_whyNoClaim (i := 6) rfl) rfl (by decide) (c_X10_isSession (l := _) hG _ _) rfl rfl (Nat.le_of_ble_eq_true rfl) (fun q2 => ?_)
    refine s_if_ne (tgt := 18) (n := 16) hX (dec_of D_X10_whyNoClaim (i := 7) rfl) rfl rfl ?_ ?_
    · refine s_aload_n 0 (n := 19) hX (dec_of D_X10_whyNoClaim (i := 10) rfl) rfl rfl rfl ?_
      refine s_iload_n 1 (n := 20) hX (dec_of D_X10_whyNoClaim (i := 11) rfl) rfl rfl rfl ?_
      refine s_iload_n 2 (n := 21) hX (dec_of D_X10_whyNoClaim (i := 12) rfl) rfl rfl rfl ?_
      refine s_callVI (c := 10) (n := 24) hX cls10 (vk131 (by omega)) lk_RX10_273 (dec_of D_X10_whyNoClaim (i := 13) rfl) rfl (by decide) (c_X10_roleOf (l := _) hG _ _ _) rfl rfl (Nat.le_of_ble_eq_true rfl) (fun q3 => ?_)
      refine s_bipush (v := (-2)) (n := 26) hX (dec_of D_X10_whyNoClaim (i := 14) rfl) rfl (by decide) ?_
      refine s_icmp_eq (tgt := 34) (n := 29) hX (dec_of D_X10_whyNoClaim (i := 15) rfl) rfl rfl ?_ ?_
      · refine s_aload_n 0 (n := 35) hX (dec_of D_X10_whyNoClaim (i := 18) rfl) rfl rfl rfl ?_
        refine s_iload_n 2 (n := 36) hX (dec_of D_X10_whyNoClaim (i := 19) rfl) rfl rfl rfl ?_
        refine s_callVI (c := 10) (n := 39) hX cls10 (vk131 (by omega)) lk_RX10_347 (dec_of D_X10_whyNoClaim (i := 20) rfl) rfl (by decide) (c_X10_openSeat (l := _) hG _ _) rfl rfl (Nat.le_of_ble_eq_true rfl) (fun q4 => ?_)
        refine s_iconst (v := (-1)) (n := 40) hX (dec_of D_X10_whyNoClaim (i := 21) rfl) rfl (by decide) ?_
        refine s_icmp_ne (tgt := 48) (n := 43) hX (dec_of D_X10_whyNoClaim (i := 22) rfl) rfl rfl ?_ ?_
        · refine s_iconst (v := 0) (n := 49) hX (dec_of D_X10_whyNoClaim (i := 25) rfl) rfl (by decide) ?_
          exact s_iret hX hR (dec_of D_X10_whyNoClaim (i := 26) rfl) rfl
        · refine s_bipush (v := (-3)) (n := 45) hX (dec_of D_X10_whyNoClaim (i := 23) rfl) rfl (by decide) ?_
          refine s_goto (n := 49) hX (dec_of D_X10_whyNoClaim (i := 24) rfl) rfl ?_
          exact s_iret hX hR (dec_of D_X10_whyNoClaim (i := 26) rfl) rfl
      · refine s_bipush (v := (-2)) (n := 31) hX (dec_of D_X10_whyNoClaim (i := 16) rfl) rfl (by decide) ?_
        refine s_goto (n := 49) hX (dec_of D_X10_whyNoClaim (i := 17) rfl) rfl ?_
        exact s_iret hX hR (dec_of D_X10_whyNoClaim (i := 26) rfl) rfl
    · refine s_iconst (v := (-1)) (n := 17) hX (dec_of D_X10_whyNoClaim (i := 8) rfl) rfl (by decide) ?_
      exact s_iret hX hR (dec_of D_X10_whyNoClaim (i := 9) rfl) rfl
def T_X10_empties : List (Nat × Instr × Nat) := [(0, .iconst 0, 1), (1, .istore 4, 2), (3, .iload 4, 2), (5, .bipush 9, 2), (7, .if_icmp .ge 24, 3), (10, .aload_n 0, 1), (11, .getfield 28, 3), (14, .iload_n 1, 1), (15, .iload_n 2, 1), (16, .iload_n 3, 1), (17, .invokestatic 244, 3), (20, .iload 4, 2), (22, .iadd, 1), (23, .iconst 0, 1), (24, .iastore, 1), (25, .iinc 4 1, 3), (28, .goto (-25), 3), (31, .aload_n 0, 1), (32, .getfield 28, 3), (35, .iload_n 1, 1), (36, .iload_n 2, 1), (37, .iload_n 3, 1), (38, .invokestatic 344, 3), (41, .iconst 0, 1), (42, .iastore, 1), (43, .return_, 1)]
theorem D_X10_empties : dchk cX10_empties T_X10_empties = true := by decide +kernel
def Mo_empties (σ : ST) (a1 : Int32) (a2 : Int32) (a3 : Int32) : Option ST :=
  lp_ (fun rec2 (z1 : ST × Int32) => (if 9 ≤ z1.2 then bd_ (Mo_lapsedAt z1.1 a1 a2 a3) (fun q4 => bd_ (stI z1.1 34 0 q4 0) (fun s5 => some s5)) else bd_ (Mo_keptAt z1.1 a1 a2 a3) (fun q6 => bd_ (stI z1.1 34 0 (q6 + z1.2) 0) (fun s7 => rec2 (s7, (z1.2 + 1)))))) FU (σ, 0)
set_option maxHeartbeats 4000000 in
set_option maxRecDepth 100000 in
theorem c_X10_empties {G : GW} (hG : Good G) {l : Launch} (σ : ST) (a1 : Int32) (a2 : Int32) (a3 : Int32) : Ctr G l yX10_empties cX10_empties 5 none 1 [.ref (ga G 131 0), .int a1, .int a2, .int a3] σ oV (Mo_empties σ a1 a2 a3) := by
  refine ctr_of hG (by decide) (Nat.le_of_ble_eq_true rfl) ?_
  intro X hXl hR hX
  have hX : Ok G X cX10_empties 5 RX10 1 := hX
  unfold Mo_empties
  show Sim G X 5 (MQX G X oV) σ 0 [(0, .ref (ga G 131 0)), (1, .int a1), (2, .int a2), (3, .int a3)] [] _
  refine s_iconst (v := 0) (n := 1) hX (dec_of D_X10_empties (i := 0) rfl) rfl (by decide) ?_
  refine s_istore (lv' := [(0, _), (1, _), (2, _), (3, _), (4, _)]) [1, 2, 3, 4, 0] (n := 3) hX (dec_of D_X10_empties (i := 1) rfl) rfl (by decide) rfl ?_
  refine s_sub [0, 1, 2, 3, 4] rfl (s_lp (pc := 3) (Sf := fun (z1 : ST × Int32) => z1.1) (lvf := fun (z1 : ST × Int32) => [(0, .ref (ga G 131 0)), (1, .int a1), (2, .int a2), (3, .int a3), (4, .int z1.2)]) (fun rec2 hre3 z1 => ?_) FU (σ, 0))
  refine s_iload 4 (n := 5) hX (dec_of D_X10_empties (i := 2) rfl) rfl rfl ?_
  refine s_bipush (v := 9) (n := 7) hX (dec_of D_X10_empties (i := 3) rfl) rfl (by decide) ?_
  refine s_icmp_ge (tgt := 31) (n := 10) hX (dec_of D_X10_empties (i := 4) rfl) rfl rfl ?_ ?_
  · refine s_aload_n 0 (n := 32) hX (dec_of D_X10_empties (i := 17) rfl) rfl rfl rfl ?_
    refine s_getR (c := 10) (p := 14) (k' := 34) (n := 35) hX cls10 (vk131 (by omega)) (dec_of D_X10_empties (i := 18) rfl) rfl rfl wd_1360 ?_
    refine s_iload_n 1 (n := 36) hX (dec_of D_X10_empties (i := 19) rfl) rfl rfl rfl ?_
    refine s_iload_n 2 (n := 37) hX (dec_of D_X10_empties (i := 20) rfl) rfl rfl rfl ?_
    refine s_iload_n 3 (n := 38) hX (dec_of D_X10_empties (i := 21) rfl) rfl rfl rfl ?_
    refine s_callSI (n := 41) hX lk_RX10_344 (dec_of D_X10_empties (i := 22) rfl) rfl (by decide) (c_X10_lapsedAt (l := _) hG _ _ _ _) rfl rfl (Nat.le_of_ble_eq_true rfl) (fun q4 => ?_)
    refine s_iconst (v := 0) (n := 42) hX (dec_of D_X10_empties (i := 23) rfl) rfl (by decide) ?_
    refine s_iast (n := 43) hX (vk34 (by omega)) (by decide) (dec_of D_X10_empties (i := 24) rfl) rfl (fun s5 => ?_)
    exact s_vret hX hR (dec_of D_X10_empties (i := 25) rfl) rfl
  · refine s_aload_n 0 (n := 11) hX (dec_of D_X10_empties (i := 5) rfl) rfl rfl rfl ?_
    refine s_getR (c := 10) (p := 14) (k' := 34) (n := 14) hX cls10 (vk131 (by omega)) (dec_of D_X10_empties (i := 6) rfl) rfl rfl wd_1360 ?_
    refine s_iload_n 1 (n := 15) hX (dec_of D_X10_empties (i := 7) rfl) rfl rfl rfl ?_
    refine s_iload_n 2 (n := 16) hX (dec_of D_X10_empties (i := 8) rfl) rfl rfl rfl ?_
    refine s_iload_n 3 (n := 17) hX (dec_of D_X10_empties (i := 9) rfl) rfl rfl rfl ?_
    refine s_callSI (n := 20) hX lk_RX10_244 (dec_of D_X10_empties (i := 10) rfl) rfl (by decide) (c_X10_keptAt (l := _) hG _ _ _ _) rfl rfl (Nat.le_of_ble_eq_true rfl) (fun q6 => ?_)
    refine s_iload 4 (n := 22) hX (dec_of D_X10_empties (i := 11) rfl) rfl rfl ?_
    refine s_iadd (n := 23) hX (dec_of D_X10_empties (i := 12) rfl) rfl ?_
    refine s_iconst (v := 0) (n := 24) hX (dec_of D_X10_empties (i := 13) rfl) rfl (by decide) ?_
    refine s_iast (n := 25) hX (vk34 (by omega)) (by decide) (dec_of D_X10_empties (i := 14) rfl) rfl (fun s7 => ?_)
    refine s_iinc (v := z1.2 + 1) (lv' := [(0, _), (1, _), (2, _), (3, _), (4, _)]) 4 [1, 2, 3, 4, 0] (n := 28) hX (dec_of D_X10_empties (i := 15) rfl) rfl rfl rfl (by decide) rfl ?_
    refine s_goto (n := 3) hX (dec_of D_X10_empties (i := 16) rfl) rfl ?_
    exact s_sub [0, 1, 2, 3, 4] rfl (hre3 (s7, (z1.2 + 1)))
theorem lk_RX10_350 : LkV RX10 350 RX10 yX10_whyNoClaim cX10_whyNoClaim 3 (some .int) 2 := ⟨wd_1785, wd_1787, wd_63, wd_93, wd_1788, by decide +kernel, by decide⟩
theorem lk_RX10_353 : LkV RX10 353 RX10 yX10_broughtBy cX10_broughtBy 6 (some .int) 3 := ⟨wd_1793, wd_1795, wd_65, wd_93, wd_1796, by decide +kernel, by decide⟩
theorem lk_RX10_356 : LkV RX10 356 RX10 yX10_empties cX10_empties 5 none 3 := ⟨wd_1797, wd_1799, wd_66, wd_93, wd_1800, by decide +kernel, by decide⟩
def T_X10_claim : List (Nat × Instr × Nat) := [(0, .aload_n 0, 1), (1, .iconst 0, 1), (2, .putfield 86, 3), (5, .aload_n 0, 1), (6, .iload_n 1, 1), (7, .iload_n 2, 1), (8, .invokevirtual 350, 3), (11, .istore_n 3, 1), (12, .iload_n 3, 1), (13, .ifCond .ge 5, 3), (16, .iload_n 3, 1), (17, .ireturn, 1), (18, .aload_n 0, 1), (19, .invokevirtual 330, 3), (22, .aload_n 0, 1), (23, .iload_n 2, 1), (24, .invokevirtual 347, 3), (27, .istore 4, 2), (29, .aload_n 0, 1), (30, .iload_n 1, 1), (31, .iload_n 2, 1), (32, .iload 4, 2), (34, .invokevirtual 353, 3), (37, .istore 5, 2), (39, .iconst 0, 1), (40, .istore 6, 2), (42, .iload 6, 2), (44, .aload_n 0, 1), (45, .getfield 229, 3), (48, .if_icmp .ge 112, 3), (51, .aload_n 0, 1), (52, .iload 6, 2), (54, .iload_n 2, 1), (55, .iload 4, 2), (57, .invokevirtual 289, 3), (60, .istore 7, 2), (62, .aload_n 0, 1), (63, .getfield 28, 3), (66, .iload 6, 2), (68, .iload_n 2, 1), (69, .iload 4, 2), (71, .invokestatic 344, 3), (74, .iaload, 1), (75, .istore 8, 2), (77, .aload_n 0, 1), (78, .iload 6, 2), (80, .aload_n 0, 1), (81, .getfield 28, 3), (84, .sipush 2672, 3), (87, .iload_n 1, 1), (88, .iadd, 1), (89, .iaload, 1), (90, .iconst 1, 1), (91, .invokevirtual 279, 3), (94, .ifCond .eq 35, 3), (97, .aload_n 0, 1), (98, .iload_n 1, 1), (99, .iload 6, 2), (101, .iload 7, 2), (103, .iload 8, 2), (105, .iadd, 1), (106, .iconst 1, 1), (107, .invokevirtual 337, 3), (110, .aload_n 0, 1), (111, .getfield 28, 3), (114, .sipush 192, 3), (117, .iload 6, 2), (119, .iadd, 1), (120, .dup2, 1), (121, .iaload, 1), (122, .iload 8, 2), (124, .isub, 1), (125, .iastore, 1), (126, .goto 19, 3), (129, .aload_n 0, 1), (130, .getfield 28, 3), (133, .sipush 192, 3), (136, .iload 6, 2), (138, .iadd, 1), (139, .dup2, 1), (140, .iaload, 1), (141, .iload 7, 2), (143, .iadd, 1), (144, .iastore, 1), (145, .aload_n 0, 1), (146, .iload 6, 2), (148, .iload_n 2, 1), (149, .iload 4, 2), (151, .invokevirtual 356, 3), (154, .iinc 6 1, 3), (157, .goto (-115), 3), (160, .aload_n 0, 1), (161, .getfield 28, 3), (164, .sipush 2604, 3), (167, .iconst 5, 1), (168, .iload_n 2, 1), (169, .imul, 1), (170, .iadd, 1), (171, .iload 4, 2), (173, .iadd, 1), (174, .iload_n 1, 1), (175, .iastore, 1), (176, .iload 5, 2), (178, .ireturn, 1)]
theorem D_X10_claim : dchk cX10_claim T_X10_claim = true := by decide +kernel
def Mo_claim (σ : ST) (a1 : Int32) (a2 : Int32) : Option (Int32 × ST) :=
  lt_ (setF σ 840 0 0) (fun s1 => bd_ (Mo_whyNoClaim s1 a1 a2) (fun q2 => (if 0 ≤ q2 then bd_ (Mo_keeps s1) (fun q3 => bd_ (Mo_openSeat q3 a2) (fun q4 => bd_ (Mo_broughtBy q3 a1 a2 q4) (fun q5 => lp_ (fun rec7 (z6 : ST × Int32) => (if (gF z6.1 850 0) ≤ z6.2 then bd_ (stI z6.1 34 0 ((2604 + (5 * a2)) + q4) a1) (fun s9 => some (q5, s9)) else bd_ (Mo_keptOf z6.1 z6.2 a2 q4) (fun q10 => bd_ (Mo_lapsedAt z6.1 z6.2 a2 q4) (fun q11 => bd_ (ldI z6.1 34 0 q11) (fun v12 => bd_ (ldI z6.1 34 0 (2672 + a1)) (fun v13 => bd_ (Mo_doesPay z6.1 z6.2 v13 1) (fun q14 => lk_ (fun kk16 => (if q14 = 0 then bd_ (ldI z6.1 34 0 (192 + z6.2)) (fun v19 => bd_ (stI z6.1 34 0 (192 + z6.2) (v19 + q10)) (fun s20 => kk16 s20)) else bd_ (Mo_pays_2 z6.1 a1 z6.2 (q10 + v12) 1) (fun q21 => bd_ (ldI q21 34 0 (192 + z6.2)) (fun v22 => bd_ (stI q21 34 0 (192 + z6.2) (v22 - v12)) (fun s23 => kk16 s23))))) (fun (j15 : ST) => bd_ (Mo_empties j15 z6.2 a2 q4) (fun q18 => rec7 (q18, (z6.2 + 1))))))))))) FU (q3, 0)))) else some (q2, s1))))
set_option maxHeartbeats 4000000 in
set_option maxRecDepth 100000 in
theorem c_X10_claim {G : GW} (hG : Good G) {l : Launch} (σ : ST) (a1 : Int32) (a2 : Int32) : Ctr G l yX10_claim cX10_claim 9 (some .int) 3 [.ref (ga G 131 0), .int a1, .int a2] σ oP (Mo_claim σ a1 a2) := by
  refine ctr_of hG (by decide) (Nat.le_of_ble_eq_true rfl) ?_
  intro X hXl hR hX
  have hX : Ok G X cX10_claim 9 RX10 3 := hX
  unfold Mo_claim
  show Sim G X 9 (MQX G X oP) σ 0 [(0, .ref (ga G 131 0)), (1, .int a1), (2, .int a2)] [] _
  refine s_aload_n 0 (n := 1) hX (dec_of D_X10_claim (i := 0) rfl) rfl rfl rfl ?_
  refine s_iconst (v := 0) (n := 2) hX (dec_of D_X10_claim (i := 1) rfl) rfl (by decide) ?_
  refine s_putI (c := 10) (p := 0) (n := 5) hX cls10 (vk131 (by omega)) (dec_of D_X10_claim (i := 2) rfl) rfl rfl (by decide) wd_1346 rfl rfl rfl (fun s1 => ?_)
  refine s_aload_n 0 (n := 6) hX (dec_of D_X10_claim (i := 3) rfl) rfl rfl rfl ?_
  refine s_iload_n 1 (n := 7) hX (dec_of D_X10_claim (i := 4) rfl) rfl rfl rfl ?_
  refine s_iload_n 2 (n := 8) hX (dec_of D_X10_claim (i := 5) rfl) rfl rfl rfl ?_
  refine s_callVI (c := 10) (n := 11) hX cls10 (vk131 (by omega)) lk_RX10_350 (dec_of D_X10_claim (i := 6) rfl) rfl (by decide) (c_X10_whyNoClaim (l := _) hG _ _ _) rfl rfl (Nat.le_of_ble_eq_true rfl) (fun q2 => ?_)
  refine s_istore_n (lv' := [(0, _), (1, _), (2, _), (3, _)]) [1, 2, 3, 0] (n := 12) hX (dec_of D_X10_claim (i := 7) rfl) rfl rfl (by decide) rfl ?_
  refine s_iload_n 3 (n := 13) hX (dec_of D_X10_claim (i := 8) rfl) rfl rfl rfl ?_
  refine s_if_ge (tgt := 18) (n := 16) hX (dec_of D_X10_claim (i := 9) rfl) rfl rfl ?_ ?_
  · refine s_aload_n 0 (n := 19) hX (dec_of D_X10_claim (i := 12) rfl) rfl rfl rfl ?_
    refine s_callVV (c := 10) (n := 22) hX cls10 (vk131 (by omega)) lk_RX10_330 (dec_of D_X10_claim (i := 13) rfl) rfl (by decide) (c_X10_keeps (l := _) hG _) rfl rfl (Nat.le_of_ble_eq_true rfl) (fun q3 => ?_)
    refine s_aload_n 0 (n := 23) hX (dec_of D_X10_claim (i := 14) rfl) rfl rfl rfl ?_
    refine s_iload_n 2 (n := 24) hX (dec_of D_X10_claim (i := 15) rfl) rfl rfl rfl ?_
    refine s_callVI (c := 10) (n := 27) hX cls10 (vk131 (by omega)) lk_RX10_347 (dec_of D_X10_claim (i := 16) rfl) rfl (by decide) (c_X10_openSeat (l := _) hG _ _) rfl rfl (Nat.le_of_ble_eq_true rfl) (fun q4 => ?_)
    refine s_istore (lv' := [(0, _), (1, _), (2, _), (3, _), (4, _)]) [1, 2, 3, 4, 0] (n := 29) hX (dec_of D_X10_claim (i := 17) rfl) rfl (by decide) rfl ?_
    refine s_aload_n 0 (n := 30) hX (dec_of D_X10_claim (i := 18) rfl) rfl rfl rfl ?_
    refine s_iload_n 1 (n := 31) hX (dec_of D_X10_claim (i := 19) rfl) rfl rfl rfl ?_
    refine s_iload_n 2 (n := 32) hX (dec_of D_X10_claim (i := 20) rfl) rfl rfl rfl ?_
    refine s_iload 4 (n := 34) hX (dec_of D_X10_claim (i := 21) rfl) rfl rfl ?_
    refine s_callVI (c := 10) (n := 37) hX cls10 (vk131 (by omega)) lk_RX10_353 (dec_of D_X10_claim (i := 22) rfl) rfl (by decide) (c_X10_broughtBy (l := _) hG _ _ _ _) rfl rfl (Nat.le_of_ble_eq_true rfl) (fun q5 => ?_)
    refine s_istore (lv' := [(0, _), (1, _), (2, _), (3, _), (4, _), (5, _)]) [1, 2, 3, 4, 5, 0] (n := 39) hX (dec_of D_X10_claim (i := 23) rfl) rfl (by decide) rfl ?_
    refine s_iconst (v := 0) (n := 40) hX (dec_of D_X10_claim (i := 24) rfl) rfl (by decide) ?_
    refine s_istore (lv' := [(0, _), (1, _), (2, _), (3, _), (4, _), (5, _), (6, _)]) [1, 2, 3, 4, 5, 6, 0] (n := 42) hX (dec_of D_X10_claim (i := 25) rfl) rfl (by decide) rfl ?_
    refine s_sub [0, 1, 2, 4, 5, 6] rfl (s_lp (pc := 42) (Sf := fun (z6 : ST × Int32) => z6.1) (lvf := fun (z6 : ST × Int32) => [(0, .ref (ga G 131 0)), (1, .int a1), (2, .int a2), (4, .int q4), (5, .int q5), (6, .int z6.2)]) (fun rec7 hre8 z6 => ?_) FU (q3, 0))
    refine s_iload 5 (n := 44) hX (dec_of D_X10_claim (i := 26) rfl) rfl rfl ?_
    refine s_aload_n 0 (n := 45) hX (dec_of D_X10_claim (i := 27) rfl) rfl rfl rfl ?_
    refine s_getI (c := 10) (p := 10) (id := 850) (n := 48) hX cls10 (vk131 (by omega)) (dec_of D_X10_claim (i := 28) rfl) rfl rfl wd_1356 ?_
    refine s_icmp_ge (tgt := 160) (n := 51) hX (dec_of D_X10_claim (i := 29) rfl) rfl rfl ?_ ?_
    · refine s_aload_n 0 (n := 161) hX (dec_of D_X10_claim (i := 91) rfl) rfl rfl rfl ?_
      refine s_getR (c := 10) (p := 14) (k' := 34) (n := 164) hX cls10 (vk131 (by omega)) (dec_of D_X10_claim (i := 92) rfl) rfl rfl wd_1360 ?_
      refine s_sipush (v := 2604) (n := 167) hX (dec_of D_X10_claim (i := 93) rfl) rfl (by decide) ?_
      refine s_iconst (v := 5) (n := 168) hX (dec_of D_X10_claim (i := 94) rfl) rfl (by decide) ?_
      refine s_iload_n 2 (n := 169) hX (dec_of D_X10_claim (i := 95) rfl) rfl rfl rfl ?_
      refine s_imul (n := 170) hX (dec_of D_X10_claim (i := 96) rfl) rfl ?_
      refine s_iadd (n := 171) hX (dec_of D_X10_claim (i := 97) rfl) rfl ?_
      refine s_iload 3 (n := 173) hX (dec_of D_X10_claim (i := 98) rfl) rfl rfl ?_
      refine s_iadd (n := 174) hX (dec_of D_X10_claim (i := 99) rfl) rfl ?_
      refine s_iload_n 1 (n := 175) hX (dec_of D_X10_claim (i := 100) rfl) rfl rfl rfl ?_
      refine s_iast (n := 176) hX (vk34 (by omega)) (by decide) (dec_of D_X10_claim (i := 101) rfl) rfl (fun s9 => ?_)
      refine s_iload 4 (n := 178) hX (dec_of D_X10_claim (i := 102) rfl) rfl rfl ?_
      exact s_iret hX hR (dec_of D_X10_claim (i := 103) rfl) rfl
    · refine s_aload_n 0 (n := 52) hX (dec_of D_X10_claim (i := 30) rfl) rfl rfl rfl ?_
      refine s_iload 5 (n := 54) hX (dec_of D_X10_claim (i := 31) rfl) rfl rfl ?_
      refine s_iload_n 2 (n := 55) hX (dec_of D_X10_claim (i := 32) rfl) rfl rfl rfl ?_
      refine s_iload 3 (n := 57) hX (dec_of D_X10_claim (i := 33) rfl) rfl rfl ?_
      refine s_callVI (c := 10) (n := 60) hX cls10 (vk131 (by omega)) lk_RX10_289 (dec_of D_X10_claim (i := 34) rfl) rfl (by decide) (c_X10_keptOf (l := _) hG _ _ _ _) rfl rfl (Nat.le_of_ble_eq_true rfl) (fun q10 => ?_)
      refine s_istore (lv' := [(0, _), (1, _), (2, _), (4, _), (5, _), (6, _), (7, _)]) [1, 2, 3, 4, 5, 6, 0] (n := 62) hX (dec_of D_X10_claim (i := 35) rfl) rfl (by decide) rfl ?_
      refine s_aload_n 0 (n := 63) hX (dec_of D_X10_claim (i := 36) rfl) rfl rfl rfl ?_
      refine s_getR (c := 10) (p := 14) (k' := 34) (n := 66) hX cls10 (vk131 (by omega)) (dec_of D_X10_claim (i := 37) rfl) rfl rfl wd_1360 ?_
      refine s_iload 5 (n := 68) hX (dec_of D_X10_claim (i := 38) rfl) rfl rfl ?_
      refine s_iload_n 2 (n := 69) hX (dec_of D_X10_claim (i := 39) rfl) rfl rfl rfl ?_
      refine s_iload 3 (n := 71) hX (dec_of D_X10_claim (i := 40) rfl) rfl rfl ?_
      refine s_callSI (n := 74) hX lk_RX10_344 (dec_of D_X10_claim (i := 41) rfl) rfl (by decide) (c_X10_lapsedAt (l := _) hG _ _ _ _) rfl rfl (Nat.le_of_ble_eq_true rfl) (fun q11 => ?_)
      refine s_iald (n := 75) hX (vk34 (by omega)) (by decide) (dec_of D_X10_claim (i := 42) rfl) rfl (fun v12 => ?_)
      refine s_istore (lv' := [(0, _), (1, _), (2, _), (4, _), (5, _), (6, _), (7, _), (8, _)]) [1, 2, 3, 4, 5, 6, 7, 0] (n := 77) hX (dec_of D_X10_claim (i := 43) rfl) rfl (by decide) rfl ?_
      refine s_aload_n 0 (n := 78) hX (dec_of D_X10_claim (i := 44) rfl) rfl rfl rfl ?_
      refine s_iload 5 (n := 80) hX (dec_of D_X10_claim (i := 45) rfl) rfl rfl ?_
      refine s_aload_n 0 (n := 81) hX (dec_of D_X10_claim (i := 46) rfl) rfl rfl rfl ?_
      refine s_getR (c := 10) (p := 14) (k' := 34) (n := 84) hX cls10 (vk131 (by omega)) (dec_of D_X10_claim (i := 47) rfl) rfl rfl wd_1360 ?_
      refine s_sipush (v := 2672) (n := 87) hX (dec_of D_X10_claim (i := 48) rfl) rfl (by decide) ?_
      refine s_iload_n 1 (n := 88) hX (dec_of D_X10_claim (i := 49) rfl) rfl rfl rfl ?_
      refine s_iadd (n := 89) hX (dec_of D_X10_claim (i := 50) rfl) rfl ?_
      refine s_iald (n := 90) hX (vk34 (by omega)) (by decide) (dec_of D_X10_claim (i := 51) rfl) rfl (fun v13 => ?_)
      refine s_iconst (v := 1) (n := 91) hX (dec_of D_X10_claim (i := 52) rfl) rfl (by decide) ?_
      refine s_callVI (c := 10) (n := 94) hX cls10 (vk131 (by omega)) lk_RX10_279 (dec_of D_X10_claim (i := 53) rfl) rfl (by decide) (c_X10_doesPay (l := _) hG _ _ _ _) rfl rfl (Nat.le_of_ble_eq_true rfl) (fun q14 => ?_)
      refine s_lk (pcj := 145) (Sf := fun (j15 : ST) => j15) (lvf := fun (j15 : ST) => [(0, .ref (ga G 131 0)), (1, .int a1), (2, .int a2), (4, .int q4), (5, .int q5), (6, .int z6.2)]) (stf := fun (j15 : ST) => []) (fun j15 => ?_) (fun kk16 hkk17 => ?_)
      · refine s_aload_n 0 (n := 146) hX (dec_of D_X10_claim (i := 84) rfl) rfl rfl rfl ?_
        refine s_iload 5 (n := 148) hX (dec_of D_X10_claim (i := 85) rfl) rfl rfl ?_
        refine s_iload_n 2 (n := 149) hX (dec_of D_X10_claim (i := 86) rfl) rfl rfl rfl ?_
        refine s_iload 3 (n := 151) hX (dec_of D_X10_claim (i := 87) rfl) rfl rfl ?_
        refine s_callVV (c := 10) (n := 154) hX cls10 (vk131 (by omega)) lk_RX10_356 (dec_of D_X10_claim (i := 88) rfl) rfl (by decide) (c_X10_empties (l := _) hG _ _ _ _) rfl rfl (Nat.le_of_ble_eq_true rfl) (fun q18 => ?_)
        refine s_iinc (v := z6.2 + 1) (lv' := [(0, _), (1, _), (2, _), (4, _), (5, _), (6, _)]) 5 [1, 2, 3, 4, 5, 0] (n := 157) hX (dec_of D_X10_claim (i := 89) rfl) rfl rfl rfl (by decide) rfl ?_
        refine s_goto (n := 42) hX (dec_of D_X10_claim (i := 90) rfl) rfl ?_
        exact s_sub [0, 1, 2, 3, 4, 5] rfl (hre8 (q18, (z6.2 + 1)))
      · refine s_if_eq (tgt := 129) (n := 97) hX (dec_of D_X10_claim (i := 54) rfl) rfl rfl ?_ ?_
        · refine s_aload_n 0 (n := 130) hX (dec_of D_X10_claim (i := 74) rfl) rfl rfl rfl ?_
          refine s_getR (c := 10) (p := 14) (k' := 34) (n := 133) hX cls10 (vk131 (by omega)) (dec_of D_X10_claim (i := 75) rfl) rfl rfl wd_1360 ?_
          refine s_sipush (v := 192) (n := 136) hX (dec_of D_X10_claim (i := 76) rfl) rfl (by decide) ?_
          refine s_iload 5 (n := 138) hX (dec_of D_X10_claim (i := 77) rfl) rfl rfl ?_
          refine s_iadd (n := 139) hX (dec_of D_X10_claim (i := 78) rfl) rfl ?_
          refine s_dup2 (n := 140) hX (dec_of D_X10_claim (i := 79) rfl) rfl rfl rfl ?_
          refine s_iald (n := 141) hX (vk34 (by omega)) (by decide) (dec_of D_X10_claim (i := 80) rfl) rfl (fun v19 => ?_)
          refine s_iload 6 (n := 143) hX (dec_of D_X10_claim (i := 81) rfl) rfl rfl ?_
          refine s_iadd (n := 144) hX (dec_of D_X10_claim (i := 82) rfl) rfl ?_
          refine s_iast (n := 145) hX (vk34 (by omega)) (by decide) (dec_of D_X10_claim (i := 83) rfl) rfl (fun s20 => ?_)
          exact s_sub [0, 1, 2, 3, 4, 5] rfl (hkk17 s20)
        · refine s_aload_n 0 (n := 98) hX (dec_of D_X10_claim (i := 55) rfl) rfl rfl rfl ?_
          refine s_iload_n 1 (n := 99) hX (dec_of D_X10_claim (i := 56) rfl) rfl rfl rfl ?_
          refine s_iload 5 (n := 101) hX (dec_of D_X10_claim (i := 57) rfl) rfl rfl ?_
          refine s_iload 6 (n := 103) hX (dec_of D_X10_claim (i := 58) rfl) rfl rfl ?_
          refine s_iload 7 (n := 105) hX (dec_of D_X10_claim (i := 59) rfl) rfl rfl ?_
          refine s_iadd (n := 106) hX (dec_of D_X10_claim (i := 60) rfl) rfl ?_
          refine s_iconst (v := 1) (n := 107) hX (dec_of D_X10_claim (i := 61) rfl) rfl (by decide) ?_
          refine s_callVV (c := 10) (n := 110) hX cls10 (vk131 (by omega)) lk_RX10_337 (dec_of D_X10_claim (i := 62) rfl) rfl (by decide) (c_X10_pays_ (l := _) hG _ _ _ _ _) rfl rfl (Nat.le_of_ble_eq_true rfl) (fun q21 => ?_)
          refine s_aload_n 0 (n := 111) hX (dec_of D_X10_claim (i := 63) rfl) rfl rfl rfl ?_
          refine s_getR (c := 10) (p := 14) (k' := 34) (n := 114) hX cls10 (vk131 (by omega)) (dec_of D_X10_claim (i := 64) rfl) rfl rfl wd_1360 ?_
          refine s_sipush (v := 192) (n := 117) hX (dec_of D_X10_claim (i := 65) rfl) rfl (by decide) ?_
          refine s_iload 5 (n := 119) hX (dec_of D_X10_claim (i := 66) rfl) rfl rfl ?_
          refine s_iadd (n := 120) hX (dec_of D_X10_claim (i := 67) rfl) rfl ?_
          refine s_dup2 (n := 121) hX (dec_of D_X10_claim (i := 68) rfl) rfl rfl rfl ?_
          refine s_iald (n := 122) hX (vk34 (by omega)) (by decide) (dec_of D_X10_claim (i := 69) rfl) rfl (fun v22 => ?_)
          refine s_iload 7 (n := 124) hX (dec_of D_X10_claim (i := 70) rfl) rfl rfl ?_
          refine s_isub (n := 125) hX (dec_of D_X10_claim (i := 71) rfl) rfl ?_
          refine s_iast (n := 126) hX (vk34 (by omega)) (by decide) (dec_of D_X10_claim (i := 72) rfl) rfl (fun s23 => ?_)
          refine s_goto (n := 145) hX (dec_of D_X10_claim (i := 73) rfl) rfl ?_
          exact s_sub [0, 1, 2, 3, 4, 5] rfl (hkk17 s23)
  · refine s_iload_n 3 (n := 17) hX (dec_of D_X10_claim (i := 10) rfl) rfl rfl rfl ?_
    exact s_iret hX hR (dec_of D_X10_claim (i := 11) rfl) rfl
def T_X10_allWeights : List (Nat × Instr × Nat) := [(0, .lconst 0, 1), (1, .lstore_n 2, 1), (2, .iconst 0, 1), (3, .istore 4, 2), (5, .iload 4, 2), (7, .aload_n 0, 1), (8, .getfield 232, 3), (11, .if_icmp .ge 20, 3), (14, .lload_n 2, 1), (15, .aload_n 0, 1), (16, .iload 4, 2), (18, .iload_n 1, 1), (19, .invokevirtual 251, 3), (22, .i2l, 1), (23, .ladd, 1), (24, .lstore_n 2, 1), (25, .iinc 4 1, 3), (28, .goto (-23), 3), (31, .lload_n 2, 1), (32, .lreturn, 1)]
theorem D_X10_allWeights : dchk cX10_allWeights T_X10_allWeights = true := by decide +kernel
def Mo_allWeights (σ : ST) (a1 : Int32) : Option Int64 :=
  lp_ (fun rec2 (z1 : Int64 × Int32) => (if (gF σ 851 0) ≤ z1.2 then some z1.1 else bd_ (Mo_weightIn (σ) z1.2 a1) (fun q4 => lt_ ((z1.1 + (Int32.toInt64 q4))) (fun x5 => rec2 (x5, (z1.2 + 1)))))) FU (0, 0)
set_option maxHeartbeats 4000000 in
set_option maxRecDepth 100000 in
theorem c_X10_allWeights {G : GW} (hG : Good G) {l : Launch} (σ : ST) (a1 : Int32) : Ctr G l yX10_allWeights cX10_allWeights 5 (some .long) 1 [.ref (ga G 131 0), .int a1] σ (oJ σ) (Mo_allWeights σ a1) := by
  refine ctr_of hG (by decide) (Nat.le_of_ble_eq_true rfl) ?_
  intro X hXl hR hX
  have hX : Ok G X cX10_allWeights 5 RX10 1 := hX
  unfold Mo_allWeights
  show Sim G X 5 (MQX G X (oJ σ)) σ 0 [(0, .ref (ga G 131 0)), (1, .int a1)] [] _
  refine s_lconst (v := 0) (n := 1) hX (dec_of D_X10_allWeights (i := 0) rfl) rfl (by decide) ?_
  refine s_lstore_n (lv' := [(0, _), (1, _), (2, _)]) [1, 2, 0] (n := 2) hX (dec_of D_X10_allWeights (i := 1) rfl) rfl rfl (by decide) rfl ?_
  refine s_iconst (v := 0) (n := 3) hX (dec_of D_X10_allWeights (i := 2) rfl) rfl (by decide) ?_
  refine s_istore (lv' := [(0, _), (1, _), (2, _), (4, _)]) [1, 2, 3, 0] (n := 5) hX (dec_of D_X10_allWeights (i := 3) rfl) rfl (by decide) rfl ?_
  refine s_sub [0, 1, 2, 3] rfl (s_lp (pc := 5) (Sf := fun (z1 : Int64 × Int32) => σ) (lvf := fun (z1 : Int64 × Int32) => [(0, .ref (ga G 131 0)), (1, .int a1), (2, .long z1.1), (4, .int z1.2)]) (fun rec2 hre3 z1 => ?_) FU (0, 0))
  refine s_iload 3 (n := 7) hX (dec_of D_X10_allWeights (i := 4) rfl) rfl rfl ?_
  refine s_aload_n 0 (n := 8) hX (dec_of D_X10_allWeights (i := 5) rfl) rfl rfl rfl ?_
  refine s_getI (c := 10) (p := 11) (id := 851) (n := 11) hX cls10 (vk131 (by omega)) (dec_of D_X10_allWeights (i := 6) rfl) rfl rfl wd_1357 ?_
  refine s_icmp_ge (tgt := 31) (n := 14) hX (dec_of D_X10_allWeights (i := 7) rfl) rfl rfl ?_ ?_
  · refine s_lload_n 2 (n := 32) hX (dec_of D_X10_allWeights (i := 18) rfl) rfl rfl rfl ?_
    exact s_lret hX hR (dec_of D_X10_allWeights (i := 19) rfl) rfl
  · refine s_lload_n 2 (n := 15) hX (dec_of D_X10_allWeights (i := 8) rfl) rfl rfl rfl ?_
    refine s_aload_n 0 (n := 16) hX (dec_of D_X10_allWeights (i := 9) rfl) rfl rfl rfl ?_
    refine s_iload 3 (n := 18) hX (dec_of D_X10_allWeights (i := 10) rfl) rfl rfl ?_
    refine s_iload_n 1 (n := 19) hX (dec_of D_X10_allWeights (i := 11) rfl) rfl rfl rfl ?_
    refine s_callVI (c := 10) (n := 22) hX cls10 (vk131 (by omega)) lk_RX10_251 (dec_of D_X10_allWeights (i := 12) rfl) rfl (by decide) (c_X10_weightIn (l := _) hG _ _ _) rfl rfl (Nat.le_of_ble_eq_true rfl) (fun q4 => ?_)
    refine s_i2l (n := 23) hX (dec_of D_X10_allWeights (i := 13) rfl) rfl ?_
    refine s_ladd (n := 24) hX (dec_of D_X10_allWeights (i := 14) rfl) rfl ?_
    refine s_topl (fun x5 => ?_)
    refine s_lstore_n (lv' := [(0, _), (1, _), (2, _), (4, _)]) [1, 2, 0, 3] (n := 25) hX (dec_of D_X10_allWeights (i := 15) rfl) rfl rfl (by decide) rfl ?_
    refine s_iinc (v := z1.2 + 1) (lv' := [(0, _), (1, _), (2, _), (4, _)]) 3 [1, 2, 3, 0] (n := 28) hX (dec_of D_X10_allWeights (i := 16) rfl) rfl rfl rfl (by decide) rfl ?_
    refine s_goto (n := 5) hX (dec_of D_X10_allWeights (i := 17) rfl) rfl ?_
    exact s_sub [0, 1, 2, 3] rfl (hre3 (x5, (z1.2 + 1)))
theorem lk_RX10_360 : LkV RX10 360 RX10 yX10_allWeights cX10_allWeights 5 (some .long) 1 := ⟨wd_1809, wd_1811, wd_68, wd_93, wd_1812, by decide +kernel, by decide⟩
def T_X10_laysParts : List (Nat × Instr × Nat) := [(0, .aload_n 0, 1), (1, .iload_n 1, 1), (2, .invokevirtual 360, 3), (5, .lstore_n 2, 1), (6, .aload_n 0, 1), (7, .getfield 28, 3), (10, .sipush 192, 3), (13, .iload_n 1, 1), (14, .iadd, 1), (15, .iaload, 1), (16, .i2l, 1), (17, .lstore 4, 2), (19, .lload 4, 2), (21, .lstore 6, 2), (23, .iconst 0, 1), (24, .istore 8, 2), (26, .iload 8, 2), (28, .aload_n 0, 1), (29, .getfield 232, 3), (32, .if_icmp .ge 43, 3), (35, .aload_n 0, 1), (36, .getfield 74, 3), (39, .iload 8, 2), (41, .lload 4, 2), (43, .aload_n 0, 1), (44, .iload 8, 2), (46, .iload_n 1, 1), (47, .invokevirtual 251, 3), (50, .i2l, 1), (51, .lmul, 1), (52, .lload_n 2, 1), (53, .ldiv, 1), (54, .l2i, 1), (55, .iastore, 1), (56, .lload 6, 2), (58, .aload_n 0, 1), (59, .getfield 74, 3), (62, .iload 8, 2), (64, .iaload, 1), (65, .i2l, 1), (66, .lsub, 1), (67, .lstore 6, 2), (69, .iinc 8 1, 3), (72, .goto (-46), 3), (75, .iconst 0, 1), (76, .istore 8, 2), (78, .iload 8, 2), (80, .aload_n 0, 1), (81, .getfield 232, 3), (84, .if_icmp .ge 117, 3), (87, .iconst 0, 1), (88, .istore 9, 2), (90, .lload 4, 2), (92, .aload_n 0, 1), (93, .iload 8, 2), (95, .iload_n 1, 1), (96, .invokevirtual 251, 3), (99, .i2l, 1), (100, .lmul, 1), (101, .lload_n 2, 1), (102, .lrem, 1), (103, .lstore 10, 2), (105, .iconst 0, 1), (106, .istore 12, 2), (108, .iload 12, 2), (110, .aload_n 0, 1), (111, .getfield 232, 3), (114, .if_icmp .ge 57, 3), (117, .lload 4, 2), (119, .aload_n 0, 1), (120, .iload 12, 2), (122, .iload_n 1, 1), (123, .invokevirtual 251, 3), (126, .i2l, 1), (127, .lmul, 1), (128, .lload_n 2, 1), (129, .lrem, 1), (130, .lstore 13, 2), (132, .iload 9, 2), (134, .lload 13, 2), (136, .lload 10, 2), (138, .lcmp, 1), (139, .ifCond .gt 18, 3), (142, .lload 13, 2), (144, .lload 10, 2), (146, .lcmp, 1), (147, .ifCond .ne 14, 3), (150, .iload 12, 2), (152, .iload 8, 2), (154, .if_icmp .ge 7, 3), (157, .iconst 1, 1), (158, .goto 4, 3), (161, .iconst 0, 1), (162, .iadd, 1), (163, .istore 9, 2), (165, .iinc 12 1, 3), (168, .goto (-60), 3), (171, .aload_n 0, 1), (172, .getfield 74, 3), (175, .iload 8, 2), (177, .dup2, 1), (178, .iaload, 1), (179, .iload 9, 2), (181, .i2l, 1), (182, .lload 6, 2), (184, .lcmp, 1), (185, .ifCond .ge 7, 3), (188, .iconst 1, 1), (189, .goto 4, 3), (192, .iconst 0, 1), (193, .iadd, 1), (194, .iastore, 1), (195, .iinc 8 1, 3), (198, .goto (-120), 3), (201, .return_, 1)]
theorem D_X10_laysParts : dchk cX10_laysParts T_X10_laysParts = true := by decide +kernel
def Mo_laysParts (σ : ST) (a1 : Int32) : Option ST :=
  bd_ (Mo_allWeights (σ) a1) (fun q1 => bd_ (ldI σ 34 0 (192 + a1)) (fun v2 => lt_ ((Int32.toInt64 v2)) (fun x3 => lp_ (fun rec5 (z4 : ST × Int64 × Int32) => (if (gF z4.1 851 0) ≤ z4.2.2 then lp_ (fun rec8 (z7 : ST × Int32) => (if (gF z7.1 851 0) ≤ z7.2 then some z7.1 else bd_ (Mo_weightIn z7.1 z7.2 a1) (fun q10 => bd_ (lrm (x3 * (Int32.toInt64 q10)) q1) (fun v11 => lp_ (fun rec13 (z12 : Int32 × Int32) => (if (gF z7.1 851 0) ≤ z12.2 then bd_ (ldI z7.1 48 0 z7.2) (fun v15 => (if 0 ≤ (lg_cmp (Int32.toInt64 z12.1) z4.2.1) then bd_ (stI z7.1 48 0 z7.2 (v15 + 0)) (fun s16 => rec8 (s16, (z7.2 + 1))) else bd_ (stI z7.1 48 0 z7.2 (v15 + 1)) (fun s17 => rec8 (s17, (z7.2 + 1))))) else bd_ (Mo_weightIn z7.1 z12.2 a1) (fun q18 => bd_ (lrm (x3 * (Int32.toInt64 q18)) q1) (fun v19 => (if 0 < (lg_cmp v19 v11) then lt_ ((z12.1 + 1)) (fun x20 => rec13 (x20, (z12.2 + 1))) else (if (lg_cmp v19 v11) = 0 then (if z7.2 ≤ z12.2 then lt_ ((z12.1 + 0)) (fun x22 => rec13 (x22, (z12.2 + 1))) else lt_ ((z12.1 + 1)) (fun x23 => rec13 (x23, (z12.2 + 1)))) else lt_ ((z12.1 + 0)) (fun x21 => rec13 (x21, (z12.2 + 1))))))))) FU (0, 0))))) FU (z4.1, 0) else bd_ (Mo_weightIn z4.1 z4.2.2 a1) (fun q24 => bd_ (ldv (x3 * (Int32.toInt64 q24)) q1) (fun v25 => bd_ (stI z4.1 48 0 z4.2.2 (Int64.toInt32 v25)) (fun s26 => bd_ (ldI s26 48 0 z4.2.2) (fun v27 => lt_ ((z4.2.1 - (Int32.toInt64 v27))) (fun x28 => rec5 (s26, x28, (z4.2.2 + 1))))))))) FU (σ, x3, 0))))
set_option maxHeartbeats 4000000 in
set_option maxRecDepth 100000 in
theorem c_X10_laysParts {G : GW} (hG : Good G) {l : Launch} (σ : ST) (a1 : Int32) : Ctr G l yX10_laysParts cX10_laysParts 15 none 2 [.ref (ga G 131 0), .int a1] σ oV (Mo_laysParts σ a1) := by
  refine ctr_of hG (by decide) (Nat.le_of_ble_eq_true rfl) ?_
  intro X hXl hR hX
  have hX : Ok G X cX10_laysParts 15 RX10 2 := hX
  unfold Mo_laysParts
  show Sim G X 15 (MQX G X oV) σ 0 [(0, .ref (ga G 131 0)), (1, .int a1)] [] _
  refine s_aload_n 0 (n := 1) hX (dec_of D_X10_laysParts (i := 0) rfl) rfl rfl rfl ?_
  refine s_iload_n 1 (n := 2) hX (dec_of D_X10_laysParts (i := 1) rfl) rfl rfl rfl ?_
  refine s_callVJ (c := 10) (n := 5) hX cls10 (vk131 (by omega)) lk_RX10_360 (dec_of D_X10_laysParts (i := 2) rfl) rfl (by decide) (c_X10_allWeights (l := _) hG _ _) rfl rfl (Nat.le_of_ble_eq_true rfl) (fun q1 => ?_)
  refine s_lstore_n (lv' := [(0, _), (1, _), (2, _)]) [1, 2, 0] (n := 6) hX (dec_of D_X10_laysParts (i := 3) rfl) rfl rfl (by decide) rfl ?_
  refine s_aload_n 0 (n := 7) hX (dec_of D_X10_laysParts (i := 4) rfl) rfl rfl rfl ?_
  refine s_getR (c := 10) (p := 14) (k' := 34) (n := 10) hX cls10 (vk131 (by omega)) (dec_of D_X10_laysParts (i := 5) rfl) rfl rfl wd_1360 ?_
  refine s_sipush (v := 192) (n := 13) hX (dec_of D_X10_laysParts (i := 6) rfl) rfl (by decide) ?_
  refine s_iload_n 1 (n := 14) hX (dec_of D_X10_laysParts (i := 7) rfl) rfl rfl rfl ?_
  refine s_iadd (n := 15) hX (dec_of D_X10_laysParts (i := 8) rfl) rfl ?_
  refine s_iald (n := 16) hX (vk34 (by omega)) (by decide) (dec_of D_X10_laysParts (i := 9) rfl) rfl (fun v2 => ?_)
  refine s_i2l (n := 17) hX (dec_of D_X10_laysParts (i := 10) rfl) rfl ?_
  refine s_topl (fun x3 => ?_)
  refine s_lstore (lv' := [(0, _), (1, _), (2, _), (4, _)]) [1, 2, 3, 0] (n := 19) hX (dec_of D_X10_laysParts (i := 11) rfl) rfl (by decide) rfl ?_
  refine s_lload 3 (n := 21) hX (dec_of D_X10_laysParts (i := 12) rfl) rfl rfl ?_
  refine s_lstore (lv' := [(0, _), (1, _), (2, _), (4, _), (6, _)]) [1, 2, 3, 4, 0] (n := 23) hX (dec_of D_X10_laysParts (i := 13) rfl) rfl (by decide) rfl ?_
  refine s_iconst (v := 0) (n := 24) hX (dec_of D_X10_laysParts (i := 14) rfl) rfl (by decide) ?_
  refine s_istore (lv' := [(0, _), (1, _), (2, _), (4, _), (6, _), (8, _)]) [1, 2, 3, 4, 5, 0] (n := 26) hX (dec_of D_X10_laysParts (i := 15) rfl) rfl (by decide) rfl ?_
  refine s_sub [0, 1, 2, 3, 4, 5] rfl (s_lp (pc := 26) (Sf := fun (z4 : ST × Int64 × Int32) => z4.1) (lvf := fun (z4 : ST × Int64 × Int32) => [(0, .ref (ga G 131 0)), (1, .int a1), (2, .long q1), (4, .long x3), (6, .long z4.2.1), (8, .int z4.2.2)]) (fun rec5 hre6 z4 => ?_) FU (σ, x3, 0))
  refine s_iload 5 (n := 28) hX (dec_of D_X10_laysParts (i := 16) rfl) rfl rfl ?_
  refine s_aload_n 0 (n := 29) hX (dec_of D_X10_laysParts (i := 17) rfl) rfl rfl rfl ?_
  refine s_getI (c := 10) (p := 11) (id := 851) (n := 32) hX cls10 (vk131 (by omega)) (dec_of D_X10_laysParts (i := 18) rfl) rfl rfl wd_1357 ?_
  refine s_icmp_ge (tgt := 75) (n := 35) hX (dec_of D_X10_laysParts (i := 19) rfl) rfl rfl ?_ ?_
  · refine s_iconst (v := 0) (n := 76) hX (dec_of D_X10_laysParts (i := 44) rfl) rfl (by decide) ?_
    refine s_istore (lv' := [(0, _), (1, _), (2, _), (4, _), (6, _), (8, _)]) [1, 2, 3, 4, 5, 0] (n := 78) hX (dec_of D_X10_laysParts (i := 45) rfl) rfl (by decide) rfl ?_
    refine s_sub [0, 1, 2, 3, 4, 5] rfl (s_lp (pc := 78) (Sf := fun (z7 : ST × Int32) => z7.1) (lvf := fun (z7 : ST × Int32) => [(0, .ref (ga G 131 0)), (1, .int a1), (2, .long q1), (4, .long x3), (6, .long z4.2.1), (8, .int z7.2)]) (fun rec8 hre9 z7 => ?_) FU (z4.1, 0))
    refine s_iload 5 (n := 80) hX (dec_of D_X10_laysParts (i := 46) rfl) rfl rfl ?_
    refine s_aload_n 0 (n := 81) hX (dec_of D_X10_laysParts (i := 47) rfl) rfl rfl rfl ?_
    refine s_getI (c := 10) (p := 11) (id := 851) (n := 84) hX cls10 (vk131 (by omega)) (dec_of D_X10_laysParts (i := 48) rfl) rfl rfl wd_1357 ?_
    refine s_icmp_ge (tgt := 201) (n := 87) hX (dec_of D_X10_laysParts (i := 49) rfl) rfl rfl ?_ ?_
    · exact s_vret hX hR (dec_of D_X10_laysParts (i := 114) rfl) rfl
    · refine s_iconst (v := 0) (n := 88) hX (dec_of D_X10_laysParts (i := 50) rfl) rfl (by decide) ?_
      refine s_istore (lv' := [(0, _), (1, _), (2, _), (4, _), (6, _), (8, _), (9, _)]) [1, 2, 3, 4, 5, 6, 0] (n := 90) hX (dec_of D_X10_laysParts (i := 51) rfl) rfl (by decide) rfl ?_
      refine s_lload 3 (n := 92) hX (dec_of D_X10_laysParts (i := 52) rfl) rfl rfl ?_
      refine s_aload_n 0 (n := 93) hX (dec_of D_X10_laysParts (i := 53) rfl) rfl rfl rfl ?_
      refine s_iload 5 (n := 95) hX (dec_of D_X10_laysParts (i := 54) rfl) rfl rfl ?_
      refine s_iload_n 1 (n := 96) hX (dec_of D_X10_laysParts (i := 55) rfl) rfl rfl rfl ?_
      refine s_callVI (c := 10) (n := 99) hX cls10 (vk131 (by omega)) lk_RX10_251 (dec_of D_X10_laysParts (i := 56) rfl) rfl (by decide) (c_X10_weightIn (l := _) hG _ _ _) rfl rfl (Nat.le_of_ble_eq_true rfl) (fun q10 => ?_)
      refine s_i2l (n := 100) hX (dec_of D_X10_laysParts (i := 57) rfl) rfl ?_
      refine s_lmul (n := 101) hX (dec_of D_X10_laysParts (i := 58) rfl) rfl ?_
      refine s_lload_n 2 (n := 102) hX (dec_of D_X10_laysParts (i := 59) rfl) rfl rfl rfl ?_
      refine s_lrem (n := 103) hX (dec_of D_X10_laysParts (i := 60) rfl) rfl (fun v11 => ?_)
      refine s_lstore (lv' := [(0, _), (1, _), (2, _), (4, _), (6, _), (8, _), (9, _), (10, _)]) [1, 2, 3, 4, 5, 6, 7, 0] (n := 105) hX (dec_of D_X10_laysParts (i := 61) rfl) rfl (by decide) rfl ?_
      refine s_iconst (v := 0) (n := 106) hX (dec_of D_X10_laysParts (i := 62) rfl) rfl (by decide) ?_
      refine s_istore (lv' := [(0, _), (1, _), (2, _), (4, _), (6, _), (8, _), (9, _), (10, _), (12, _)]) [1, 2, 3, 4, 5, 6, 7, 8, 0] (n := 108) hX (dec_of D_X10_laysParts (i := 63) rfl) rfl (by decide) rfl ?_
      refine s_sub [0, 1, 2, 3, 4, 5, 6, 7, 8] rfl (s_lp (pc := 108) (Sf := fun (z12 : Int32 × Int32) => z7.1) (lvf := fun (z12 : Int32 × Int32) => [(0, .ref (ga G 131 0)), (1, .int a1), (2, .long q1), (4, .long x3), (6, .long z4.2.1), (8, .int z7.2), (9, .int z12.1), (10, .long v11), (12, .int z12.2)]) (fun rec13 hre14 z12 => ?_) FU (0, 0))
      refine s_iload 8 (n := 110) hX (dec_of D_X10_laysParts (i := 64) rfl) rfl rfl ?_
      refine s_aload_n 0 (n := 111) hX (dec_of D_X10_laysParts (i := 65) rfl) rfl rfl rfl ?_
      refine s_getI (c := 10) (p := 11) (id := 851) (n := 114) hX cls10 (vk131 (by omega)) (dec_of D_X10_laysParts (i := 66) rfl) rfl rfl wd_1357 ?_
      refine s_icmp_ge (tgt := 171) (n := 117) hX (dec_of D_X10_laysParts (i := 67) rfl) rfl rfl ?_ ?_
      · refine s_aload_n 0 (n := 172) hX (dec_of D_X10_laysParts (i := 97) rfl) rfl rfl rfl ?_
        refine s_getR (c := 10) (p := 47) (k' := 48) (n := 175) hX cls10 (vk131 (by omega)) (dec_of D_X10_laysParts (i := 98) rfl) rfl rfl wd_1393 ?_
        refine s_iload 5 (n := 177) hX (dec_of D_X10_laysParts (i := 99) rfl) rfl rfl ?_
        refine s_dup2 (n := 178) hX (dec_of D_X10_laysParts (i := 100) rfl) rfl rfl rfl ?_
        refine s_iald (n := 179) hX (vk48 (by omega)) (by decide) (dec_of D_X10_laysParts (i := 101) rfl) rfl (fun v15 => ?_)
        refine s_iload 6 (n := 181) hX (dec_of D_X10_laysParts (i := 102) rfl) rfl rfl ?_
        refine s_i2l (n := 182) hX (dec_of D_X10_laysParts (i := 103) rfl) rfl ?_
        refine s_lload 4 (n := 184) hX (dec_of D_X10_laysParts (i := 104) rfl) rfl rfl ?_
        refine s_lcmp (n := 185) hX (dec_of D_X10_laysParts (i := 105) rfl) rfl ?_
        refine s_if_ge (tgt := 192) (n := 188) hX (dec_of D_X10_laysParts (i := 106) rfl) rfl rfl ?_ ?_
        · refine s_iconst (v := 0) (n := 193) hX (dec_of D_X10_laysParts (i := 109) rfl) rfl (by decide) ?_
          refine s_iadd (n := 194) hX (dec_of D_X10_laysParts (i := 110) rfl) rfl ?_
          refine s_iast (n := 195) hX (vk48 (by omega)) (by decide) (dec_of D_X10_laysParts (i := 111) rfl) rfl (fun s16 => ?_)
          refine s_iinc (v := z7.2 + 1) (lv' := [(0, _), (1, _), (2, _), (4, _), (6, _), (8, _), (9, _), (10, _), (12, _)]) 5 [1, 2, 3, 4, 5, 0, 6, 7, 8] (n := 198) hX (dec_of D_X10_laysParts (i := 112) rfl) rfl rfl rfl (by decide) rfl ?_
          refine s_goto (n := 78) hX (dec_of D_X10_laysParts (i := 113) rfl) rfl ?_
          exact s_sub [0, 1, 2, 3, 4, 5] rfl (hre9 (s16, (z7.2 + 1)))
        · refine s_iconst (v := 1) (n := 189) hX (dec_of D_X10_laysParts (i := 107) rfl) rfl (by decide) ?_
          refine s_goto (n := 193) hX (dec_of D_X10_laysParts (i := 108) rfl) rfl ?_
          refine s_iadd (n := 194) hX (dec_of D_X10_laysParts (i := 110) rfl) rfl ?_
          refine s_iast (n := 195) hX (vk48 (by omega)) (by decide) (dec_of D_X10_laysParts (i := 111) rfl) rfl (fun s17 => ?_)
          refine s_iinc (v := z7.2 + 1) (lv' := [(0, _), (1, _), (2, _), (4, _), (6, _), (8, _), (9, _), (10, _), (12, _)]) 5 [1, 2, 3, 4, 5, 0, 6, 7, 8] (n := 198) hX (dec_of D_X10_laysParts (i := 112) rfl) rfl rfl rfl (by decide) rfl ?_
          refine s_goto (n := 78) hX (dec_of D_X10_laysParts (i := 113) rfl) rfl ?_
          exact s_sub [0, 1, 2, 3, 4, 5] rfl (hre9 (s17, (z7.2 + 1)))
      · refine s_lload 3 (n := 119) hX (dec_of D_X10_laysParts (i := 68) rfl) rfl rfl ?_
        refine s_aload_n 0 (n := 120) hX (dec_of D_X10_laysParts (i := 69) rfl) rfl rfl rfl ?_
        refine s_iload 8 (n := 122) hX (dec_of D_X10_laysParts (i := 70) rfl) rfl rfl ?_
        refine s_iload_n 1 (n := 123) hX (dec_of D_X10_laysParts (i := 71) rfl) rfl rfl rfl ?_
        refine s_callVI (c := 10) (n := 126) hX cls10 (vk131 (by omega)) lk_RX10_251 (dec_of D_X10_laysParts (i := 72) rfl) rfl (by decide) (c_X10_weightIn (l := _) hG _ _ _) rfl rfl (Nat.le_of_ble_eq_true rfl) (fun q18 => ?_)
        refine s_i2l (n := 127) hX (dec_of D_X10_laysParts (i := 73) rfl) rfl ?_
        refine s_lmul (n := 128) hX (dec_of D_X10_laysParts (i := 74) rfl) rfl ?_
        refine s_lload_n 2 (n := 129) hX (dec_of D_X10_laysParts (i := 75) rfl) rfl rfl rfl ?_
        refine s_lrem (n := 130) hX (dec_of D_X10_laysParts (i := 76) rfl) rfl (fun v19 => ?_)
        refine s_lstore (lv' := [(0, _), (1, _), (2, _), (4, _), (6, _), (8, _), (9, _), (10, _), (12, _), (13, _)]) [1, 2, 3, 4, 5, 6, 7, 8, 9, 0] (n := 132) hX (dec_of D_X10_laysParts (i := 77) rfl) rfl (by decide) rfl ?_
        refine s_iload 6 (n := 134) hX (dec_of D_X10_laysParts (i := 78) rfl) rfl rfl ?_
        refine s_lload 9 (n := 136) hX (dec_of D_X10_laysParts (i := 79) rfl) rfl rfl ?_
        refine s_lload 7 (n := 138) hX (dec_of D_X10_laysParts (i := 80) rfl) rfl rfl ?_
        refine s_lcmp (n := 139) hX (dec_of D_X10_laysParts (i := 81) rfl) rfl ?_
        refine s_if_gt (tgt := 157) (n := 142) hX (dec_of D_X10_laysParts (i := 82) rfl) rfl rfl ?_ ?_
        · refine s_iconst (v := 1) (n := 158) hX (dec_of D_X10_laysParts (i := 90) rfl) rfl (by decide) ?_
          refine s_goto (n := 162) hX (dec_of D_X10_laysParts (i := 91) rfl) rfl ?_
          refine s_iadd (n := 163) hX (dec_of D_X10_laysParts (i := 93) rfl) rfl ?_
          refine s_topi (fun x20 => ?_)
          refine s_istore (lv' := [(0, _), (1, _), (2, _), (4, _), (6, _), (8, _), (9, _), (10, _), (12, _), (13, _)]) [1, 2, 3, 4, 5, 6, 0, 7, 8, 9] (n := 165) hX (dec_of D_X10_laysParts (i := 94) rfl) rfl (by decide) rfl ?_
          refine s_iinc (v := z12.2 + 1) (lv' := [(0, _), (1, _), (2, _), (4, _), (6, _), (8, _), (9, _), (10, _), (12, _), (13, _)]) 8 [1, 2, 3, 4, 5, 6, 7, 8, 0, 9] (n := 168) hX (dec_of D_X10_laysParts (i := 95) rfl) rfl rfl rfl (by decide) rfl ?_
          refine s_goto (n := 108) hX (dec_of D_X10_laysParts (i := 96) rfl) rfl ?_
          exact s_sub [0, 1, 2, 3, 4, 5, 6, 7, 8] rfl (hre14 (x20, (z12.2 + 1)))
        · refine s_lload 9 (n := 144) hX (dec_of D_X10_laysParts (i := 83) rfl) rfl rfl ?_
          refine s_lload 7 (n := 146) hX (dec_of D_X10_laysParts (i := 84) rfl) rfl rfl ?_
          refine s_lcmp (n := 147) hX (dec_of D_X10_laysParts (i := 85) rfl) rfl ?_
          refine s_if_ne (tgt := 161) (n := 150) hX (dec_of D_X10_laysParts (i := 86) rfl) rfl rfl ?_ ?_
          · refine s_iconst (v := 0) (n := 162) hX (dec_of D_X10_laysParts (i := 92) rfl) rfl (by decide) ?_
            refine s_iadd (n := 163) hX (dec_of D_X10_laysParts (i := 93) rfl) rfl ?_
            refine s_topi (fun x21 => ?_)
            refine s_istore (lv' := [(0, _), (1, _), (2, _), (4, _), (6, _), (8, _), (9, _), (10, _), (12, _), (13, _)]) [1, 2, 3, 4, 5, 6, 0, 7, 8, 9] (n := 165) hX (dec_of D_X10_laysParts (i := 94) rfl) rfl (by decide) rfl ?_
            refine s_iinc (v := z12.2 + 1) (lv' := [(0, _), (1, _), (2, _), (4, _), (6, _), (8, _), (9, _), (10, _), (12, _), (13, _)]) 8 [1, 2, 3, 4, 5, 6, 7, 8, 0, 9] (n := 168) hX (dec_of D_X10_laysParts (i := 95) rfl) rfl rfl rfl (by decide) rfl ?_
            refine s_goto (n := 108) hX (dec_of D_X10_laysParts (i := 96) rfl) rfl ?_
            exact s_sub [0, 1, 2, 3, 4, 5, 6, 7, 8] rfl (hre14 (x21, (z12.2 + 1)))
          · refine s_iload 8 (n := 152) hX (dec_of D_X10_laysParts (i := 87) rfl) rfl rfl ?_
            refine s_iload 5 (n := 154) hX (dec_of D_X10_laysParts (i := 88) rfl) rfl rfl ?_
            refine s_icmp_ge (tgt := 161) (n := 157) hX (dec_of D_X10_laysParts (i := 89) rfl) rfl rfl ?_ ?_
            · refine s_iconst (v := 0) (n := 162) hX (dec_of D_X10_laysParts (i := 92) rfl) rfl (by decide) ?_
              refine s_iadd (n := 163) hX (dec_of D_X10_laysParts (i := 93) rfl) rfl ?_
              refine s_topi (fun x22 => ?_)
              refine s_istore (lv' := [(0, _), (1, _), (2, _), (4, _), (6, _), (8, _), (9, _), (10, _), (12, _), (13, _)]) [1, 2, 3, 4, 5, 6, 0, 7, 8, 9] (n := 165) hX (dec_of D_X10_laysParts (i := 94) rfl) rfl (by decide) rfl ?_
              refine s_iinc (v := z12.2 + 1) (lv' := [(0, _), (1, _), (2, _), (4, _), (6, _), (8, _), (9, _), (10, _), (12, _), (13, _)]) 8 [1, 2, 3, 4, 5, 6, 7, 8, 0, 9] (n := 168) hX (dec_of D_X10_laysParts (i := 95) rfl) rfl rfl rfl (by decide) rfl ?_
              refine s_goto (n := 108) hX (dec_of D_X10_laysParts (i := 96) rfl) rfl ?_
              exact s_sub [0, 1, 2, 3, 4, 5, 6, 7, 8] rfl (hre14 (x22, (z12.2 + 1)))
            · refine s_iconst (v := 1) (n := 158) hX (dec_of D_X10_laysParts (i := 90) rfl) rfl (by decide) ?_
              refine s_goto (n := 162) hX (dec_of D_X10_laysParts (i := 91) rfl) rfl ?_
              refine s_iadd (n := 163) hX (dec_of D_X10_laysParts (i := 93) rfl) rfl ?_
              refine s_topi (fun x23 => ?_)
              refine s_istore (lv' := [(0, _), (1, _), (2, _), (4, _), (6, _), (8, _), (9, _), (10, _), (12, _), (13, _)]) [1, 2, 3, 4, 5, 6, 0, 7, 8, 9] (n := 165) hX (dec_of D_X10_laysParts (i := 94) rfl) rfl (by decide) rfl ?_
              refine s_iinc (v := z12.2 + 1) (lv' := [(0, _), (1, _), (2, _), (4, _), (6, _), (8, _), (9, _), (10, _), (12, _), (13, _)]) 8 [1, 2, 3, 4, 5, 6, 7, 8, 0, 9] (n := 168) hX (dec_of D_X10_laysParts (i := 95) rfl) rfl rfl rfl (by decide) rfl ?_
              refine s_goto (n := 108) hX (dec_of D_X10_laysParts (i := 96) rfl) rfl ?_
              exact s_sub [0, 1, 2, 3, 4, 5, 6, 7, 8] rfl (hre14 (x23, (z12.2 + 1)))
  · refine s_aload_n 0 (n := 36) hX (dec_of D_X10_laysParts (i := 20) rfl) rfl rfl rfl ?_
    refine s_getR (c := 10) (p := 47) (k' := 48) (n := 39) hX cls10 (vk131 (by omega)) (dec_of D_X10_laysParts (i := 21) rfl) rfl rfl wd_1393 ?_
    refine s_iload 5 (n := 41) hX (dec_of D_X10_laysParts (i := 22) rfl) rfl rfl ?_
    refine s_lload 3 (n := 43) hX (dec_of D_X10_laysParts (i := 23) rfl) rfl rfl ?_
    refine s_aload_n 0 (n := 44) hX (dec_of D_X10_laysParts (i := 24) rfl) rfl rfl rfl ?_
    refine s_iload 5 (n := 46) hX (dec_of D_X10_laysParts (i := 25) rfl) rfl rfl ?_
    refine s_iload_n 1 (n := 47) hX (dec_of D_X10_laysParts (i := 26) rfl) rfl rfl rfl ?_
    refine s_callVI (c := 10) (n := 50) hX cls10 (vk131 (by omega)) lk_RX10_251 (dec_of D_X10_laysParts (i := 27) rfl) rfl (by decide) (c_X10_weightIn (l := _) hG _ _ _) rfl rfl (Nat.le_of_ble_eq_true rfl) (fun q24 => ?_)
    refine s_i2l (n := 51) hX (dec_of D_X10_laysParts (i := 28) rfl) rfl ?_
    refine s_lmul (n := 52) hX (dec_of D_X10_laysParts (i := 29) rfl) rfl ?_
    refine s_lload_n 2 (n := 53) hX (dec_of D_X10_laysParts (i := 30) rfl) rfl rfl rfl ?_
    refine s_ldiv (n := 54) hX (dec_of D_X10_laysParts (i := 31) rfl) rfl (fun v25 => ?_)
    refine s_l2i (n := 55) hX (dec_of D_X10_laysParts (i := 32) rfl) rfl ?_
    refine s_iast (n := 56) hX (vk48 (by omega)) (by decide) (dec_of D_X10_laysParts (i := 33) rfl) rfl (fun s26 => ?_)
    refine s_lload 4 (n := 58) hX (dec_of D_X10_laysParts (i := 34) rfl) rfl rfl ?_
    refine s_aload_n 0 (n := 59) hX (dec_of D_X10_laysParts (i := 35) rfl) rfl rfl rfl ?_
    refine s_getR (c := 10) (p := 47) (k' := 48) (n := 62) hX cls10 (vk131 (by omega)) (dec_of D_X10_laysParts (i := 36) rfl) rfl rfl wd_1393 ?_
    refine s_iload 5 (n := 64) hX (dec_of D_X10_laysParts (i := 37) rfl) rfl rfl ?_
    refine s_iald (n := 65) hX (vk48 (by omega)) (by decide) (dec_of D_X10_laysParts (i := 38) rfl) rfl (fun v27 => ?_)
    refine s_i2l (n := 66) hX (dec_of D_X10_laysParts (i := 39) rfl) rfl ?_
    refine s_lsub (n := 67) hX (dec_of D_X10_laysParts (i := 40) rfl) rfl ?_
    refine s_topl (fun x28 => ?_)
    refine s_lstore (lv' := [(0, _), (1, _), (2, _), (4, _), (6, _), (8, _)]) [1, 2, 3, 4, 0, 5] (n := 69) hX (dec_of D_X10_laysParts (i := 41) rfl) rfl (by decide) rfl ?_
    refine s_iinc (v := z4.2.2 + 1) (lv' := [(0, _), (1, _), (2, _), (4, _), (6, _), (8, _)]) 5 [1, 2, 3, 4, 5, 0] (n := 72) hX (dec_of D_X10_laysParts (i := 42) rfl) rfl rfl rfl (by decide) rfl ?_
    refine s_goto (n := 26) hX (dec_of D_X10_laysParts (i := 43) rfl) rfl ?_
    exact s_sub [0, 1, 2, 3, 4, 5] rfl (hre6 (s26, x28, (z4.2.2 + 1)))
def T_X10_whyNoPart : List (Nat × Instr × Nat) := [(0, .aload_n 0, 1), (1, .getfield 28, 3), (4, .sipush 192, 3), (7, .iload_n 1, 1), (8, .iadd, 1), (9, .iaload, 1), (10, .ifCond .ne 8, 3), (13, .bipush (-2), 2), (15, .goto 19, 3), (18, .aload_n 0, 1), (19, .iload_n 1, 1), (20, .invokevirtual 360, 3), (23, .lconst 0, 1), (24, .lcmp, 1), (25, .ifCond .ne 8, 3), (28, .bipush (-3), 2), (30, .goto 4, 3), (33, .iconst 0, 1), (34, .ireturn, 1)]
theorem D_X10_whyNoPart : dchk cX10_whyNoPart T_X10_whyNoPart = true := by decide +kernel
def Mo_whyNoPart (σ : ST) (a1 : Int32) : Option Int32 :=
  bd_ (ldI σ 34 0 (192 + a1)) (fun v1 => (if v1 = 0 then some (-2) else bd_ (Mo_allWeights (σ) a1) (fun q2 => (if (lg_cmp q2 0) = 0 then some (-3) else some 0))))
set_option maxHeartbeats 4000000 in
set_option maxRecDepth 100000 in
theorem c_X10_whyNoPart {G : GW} (hG : Good G) {l : Launch} (σ : ST) (a1 : Int32) : Ctr G l yX10_whyNoPart cX10_whyNoPart 2 (some .int) 2 [.ref (ga G 131 0), .int a1] σ (oI σ) (Mo_whyNoPart σ a1) := by
  refine ctr_of hG (by decide) (Nat.le_of_ble_eq_true rfl) ?_
  intro X hXl hR hX
  have hX : Ok G X cX10_whyNoPart 2 RX10 2 := hX
  unfold Mo_whyNoPart
  show Sim G X 2 (MQX G X (oI σ)) σ 0 [(0, .ref (ga G 131 0)), (1, .int a1)] [] _
  refine s_aload_n 0 (n := 1) hX (dec_of D_X10_whyNoPart (i := 0) rfl) rfl rfl rfl ?_
  refine s_getR (c := 10) (p := 14) (k' := 34) (n := 4) hX cls10 (vk131 (by omega)) (dec_of D_X10_whyNoPart (i := 1) rfl) rfl rfl wd_1360 ?_
  refine s_sipush (v := 192) (n := 7) hX (dec_of D_X10_whyNoPart (i := 2) rfl) rfl (by decide) ?_
  refine s_iload_n 1 (n := 8) hX (dec_of D_X10_whyNoPart (i := 3) rfl) rfl rfl rfl ?_
  refine s_iadd (n := 9) hX (dec_of D_X10_whyNoPart (i := 4) rfl) rfl ?_
  refine s_iald (n := 10) hX (vk34 (by omega)) (by decide) (dec_of D_X10_whyNoPart (i := 5) rfl) rfl (fun v1 => ?_)
  refine s_if_ne (tgt := 18) (n := 13) hX (dec_of D_X10_whyNoPart (i := 6) rfl) rfl rfl ?_ ?_
  · refine s_aload_n 0 (n := 19) hX (dec_of D_X10_whyNoPart (i := 9) rfl) rfl rfl rfl ?_
    refine s_iload_n 1 (n := 20) hX (dec_of D_X10_whyNoPart (i := 10) rfl) rfl rfl rfl ?_
    refine s_callVJ (c := 10) (n := 23) hX cls10 (vk131 (by omega)) lk_RX10_360 (dec_of D_X10_whyNoPart (i := 11) rfl) rfl (by decide) (c_X10_allWeights (l := _) hG _ _) rfl rfl (Nat.le_of_ble_eq_true rfl) (fun q2 => ?_)
    refine s_lconst (v := 0) (n := 24) hX (dec_of D_X10_whyNoPart (i := 12) rfl) rfl (by decide) ?_
    refine s_lcmp (n := 25) hX (dec_of D_X10_whyNoPart (i := 13) rfl) rfl ?_
    refine s_if_ne (tgt := 33) (n := 28) hX (dec_of D_X10_whyNoPart (i := 14) rfl) rfl rfl ?_ ?_
    · refine s_iconst (v := 0) (n := 34) hX (dec_of D_X10_whyNoPart (i := 17) rfl) rfl (by decide) ?_
      exact s_iret hX hR (dec_of D_X10_whyNoPart (i := 18) rfl) rfl
    · refine s_bipush (v := (-3)) (n := 30) hX (dec_of D_X10_whyNoPart (i := 15) rfl) rfl (by decide) ?_
      refine s_goto (n := 34) hX (dec_of D_X10_whyNoPart (i := 16) rfl) rfl ?_
      exact s_iret hX hR (dec_of D_X10_whyNoPart (i := 18) rfl) rfl
  · refine s_bipush (v := (-2)) (n := 15) hX (dec_of D_X10_whyNoPart (i := 7) rfl) rfl (by decide) ?_
    refine s_goto (n := 34) hX (dec_of D_X10_whyNoPart (i := 8) rfl) rfl ?_
    exact s_iret hX hR (dec_of D_X10_whyNoPart (i := 18) rfl) rfl
theorem lk_RX10_364 : LkV RX10 364 RX10 yX10_laysParts cX10_laysParts 15 none 1 := ⟨wd_1817, wd_1819, wd_70, wd_93, wd_1820, by decide +kernel, by decide⟩
def T_X10_parts : List (Nat × Instr × Nat) := [(0, .aload_n 0, 1), (1, .getfield 28, 3), (4, .sipush 192, 3), (7, .iload_n 1, 1), (8, .iadd, 1), (9, .iaload, 1), (10, .istore_n 2, 1), (11, .aload_n 0, 1), (12, .iload_n 1, 1), (13, .invokevirtual 364, 3), (16, .iconst 0, 1), (17, .istore_n 3, 1), (18, .iload_n 3, 1), (19, .aload_n 0, 1), (20, .getfield 232, 3), (23, .if_icmp .ge 22, 3), (26, .aload_n 0, 1), (27, .iload_n 3, 1), (28, .iload_n 1, 1), (29, .aload_n 0, 1), (30, .getfield 74, 3), (33, .iload_n 3, 1), (34, .iaload, 1), (35, .iconst 0, 1), (36, .invokevirtual 337, 3), (39, .iinc 3 1, 3), (42, .goto (-24), 3), (45, .aload_n 0, 1), (46, .getfield 28, 3), (49, .sipush 192, 3), (52, .iload_n 1, 1), (53, .iadd, 1), (54, .iconst 0, 1), (55, .iastore, 1), (56, .iload_n 1, 1), (57, .iconst 0, 1), (58, .iconst 0, 1), (59, .invokestatic 344, 3), (62, .istore_n 3, 1), (63, .iload_n 3, 1), (64, .iload_n 1, 1), (65, .iconst 1, 1), (66, .iadd, 1), (67, .iconst 0, 1), (68, .iconst 0, 1), (69, .invokestatic 344, 3), (72, .if_icmp .ge 16, 3), (75, .aload_n 0, 1), (76, .getfield 28, 3), (79, .iload_n 3, 1), (80, .iconst 0, 1), (81, .iastore, 1), (82, .iinc 3 1, 3), (85, .goto (-22), 3), (88, .iload_n 2, 1), (89, .ireturn, 1)]
theorem D_X10_parts : dchk cX10_parts T_X10_parts = true := by decide +kernel
def Mo_parts (σ : ST) (a1 : Int32) : Option (Int32 × ST) :=
  bd_ (ldI σ 34 0 (192 + a1)) (fun v1 => bd_ (Mo_laysParts (σ) a1) (fun q2 => lp_ (fun rec4 (z3 : ST × Int32) => (if (gF z3.1 851 0) ≤ z3.2 then bd_ (stI z3.1 34 0 (192 + a1) 0) (fun s6 => bd_ (Mo_lapsedAt s6 a1 0 0) (fun q7 => lp_ (fun rec9 (z8 : ST × Int32) => bd_ (Mo_lapsedAt z8.1 (a1 + 1) 0 0) (fun q11 => (if q11 ≤ z8.2 then some (v1, z8.1) else bd_ (stI z8.1 34 0 z8.2 0) (fun s12 => rec9 (s12, (z8.2 + 1)))))) FU (s6, q7))) else bd_ (ldI z3.1 48 0 z3.2) (fun v13 => bd_ (Mo_pays_2 z3.1 z3.2 a1 v13 0) (fun q14 => rec4 (q14, (z3.2 + 1)))))) FU (q2, 0)))
set_option maxHeartbeats 4000000 in
set_option maxRecDepth 100000 in
theorem c_X10_parts {G : GW} (hG : Good G) {l : Launch} (σ : ST) (a1 : Int32) : Ctr G l yX10_parts cX10_parts 4 (some .int) 3 [.ref (ga G 131 0), .int a1] σ oP (Mo_parts σ a1) := by
  refine ctr_of hG (by decide) (Nat.le_of_ble_eq_true rfl) ?_
  intro X hXl hR hX
  have hX : Ok G X cX10_parts 4 RX10 3 := hX
  unfold Mo_parts
  show Sim G X 4 (MQX G X oP) σ 0 [(0, .ref (ga G 131 0)), (1, .int a1)] [] _
  refine s_aload_n 0 (n := 1) hX (dec_of D_X10_parts (i := 0) rfl) rfl rfl rfl ?_
  refine s_getR (c := 10) (p := 14) (k' := 34) (n := 4) hX cls10 (vk131 (by omega)) (dec_of D_X10_parts (i := 1) rfl) rfl rfl wd_1360 ?_
  refine s_sipush (v := 192) (n := 7) hX (dec_of D_X10_parts (i := 2) rfl) rfl (by decide) ?_
  refine s_iload_n 1 (n := 8) hX (dec_of D_X10_parts (i := 3) rfl) rfl rfl rfl ?_
  refine s_iadd (n := 9) hX (dec_of D_X10_parts (i := 4) rfl) rfl ?_
  refine s_iald (n := 10) hX (vk34 (by omega)) (by decide) (dec_of D_X10_parts (i := 5) rfl) rfl (fun v1 => ?_)
  refine s_istore_n (lv' := [(0, _), (1, _), (2, _)]) [1, 2, 0] (n := 11) hX (dec_of D_X10_parts (i := 6) rfl) rfl rfl (by decide) rfl ?_
  refine s_aload_n 0 (n := 12) hX (dec_of D_X10_parts (i := 7) rfl) rfl rfl rfl ?_
  refine s_iload_n 1 (n := 13) hX (dec_of D_X10_parts (i := 8) rfl) rfl rfl rfl ?_
  refine s_callVV (c := 10) (n := 16) hX cls10 (vk131 (by omega)) lk_RX10_364 (dec_of D_X10_parts (i := 9) rfl) rfl (by decide) (c_X10_laysParts (l := _) hG _ _) rfl rfl (Nat.le_of_ble_eq_true rfl) (fun q2 => ?_)
  refine s_iconst (v := 0) (n := 17) hX (dec_of D_X10_parts (i := 10) rfl) rfl (by decide) ?_
  refine s_istore_n (lv' := [(0, _), (1, _), (2, _), (3, _)]) [1, 2, 3, 0] (n := 18) hX (dec_of D_X10_parts (i := 11) rfl) rfl rfl (by decide) rfl ?_
  refine s_sub [0, 1, 2, 3] rfl (s_lp (pc := 18) (Sf := fun (z3 : ST × Int32) => z3.1) (lvf := fun (z3 : ST × Int32) => [(0, .ref (ga G 131 0)), (1, .int a1), (2, .int v1), (3, .int z3.2)]) (fun rec4 hre5 z3 => ?_) FU (q2, 0))
  refine s_iload_n 3 (n := 19) hX (dec_of D_X10_parts (i := 12) rfl) rfl rfl rfl ?_
  refine s_aload_n 0 (n := 20) hX (dec_of D_X10_parts (i := 13) rfl) rfl rfl rfl ?_
  refine s_getI (c := 10) (p := 11) (id := 851) (n := 23) hX cls10 (vk131 (by omega)) (dec_of D_X10_parts (i := 14) rfl) rfl rfl wd_1357 ?_
  refine s_icmp_ge (tgt := 45) (n := 26) hX (dec_of D_X10_parts (i := 15) rfl) rfl rfl ?_ ?_
  · refine s_aload_n 0 (n := 46) hX (dec_of D_X10_parts (i := 27) rfl) rfl rfl rfl ?_
    refine s_getR (c := 10) (p := 14) (k' := 34) (n := 49) hX cls10 (vk131 (by omega)) (dec_of D_X10_parts (i := 28) rfl) rfl rfl wd_1360 ?_
    refine s_sipush (v := 192) (n := 52) hX (dec_of D_X10_parts (i := 29) rfl) rfl (by decide) ?_
    refine s_iload_n 1 (n := 53) hX (dec_of D_X10_parts (i := 30) rfl) rfl rfl rfl ?_
    refine s_iadd (n := 54) hX (dec_of D_X10_parts (i := 31) rfl) rfl ?_
    refine s_iconst (v := 0) (n := 55) hX (dec_of D_X10_parts (i := 32) rfl) rfl (by decide) ?_
    refine s_iast (n := 56) hX (vk34 (by omega)) (by decide) (dec_of D_X10_parts (i := 33) rfl) rfl (fun s6 => ?_)
    refine s_iload_n 1 (n := 57) hX (dec_of D_X10_parts (i := 34) rfl) rfl rfl rfl ?_
    refine s_iconst (v := 0) (n := 58) hX (dec_of D_X10_parts (i := 35) rfl) rfl (by decide) ?_
    refine s_iconst (v := 0) (n := 59) hX (dec_of D_X10_parts (i := 36) rfl) rfl (by decide) ?_
    refine s_callSI (n := 62) hX lk_RX10_344 (dec_of D_X10_parts (i := 37) rfl) rfl (by decide) (c_X10_lapsedAt (l := _) hG _ _ _ _) rfl rfl (Nat.le_of_ble_eq_true rfl) (fun q7 => ?_)
    refine s_istore_n (lv' := [(0, _), (1, _), (2, _), (3, _)]) [1, 2, 3, 0] (n := 63) hX (dec_of D_X10_parts (i := 38) rfl) rfl rfl (by decide) rfl ?_
    refine s_sub [0, 1, 2, 3] rfl (s_lp (pc := 63) (Sf := fun (z8 : ST × Int32) => z8.1) (lvf := fun (z8 : ST × Int32) => [(0, .ref (ga G 131 0)), (1, .int a1), (2, .int v1), (3, .int z8.2)]) (fun rec9 hre10 z8 => ?_) FU (s6, q7))
    refine s_iload_n 3 (n := 64) hX (dec_of D_X10_parts (i := 39) rfl) rfl rfl rfl ?_
    refine s_iload_n 1 (n := 65) hX (dec_of D_X10_parts (i := 40) rfl) rfl rfl rfl ?_
    refine s_iconst (v := 1) (n := 66) hX (dec_of D_X10_parts (i := 41) rfl) rfl (by decide) ?_
    refine s_iadd (n := 67) hX (dec_of D_X10_parts (i := 42) rfl) rfl ?_
    refine s_iconst (v := 0) (n := 68) hX (dec_of D_X10_parts (i := 43) rfl) rfl (by decide) ?_
    refine s_iconst (v := 0) (n := 69) hX (dec_of D_X10_parts (i := 44) rfl) rfl (by decide) ?_
    refine s_callSI (n := 72) hX lk_RX10_344 (dec_of D_X10_parts (i := 45) rfl) rfl (by decide) (c_X10_lapsedAt (l := _) hG _ _ _ _) rfl rfl (Nat.le_of_ble_eq_true rfl) (fun q11 => ?_)
    refine s_icmp_ge (tgt := 88) (n := 75) hX (dec_of D_X10_parts (i := 46) rfl) rfl rfl ?_ ?_
    · refine s_iload_n 2 (n := 89) hX (dec_of D_X10_parts (i := 54) rfl) rfl rfl rfl ?_
      exact s_iret hX hR (dec_of D_X10_parts (i := 55) rfl) rfl
    · refine s_aload_n 0 (n := 76) hX (dec_of D_X10_parts (i := 47) rfl) rfl rfl rfl ?_
      refine s_getR (c := 10) (p := 14) (k' := 34) (n := 79) hX cls10 (vk131 (by omega)) (dec_of D_X10_parts (i := 48) rfl) rfl rfl wd_1360 ?_
      refine s_iload_n 3 (n := 80) hX (dec_of D_X10_parts (i := 49) rfl) rfl rfl rfl ?_
      refine s_iconst (v := 0) (n := 81) hX (dec_of D_X10_parts (i := 50) rfl) rfl (by decide) ?_
      refine s_iast (n := 82) hX (vk34 (by omega)) (by decide) (dec_of D_X10_parts (i := 51) rfl) rfl (fun s12 => ?_)
      refine s_iinc (v := z8.2 + 1) (lv' := [(0, _), (1, _), (2, _), (3, _)]) 3 [1, 2, 3, 0] (n := 85) hX (dec_of D_X10_parts (i := 52) rfl) rfl rfl rfl (by decide) rfl ?_
      refine s_goto (n := 63) hX (dec_of D_X10_parts (i := 53) rfl) rfl ?_
      exact s_sub [0, 1, 2, 3] rfl (hre10 (s12, (z8.2 + 1)))
  · refine s_aload_n 0 (n := 27) hX (dec_of D_X10_parts (i := 16) rfl) rfl rfl rfl ?_
    refine s_iload_n 3 (n := 28) hX (dec_of D_X10_parts (i := 17) rfl) rfl rfl rfl ?_
    refine s_iload_n 1 (n := 29) hX (dec_of D_X10_parts (i := 18) rfl) rfl rfl rfl ?_
    refine s_aload_n 0 (n := 30) hX (dec_of D_X10_parts (i := 19) rfl) rfl rfl rfl ?_
    refine s_getR (c := 10) (p := 47) (k' := 48) (n := 33) hX cls10 (vk131 (by omega)) (dec_of D_X10_parts (i := 20) rfl) rfl rfl wd_1393 ?_
    refine s_iload_n 3 (n := 34) hX (dec_of D_X10_parts (i := 21) rfl) rfl rfl rfl ?_
    refine s_iald (n := 35) hX (vk48 (by omega)) (by decide) (dec_of D_X10_parts (i := 22) rfl) rfl (fun v13 => ?_)
    refine s_iconst (v := 0) (n := 36) hX (dec_of D_X10_parts (i := 23) rfl) rfl (by decide) ?_
    refine s_callVV (c := 10) (n := 39) hX cls10 (vk131 (by omega)) lk_RX10_337 (dec_of D_X10_parts (i := 24) rfl) rfl (by decide) (c_X10_pays_ (l := _) hG _ _ _ _ _) rfl rfl (Nat.le_of_ble_eq_true rfl) (fun q14 => ?_)
    refine s_iinc (v := z3.2 + 1) (lv' := [(0, _), (1, _), (2, _), (3, _)]) 3 [1, 2, 3, 0] (n := 42) hX (dec_of D_X10_parts (i := 25) rfl) rfl rfl rfl (by decide) rfl ?_
    refine s_goto (n := 18) hX (dec_of D_X10_parts (i := 26) rfl) rfl ?_
    exact s_sub [0, 1, 2, 3] rfl (hre5 (q14, (z3.2 + 1)))
theorem lk_RX10_367 : LkV RX10 367 RX10 yX10_whyNoPart cX10_whyNoPart 2 (some .int) 1 := ⟨wd_1805, wd_1807, wd_67, wd_93, wd_1808, by decide +kernel, by decide⟩
theorem lk_RX10_370 : LkV RX10 370 RX10 yX10_parts cX10_parts 4 (some .int) 1 := ⟨wd_1813, wd_1815, wd_69, wd_93, wd_1816, by decide +kernel, by decide⟩
def T_X10_part : List (Nat × Instr × Nat) := [(0, .aload_n 0, 1), (1, .iconst 0, 1), (2, .putfield 86, 3), (5, .aload_n 0, 1), (6, .iload_n 1, 1), (7, .invokevirtual 257, 3), (10, .ifCond .ne 5, 3), (13, .iconst (-1), 1), (14, .ireturn, 1), (15, .aload_n 0, 1), (16, .iload_n 1, 1), (17, .invokevirtual 367, 3), (20, .istore_n 2, 1), (21, .iload_n 2, 1), (22, .ifCond .ge 5, 3), (25, .iload_n 2, 1), (26, .ireturn, 1), (27, .aload_n 0, 1), (28, .invokevirtual 330, 3), (31, .aload_n 0, 1), (32, .iload_n 1, 1), (33, .invokevirtual 370, 3), (36, .ireturn, 1)]
theorem D_X10_part : dchk cX10_part T_X10_part = true := by decide +kernel
def Mo_part (σ : ST) (a1 : Int32) : Option (Int32 × ST) :=
  lt_ (setF σ 840 0 0) (fun s1 => bd_ (Mo_isLand s1 a1) (fun q2 => (if q2 = 0 then some ((-1), s1) else bd_ (Mo_whyNoPart s1 a1) (fun q3 => (if 0 ≤ q3 then bd_ (Mo_keeps s1) (fun q4 => bd_ (Mo_parts q4 a1) (fun q5 => some (q5.1, q5.2))) else some (q3, s1))))))
set_option maxHeartbeats 4000000 in
set_option maxRecDepth 100000 in
theorem c_X10_part {G : GW} (hG : Good G) {l : Launch} (σ : ST) (a1 : Int32) : Ctr G l yX10_part cX10_part 3 (some .int) 4 [.ref (ga G 131 0), .int a1] σ oP (Mo_part σ a1) := by
  refine ctr_of hG (by decide) (Nat.le_of_ble_eq_true rfl) ?_
  intro X hXl hR hX
  have hX : Ok G X cX10_part 3 RX10 4 := hX
  unfold Mo_part
  show Sim G X 3 (MQX G X oP) σ 0 [(0, .ref (ga G 131 0)), (1, .int a1)] [] _
  refine s_aload_n 0 (n := 1) hX (dec_of D_X10_part (i := 0) rfl) rfl rfl rfl ?_
  refine s_iconst (v := 0) (n := 2) hX (dec_of D_X10_part (i := 1) rfl) rfl (by decide) ?_
  refine s_putI (c := 10) (p := 0) (n := 5) hX cls10 (vk131 (by omega)) (dec_of D_X10_part (i := 2) rfl) rfl rfl (by decide) wd_1346 rfl rfl rfl (fun s1 => ?_)
  refine s_aload_n 0 (n := 6) hX (dec_of D_X10_part (i := 3) rfl) rfl rfl rfl ?_
  refine s_iload_n 1 (n := 7) hX (dec_of D_X10_part (i := 4) rfl) rfl rfl rfl ?_
  refine s_callVI (c := 10) (n := 10) hX cls10 (vk131 (by omega)) lk_RX10_257 (dec_of D_X10_part (i := 5) rfl) rfl (by decide) (c_X10_isLand (l := _) hG _ _) rfl rfl (Nat.le_of_ble_eq_true rfl) (fun q2 => ?_)
  refine s_if_ne (tgt := 15) (n := 13) hX (dec_of D_X10_part (i := 6) rfl) rfl rfl ?_ ?_
  · refine s_aload_n 0 (n := 16) hX (dec_of D_X10_part (i := 9) rfl) rfl rfl rfl ?_
    refine s_iload_n 1 (n := 17) hX (dec_of D_X10_part (i := 10) rfl) rfl rfl rfl ?_
    refine s_callVI (c := 10) (n := 20) hX cls10 (vk131 (by omega)) lk_RX10_367 (dec_of D_X10_part (i := 11) rfl) rfl (by decide) (c_X10_whyNoPart (l := _) hG _ _) rfl rfl (Nat.le_of_ble_eq_true rfl) (fun q3 => ?_)
    refine s_istore_n (lv' := [(0, _), (1, _), (2, _)]) [1, 2, 0] (n := 21) hX (dec_of D_X10_part (i := 12) rfl) rfl rfl (by decide) rfl ?_
    refine s_iload_n 2 (n := 22) hX (dec_of D_X10_part (i := 13) rfl) rfl rfl rfl ?_
    refine s_if_ge (tgt := 27) (n := 25) hX (dec_of D_X10_part (i := 14) rfl) rfl rfl ?_ ?_
    · refine s_aload_n 0 (n := 28) hX (dec_of D_X10_part (i := 17) rfl) rfl rfl rfl ?_
      refine s_callVV (c := 10) (n := 31) hX cls10 (vk131 (by omega)) lk_RX10_330 (dec_of D_X10_part (i := 18) rfl) rfl (by decide) (c_X10_keeps (l := _) hG _) rfl rfl (Nat.le_of_ble_eq_true rfl) (fun q4 => ?_)
      refine s_aload_n 0 (n := 32) hX (dec_of D_X10_part (i := 19) rfl) rfl rfl rfl ?_
      refine s_iload_n 1 (n := 33) hX (dec_of D_X10_part (i := 20) rfl) rfl rfl rfl ?_
      refine s_callVP (c := 10) (n := 36) hX cls10 (vk131 (by omega)) lk_RX10_370 (dec_of D_X10_part (i := 21) rfl) rfl (by decide) (c_X10_parts (l := _) hG _ _) rfl rfl (Nat.le_of_ble_eq_true rfl) (fun q5 => ?_)
      exact s_iret hX hR (dec_of D_X10_part (i := 22) rfl) rfl
    · refine s_iload_n 2 (n := 26) hX (dec_of D_X10_part (i := 15) rfl) rfl rfl rfl ?_
      exact s_iret hX hR (dec_of D_X10_part (i := 16) rfl) rfl
  · refine s_iconst (v := (-1)) (n := 14) hX (dec_of D_X10_part (i := 7) rfl) rfl (by decide) ?_
    exact s_iret hX hR (dec_of D_X10_part (i := 8) rfl) rfl
def T_X10_partAll : List (Nat × Instr × Nat) := [(0, .aload_n 0, 1), (1, .iconst 0, 1), (2, .putfield 86, 3), (5, .iconst 0, 1), (6, .istore_n 1, 1), (7, .iconst 0, 1), (8, .istore_n 2, 1), (9, .iload_n 2, 1), (10, .aload_n 0, 1), (11, .getfield 229, 3), (14, .if_icmp .ge 25, 3), (17, .iload_n 1, 1), (18, .aload_n 0, 1), (19, .iload_n 2, 1), (20, .invokevirtual 367, 3), (23, .ifCond .ne 7, 3), (26, .iconst 1, 1), (27, .goto 4, 3), (30, .iconst 0, 1), (31, .iadd, 1), (32, .istore_n 1, 1), (33, .iinc 2 1, 3), (36, .goto (-27), 3), (39, .iload_n 1, 1), (40, .ifCond .ne 6, 3), (43, .bipush (-2), 2), (45, .ireturn, 1), (46, .aload_n 0, 1), (47, .invokevirtual 330, 3), (50, .iconst 0, 1), (51, .istore_n 2, 1), (52, .iconst 0, 1), (53, .istore_n 3, 1), (54, .iload_n 3, 1), (55, .aload_n 0, 1), (56, .getfield 229, 3), (59, .if_icmp .ge 29, 3), (62, .iload_n 2, 1), (63, .aload_n 0, 1), (64, .iload_n 3, 1), (65, .invokevirtual 367, 3), (68, .ifCond .ne 11, 3), (71, .aload_n 0, 1), (72, .iload_n 3, 1), (73, .invokevirtual 370, 3), (76, .goto 4, 3), (79, .iconst 0, 1), (80, .iadd, 1), (81, .istore_n 2, 1), (82, .iinc 3 1, 3), (85, .goto (-31), 3), (88, .iload_n 2, 1), (89, .ireturn, 1)]
theorem D_X10_partAll : dchk cX10_partAll T_X10_partAll = true := by decide +kernel
def Mo_partAll (σ : ST)  : Option (Int32 × ST) :=
  lt_ (setF σ 840 0 0) (fun s1 => lp_ (fun rec3 (z2 : Int32 × Int32) => (if (gF s1 850 0) ≤ z2.2 then (if z2.1 = 0 then some ((-2), s1) else bd_ (Mo_keeps s1) (fun q5 => lp_ (fun rec7 (z6 : ST × Int32 × Int32) => (if (gF z6.1 850 0) ≤ z6.2.2 then some (z6.2.1, z6.1) else bd_ (Mo_whyNoPart z6.1 z6.2.2) (fun q9 => (if q9 = 0 then bd_ (Mo_parts z6.1 z6.2.2) (fun q11 => lt_ ((z6.2.1 + q11.1)) (fun x12 => rec7 (q11.2, x12, (z6.2.2 + 1)))) else lt_ ((z6.2.1 + 0)) (fun x10 => rec7 (z6.1, x10, (z6.2.2 + 1))))))) FU (q5, 0, 0))) else bd_ (Mo_whyNoPart s1 z2.2) (fun q13 => (if q13 = 0 then lt_ ((z2.1 + 1)) (fun x15 => rec3 (x15, (z2.2 + 1))) else lt_ ((z2.1 + 0)) (fun x14 => rec3 (x14, (z2.2 + 1))))))) FU (0, 0))
set_option maxHeartbeats 4000000 in
set_option maxRecDepth 100000 in
theorem c_X10_partAll {G : GW} (hG : Good G) {l : Launch} (σ : ST)  : Ctr G l yX10_partAll cX10_partAll 4 (some .int) 4 [.ref (ga G 131 0)] σ oP (Mo_partAll σ ) := by
  refine ctr_of hG (by decide) (Nat.le_of_ble_eq_true rfl) ?_
  intro X hXl hR hX
  have hX : Ok G X cX10_partAll 4 RX10 4 := hX
  unfold Mo_partAll
  show Sim G X 4 (MQX G X oP) σ 0 [(0, .ref (ga G 131 0))] [] _
  refine s_aload_n 0 (n := 1) hX (dec_of D_X10_partAll (i := 0) rfl) rfl rfl rfl ?_
  refine s_iconst (v := 0) (n := 2) hX (dec_of D_X10_partAll (i := 1) rfl) rfl (by decide) ?_
  refine s_putI (c := 10) (p := 0) (n := 5) hX cls10 (vk131 (by omega)) (dec_of D_X10_partAll (i := 2) rfl) rfl rfl (by decide) wd_1346 rfl rfl rfl (fun s1 => ?_)
  refine s_iconst (v := 0) (n := 6) hX (dec_of D_X10_partAll (i := 3) rfl) rfl (by decide) ?_
  refine s_istore_n (lv' := [(0, _), (1, _)]) [1, 0] (n := 7) hX (dec_of D_X10_partAll (i := 4) rfl) rfl rfl (by decide) rfl ?_
  refine s_iconst (v := 0) (n := 8) hX (dec_of D_X10_partAll (i := 5) rfl) rfl (by decide) ?_
  refine s_istore_n (lv' := [(0, _), (1, _), (2, _)]) [1, 2, 0] (n := 9) hX (dec_of D_X10_partAll (i := 6) rfl) rfl rfl (by decide) rfl ?_
  refine s_sub [0, 1, 2] rfl (s_lp (pc := 9) (Sf := fun (z2 : Int32 × Int32) => s1) (lvf := fun (z2 : Int32 × Int32) => [(0, .ref (ga G 131 0)), (1, .int z2.1), (2, .int z2.2)]) (fun rec3 hre4 z2 => ?_) FU (0, 0))
  refine s_iload_n 2 (n := 10) hX (dec_of D_X10_partAll (i := 7) rfl) rfl rfl rfl ?_
  refine s_aload_n 0 (n := 11) hX (dec_of D_X10_partAll (i := 8) rfl) rfl rfl rfl ?_
  refine s_getI (c := 10) (p := 10) (id := 850) (n := 14) hX cls10 (vk131 (by omega)) (dec_of D_X10_partAll (i := 9) rfl) rfl rfl wd_1356 ?_
  refine s_icmp_ge (tgt := 39) (n := 17) hX (dec_of D_X10_partAll (i := 10) rfl) rfl rfl ?_ ?_
  · refine s_iload_n 1 (n := 40) hX (dec_of D_X10_partAll (i := 23) rfl) rfl rfl rfl ?_
    refine s_if_ne (tgt := 46) (n := 43) hX (dec_of D_X10_partAll (i := 24) rfl) rfl rfl ?_ ?_
    · refine s_aload_n 0 (n := 47) hX (dec_of D_X10_partAll (i := 27) rfl) rfl rfl rfl ?_
      refine s_callVV (c := 10) (n := 50) hX cls10 (vk131 (by omega)) lk_RX10_330 (dec_of D_X10_partAll (i := 28) rfl) rfl (by decide) (c_X10_keeps (l := _) hG _) rfl rfl (Nat.le_of_ble_eq_true rfl) (fun q5 => ?_)
      refine s_iconst (v := 0) (n := 51) hX (dec_of D_X10_partAll (i := 29) rfl) rfl (by decide) ?_
      refine s_istore_n (lv' := [(0, _), (1, _), (2, _)]) [1, 2, 0] (n := 52) hX (dec_of D_X10_partAll (i := 30) rfl) rfl rfl (by decide) rfl ?_
      refine s_iconst (v := 0) (n := 53) hX (dec_of D_X10_partAll (i := 31) rfl) rfl (by decide) ?_
      refine s_istore_n (lv' := [(0, _), (1, _), (2, _), (3, _)]) [1, 2, 3, 0] (n := 54) hX (dec_of D_X10_partAll (i := 32) rfl) rfl rfl (by decide) rfl ?_
      refine s_sub [0, 2, 3] rfl (s_lp (pc := 54) (Sf := fun (z6 : ST × Int32 × Int32) => z6.1) (lvf := fun (z6 : ST × Int32 × Int32) => [(0, .ref (ga G 131 0)), (2, .int z6.2.1), (3, .int z6.2.2)]) (fun rec7 hre8 z6 => ?_) FU (q5, 0, 0))
      refine s_iload_n 2 (n := 55) hX (dec_of D_X10_partAll (i := 33) rfl) rfl rfl rfl ?_
      refine s_aload_n 0 (n := 56) hX (dec_of D_X10_partAll (i := 34) rfl) rfl rfl rfl ?_
      refine s_getI (c := 10) (p := 10) (id := 850) (n := 59) hX cls10 (vk131 (by omega)) (dec_of D_X10_partAll (i := 35) rfl) rfl rfl wd_1356 ?_
      refine s_icmp_ge (tgt := 88) (n := 62) hX (dec_of D_X10_partAll (i := 36) rfl) rfl rfl ?_ ?_
      · refine s_iload_n 1 (n := 89) hX (dec_of D_X10_partAll (i := 51) rfl) rfl rfl rfl ?_
        exact s_iret hX hR (dec_of D_X10_partAll (i := 52) rfl) rfl
      · refine s_iload_n 1 (n := 63) hX (dec_of D_X10_partAll (i := 37) rfl) rfl rfl rfl ?_
        refine s_aload_n 0 (n := 64) hX (dec_of D_X10_partAll (i := 38) rfl) rfl rfl rfl ?_
        refine s_iload_n 2 (n := 65) hX (dec_of D_X10_partAll (i := 39) rfl) rfl rfl rfl ?_
        refine s_callVI (c := 10) (n := 68) hX cls10 (vk131 (by omega)) lk_RX10_367 (dec_of D_X10_partAll (i := 40) rfl) rfl (by decide) (c_X10_whyNoPart (l := _) hG _ _) rfl rfl (Nat.le_of_ble_eq_true rfl) (fun q9 => ?_)
        refine s_if_ne (tgt := 79) (n := 71) hX (dec_of D_X10_partAll (i := 41) rfl) rfl rfl ?_ ?_
        · refine s_iconst (v := 0) (n := 80) hX (dec_of D_X10_partAll (i := 46) rfl) rfl (by decide) ?_
          refine s_iadd (n := 81) hX (dec_of D_X10_partAll (i := 47) rfl) rfl ?_
          refine s_topi (fun x10 => ?_)
          refine s_istore_n (lv' := [(0, _), (2, _), (3, _)]) [1, 0, 2] (n := 82) hX (dec_of D_X10_partAll (i := 48) rfl) rfl rfl (by decide) rfl ?_
          refine s_iinc (v := z6.2.2 + 1) (lv' := [(0, _), (2, _), (3, _)]) 2 [1, 2, 0] (n := 85) hX (dec_of D_X10_partAll (i := 49) rfl) rfl rfl rfl (by decide) rfl ?_
          refine s_goto (n := 54) hX (dec_of D_X10_partAll (i := 50) rfl) rfl ?_
          exact s_sub [0, 1, 2] rfl (hre8 (z6.1, x10, (z6.2.2 + 1)))
        · refine s_aload_n 0 (n := 72) hX (dec_of D_X10_partAll (i := 42) rfl) rfl rfl rfl ?_
          refine s_iload_n 2 (n := 73) hX (dec_of D_X10_partAll (i := 43) rfl) rfl rfl rfl ?_
          refine s_callVP (c := 10) (n := 76) hX cls10 (vk131 (by omega)) lk_RX10_370 (dec_of D_X10_partAll (i := 44) rfl) rfl (by decide) (c_X10_parts (l := _) hG _ _) rfl rfl (Nat.le_of_ble_eq_true rfl) (fun q11 => ?_)
          refine s_goto (n := 80) hX (dec_of D_X10_partAll (i := 45) rfl) rfl ?_
          refine s_iadd (n := 81) hX (dec_of D_X10_partAll (i := 47) rfl) rfl ?_
          refine s_topi (fun x12 => ?_)
          refine s_istore_n (lv' := [(0, _), (2, _), (3, _)]) [1, 0, 2] (n := 82) hX (dec_of D_X10_partAll (i := 48) rfl) rfl rfl (by decide) rfl ?_
          refine s_iinc (v := z6.2.2 + 1) (lv' := [(0, _), (2, _), (3, _)]) 2 [1, 2, 0] (n := 85) hX (dec_of D_X10_partAll (i := 49) rfl) rfl rfl rfl (by decide) rfl ?_
          refine s_goto (n := 54) hX (dec_of D_X10_partAll (i := 50) rfl) rfl ?_
          exact s_sub [0, 1, 2] rfl (hre8 (q11.2, x12, (z6.2.2 + 1)))
    · refine s_bipush (v := (-2)) (n := 45) hX (dec_of D_X10_partAll (i := 25) rfl) rfl (by decide) ?_
      exact s_iret hX hR (dec_of D_X10_partAll (i := 26) rfl) rfl
  · refine s_iload_n 1 (n := 18) hX (dec_of D_X10_partAll (i := 11) rfl) rfl rfl rfl ?_
    refine s_aload_n 0 (n := 19) hX (dec_of D_X10_partAll (i := 12) rfl) rfl rfl rfl ?_
    refine s_iload_n 2 (n := 20) hX (dec_of D_X10_partAll (i := 13) rfl) rfl rfl rfl ?_
    refine s_callVI (c := 10) (n := 23) hX cls10 (vk131 (by omega)) lk_RX10_367 (dec_of D_X10_partAll (i := 14) rfl) rfl (by decide) (c_X10_whyNoPart (l := _) hG _ _) rfl rfl (Nat.le_of_ble_eq_true rfl) (fun q13 => ?_)
    refine s_if_ne (tgt := 30) (n := 26) hX (dec_of D_X10_partAll (i := 15) rfl) rfl rfl ?_ ?_
    · refine s_iconst (v := 0) (n := 31) hX (dec_of D_X10_partAll (i := 18) rfl) rfl (by decide) ?_
      refine s_iadd (n := 32) hX (dec_of D_X10_partAll (i := 19) rfl) rfl ?_
      refine s_topi (fun x14 => ?_)
      refine s_istore_n (lv' := [(0, _), (1, _), (2, _)]) [1, 0, 2] (n := 33) hX (dec_of D_X10_partAll (i := 20) rfl) rfl rfl (by decide) rfl ?_
      refine s_iinc (v := z2.2 + 1) (lv' := [(0, _), (1, _), (2, _)]) 2 [1, 2, 0] (n := 36) hX (dec_of D_X10_partAll (i := 21) rfl) rfl rfl rfl (by decide) rfl ?_
      refine s_goto (n := 9) hX (dec_of D_X10_partAll (i := 22) rfl) rfl ?_
      exact s_sub [0, 1, 2] rfl (hre4 (x14, (z2.2 + 1)))
    · refine s_iconst (v := 1) (n := 27) hX (dec_of D_X10_partAll (i := 16) rfl) rfl (by decide) ?_
      refine s_goto (n := 31) hX (dec_of D_X10_partAll (i := 17) rfl) rfl ?_
      refine s_iadd (n := 32) hX (dec_of D_X10_partAll (i := 19) rfl) rfl ?_
      refine s_topi (fun x15 => ?_)
      refine s_istore_n (lv' := [(0, _), (1, _), (2, _)]) [1, 0, 2] (n := 33) hX (dec_of D_X10_partAll (i := 20) rfl) rfl rfl (by decide) rfl ?_
      refine s_iinc (v := z2.2 + 1) (lv' := [(0, _), (1, _), (2, _)]) 2 [1, 2, 0] (n := 36) hX (dec_of D_X10_partAll (i := 21) rfl) rfl rfl rfl (by decide) rfl ?_
      refine s_goto (n := 9) hX (dec_of D_X10_partAll (i := 22) rfl) rfl ?_
      exact s_sub [0, 1, 2] rfl (hre4 (x15, (z2.2 + 1)))
theorem lk_RX10_373 : LkS RX10 373 yX10_areTerms cX10_areTerms 2 (some .boolean) 2 := ⟨wd_1829, wd_1830, wd_93, wd_1831, by decide +kernel, by decide⟩
def T_X10_terms : List (Nat × Instr × Nat) := [(0, .aload_n 0, 1), (1, .iconst 0, 1), (2, .putfield 86, 3), (5, .aload_n 0, 1), (6, .iload_n 1, 1), (7, .invokevirtual 257, 3), (10, .ifCond .eq 39, 3), (13, .iload_n 2, 1), (14, .iload_n 3, 1), (15, .invokestatic 373, 3), (18, .ifCond .eq 31, 3), (21, .aload_n 0, 1), (22, .getfield 28, 3), (25, .sipush 2660, 3), (28, .iload_n 1, 1), (29, .iadd, 1), (30, .iaload, 1), (31, .iload_n 2, 1), (32, .if_icmp .ne 19, 3), (35, .aload_n 0, 1), (36, .getfield 28, 3), (39, .sipush 2666, 3), (42, .iload_n 1, 1), (43, .iadd, 1), (44, .iaload, 1), (45, .iload_n 3, 1), (46, .if_icmp .ne 5, 3), (49, .iconst 0, 1), (50, .ireturn, 1), (51, .aload_n 0, 1), (52, .invokevirtual 330, 3), (55, .aload_n 0, 1), (56, .getfield 28, 3), (59, .sipush 2660, 3), (62, .iload_n 1, 1), (63, .iadd, 1), (64, .iload_n 2, 1), (65, .iastore, 1), (66, .aload_n 0, 1), (67, .getfield 28, 3), (70, .sipush 2666, 3), (73, .iload_n 1, 1), (74, .iadd, 1), (75, .iload_n 3, 1), (76, .iastore, 1), (77, .iconst 1, 1), (78, .ireturn, 1)]
theorem D_X10_terms : dchk cX10_terms T_X10_terms = true := by decide +kernel
def Mo_terms (σ : ST) (a1 : Int32) (a2 : Int32) (a3 : Int32) : Option (Int32 × ST) :=
  lt_ (setF σ 840 0 0) (fun s1 => bd_ (Mo_isLand s1 a1) (fun q2 => (if q2 = 0 then some (0, s1) else bd_ (Mo_areTerms s1 a2 a3) (fun q3 => (if q3 = 0 then some (0, s1) else bd_ (ldI s1 34 0 (2660 + a1)) (fun v4 => lk_ (fun kk6 => (if v4 = a2 then bd_ (ldI s1 34 0 (2666 + a1)) (fun v11 => (if v11 = a3 then some (0, s1) else kk6 ())) else kk6 ())) (fun (j5 : Unit) => bd_ (Mo_keeps s1) (fun q8 => bd_ (stI q8 34 0 (2660 + a1) a2) (fun s9 => bd_ (stI s9 34 0 (2666 + a1) a3) (fun s10 => some (1, s10)))))))))))
set_option maxHeartbeats 4000000 in
set_option maxRecDepth 100000 in
theorem c_X10_terms {G : GW} (hG : Good G) {l : Launch} (σ : ST) (a1 : Int32) (a2 : Int32) (a3 : Int32) : Ctr G l yX10_terms cX10_terms 4 (some .boolean) 1 [.ref (ga G 131 0), .int a1, .int a2, .int a3] σ oP (Mo_terms σ a1 a2 a3) := by
  refine ctr_of hG (by decide) (Nat.le_of_ble_eq_true rfl) ?_
  intro X hXl hR hX
  have hX : Ok G X cX10_terms 4 RX10 1 := hX
  unfold Mo_terms
  show Sim G X 4 (MQX G X oP) σ 0 [(0, .ref (ga G 131 0)), (1, .int a1), (2, .int a2), (3, .int a3)] [] _
  refine s_aload_n 0 (n := 1) hX (dec_of D_X10_terms (i := 0) rfl) rfl rfl rfl ?_
  refine s_iconst (v := 0) (n := 2) hX (dec_of D_X10_terms (i := 1) rfl) rfl (by decide) ?_
  refine s_putI (c := 10) (p := 0) (n := 5) hX cls10 (vk131 (by omega)) (dec_of D_X10_terms (i := 2) rfl) rfl rfl (by decide) wd_1346 rfl rfl rfl (fun s1 => ?_)
  refine s_aload_n 0 (n := 6) hX (dec_of D_X10_terms (i := 3) rfl) rfl rfl rfl ?_
  refine s_iload_n 1 (n := 7) hX (dec_of D_X10_terms (i := 4) rfl) rfl rfl rfl ?_
  refine s_callVI (c := 10) (n := 10) hX cls10 (vk131 (by omega)) lk_RX10_257 (dec_of D_X10_terms (i := 5) rfl) rfl (by decide) (c_X10_isLand (l := _) hG _ _) rfl rfl (Nat.le_of_ble_eq_true rfl) (fun q2 => ?_)
  refine s_if_eq (tgt := 49) (n := 13) hX (dec_of D_X10_terms (i := 6) rfl) rfl rfl ?_ ?_
  · refine s_iconst (v := 0) (n := 50) hX (dec_of D_X10_terms (i := 27) rfl) rfl (by decide) ?_
    exact s_zret hX hR (dec_of D_X10_terms (i := 28) rfl) rfl rfl
  · refine s_iload_n 2 (n := 14) hX (dec_of D_X10_terms (i := 7) rfl) rfl rfl rfl ?_
    refine s_iload_n 3 (n := 15) hX (dec_of D_X10_terms (i := 8) rfl) rfl rfl rfl ?_
    refine s_callSI (n := 18) hX lk_RX10_373 (dec_of D_X10_terms (i := 9) rfl) rfl (by decide) (c_X10_areTerms (l := _) hG _ _ _) rfl rfl (Nat.le_of_ble_eq_true rfl) (fun q3 => ?_)
    refine s_if_eq (tgt := 49) (n := 21) hX (dec_of D_X10_terms (i := 10) rfl) rfl rfl ?_ ?_
    · refine s_iconst (v := 0) (n := 50) hX (dec_of D_X10_terms (i := 27) rfl) rfl (by decide) ?_
      exact s_zret hX hR (dec_of D_X10_terms (i := 28) rfl) rfl rfl
    · refine s_aload_n 0 (n := 22) hX (dec_of D_X10_terms (i := 11) rfl) rfl rfl rfl ?_
      refine s_getR (c := 10) (p := 14) (k' := 34) (n := 25) hX cls10 (vk131 (by omega)) (dec_of D_X10_terms (i := 12) rfl) rfl rfl wd_1360 ?_
      refine s_sipush (v := 2660) (n := 28) hX (dec_of D_X10_terms (i := 13) rfl) rfl (by decide) ?_
      refine s_iload_n 1 (n := 29) hX (dec_of D_X10_terms (i := 14) rfl) rfl rfl rfl ?_
      refine s_iadd (n := 30) hX (dec_of D_X10_terms (i := 15) rfl) rfl ?_
      refine s_iald (n := 31) hX (vk34 (by omega)) (by decide) (dec_of D_X10_terms (i := 16) rfl) rfl (fun v4 => ?_)
      refine s_iload_n 2 (n := 32) hX (dec_of D_X10_terms (i := 17) rfl) rfl rfl rfl ?_
      refine s_lk (pcj := 51) (Sf := fun (j5 : Unit) => s1) (lvf := fun (j5 : Unit) => [(0, .ref (ga G 131 0)), (1, .int a1), (2, .int a2), (3, .int a3)]) (stf := fun (j5 : Unit) => []) (fun j5 => ?_) (fun kk6 hkk7 => ?_)
      · refine s_aload_n 0 (n := 52) hX (dec_of D_X10_terms (i := 29) rfl) rfl rfl rfl ?_
        refine s_callVV (c := 10) (n := 55) hX cls10 (vk131 (by omega)) lk_RX10_330 (dec_of D_X10_terms (i := 30) rfl) rfl (by decide) (c_X10_keeps (l := _) hG _) rfl rfl (Nat.le_of_ble_eq_true rfl) (fun q8 => ?_)
        refine s_aload_n 0 (n := 56) hX (dec_of D_X10_terms (i := 31) rfl) rfl rfl rfl ?_
        refine s_getR (c := 10) (p := 14) (k' := 34) (n := 59) hX cls10 (vk131 (by omega)) (dec_of D_X10_terms (i := 32) rfl) rfl rfl wd_1360 ?_
        refine s_sipush (v := 2660) (n := 62) hX (dec_of D_X10_terms (i := 33) rfl) rfl (by decide) ?_
        refine s_iload_n 1 (n := 63) hX (dec_of D_X10_terms (i := 34) rfl) rfl rfl rfl ?_
        refine s_iadd (n := 64) hX (dec_of D_X10_terms (i := 35) rfl) rfl ?_
        refine s_iload_n 2 (n := 65) hX (dec_of D_X10_terms (i := 36) rfl) rfl rfl rfl ?_
        refine s_iast (n := 66) hX (vk34 (by omega)) (by decide) (dec_of D_X10_terms (i := 37) rfl) rfl (fun s9 => ?_)
        refine s_aload_n 0 (n := 67) hX (dec_of D_X10_terms (i := 38) rfl) rfl rfl rfl ?_
        refine s_getR (c := 10) (p := 14) (k' := 34) (n := 70) hX cls10 (vk131 (by omega)) (dec_of D_X10_terms (i := 39) rfl) rfl rfl wd_1360 ?_
        refine s_sipush (v := 2666) (n := 73) hX (dec_of D_X10_terms (i := 40) rfl) rfl (by decide) ?_
        refine s_iload_n 1 (n := 74) hX (dec_of D_X10_terms (i := 41) rfl) rfl rfl rfl ?_
        refine s_iadd (n := 75) hX (dec_of D_X10_terms (i := 42) rfl) rfl ?_
        refine s_iload_n 3 (n := 76) hX (dec_of D_X10_terms (i := 43) rfl) rfl rfl rfl ?_
        refine s_iast (n := 77) hX (vk34 (by omega)) (by decide) (dec_of D_X10_terms (i := 44) rfl) rfl (fun s10 => ?_)
        refine s_iconst (v := 1) (n := 78) hX (dec_of D_X10_terms (i := 45) rfl) rfl (by decide) ?_
        exact s_zret hX hR (dec_of D_X10_terms (i := 46) rfl) rfl rfl
      · refine s_icmp_ne (tgt := 51) (n := 35) hX (dec_of D_X10_terms (i := 18) rfl) rfl rfl ?_ ?_
        · exact s_sub [0, 1, 2, 3] rfl (hkk7 ())
        · refine s_aload_n 0 (n := 36) hX (dec_of D_X10_terms (i := 19) rfl) rfl rfl rfl ?_
          refine s_getR (c := 10) (p := 14) (k' := 34) (n := 39) hX cls10 (vk131 (by omega)) (dec_of D_X10_terms (i := 20) rfl) rfl rfl wd_1360 ?_
          refine s_sipush (v := 2666) (n := 42) hX (dec_of D_X10_terms (i := 21) rfl) rfl (by decide) ?_
          refine s_iload_n 1 (n := 43) hX (dec_of D_X10_terms (i := 22) rfl) rfl rfl rfl ?_
          refine s_iadd (n := 44) hX (dec_of D_X10_terms (i := 23) rfl) rfl ?_
          refine s_iald (n := 45) hX (vk34 (by omega)) (by decide) (dec_of D_X10_terms (i := 24) rfl) rfl (fun v11 => ?_)
          refine s_iload_n 3 (n := 46) hX (dec_of D_X10_terms (i := 25) rfl) rfl rfl rfl ?_
          refine s_icmp_ne (tgt := 51) (n := 49) hX (dec_of D_X10_terms (i := 26) rfl) rfl rfl ?_ ?_
          · exact s_sub [0, 1, 2, 3] rfl (hkk7 ())
          · refine s_iconst (v := 0) (n := 50) hX (dec_of D_X10_terms (i := 27) rfl) rfl (by decide) ?_
            exact s_zret hX hR (dec_of D_X10_terms (i := 28) rfl) rfl rfl
def T_X10_move : List (Nat × Instr × Nat) := [(0, .aload_n 0, 1), (1, .iconst 0, 1), (2, .putfield 86, 3), (5, .aload_n 0, 1), (6, .iload_n 1, 1), (7, .invokevirtual 264, 3), (10, .ifCond .eq 25, 3), (13, .aload_n 0, 1), (14, .iload_n 2, 1), (15, .invokevirtual 257, 3), (18, .ifCond .eq 17, 3), (21, .aload_n 0, 1), (22, .getfield 28, 3), (25, .sipush 2672, 3), (28, .iload_n 1, 1), (29, .iadd, 1), (30, .iaload, 1), (31, .iload_n 2, 1), (32, .if_icmp .ne 5, 3), (35, .iconst 0, 1), (36, .ireturn, 1), (37, .aload_n 0, 1), (38, .invokevirtual 330, 3), (41, .aload_n 0, 1), (42, .getfield 28, 3), (45, .sipush 2672, 3), (48, .iload_n 1, 1), (49, .iadd, 1), (50, .iload_n 2, 1), (51, .iastore, 1), (52, .iconst 1, 1), (53, .ireturn, 1)]
theorem D_X10_move : dchk cX10_move T_X10_move = true := by decide +kernel
def Mo_move (σ : ST) (a1 : Int32) (a2 : Int32) : Option (Int32 × ST) :=
  lt_ (setF σ 840 0 0) (fun s1 => bd_ (Mo_isPlayer s1 a1) (fun q2 => (if q2 = 0 then some (0, s1) else bd_ (Mo_isLand s1 a2) (fun q3 => (if q3 = 0 then some (0, s1) else bd_ (ldI s1 34 0 (2672 + a1)) (fun v4 => (if v4 = a2 then some (0, s1) else bd_ (Mo_keeps s1) (fun q5 => bd_ (stI q5 34 0 (2672 + a1) a2) (fun s6 => some (1, s6))))))))))
set_option maxHeartbeats 4000000 in
set_option maxRecDepth 100000 in
theorem c_X10_move {G : GW} (hG : Good G) {l : Launch} (σ : ST) (a1 : Int32) (a2 : Int32) : Ctr G l yX10_move cX10_move 3 (some .boolean) 1 [.ref (ga G 131 0), .int a1, .int a2] σ oP (Mo_move σ a1 a2) := by
  refine ctr_of hG (by decide) (Nat.le_of_ble_eq_true rfl) ?_
  intro X hXl hR hX
  have hX : Ok G X cX10_move 3 RX10 1 := hX
  unfold Mo_move
  show Sim G X 3 (MQX G X oP) σ 0 [(0, .ref (ga G 131 0)), (1, .int a1), (2, .int a2)] [] _
  refine s_aload_n 0 (n := 1) hX (dec_of D_X10_move (i := 0) rfl) rfl rfl rfl ?_
  refine s_iconst (v := 0) (n := 2) hX (dec_of D_X10_move (i := 1) rfl) rfl (by decide) ?_
  refine s_putI (c := 10) (p := 0) (n := 5) hX cls10 (vk131 (by omega)) (dec_of D_X10_move (i := 2) rfl) rfl rfl (by decide) wd_1346 rfl rfl rfl (fun s1 => ?_)
  refine s_aload_n 0 (n := 6) hX (dec_of D_X10_move (i := 3) rfl) rfl rfl rfl ?_
  refine s_iload_n 1 (n := 7) hX (dec_of D_X10_move (i := 4) rfl) rfl rfl rfl ?_
  refine s_callVI (c := 10) (n := 10) hX cls10 (vk131 (by omega)) lk_RX10_264 (dec_of D_X10_move (i := 5) rfl) rfl (by decide) (c_X10_isPlayer (l := _) hG _ _) rfl rfl (Nat.le_of_ble_eq_true rfl) (fun q2 => ?_)
  refine s_if_eq (tgt := 35) (n := 13) hX (dec_of D_X10_move (i := 6) rfl) rfl rfl ?_ ?_
  · refine s_iconst (v := 0) (n := 36) hX (dec_of D_X10_move (i := 19) rfl) rfl (by decide) ?_
    exact s_zret hX hR (dec_of D_X10_move (i := 20) rfl) rfl rfl
  · refine s_aload_n 0 (n := 14) hX (dec_of D_X10_move (i := 7) rfl) rfl rfl rfl ?_
    refine s_iload_n 2 (n := 15) hX (dec_of D_X10_move (i := 8) rfl) rfl rfl rfl ?_
    refine s_callVI (c := 10) (n := 18) hX cls10 (vk131 (by omega)) lk_RX10_257 (dec_of D_X10_move (i := 9) rfl) rfl (by decide) (c_X10_isLand (l := _) hG _ _) rfl rfl (Nat.le_of_ble_eq_true rfl) (fun q3 => ?_)
    refine s_if_eq (tgt := 35) (n := 21) hX (dec_of D_X10_move (i := 10) rfl) rfl rfl ?_ ?_
    · refine s_iconst (v := 0) (n := 36) hX (dec_of D_X10_move (i := 19) rfl) rfl (by decide) ?_
      exact s_zret hX hR (dec_of D_X10_move (i := 20) rfl) rfl rfl
    · refine s_aload_n 0 (n := 22) hX (dec_of D_X10_move (i := 11) rfl) rfl rfl rfl ?_
      refine s_getR (c := 10) (p := 14) (k' := 34) (n := 25) hX cls10 (vk131 (by omega)) (dec_of D_X10_move (i := 12) rfl) rfl rfl wd_1360 ?_
      refine s_sipush (v := 2672) (n := 28) hX (dec_of D_X10_move (i := 13) rfl) rfl (by decide) ?_
      refine s_iload_n 1 (n := 29) hX (dec_of D_X10_move (i := 14) rfl) rfl rfl rfl ?_
      refine s_iadd (n := 30) hX (dec_of D_X10_move (i := 15) rfl) rfl ?_
      refine s_iald (n := 31) hX (vk34 (by omega)) (by decide) (dec_of D_X10_move (i := 16) rfl) rfl (fun v4 => ?_)
      refine s_iload_n 2 (n := 32) hX (dec_of D_X10_move (i := 17) rfl) rfl rfl rfl ?_
      refine s_icmp_ne (tgt := 37) (n := 35) hX (dec_of D_X10_move (i := 18) rfl) rfl rfl ?_ ?_
      · refine s_aload_n 0 (n := 38) hX (dec_of D_X10_move (i := 21) rfl) rfl rfl rfl ?_
        refine s_callVV (c := 10) (n := 41) hX cls10 (vk131 (by omega)) lk_RX10_330 (dec_of D_X10_move (i := 22) rfl) rfl (by decide) (c_X10_keeps (l := _) hG _) rfl rfl (Nat.le_of_ble_eq_true rfl) (fun q5 => ?_)
        refine s_aload_n 0 (n := 42) hX (dec_of D_X10_move (i := 23) rfl) rfl rfl rfl ?_
        refine s_getR (c := 10) (p := 14) (k' := 34) (n := 45) hX cls10 (vk131 (by omega)) (dec_of D_X10_move (i := 24) rfl) rfl rfl wd_1360 ?_
        refine s_sipush (v := 2672) (n := 48) hX (dec_of D_X10_move (i := 25) rfl) rfl (by decide) ?_
        refine s_iload_n 1 (n := 49) hX (dec_of D_X10_move (i := 26) rfl) rfl rfl rfl ?_
        refine s_iadd (n := 50) hX (dec_of D_X10_move (i := 27) rfl) rfl ?_
        refine s_iload_n 2 (n := 51) hX (dec_of D_X10_move (i := 28) rfl) rfl rfl rfl ?_
        refine s_iast (n := 52) hX (vk34 (by omega)) (by decide) (dec_of D_X10_move (i := 29) rfl) rfl (fun s6 => ?_)
        refine s_iconst (v := 1) (n := 53) hX (dec_of D_X10_move (i := 30) rfl) rfl (by decide) ?_
        exact s_zret hX hR (dec_of D_X10_move (i := 31) rfl) rfl rfl
      · refine s_iconst (v := 0) (n := 36) hX (dec_of D_X10_move (i := 19) rfl) rfl (by decide) ?_
        exact s_zret hX hR (dec_of D_X10_move (i := 20) rfl) rfl rfl
def T_X10_giveBack : List (Nat × Instr × Nat) := [(0, .aload_n 0, 1), (1, .iconst 0, 1), (2, .putfield 86, 3), (5, .aload_n 0, 1), (6, .iload_n 1, 1), (7, .iload_n 2, 1), (8, .invokevirtual 292, 3), (11, .ifCond .ne 5, 3), (14, .iconst (-1), 1), (15, .ireturn, 1), (16, .aload_n 0, 1), (17, .iload_n 1, 1), (18, .iload_n 2, 1), (19, .invokevirtual 254, 3), (22, .istore_n 3, 1), (23, .iload_n 3, 1), (24, .iconst (-1), 1), (25, .if_icmp .ne 6, 3), (28, .bipush (-2), 2), (30, .ireturn, 1), (31, .aload_n 0, 1), (32, .invokevirtual 330, 3), (35, .aload_n 0, 1), (36, .getfield 28, 3), (39, .sipush 2604, 3), (42, .iconst 5, 1), (43, .iload_n 1, 1), (44, .imul, 1), (45, .iadd, 1), (46, .iload_n 2, 1), (47, .iadd, 1), (48, .iconst (-1), 1), (49, .iastore, 1), (50, .iload_n 3, 1), (51, .ireturn, 1)]
theorem D_X10_giveBack : dchk cX10_giveBack T_X10_giveBack = true := by decide +kernel
def Mo_giveBack (σ : ST) (a1 : Int32) (a2 : Int32) : Option (Int32 × ST) :=
  lt_ (setF σ 840 0 0) (fun s1 => bd_ (Mo_isSeat s1 a1 a2) (fun q2 => (if q2 = 0 then some ((-1), s1) else bd_ (Mo_owner s1 a1 a2) (fun q3 => (if q3 = (-1) then some ((-2), s1) else bd_ (Mo_keeps s1) (fun q4 => bd_ (stI q4 34 0 ((2604 + (5 * a1)) + a2) (-1)) (fun s5 => some (q3, s5))))))))
set_option maxHeartbeats 4000000 in
set_option maxRecDepth 100000 in
theorem c_X10_giveBack {G : GW} (hG : Good G) {l : Launch} (σ : ST) (a1 : Int32) (a2 : Int32) : Ctr G l yX10_giveBack cX10_giveBack 4 (some .int) 2 [.ref (ga G 131 0), .int a1, .int a2] σ oP (Mo_giveBack σ a1 a2) := by
  refine ctr_of hG (by decide) (Nat.le_of_ble_eq_true rfl) ?_
  intro X hXl hR hX
  have hX : Ok G X cX10_giveBack 4 RX10 2 := hX
  unfold Mo_giveBack
  show Sim G X 4 (MQX G X oP) σ 0 [(0, .ref (ga G 131 0)), (1, .int a1), (2, .int a2)] [] _
  refine s_aload_n 0 (n := 1) hX (dec_of D_X10_giveBack (i := 0) rfl) rfl rfl rfl ?_
  refine s_iconst (v := 0) (n := 2) hX (dec_of D_X10_giveBack (i := 1) rfl) rfl (by decide) ?_
  refine s_putI (c := 10) (p := 0) (n := 5) hX cls10 (vk131 (by omega)) (dec_of D_X10_giveBack (i := 2) rfl) rfl rfl (by decide) wd_1346 rfl rfl rfl (fun s1 => ?_)
  refine s_aload_n 0 (n := 6) hX (dec_of D_X10_giveBack (i := 3) rfl) rfl rfl rfl ?_
  refine s_iload_n 1 (n := 7) hX (dec_of D_X10_giveBack (i := 4) rfl) rfl rfl rfl ?_
  refine s_iload_n 2 (n := 8) hX (dec_of D_X10_giveBack (i := 5) rfl) rfl rfl rfl ?_
  refine s_callVI (c := 10) (n := 11) hX cls10 (vk131 (by omega)) lk_RX10_292 (dec_of D_X10_giveBack (i := 6) rfl) rfl (by decide) (c_X10_isSeat (l := _) hG _ _ _) rfl rfl (Nat.le_of_ble_eq_true rfl) (fun q2 => ?_)
  refine s_if_ne (tgt := 16) (n := 14) hX (dec_of D_X10_giveBack (i := 7) rfl) rfl rfl ?_ ?_
  · refine s_aload_n 0 (n := 17) hX (dec_of D_X10_giveBack (i := 10) rfl) rfl rfl rfl ?_
    refine s_iload_n 1 (n := 18) hX (dec_of D_X10_giveBack (i := 11) rfl) rfl rfl rfl ?_
    refine s_iload_n 2 (n := 19) hX (dec_of D_X10_giveBack (i := 12) rfl) rfl rfl rfl ?_
    refine s_callVI (c := 10) (n := 22) hX cls10 (vk131 (by omega)) lk_RX10_254 (dec_of D_X10_giveBack (i := 13) rfl) rfl (by decide) (c_X10_owner (l := _) hG _ _ _) rfl rfl (Nat.le_of_ble_eq_true rfl) (fun q3 => ?_)
    refine s_istore_n (lv' := [(0, _), (1, _), (2, _), (3, _)]) [1, 2, 3, 0] (n := 23) hX (dec_of D_X10_giveBack (i := 14) rfl) rfl rfl (by decide) rfl ?_
    refine s_iload_n 3 (n := 24) hX (dec_of D_X10_giveBack (i := 15) rfl) rfl rfl rfl ?_
    refine s_iconst (v := (-1)) (n := 25) hX (dec_of D_X10_giveBack (i := 16) rfl) rfl (by decide) ?_
    refine s_icmp_ne (tgt := 31) (n := 28) hX (dec_of D_X10_giveBack (i := 17) rfl) rfl rfl ?_ ?_
    · refine s_aload_n 0 (n := 32) hX (dec_of D_X10_giveBack (i := 20) rfl) rfl rfl rfl ?_
      refine s_callVV (c := 10) (n := 35) hX cls10 (vk131 (by omega)) lk_RX10_330 (dec_of D_X10_giveBack (i := 21) rfl) rfl (by decide) (c_X10_keeps (l := _) hG _) rfl rfl (Nat.le_of_ble_eq_true rfl) (fun q4 => ?_)
      refine s_aload_n 0 (n := 36) hX (dec_of D_X10_giveBack (i := 22) rfl) rfl rfl rfl ?_
      refine s_getR (c := 10) (p := 14) (k' := 34) (n := 39) hX cls10 (vk131 (by omega)) (dec_of D_X10_giveBack (i := 23) rfl) rfl rfl wd_1360 ?_
      refine s_sipush (v := 2604) (n := 42) hX (dec_of D_X10_giveBack (i := 24) rfl) rfl (by decide) ?_
      refine s_iconst (v := 5) (n := 43) hX (dec_of D_X10_giveBack (i := 25) rfl) rfl (by decide) ?_
      refine s_iload_n 1 (n := 44) hX (dec_of D_X10_giveBack (i := 26) rfl) rfl rfl rfl ?_
      refine s_imul (n := 45) hX (dec_of D_X10_giveBack (i := 27) rfl) rfl ?_
      refine s_iadd (n := 46) hX (dec_of D_X10_giveBack (i := 28) rfl) rfl ?_
      refine s_iload_n 2 (n := 47) hX (dec_of D_X10_giveBack (i := 29) rfl) rfl rfl rfl ?_
      refine s_iadd (n := 48) hX (dec_of D_X10_giveBack (i := 30) rfl) rfl ?_
      refine s_iconst (v := (-1)) (n := 49) hX (dec_of D_X10_giveBack (i := 31) rfl) rfl (by decide) ?_
      refine s_iast (n := 50) hX (vk34 (by omega)) (by decide) (dec_of D_X10_giveBack (i := 32) rfl) rfl (fun s5 => ?_)
      refine s_iload_n 3 (n := 51) hX (dec_of D_X10_giveBack (i := 33) rfl) rfl rfl rfl ?_
      exact s_iret hX hR (dec_of D_X10_giveBack (i := 34) rfl) rfl
    · refine s_bipush (v := (-2)) (n := 30) hX (dec_of D_X10_giveBack (i := 18) rfl) rfl (by decide) ?_
      exact s_iret hX hR (dec_of D_X10_giveBack (i := 19) rfl) rfl
  · refine s_iconst (v := (-1)) (n := 15) hX (dec_of D_X10_giveBack (i := 8) rfl) rfl (by decide) ?_
    exact s_iret hX hR (dec_of D_X10_giveBack (i := 9) rfl) rfl
def T_X10_paid : List (Nat × Instr × Nat) := [(0, .aload_n 0, 1), (1, .iconst 0, 1), (2, .putfield 86, 3), (5, .aload_n 0, 1), (6, .iload_n 1, 1), (7, .invokevirtual 264, 3), (10, .ifCond .eq 20, 3), (13, .aload_n 0, 1), (14, .iload_n 2, 1), (15, .invokevirtual 257, 3), (18, .ifCond .eq 12, 3), (21, .iload_n 3, 1), (22, .ifCond .lt 8, 3), (25, .iload_n 3, 1), (26, .iconst 2, 1), (27, .if_icmp .le 5, 3), (30, .iconst (-1), 1), (31, .ireturn, 1), (32, .iload_n 3, 1), (33, .ifCond .ne 12, 3), (36, .aload_n 0, 1), (37, .iload_n 1, 1), (38, .iload_n 2, 1), (39, .invokevirtual 248, 3), (42, .goto 30, 3), (45, .iload_n 3, 1), (46, .iconst 1, 1), (47, .if_icmp .ne 12, 3), (50, .aload_n 0, 1), (51, .iload_n 1, 1), (52, .iload_n 2, 1), (53, .invokevirtual 251, 3), (56, .goto 16, 3), (59, .aload_n 0, 1), (60, .iload_n 1, 1), (61, .iload_n 2, 1), (62, .invokevirtual 248, 3), (65, .aload_n 0, 1), (66, .iload_n 1, 1), (67, .iload_n 2, 1), (68, .invokevirtual 251, 3), (71, .isub, 1), (72, .ireturn, 1)]
theorem D_X10_paid : dchk cX10_paid T_X10_paid = true := by decide +kernel
def Mo_paid (σ : ST) (a1 : Int32) (a2 : Int32) (a3 : Int32) : Option (Int32 × ST) :=
  lt_ (setF σ 840 0 0) (fun s1 => bd_ (Mo_isPlayer s1 a1) (fun q2 => (if q2 = 0 then some ((-1), s1) else bd_ (Mo_isLand s1 a2) (fun q3 => (if q3 = 0 then some ((-1), s1) else (if a3 < 0 then some ((-1), s1) else (if a3 ≤ 2 then (if a3 = 0 then bd_ (Mo_paidIn s1 a1 a2) (fun q7 => some (q7, s1)) else (if a3 = 1 then bd_ (Mo_weightIn s1 a1 a2) (fun q6 => some (q6, s1)) else bd_ (Mo_paidIn s1 a1 a2) (fun q4 => bd_ (Mo_weightIn s1 a1 a2) (fun q5 => some ((q4 - q5), s1))))) else some ((-1), s1))))))))
set_option maxHeartbeats 4000000 in
set_option maxRecDepth 100000 in
theorem c_X10_paid {G : GW} (hG : Good G) {l : Launch} (σ : ST) (a1 : Int32) (a2 : Int32) (a3 : Int32) : Ctr G l yX10_paid cX10_paid 4 (some .int) 1 [.ref (ga G 131 0), .int a1, .int a2, .int a3] σ oP (Mo_paid σ a1 a2 a3) := by
  refine ctr_of hG (by decide) (Nat.le_of_ble_eq_true rfl) ?_
  intro X hXl hR hX
  have hX : Ok G X cX10_paid 4 RX10 1 := hX
  unfold Mo_paid
  show Sim G X 4 (MQX G X oP) σ 0 [(0, .ref (ga G 131 0)), (1, .int a1), (2, .int a2), (3, .int a3)] [] _
  refine s_aload_n 0 (n := 1) hX (dec_of D_X10_paid (i := 0) rfl) rfl rfl rfl ?_
  refine s_iconst (v := 0) (n := 2) hX (dec_of D_X10_paid (i := 1) rfl) rfl (by decide) ?_
  refine s_putI (c := 10) (p := 0) (n := 5) hX cls10 (vk131 (by omega)) (dec_of D_X10_paid (i := 2) rfl) rfl rfl (by decide) wd_1346 rfl rfl rfl (fun s1 => ?_)
  refine s_aload_n 0 (n := 6) hX (dec_of D_X10_paid (i := 3) rfl) rfl rfl rfl ?_
  refine s_iload_n 1 (n := 7) hX (dec_of D_X10_paid (i := 4) rfl) rfl rfl rfl ?_
  refine s_callVI (c := 10) (n := 10) hX cls10 (vk131 (by omega)) lk_RX10_264 (dec_of D_X10_paid (i := 5) rfl) rfl (by decide) (c_X10_isPlayer (l := _) hG _ _) rfl rfl (Nat.le_of_ble_eq_true rfl) (fun q2 => ?_)
  refine s_if_eq (tgt := 30) (n := 13) hX (dec_of D_X10_paid (i := 6) rfl) rfl rfl ?_ ?_
  · refine s_iconst (v := (-1)) (n := 31) hX (dec_of D_X10_paid (i := 16) rfl) rfl (by decide) ?_
    exact s_iret hX hR (dec_of D_X10_paid (i := 17) rfl) rfl
  · refine s_aload_n 0 (n := 14) hX (dec_of D_X10_paid (i := 7) rfl) rfl rfl rfl ?_
    refine s_iload_n 2 (n := 15) hX (dec_of D_X10_paid (i := 8) rfl) rfl rfl rfl ?_
    refine s_callVI (c := 10) (n := 18) hX cls10 (vk131 (by omega)) lk_RX10_257 (dec_of D_X10_paid (i := 9) rfl) rfl (by decide) (c_X10_isLand (l := _) hG _ _) rfl rfl (Nat.le_of_ble_eq_true rfl) (fun q3 => ?_)
    refine s_if_eq (tgt := 30) (n := 21) hX (dec_of D_X10_paid (i := 10) rfl) rfl rfl ?_ ?_
    · refine s_iconst (v := (-1)) (n := 31) hX (dec_of D_X10_paid (i := 16) rfl) rfl (by decide) ?_
      exact s_iret hX hR (dec_of D_X10_paid (i := 17) rfl) rfl
    · refine s_iload_n 3 (n := 22) hX (dec_of D_X10_paid (i := 11) rfl) rfl rfl rfl ?_
      refine s_if_lt (tgt := 30) (n := 25) hX (dec_of D_X10_paid (i := 12) rfl) rfl rfl ?_ ?_
      · refine s_iconst (v := (-1)) (n := 31) hX (dec_of D_X10_paid (i := 16) rfl) rfl (by decide) ?_
        exact s_iret hX hR (dec_of D_X10_paid (i := 17) rfl) rfl
      · refine s_iload_n 3 (n := 26) hX (dec_of D_X10_paid (i := 13) rfl) rfl rfl rfl ?_
        refine s_iconst (v := 2) (n := 27) hX (dec_of D_X10_paid (i := 14) rfl) rfl (by decide) ?_
        refine s_icmp_le (tgt := 32) (n := 30) hX (dec_of D_X10_paid (i := 15) rfl) rfl rfl ?_ ?_
        · refine s_iload_n 3 (n := 33) hX (dec_of D_X10_paid (i := 18) rfl) rfl rfl rfl ?_
          refine s_if_ne (tgt := 45) (n := 36) hX (dec_of D_X10_paid (i := 19) rfl) rfl rfl ?_ ?_
          · refine s_iload_n 3 (n := 46) hX (dec_of D_X10_paid (i := 25) rfl) rfl rfl rfl ?_
            refine s_iconst (v := 1) (n := 47) hX (dec_of D_X10_paid (i := 26) rfl) rfl (by decide) ?_
            refine s_icmp_ne (tgt := 59) (n := 50) hX (dec_of D_X10_paid (i := 27) rfl) rfl rfl ?_ ?_
            · refine s_aload_n 0 (n := 60) hX (dec_of D_X10_paid (i := 33) rfl) rfl rfl rfl ?_
              refine s_iload_n 1 (n := 61) hX (dec_of D_X10_paid (i := 34) rfl) rfl rfl rfl ?_
              refine s_iload_n 2 (n := 62) hX (dec_of D_X10_paid (i := 35) rfl) rfl rfl rfl ?_
              refine s_callVI (c := 10) (n := 65) hX cls10 (vk131 (by omega)) lk_RX10_248 (dec_of D_X10_paid (i := 36) rfl) rfl (by decide) (c_X10_paidIn (l := _) hG _ _ _) rfl rfl (Nat.le_of_ble_eq_true rfl) (fun q4 => ?_)
              refine s_aload_n 0 (n := 66) hX (dec_of D_X10_paid (i := 37) rfl) rfl rfl rfl ?_
              refine s_iload_n 1 (n := 67) hX (dec_of D_X10_paid (i := 38) rfl) rfl rfl rfl ?_
              refine s_iload_n 2 (n := 68) hX (dec_of D_X10_paid (i := 39) rfl) rfl rfl rfl ?_
              refine s_callVI (c := 10) (n := 71) hX cls10 (vk131 (by omega)) lk_RX10_251 (dec_of D_X10_paid (i := 40) rfl) rfl (by decide) (c_X10_weightIn (l := _) hG _ _ _) rfl rfl (Nat.le_of_ble_eq_true rfl) (fun q5 => ?_)
              refine s_isub (n := 72) hX (dec_of D_X10_paid (i := 41) rfl) rfl ?_
              exact s_iret hX hR (dec_of D_X10_paid (i := 42) rfl) rfl
            · refine s_aload_n 0 (n := 51) hX (dec_of D_X10_paid (i := 28) rfl) rfl rfl rfl ?_
              refine s_iload_n 1 (n := 52) hX (dec_of D_X10_paid (i := 29) rfl) rfl rfl rfl ?_
              refine s_iload_n 2 (n := 53) hX (dec_of D_X10_paid (i := 30) rfl) rfl rfl rfl ?_
              refine s_callVI (c := 10) (n := 56) hX cls10 (vk131 (by omega)) lk_RX10_251 (dec_of D_X10_paid (i := 31) rfl) rfl (by decide) (c_X10_weightIn (l := _) hG _ _ _) rfl rfl (Nat.le_of_ble_eq_true rfl) (fun q6 => ?_)
              refine s_goto (n := 72) hX (dec_of D_X10_paid (i := 32) rfl) rfl ?_
              exact s_iret hX hR (dec_of D_X10_paid (i := 42) rfl) rfl
          · refine s_aload_n 0 (n := 37) hX (dec_of D_X10_paid (i := 20) rfl) rfl rfl rfl ?_
            refine s_iload_n 1 (n := 38) hX (dec_of D_X10_paid (i := 21) rfl) rfl rfl rfl ?_
            refine s_iload_n 2 (n := 39) hX (dec_of D_X10_paid (i := 22) rfl) rfl rfl rfl ?_
            refine s_callVI (c := 10) (n := 42) hX cls10 (vk131 (by omega)) lk_RX10_248 (dec_of D_X10_paid (i := 23) rfl) rfl (by decide) (c_X10_paidIn (l := _) hG _ _ _) rfl rfl (Nat.le_of_ble_eq_true rfl) (fun q7 => ?_)
            refine s_goto (n := 72) hX (dec_of D_X10_paid (i := 24) rfl) rfl ?_
            exact s_iret hX hR (dec_of D_X10_paid (i := 42) rfl) rfl
        · refine s_iconst (v := (-1)) (n := 31) hX (dec_of D_X10_paid (i := 16) rfl) rfl (by decide) ?_
          exact s_iret hX hR (dec_of D_X10_paid (i := 17) rfl) rfl
def T_X10_kept : List (Nat × Instr × Nat) := [(0, .aload_n 0, 1), (1, .iconst 0, 1), (2, .putfield 86, 3), (5, .aload_n 0, 1), (6, .iload_n 1, 1), (7, .invokevirtual 257, 3), (10, .ifCond .eq 18, 3), (13, .aload_n 0, 1), (14, .iload_n 2, 1), (15, .iload_n 3, 1), (16, .invokevirtual 292, 3), (19, .ifCond .eq 9, 3), (22, .iload 4, 2), (24, .iconst (-1), 1), (25, .if_icmp .ge 5, 3), (28, .iconst (-1), 1), (29, .ireturn, 1), (30, .iload 4, 2), (32, .iconst (-1), 1), (33, .if_icmp .ne 13, 3), (36, .aload_n 0, 1), (37, .iload_n 1, 1), (38, .iload_n 2, 1), (39, .iload_n 3, 1), (40, .invokevirtual 289, 3), (43, .goto 28, 3), (46, .iload 4, 2), (48, .bipush 9, 2), (50, .if_icmp .ge 20, 3), (53, .aload_n 0, 1), (54, .getfield 28, 3), (57, .iload_n 1, 1), (58, .iload_n 2, 1), (59, .iload_n 3, 1), (60, .invokestatic 244, 3), (63, .iload 4, 2), (65, .iadd, 1), (66, .iaload, 1), (67, .goto 4, 3), (70, .iconst 0, 1), (71, .ireturn, 1)]
theorem D_X10_kept : dchk cX10_kept T_X10_kept = true := by decide +kernel
def Mo_kept (σ : ST) (a1 : Int32) (a2 : Int32) (a3 : Int32) (a4 : Int32) : Option (Int32 × ST) :=
  lt_ (setF σ 840 0 0) (fun s1 => bd_ (Mo_isLand s1 a1) (fun q2 => (if q2 = 0 then some ((-1), s1) else bd_ (Mo_isSeat s1 a2 a3) (fun q3 => (if q3 = 0 then some ((-1), s1) else (if (-1) ≤ a4 then (if a4 = (-1) then bd_ (Mo_keptOf s1 a1 a2 a3) (fun q6 => some (q6, s1)) else (if 9 ≤ a4 then some (0, s1) else bd_ (Mo_keptAt s1 a1 a2 a3) (fun q4 => bd_ (ldI s1 34 0 (q4 + a4)) (fun v5 => some (v5, s1))))) else some ((-1), s1)))))))
set_option maxHeartbeats 4000000 in
set_option maxRecDepth 100000 in
theorem c_X10_kept {G : GW} (hG : Good G) {l : Launch} (σ : ST) (a1 : Int32) (a2 : Int32) (a3 : Int32) (a4 : Int32) : Ctr G l yX10_kept cX10_kept 5 (some .int) 2 [.ref (ga G 131 0), .int a1, .int a2, .int a3, .int a4] σ oP (Mo_kept σ a1 a2 a3 a4) := by
  refine ctr_of hG (by decide) (Nat.le_of_ble_eq_true rfl) ?_
  intro X hXl hR hX
  have hX : Ok G X cX10_kept 5 RX10 2 := hX
  unfold Mo_kept
  show Sim G X 5 (MQX G X oP) σ 0 [(0, .ref (ga G 131 0)), (1, .int a1), (2, .int a2), (3, .int a3), (4, .int a4)] [] _
  refine s_aload_n 0 (n := 1) hX (dec_of D_X10_kept (i := 0) rfl) rfl rfl rfl ?_
  refine s_iconst (v := 0) (n := 2) hX (dec_of D_X10_kept (i := 1) rfl) rfl (by decide) ?_
  refine s_putI (c := 10) (p := 0) (n := 5) hX cls10 (vk131 (by omega)) (dec_of D_X10_kept (i := 2) rfl) rfl rfl (by decide) wd_1346 rfl rfl rfl (fun s1 => ?_)
  refine s_aload_n 0 (n := 6) hX (dec_of D_X10_kept (i := 3) rfl) rfl rfl rfl ?_
  refine s_iload_n 1 (n := 7) hX (dec_of D_X10_kept (i := 4) rfl) rfl rfl rfl ?_
  refine s_callVI (c := 10) (n := 10) hX cls10 (vk131 (by omega)) lk_RX10_257 (dec_of D_X10_kept (i := 5) rfl) rfl (by decide) (c_X10_isLand (l := _) hG _ _) rfl rfl (Nat.le_of_ble_eq_true rfl) (fun q2 => ?_)
  refine s_if_eq (tgt := 28) (n := 13) hX (dec_of D_X10_kept (i := 6) rfl) rfl rfl ?_ ?_
  · refine s_iconst (v := (-1)) (n := 29) hX (dec_of D_X10_kept (i := 15) rfl) rfl (by decide) ?_
    exact s_iret hX hR (dec_of D_X10_kept (i := 16) rfl) rfl
  · refine s_aload_n 0 (n := 14) hX (dec_of D_X10_kept (i := 7) rfl) rfl rfl rfl ?_
    refine s_iload_n 2 (n := 15) hX (dec_of D_X10_kept (i := 8) rfl) rfl rfl rfl ?_
    refine s_iload_n 3 (n := 16) hX (dec_of D_X10_kept (i := 9) rfl) rfl rfl rfl ?_
    refine s_callVI (c := 10) (n := 19) hX cls10 (vk131 (by omega)) lk_RX10_292 (dec_of D_X10_kept (i := 10) rfl) rfl (by decide) (c_X10_isSeat (l := _) hG _ _ _) rfl rfl (Nat.le_of_ble_eq_true rfl) (fun q3 => ?_)
    refine s_if_eq (tgt := 28) (n := 22) hX (dec_of D_X10_kept (i := 11) rfl) rfl rfl ?_ ?_
    · refine s_iconst (v := (-1)) (n := 29) hX (dec_of D_X10_kept (i := 15) rfl) rfl (by decide) ?_
      exact s_iret hX hR (dec_of D_X10_kept (i := 16) rfl) rfl
    · refine s_iload 4 (n := 24) hX (dec_of D_X10_kept (i := 12) rfl) rfl rfl ?_
      refine s_iconst (v := (-1)) (n := 25) hX (dec_of D_X10_kept (i := 13) rfl) rfl (by decide) ?_
      refine s_icmp_ge (tgt := 30) (n := 28) hX (dec_of D_X10_kept (i := 14) rfl) rfl rfl ?_ ?_
      · refine s_iload 4 (n := 32) hX (dec_of D_X10_kept (i := 17) rfl) rfl rfl ?_
        refine s_iconst (v := (-1)) (n := 33) hX (dec_of D_X10_kept (i := 18) rfl) rfl (by decide) ?_
        refine s_icmp_ne (tgt := 46) (n := 36) hX (dec_of D_X10_kept (i := 19) rfl) rfl rfl ?_ ?_
        · refine s_iload 4 (n := 48) hX (dec_of D_X10_kept (i := 26) rfl) rfl rfl ?_
          refine s_bipush (v := 9) (n := 50) hX (dec_of D_X10_kept (i := 27) rfl) rfl (by decide) ?_
          refine s_icmp_ge (tgt := 70) (n := 53) hX (dec_of D_X10_kept (i := 28) rfl) rfl rfl ?_ ?_
          · refine s_iconst (v := 0) (n := 71) hX (dec_of D_X10_kept (i := 39) rfl) rfl (by decide) ?_
            exact s_iret hX hR (dec_of D_X10_kept (i := 40) rfl) rfl
          · refine s_aload_n 0 (n := 54) hX (dec_of D_X10_kept (i := 29) rfl) rfl rfl rfl ?_
            refine s_getR (c := 10) (p := 14) (k' := 34) (n := 57) hX cls10 (vk131 (by omega)) (dec_of D_X10_kept (i := 30) rfl) rfl rfl wd_1360 ?_
            refine s_iload_n 1 (n := 58) hX (dec_of D_X10_kept (i := 31) rfl) rfl rfl rfl ?_
            refine s_iload_n 2 (n := 59) hX (dec_of D_X10_kept (i := 32) rfl) rfl rfl rfl ?_
            refine s_iload_n 3 (n := 60) hX (dec_of D_X10_kept (i := 33) rfl) rfl rfl rfl ?_
            refine s_callSI (n := 63) hX lk_RX10_244 (dec_of D_X10_kept (i := 34) rfl) rfl (by decide) (c_X10_keptAt (l := _) hG _ _ _ _) rfl rfl (Nat.le_of_ble_eq_true rfl) (fun q4 => ?_)
            refine s_iload 4 (n := 65) hX (dec_of D_X10_kept (i := 35) rfl) rfl rfl ?_
            refine s_iadd (n := 66) hX (dec_of D_X10_kept (i := 36) rfl) rfl ?_
            refine s_iald (n := 67) hX (vk34 (by omega)) (by decide) (dec_of D_X10_kept (i := 37) rfl) rfl (fun v5 => ?_)
            refine s_goto (n := 71) hX (dec_of D_X10_kept (i := 38) rfl) rfl ?_
            exact s_iret hX hR (dec_of D_X10_kept (i := 40) rfl) rfl
        · refine s_aload_n 0 (n := 37) hX (dec_of D_X10_kept (i := 20) rfl) rfl rfl rfl ?_
          refine s_iload_n 1 (n := 38) hX (dec_of D_X10_kept (i := 21) rfl) rfl rfl rfl ?_
          refine s_iload_n 2 (n := 39) hX (dec_of D_X10_kept (i := 22) rfl) rfl rfl rfl ?_
          refine s_iload_n 3 (n := 40) hX (dec_of D_X10_kept (i := 23) rfl) rfl rfl rfl ?_
          refine s_callVI (c := 10) (n := 43) hX cls10 (vk131 (by omega)) lk_RX10_289 (dec_of D_X10_kept (i := 24) rfl) rfl (by decide) (c_X10_keptOf (l := _) hG _ _ _ _) rfl rfl (Nat.le_of_ble_eq_true rfl) (fun q6 => ?_)
          refine s_goto (n := 71) hX (dec_of D_X10_kept (i := 25) rfl) rfl ?_
          exact s_iret hX hR (dec_of D_X10_kept (i := 40) rfl) rfl
      · refine s_iconst (v := (-1)) (n := 29) hX (dec_of D_X10_kept (i := 15) rfl) rfl (by decide) ?_
        exact s_iret hX hR (dec_of D_X10_kept (i := 16) rfl) rfl
def T_X10_lapsed : List (Nat × Instr × Nat) := [(0, .aload_n 0, 1), (1, .iconst 0, 1), (2, .putfield 86, 3), (5, .aload_n 0, 1), (6, .iload_n 1, 1), (7, .invokevirtual 257, 3), (10, .ifCond .eq 26, 3), (13, .aload_n 0, 1), (14, .iload_n 2, 1), (15, .iload_n 3, 1), (16, .invokevirtual 292, 3), (19, .ifCond .eq 17, 3), (22, .aload_n 0, 1), (23, .getfield 28, 3), (26, .iload_n 1, 1), (27, .iload_n 2, 1), (28, .iload_n 3, 1), (29, .invokestatic 344, 3), (32, .iaload, 1), (33, .goto 4, 3), (36, .iconst (-1), 1), (37, .ireturn, 1)]
theorem D_X10_lapsed : dchk cX10_lapsed T_X10_lapsed = true := by decide +kernel
def Mo_lapsed (σ : ST) (a1 : Int32) (a2 : Int32) (a3 : Int32) : Option (Int32 × ST) :=
  lt_ (setF σ 840 0 0) (fun s1 => bd_ (Mo_isLand s1 a1) (fun q2 => (if q2 = 0 then some ((-1), s1) else bd_ (Mo_isSeat s1 a2 a3) (fun q3 => (if q3 = 0 then some ((-1), s1) else bd_ (Mo_lapsedAt s1 a1 a2 a3) (fun q4 => bd_ (ldI s1 34 0 q4) (fun v5 => some (v5, s1))))))))
set_option maxHeartbeats 4000000 in
set_option maxRecDepth 100000 in
theorem c_X10_lapsed {G : GW} (hG : Good G) {l : Launch} (σ : ST) (a1 : Int32) (a2 : Int32) (a3 : Int32) : Ctr G l yX10_lapsed cX10_lapsed 4 (some .int) 2 [.ref (ga G 131 0), .int a1, .int a2, .int a3] σ oP (Mo_lapsed σ a1 a2 a3) := by
  refine ctr_of hG (by decide) (Nat.le_of_ble_eq_true rfl) ?_
  intro X hXl hR hX
  have hX : Ok G X cX10_lapsed 4 RX10 2 := hX
  unfold Mo_lapsed
  show Sim G X 4 (MQX G X oP) σ 0 [(0, .ref (ga G 131 0)), (1, .int a1), (2, .int a2), (3, .int a3)] [] _
  refine s_aload_n 0 (n := 1) hX (dec_of D_X10_lapsed (i := 0) rfl) rfl rfl rfl ?_
  refine s_iconst (v := 0) (n := 2) hX (dec_of D_X10_lapsed (i := 1) rfl) rfl (by decide) ?_
  refine s_putI (c := 10) (p := 0) (n := 5) hX cls10 (vk131 (by omega)) (dec_of D_X10_lapsed (i := 2) rfl) rfl rfl (by decide) wd_1346 rfl rfl rfl (fun s1 => ?_)
  refine s_aload_n 0 (n := 6) hX (dec_of D_X10_lapsed (i := 3) rfl) rfl rfl rfl ?_
  refine s_iload_n 1 (n := 7) hX (dec_of D_X10_lapsed (i := 4) rfl) rfl rfl rfl ?_
  refine s_callVI (c := 10) (n := 10) hX cls10 (vk131 (by omega)) lk_RX10_257 (dec_of D_X10_lapsed (i := 5) rfl) rfl (by decide) (c_X10_isLand (l := _) hG _ _) rfl rfl (Nat.le_of_ble_eq_true rfl) (fun q2 => ?_)
  refine s_if_eq (tgt := 36) (n := 13) hX (dec_of D_X10_lapsed (i := 6) rfl) rfl rfl ?_ ?_
  · refine s_iconst (v := (-1)) (n := 37) hX (dec_of D_X10_lapsed (i := 20) rfl) rfl (by decide) ?_
    exact s_iret hX hR (dec_of D_X10_lapsed (i := 21) rfl) rfl
  · refine s_aload_n 0 (n := 14) hX (dec_of D_X10_lapsed (i := 7) rfl) rfl rfl rfl ?_
    refine s_iload_n 2 (n := 15) hX (dec_of D_X10_lapsed (i := 8) rfl) rfl rfl rfl ?_
    refine s_iload_n 3 (n := 16) hX (dec_of D_X10_lapsed (i := 9) rfl) rfl rfl rfl ?_
    refine s_callVI (c := 10) (n := 19) hX cls10 (vk131 (by omega)) lk_RX10_292 (dec_of D_X10_lapsed (i := 10) rfl) rfl (by decide) (c_X10_isSeat (l := _) hG _ _ _) rfl rfl (Nat.le_of_ble_eq_true rfl) (fun q3 => ?_)
    refine s_if_eq (tgt := 36) (n := 22) hX (dec_of D_X10_lapsed (i := 11) rfl) rfl rfl ?_ ?_
    · refine s_iconst (v := (-1)) (n := 37) hX (dec_of D_X10_lapsed (i := 20) rfl) rfl (by decide) ?_
      exact s_iret hX hR (dec_of D_X10_lapsed (i := 21) rfl) rfl
    · refine s_aload_n 0 (n := 23) hX (dec_of D_X10_lapsed (i := 12) rfl) rfl rfl rfl ?_
      refine s_getR (c := 10) (p := 14) (k' := 34) (n := 26) hX cls10 (vk131 (by omega)) (dec_of D_X10_lapsed (i := 13) rfl) rfl rfl wd_1360 ?_
      refine s_iload_n 1 (n := 27) hX (dec_of D_X10_lapsed (i := 14) rfl) rfl rfl rfl ?_
      refine s_iload_n 2 (n := 28) hX (dec_of D_X10_lapsed (i := 15) rfl) rfl rfl rfl ?_
      refine s_iload_n 3 (n := 29) hX (dec_of D_X10_lapsed (i := 16) rfl) rfl rfl rfl ?_
      refine s_callSI (n := 32) hX lk_RX10_344 (dec_of D_X10_lapsed (i := 17) rfl) rfl (by decide) (c_X10_lapsedAt (l := _) hG _ _ _ _) rfl rfl (Nat.le_of_ble_eq_true rfl) (fun q4 => ?_)
      refine s_iald (n := 33) hX (vk34 (by omega)) (by decide) (dec_of D_X10_lapsed (i := 18) rfl) rfl (fun v5 => ?_)
      refine s_goto (n := 37) hX (dec_of D_X10_lapsed (i := 19) rfl) rfl ?_
      exact s_iret hX hR (dec_of D_X10_lapsed (i := 21) rfl) rfl
def T_X10_keptFor : List (Nat × Instr × Nat) := [(0, .iconst 0, 1), (1, .istore_n 3, 1), (2, .iconst 0, 1), (3, .istore 4, 2), (5, .iload 4, 2), (7, .aload_n 0, 1), (8, .getfield 235, 3), (11, .if_icmp .ge 69, 3), (14, .iconst 0, 1), (15, .istore 5, 2), (17, .iload 5, 2), (19, .aload_n 0, 1), (20, .getfield 25, 3), (23, .iload 4, 2), (25, .iaload, 1), (26, .if_icmp .ge 48, 3), (29, .iconst 0, 1), (30, .iload_n 2, 1), (31, .invokestatic 376, 3), (34, .istore 6, 2), (36, .iload 6, 2), (38, .bipush 9, 2), (40, .if_icmp .ge 28, 3), (43, .iload_n 3, 1), (44, .aload_n 0, 1), (45, .getfield 28, 3), (48, .iload_n 1, 1), (49, .iload 4, 2), (51, .iload 5, 2), (53, .invokestatic 244, 3), (56, .iload 6, 2), (58, .iadd, 1), (59, .iaload, 1), (60, .iadd, 1), (61, .istore_n 3, 1), (62, .iinc 6 1, 3), (65, .goto (-29), 3), (68, .iinc 5 1, 3), (71, .goto (-54), 3), (74, .iinc 4 1, 3), (77, .goto (-72), 3), (80, .iload_n 3, 1), (81, .ireturn, 1)]
theorem D_X10_keptFor : dchk cX10_keptFor T_X10_keptFor = true := by decide +kernel
def Mo_keptFor (σ : ST) (a1 : Int32) (a2 : Int32) : Option Int32 :=
  lp_ (fun rec2 (z1 : Int32 × Int32) => (if (gF σ 852 0) ≤ z1.2 then some z1.1 else lp_ (fun rec5 (z4 : Int32 × Int32) => bd_ (ldI σ 33 0 z1.2) (fun v7 => (if v7 ≤ z4.2 then rec2 (z4.1, (z1.2 + 1)) else lt_ ((if 0 < a2 then a2 else 0)) (fun x8 => lp_ (fun rec10 (z9 : Int32 × Int32) => (if 9 ≤ z9.2 then rec5 (z9.1, (z4.2 + 1)) else bd_ (Mo_keptAt (σ) a1 z1.2 z4.2) (fun q12 => bd_ (ldI σ 34 0 (q12 + z9.2)) (fun v13 => lt_ ((z9.1 + v13)) (fun x14 => rec10 (x14, (z9.2 + 1))))))) FU (z4.1, x8))))) FU (z1.1, 0))) FU (0, 0)
set_option maxHeartbeats 4000000 in
set_option maxRecDepth 100000 in
theorem c_X10_keptFor {G : GW} (hG : Good G) {l : Launch} (σ : ST) (a1 : Int32) (a2 : Int32) : Ctr G l yX10_keptFor cX10_keptFor 7 (some .int) 1 [.ref (ga G 131 0), .int a1, .int a2] σ (oI σ) (Mo_keptFor σ a1 a2) := by
  refine ctr_of hG (by decide) (Nat.le_of_ble_eq_true rfl) ?_
  intro X hXl hR hX
  have hX : Ok G X cX10_keptFor 7 RX10 1 := hX
  unfold Mo_keptFor
  show Sim G X 7 (MQX G X (oI σ)) σ 0 [(0, .ref (ga G 131 0)), (1, .int a1), (2, .int a2)] [] _
  refine s_iconst (v := 0) (n := 1) hX (dec_of D_X10_keptFor (i := 0) rfl) rfl (by decide) ?_
  refine s_istore_n (lv' := [(0, _), (1, _), (2, _), (3, _)]) [1, 2, 3, 0] (n := 2) hX (dec_of D_X10_keptFor (i := 1) rfl) rfl rfl (by decide) rfl ?_
  refine s_iconst (v := 0) (n := 3) hX (dec_of D_X10_keptFor (i := 2) rfl) rfl (by decide) ?_
  refine s_istore (lv' := [(0, _), (1, _), (2, _), (3, _), (4, _)]) [1, 2, 3, 4, 0] (n := 5) hX (dec_of D_X10_keptFor (i := 3) rfl) rfl (by decide) rfl ?_
  refine s_sub [0, 1, 2, 3, 4] rfl (s_lp (pc := 5) (Sf := fun (z1 : Int32 × Int32) => σ) (lvf := fun (z1 : Int32 × Int32) => [(0, .ref (ga G 131 0)), (1, .int a1), (2, .int a2), (3, .int z1.1), (4, .int z1.2)]) (fun rec2 hre3 z1 => ?_) FU (0, 0))
  refine s_iload 4 (n := 7) hX (dec_of D_X10_keptFor (i := 4) rfl) rfl rfl ?_
  refine s_aload_n 0 (n := 8) hX (dec_of D_X10_keptFor (i := 5) rfl) rfl rfl rfl ?_
  refine s_getI (c := 10) (p := 12) (id := 852) (n := 11) hX cls10 (vk131 (by omega)) (dec_of D_X10_keptFor (i := 6) rfl) rfl rfl wd_1358 ?_
  refine s_icmp_ge (tgt := 80) (n := 14) hX (dec_of D_X10_keptFor (i := 7) rfl) rfl rfl ?_ ?_
  · refine s_iload_n 3 (n := 81) hX (dec_of D_X10_keptFor (i := 41) rfl) rfl rfl rfl ?_
    exact s_iret hX hR (dec_of D_X10_keptFor (i := 42) rfl) rfl
  · refine s_iconst (v := 0) (n := 15) hX (dec_of D_X10_keptFor (i := 8) rfl) rfl (by decide) ?_
    refine s_istore (lv' := [(0, _), (1, _), (2, _), (3, _), (4, _), (5, _)]) [1, 2, 3, 4, 5, 0] (n := 17) hX (dec_of D_X10_keptFor (i := 9) rfl) rfl (by decide) rfl ?_
    refine s_sub [0, 1, 2, 3, 4, 5] rfl (s_lp (pc := 17) (Sf := fun (z4 : Int32 × Int32) => σ) (lvf := fun (z4 : Int32 × Int32) => [(0, .ref (ga G 131 0)), (1, .int a1), (2, .int a2), (3, .int z4.1), (4, .int z1.2), (5, .int z4.2)]) (fun rec5 hre6 z4 => ?_) FU (z1.1, 0))
    refine s_iload 5 (n := 19) hX (dec_of D_X10_keptFor (i := 10) rfl) rfl rfl ?_
    refine s_aload_n 0 (n := 20) hX (dec_of D_X10_keptFor (i := 11) rfl) rfl rfl rfl ?_
    refine s_getR (c := 10) (p := 7) (k' := 33) (n := 23) hX cls10 (vk131 (by omega)) (dec_of D_X10_keptFor (i := 12) rfl) rfl rfl wd_1353 ?_
    refine s_iload 4 (n := 25) hX (dec_of D_X10_keptFor (i := 13) rfl) rfl rfl ?_
    refine s_iald (n := 26) hX (vk33 (by omega)) (by decide) (dec_of D_X10_keptFor (i := 14) rfl) rfl (fun v7 => ?_)
    refine s_icmp_ge (tgt := 74) (n := 29) hX (dec_of D_X10_keptFor (i := 15) rfl) rfl rfl ?_ ?_
    · refine s_iinc (v := z1.2 + 1) (lv' := [(0, _), (1, _), (2, _), (3, _), (4, _), (5, _)]) 4 [1, 2, 3, 4, 0, 5] (n := 77) hX (dec_of D_X10_keptFor (i := 39) rfl) rfl rfl rfl (by decide) rfl ?_
      refine s_goto (n := 5) hX (dec_of D_X10_keptFor (i := 40) rfl) rfl ?_
      exact s_sub [0, 1, 2, 3, 4] rfl (hre3 (z4.1, (z1.2 + 1)))
    · refine s_iconst (v := 0) (n := 30) hX (dec_of D_X10_keptFor (i := 16) rfl) rfl (by decide) ?_
      refine s_iload_n 2 (n := 31) hX (dec_of D_X10_keptFor (i := 17) rfl) rfl rfl rfl ?_
      refine s_mmax (n := 34) hX (dec_of D_X10_keptFor (i := 18) rfl) rfl (by decide) wd_1860 wd_1018 wd_94 wd_1019 (Nat.le_of_ble_eq_true rfl) ?_
      refine s_topi (fun x8 => ?_)
      refine s_istore (lv' := [(0, _), (1, _), (2, _), (3, _), (4, _), (5, _), (6, _)]) [1, 2, 3, 4, 5, 6, 0] (n := 36) hX (dec_of D_X10_keptFor (i := 19) rfl) rfl (by decide) rfl ?_
      refine s_sub [0, 1, 2, 3, 4, 5, 6] rfl (s_lp (pc := 36) (Sf := fun (z9 : Int32 × Int32) => σ) (lvf := fun (z9 : Int32 × Int32) => [(0, .ref (ga G 131 0)), (1, .int a1), (2, .int a2), (3, .int z9.1), (4, .int z1.2), (5, .int z4.2), (6, .int z9.2)]) (fun rec10 hre11 z9 => ?_) FU (z4.1, x8))
      refine s_iload 6 (n := 38) hX (dec_of D_X10_keptFor (i := 20) rfl) rfl rfl ?_
      refine s_bipush (v := 9) (n := 40) hX (dec_of D_X10_keptFor (i := 21) rfl) rfl (by decide) ?_
      refine s_icmp_ge (tgt := 68) (n := 43) hX (dec_of D_X10_keptFor (i := 22) rfl) rfl rfl ?_ ?_
      · refine s_iinc (v := z4.2 + 1) (lv' := [(0, _), (1, _), (2, _), (3, _), (4, _), (5, _), (6, _)]) 5 [1, 2, 3, 4, 5, 0, 6] (n := 71) hX (dec_of D_X10_keptFor (i := 37) rfl) rfl rfl rfl (by decide) rfl ?_
        refine s_goto (n := 17) hX (dec_of D_X10_keptFor (i := 38) rfl) rfl ?_
        exact s_sub [0, 1, 2, 3, 4, 5] rfl (hre6 (z9.1, (z4.2 + 1)))
      · refine s_iload_n 3 (n := 44) hX (dec_of D_X10_keptFor (i := 23) rfl) rfl rfl rfl ?_
        refine s_aload_n 0 (n := 45) hX (dec_of D_X10_keptFor (i := 24) rfl) rfl rfl rfl ?_
        refine s_getR (c := 10) (p := 14) (k' := 34) (n := 48) hX cls10 (vk131 (by omega)) (dec_of D_X10_keptFor (i := 25) rfl) rfl rfl wd_1360 ?_
        refine s_iload_n 1 (n := 49) hX (dec_of D_X10_keptFor (i := 26) rfl) rfl rfl rfl ?_
        refine s_iload 4 (n := 51) hX (dec_of D_X10_keptFor (i := 27) rfl) rfl rfl ?_
        refine s_iload 5 (n := 53) hX (dec_of D_X10_keptFor (i := 28) rfl) rfl rfl ?_
        refine s_callSI (n := 56) hX lk_RX10_244 (dec_of D_X10_keptFor (i := 29) rfl) rfl (by decide) (c_X10_keptAt (l := _) hG _ _ _ _) rfl rfl (Nat.le_of_ble_eq_true rfl) (fun q12 => ?_)
        refine s_iload 6 (n := 58) hX (dec_of D_X10_keptFor (i := 30) rfl) rfl rfl ?_
        refine s_iadd (n := 59) hX (dec_of D_X10_keptFor (i := 31) rfl) rfl ?_
        refine s_iald (n := 60) hX (vk34 (by omega)) (by decide) (dec_of D_X10_keptFor (i := 32) rfl) rfl (fun v13 => ?_)
        refine s_iadd (n := 61) hX (dec_of D_X10_keptFor (i := 33) rfl) rfl ?_
        refine s_topi (fun x14 => ?_)
        refine s_istore_n (lv' := [(0, _), (1, _), (2, _), (3, _), (4, _), (5, _), (6, _)]) [1, 2, 3, 0, 4, 5, 6] (n := 62) hX (dec_of D_X10_keptFor (i := 34) rfl) rfl rfl (by decide) rfl ?_
        refine s_iinc (v := z9.2 + 1) (lv' := [(0, _), (1, _), (2, _), (3, _), (4, _), (5, _), (6, _)]) 6 [1, 2, 3, 4, 5, 6, 0] (n := 65) hX (dec_of D_X10_keptFor (i := 35) rfl) rfl rfl rfl (by decide) rfl ?_
        refine s_goto (n := 36) hX (dec_of D_X10_keptFor (i := 36) rfl) rfl ?_
        exact s_sub [0, 1, 2, 3, 4, 5, 6] rfl (hre11 (x14, (z9.2 + 1)))
theorem lk_RX10_381 : LkV RX10 381 RX10 yX10_keptFor cX10_keptFor 7 (some .int) 2 := ⟨wd_1856, wd_1858, wd_71, wd_93, wd_1859, by decide +kernel, by decide⟩
def T_X10_lapses : List (Nat × Instr × Nat) := [(0, .aload_n 0, 1), (1, .iconst 0, 1), (2, .putfield 86, 3), (5, .aload_n 0, 1), (6, .iload_n 1, 1), (7, .invokevirtual 257, 3), (10, .ifCond .eq 28, 3), (13, .iload_n 2, 1), (14, .iconst 1, 1), (15, .if_icmp .lt 23, 3), (18, .iload_n 2, 1), (19, .bipush 9, 2), (21, .if_icmp .gt 17, 3), (24, .aload_n 0, 1), (25, .iload_n 1, 1), (26, .aload_n 0, 1), (27, .getfield 80, 3), (30, .iload_n 2, 1), (31, .isub, 1), (32, .invokevirtual 381, 3), (35, .goto 4, 3), (38, .iconst (-1), 1), (39, .ireturn, 1)]
theorem D_X10_lapses : dchk cX10_lapses T_X10_lapses = true := by decide +kernel
def Mo_lapses (σ : ST) (a1 : Int32) (a2 : Int32) : Option (Int32 × ST) :=
  lt_ (setF σ 840 0 0) (fun s1 => bd_ (Mo_isLand s1 a1) (fun q2 => (if q2 = 0 then some ((-1), s1) else (if a2 < 1 then some ((-1), s1) else (if 9 < a2 then some ((-1), s1) else bd_ (Mo_keptFor s1 a1 ((gF s1 849 0) - a2)) (fun q3 => some (q3, s1)))))))
set_option maxHeartbeats 4000000 in
set_option maxRecDepth 100000 in
theorem c_X10_lapses {G : GW} (hG : Good G) {l : Launch} (σ : ST) (a1 : Int32) (a2 : Int32) : Ctr G l yX10_lapses cX10_lapses 3 (some .int) 2 [.ref (ga G 131 0), .int a1, .int a2] σ oP (Mo_lapses σ a1 a2) := by
  refine ctr_of hG (by decide) (Nat.le_of_ble_eq_true rfl) ?_
  intro X hXl hR hX
  have hX : Ok G X cX10_lapses 3 RX10 2 := hX
  unfold Mo_lapses
  show Sim G X 3 (MQX G X oP) σ 0 [(0, .ref (ga G 131 0)), (1, .int a1), (2, .int a2)] [] _
  refine s_aload_n 0 (n := 1) hX (dec_of D_X10_lapses (i := 0) rfl) rfl rfl rfl ?_
  refine s_iconst (v := 0) (n := 2) hX (dec_of D_X10_lapses (i := 1) rfl) rfl (by decide) ?_
  refine s_putI (c := 10) (p := 0) (n := 5) hX cls10 (vk131 (by omega)) (dec_of D_X10_lapses (i := 2) rfl) rfl rfl (by decide) wd_1346 rfl rfl rfl (fun s1 => ?_)
  refine s_aload_n 0 (n := 6) hX (dec_of D_X10_lapses (i := 3) rfl) rfl rfl rfl ?_
  refine s_iload_n 1 (n := 7) hX (dec_of D_X10_lapses (i := 4) rfl) rfl rfl rfl ?_
  refine s_callVI (c := 10) (n := 10) hX cls10 (vk131 (by omega)) lk_RX10_257 (dec_of D_X10_lapses (i := 5) rfl) rfl (by decide) (c_X10_isLand (l := _) hG _ _) rfl rfl (Nat.le_of_ble_eq_true rfl) (fun q2 => ?_)
  refine s_if_eq (tgt := 38) (n := 13) hX (dec_of D_X10_lapses (i := 6) rfl) rfl rfl ?_ ?_
  · refine s_iconst (v := (-1)) (n := 39) hX (dec_of D_X10_lapses (i := 21) rfl) rfl (by decide) ?_
    exact s_iret hX hR (dec_of D_X10_lapses (i := 22) rfl) rfl
  · refine s_iload_n 2 (n := 14) hX (dec_of D_X10_lapses (i := 7) rfl) rfl rfl rfl ?_
    refine s_iconst (v := 1) (n := 15) hX (dec_of D_X10_lapses (i := 8) rfl) rfl (by decide) ?_
    refine s_icmp_lt (tgt := 38) (n := 18) hX (dec_of D_X10_lapses (i := 9) rfl) rfl rfl ?_ ?_
    · refine s_iconst (v := (-1)) (n := 39) hX (dec_of D_X10_lapses (i := 21) rfl) rfl (by decide) ?_
      exact s_iret hX hR (dec_of D_X10_lapses (i := 22) rfl) rfl
    · refine s_iload_n 2 (n := 19) hX (dec_of D_X10_lapses (i := 10) rfl) rfl rfl rfl ?_
      refine s_bipush (v := 9) (n := 21) hX (dec_of D_X10_lapses (i := 11) rfl) rfl (by decide) ?_
      refine s_icmp_gt (tgt := 38) (n := 24) hX (dec_of D_X10_lapses (i := 12) rfl) rfl rfl ?_ ?_
      · refine s_iconst (v := (-1)) (n := 39) hX (dec_of D_X10_lapses (i := 21) rfl) rfl (by decide) ?_
        exact s_iret hX hR (dec_of D_X10_lapses (i := 22) rfl) rfl
      · refine s_aload_n 0 (n := 25) hX (dec_of D_X10_lapses (i := 13) rfl) rfl rfl rfl ?_
        refine s_iload_n 1 (n := 26) hX (dec_of D_X10_lapses (i := 14) rfl) rfl rfl rfl ?_
        refine s_aload_n 0 (n := 27) hX (dec_of D_X10_lapses (i := 15) rfl) rfl rfl rfl ?_
        refine s_getI (c := 10) (p := 9) (id := 849) (n := 30) hX cls10 (vk131 (by omega)) (dec_of D_X10_lapses (i := 16) rfl) rfl rfl wd_1355 ?_
        refine s_iload_n 2 (n := 31) hX (dec_of D_X10_lapses (i := 17) rfl) rfl rfl rfl ?_
        refine s_isub (n := 32) hX (dec_of D_X10_lapses (i := 18) rfl) rfl ?_
        refine s_callVI (c := 10) (n := 35) hX cls10 (vk131 (by omega)) lk_RX10_381 (dec_of D_X10_lapses (i := 19) rfl) rfl (by decide) (c_X10_keptFor (l := _) hG _ _ _) rfl rfl (Nat.le_of_ble_eq_true rfl) (fun q3 => ?_)
        refine s_goto (n := 39) hX (dec_of D_X10_lapses (i := 20) rfl) rfl ?_
        exact s_iret hX hR (dec_of D_X10_lapses (i := 22) rfl) rfl
def T_X10_nextLapse : List (Nat × Instr × Nat) := [(0, .aload_n 0, 1), (1, .iconst 0, 1), (2, .putfield 86, 3), (5, .aload_n 0, 1), (6, .iload_n 1, 1), (7, .invokevirtual 257, 3), (10, .ifCond .ne 5, 3), (13, .iconst (-1), 1), (14, .ireturn, 1), (15, .iconst 1, 1), (16, .istore_n 2, 1), (17, .iload_n 2, 1), (18, .aload_n 0, 1), (19, .getfield 80, 3), (22, .if_icmp .gt 25, 3), (25, .aload_n 0, 1), (26, .iload_n 1, 1), (27, .aload_n 0, 1), (28, .getfield 80, 3), (31, .iload_n 2, 1), (32, .isub, 1), (33, .invokevirtual 381, 3), (36, .ifCond .le 5, 3), (39, .iload_n 2, 1), (40, .ireturn, 1), (41, .iinc 2 1, 3), (44, .goto (-27), 3), (47, .bipush (-2), 2), (49, .ireturn, 1)]
theorem D_X10_nextLapse : dchk cX10_nextLapse T_X10_nextLapse = true := by decide +kernel
def Mo_nextLapse (σ : ST) (a1 : Int32) : Option (Int32 × ST) :=
  lt_ (setF σ 840 0 0) (fun s1 => bd_ (Mo_isLand s1 a1) (fun q2 => (if q2 = 0 then some ((-1), s1) else lp_ (fun rec4 (z3 : Int32) => (if (gF s1 849 0) < z3 then some ((-2), s1) else bd_ (Mo_keptFor s1 a1 ((gF s1 849 0) - z3)) (fun q6 => (if q6 ≤ 0 then rec4 (z3 + 1) else some (z3, s1))))) FU 1)))
set_option maxHeartbeats 4000000 in
set_option maxRecDepth 100000 in
theorem c_X10_nextLapse {G : GW} (hG : Good G) {l : Launch} (σ : ST) (a1 : Int32) : Ctr G l yX10_nextLapse cX10_nextLapse 3 (some .int) 2 [.ref (ga G 131 0), .int a1] σ oP (Mo_nextLapse σ a1) := by
  refine ctr_of hG (by decide) (Nat.le_of_ble_eq_true rfl) ?_
  intro X hXl hR hX
  have hX : Ok G X cX10_nextLapse 3 RX10 2 := hX
  unfold Mo_nextLapse
  show Sim G X 3 (MQX G X oP) σ 0 [(0, .ref (ga G 131 0)), (1, .int a1)] [] _
  refine s_aload_n 0 (n := 1) hX (dec_of D_X10_nextLapse (i := 0) rfl) rfl rfl rfl ?_
  refine s_iconst (v := 0) (n := 2) hX (dec_of D_X10_nextLapse (i := 1) rfl) rfl (by decide) ?_
  refine s_putI (c := 10) (p := 0) (n := 5) hX cls10 (vk131 (by omega)) (dec_of D_X10_nextLapse (i := 2) rfl) rfl rfl (by decide) wd_1346 rfl rfl rfl (fun s1 => ?_)
  refine s_aload_n 0 (n := 6) hX (dec_of D_X10_nextLapse (i := 3) rfl) rfl rfl rfl ?_
  refine s_iload_n 1 (n := 7) hX (dec_of D_X10_nextLapse (i := 4) rfl) rfl rfl rfl ?_
  refine s_callVI (c := 10) (n := 10) hX cls10 (vk131 (by omega)) lk_RX10_257 (dec_of D_X10_nextLapse (i := 5) rfl) rfl (by decide) (c_X10_isLand (l := _) hG _ _) rfl rfl (Nat.le_of_ble_eq_true rfl) (fun q2 => ?_)
  refine s_if_ne (tgt := 15) (n := 13) hX (dec_of D_X10_nextLapse (i := 6) rfl) rfl rfl ?_ ?_
  · refine s_iconst (v := 1) (n := 16) hX (dec_of D_X10_nextLapse (i := 9) rfl) rfl (by decide) ?_
    refine s_istore_n (lv' := [(0, _), (1, _), (2, _)]) [1, 2, 0] (n := 17) hX (dec_of D_X10_nextLapse (i := 10) rfl) rfl rfl (by decide) rfl ?_
    refine s_sub [0, 1, 2] rfl (s_lp (pc := 17) (Sf := fun (z3 : Int32) => s1) (lvf := fun (z3 : Int32) => [(0, .ref (ga G 131 0)), (1, .int a1), (2, .int z3)]) (fun rec4 hre5 z3 => ?_) FU 1)
    refine s_iload_n 2 (n := 18) hX (dec_of D_X10_nextLapse (i := 11) rfl) rfl rfl rfl ?_
    refine s_aload_n 0 (n := 19) hX (dec_of D_X10_nextLapse (i := 12) rfl) rfl rfl rfl ?_
    refine s_getI (c := 10) (p := 9) (id := 849) (n := 22) hX cls10 (vk131 (by omega)) (dec_of D_X10_nextLapse (i := 13) rfl) rfl rfl wd_1355 ?_
    refine s_icmp_gt (tgt := 47) (n := 25) hX (dec_of D_X10_nextLapse (i := 14) rfl) rfl rfl ?_ ?_
    · refine s_bipush (v := (-2)) (n := 49) hX (dec_of D_X10_nextLapse (i := 27) rfl) rfl (by decide) ?_
      exact s_iret hX hR (dec_of D_X10_nextLapse (i := 28) rfl) rfl
    · refine s_aload_n 0 (n := 26) hX (dec_of D_X10_nextLapse (i := 15) rfl) rfl rfl rfl ?_
      refine s_iload_n 1 (n := 27) hX (dec_of D_X10_nextLapse (i := 16) rfl) rfl rfl rfl ?_
      refine s_aload_n 0 (n := 28) hX (dec_of D_X10_nextLapse (i := 17) rfl) rfl rfl rfl ?_
      refine s_getI (c := 10) (p := 9) (id := 849) (n := 31) hX cls10 (vk131 (by omega)) (dec_of D_X10_nextLapse (i := 18) rfl) rfl rfl wd_1355 ?_
      refine s_iload_n 2 (n := 32) hX (dec_of D_X10_nextLapse (i := 19) rfl) rfl rfl rfl ?_
      refine s_isub (n := 33) hX (dec_of D_X10_nextLapse (i := 20) rfl) rfl ?_
      refine s_callVI (c := 10) (n := 36) hX cls10 (vk131 (by omega)) lk_RX10_381 (dec_of D_X10_nextLapse (i := 21) rfl) rfl (by decide) (c_X10_keptFor (l := _) hG _ _ _) rfl rfl (Nat.le_of_ble_eq_true rfl) (fun q6 => ?_)
      refine s_if_le (tgt := 41) (n := 39) hX (dec_of D_X10_nextLapse (i := 22) rfl) rfl rfl ?_ ?_
      · refine s_iinc (v := z3 + 1) (lv' := [(0, _), (1, _), (2, _)]) 2 [1, 2, 0] (n := 44) hX (dec_of D_X10_nextLapse (i := 25) rfl) rfl rfl rfl (by decide) rfl ?_
        refine s_goto (n := 17) hX (dec_of D_X10_nextLapse (i := 26) rfl) rfl ?_
        exact s_sub [0, 1, 2] rfl (hre5 (z3 + 1))
      · refine s_iload_n 2 (n := 40) hX (dec_of D_X10_nextLapse (i := 23) rfl) rfl rfl rfl ?_
        exact s_iret hX hR (dec_of D_X10_nextLapse (i := 24) rfl) rfl
  · refine s_iconst (v := (-1)) (n := 14) hX (dec_of D_X10_nextLapse (i := 7) rfl) rfl (by decide) ?_
    exact s_iret hX hR (dec_of D_X10_nextLapse (i := 8) rfl) rfl
def T_X10_share : List (Nat × Instr × Nat) := [(0, .aload_n 0, 1), (1, .iconst 0, 1), (2, .putfield 86, 3), (5, .aload_n 0, 1), (6, .iload_n 1, 1), (7, .invokevirtual 257, 3), (10, .ifCond .eq 23, 3), (13, .aload_n 0, 1), (14, .iload_n 2, 1), (15, .invokevirtual 241, 3), (18, .ifCond .eq 15, 3), (21, .iload_n 3, 1), (22, .invokestatic 324, 3), (25, .ifCond .eq 8, 3), (28, .iload 4, 2), (30, .ifCond .ge 5, 3), (33, .iconst (-1), 1), (34, .ireturn, 1), (35, .iload 4, 2), (37, .aload_n 0, 1), (38, .iload_n 2, 1), (39, .invokevirtual 305, 3), (42, .if_icmp .lt 6, 3), (45, .bipush (-2), 2), (47, .ireturn, 1), (48, .aload_n 0, 1), (49, .iload_n 2, 1), (50, .iload_n 3, 1), (51, .aload_n 0, 1), (52, .getfield 13, 3), (55, .iload_n 1, 1), (56, .iaload, 1), (57, .imul, 1), (58, .invokevirtual 316, 3), (61, .aload_n 0, 1), (62, .getfield 71, 3), (65, .iload 4, 2), (67, .iaload, 1), (68, .ireturn, 1)]
theorem D_X10_share : dchk cX10_share T_X10_share = true := by decide +kernel
def Mo_share (σ : ST) (a1 : Int32) (a2 : Int32) (a3 : Int32) (a4 : Int32) : Option (Int32 × ST) :=
  lt_ (setF σ 840 0 0) (fun s1 => bd_ (Mo_isLand s1 a1) (fun q2 => (if q2 = 0 then some ((-1), s1) else bd_ (Mo_isSession s1 a2) (fun q3 => (if q3 = 0 then some ((-1), s1) else bd_ (Mo_areCopies s1 a3) (fun q4 => (if q4 = 0 then some ((-1), s1) else (if 0 ≤ a4 then bd_ (Mo_whole s1 a2) (fun q5 => (if a4 < q5 then bd_ (ldI s1 29 0 a1) (fun v6 => bd_ (Mo_laysShares s1 a2 (a3 * v6)) (fun q7 => bd_ (ldI q7 47 0 a4) (fun v8 => some (v8, q7)))) else some ((-2), s1))) else some ((-1), s1)))))))))
set_option maxHeartbeats 4000000 in
set_option maxRecDepth 100000 in
theorem c_X10_share {G : GW} (hG : Good G) {l : Launch} (σ : ST) (a1 : Int32) (a2 : Int32) (a3 : Int32) (a4 : Int32) : Ctr G l yX10_share cX10_share 5 (some .int) 2 [.ref (ga G 131 0), .int a1, .int a2, .int a3, .int a4] σ oP (Mo_share σ a1 a2 a3 a4) := by
  refine ctr_of hG (by decide) (Nat.le_of_ble_eq_true rfl) ?_
  intro X hXl hR hX
  have hX : Ok G X cX10_share 5 RX10 2 := hX
  unfold Mo_share
  show Sim G X 5 (MQX G X oP) σ 0 [(0, .ref (ga G 131 0)), (1, .int a1), (2, .int a2), (3, .int a3), (4, .int a4)] [] _
  refine s_aload_n 0 (n := 1) hX (dec_of D_X10_share (i := 0) rfl) rfl rfl rfl ?_
  refine s_iconst (v := 0) (n := 2) hX (dec_of D_X10_share (i := 1) rfl) rfl (by decide) ?_
  refine s_putI (c := 10) (p := 0) (n := 5) hX cls10 (vk131 (by omega)) (dec_of D_X10_share (i := 2) rfl) rfl rfl (by decide) wd_1346 rfl rfl rfl (fun s1 => ?_)
  refine s_aload_n 0 (n := 6) hX (dec_of D_X10_share (i := 3) rfl) rfl rfl rfl ?_
  refine s_iload_n 1 (n := 7) hX (dec_of D_X10_share (i := 4) rfl) rfl rfl rfl ?_
  refine s_callVI (c := 10) (n := 10) hX cls10 (vk131 (by omega)) lk_RX10_257 (dec_of D_X10_share (i := 5) rfl) rfl (by decide) (c_X10_isLand (l := _) hG _ _) rfl rfl (Nat.le_of_ble_eq_true rfl) (fun q2 => ?_)
  refine s_if_eq (tgt := 33) (n := 13) hX (dec_of D_X10_share (i := 6) rfl) rfl rfl ?_ ?_
  · refine s_iconst (v := (-1)) (n := 34) hX (dec_of D_X10_share (i := 16) rfl) rfl (by decide) ?_
    exact s_iret hX hR (dec_of D_X10_share (i := 17) rfl) rfl
  · refine s_aload_n 0 (n := 14) hX (dec_of D_X10_share (i := 7) rfl) rfl rfl rfl ?_
    refine s_iload_n 2 (n := 15) hX (dec_of D_X10_share (i := 8) rfl) rfl rfl rfl ?_
    refine s_callVI (c := 10) (n := 18) hX cls10 (vk131 (by omega)) lk_RX10_241 (dec_of D_X10_share (i := 9) rfl) rfl (by decide) (c_X10_isSession (l := _) hG _ _) rfl rfl (Nat.le_of_ble_eq_true rfl) (fun q3 => ?_)
    refine s_if_eq (tgt := 33) (n := 21) hX (dec_of D_X10_share (i := 10) rfl) rfl rfl ?_ ?_
    · refine s_iconst (v := (-1)) (n := 34) hX (dec_of D_X10_share (i := 16) rfl) rfl (by decide) ?_
      exact s_iret hX hR (dec_of D_X10_share (i := 17) rfl) rfl
    · refine s_iload_n 3 (n := 22) hX (dec_of D_X10_share (i := 11) rfl) rfl rfl rfl ?_
      refine s_callSI (n := 25) hX lk_RX10_324 (dec_of D_X10_share (i := 12) rfl) rfl (by decide) (c_X10_areCopies (l := _) hG _ _) rfl rfl (Nat.le_of_ble_eq_true rfl) (fun q4 => ?_)
      refine s_if_eq (tgt := 33) (n := 28) hX (dec_of D_X10_share (i := 13) rfl) rfl rfl ?_ ?_
      · refine s_iconst (v := (-1)) (n := 34) hX (dec_of D_X10_share (i := 16) rfl) rfl (by decide) ?_
        exact s_iret hX hR (dec_of D_X10_share (i := 17) rfl) rfl
      · refine s_iload 4 (n := 30) hX (dec_of D_X10_share (i := 14) rfl) rfl rfl ?_
        refine s_if_ge (tgt := 35) (n := 33) hX (dec_of D_X10_share (i := 15) rfl) rfl rfl ?_ ?_
        · refine s_iload 4 (n := 37) hX (dec_of D_X10_share (i := 18) rfl) rfl rfl ?_
          refine s_aload_n 0 (n := 38) hX (dec_of D_X10_share (i := 19) rfl) rfl rfl rfl ?_
          refine s_iload_n 2 (n := 39) hX (dec_of D_X10_share (i := 20) rfl) rfl rfl rfl ?_
          refine s_callVI (c := 10) (n := 42) hX cls10 (vk131 (by omega)) lk_RX10_305 (dec_of D_X10_share (i := 21) rfl) rfl (by decide) (c_X10_whole (l := _) hG _ _) rfl rfl (Nat.le_of_ble_eq_true rfl) (fun q5 => ?_)
          refine s_icmp_lt (tgt := 48) (n := 45) hX (dec_of D_X10_share (i := 22) rfl) rfl rfl ?_ ?_
          · refine s_aload_n 0 (n := 49) hX (dec_of D_X10_share (i := 25) rfl) rfl rfl rfl ?_
            refine s_iload_n 2 (n := 50) hX (dec_of D_X10_share (i := 26) rfl) rfl rfl rfl ?_
            refine s_iload_n 3 (n := 51) hX (dec_of D_X10_share (i := 27) rfl) rfl rfl rfl ?_
            refine s_aload_n 0 (n := 52) hX (dec_of D_X10_share (i := 28) rfl) rfl rfl rfl ?_
            refine s_getR (c := 10) (p := 3) (k' := 29) (n := 55) hX cls10 (vk131 (by omega)) (dec_of D_X10_share (i := 29) rfl) rfl rfl wd_1349 ?_
            refine s_iload_n 1 (n := 56) hX (dec_of D_X10_share (i := 30) rfl) rfl rfl rfl ?_
            refine s_iald (n := 57) hX (vk29 (by omega)) (by decide) (dec_of D_X10_share (i := 31) rfl) rfl (fun v6 => ?_)
            refine s_imul (n := 58) hX (dec_of D_X10_share (i := 32) rfl) rfl ?_
            refine s_callVV (c := 10) (n := 61) hX cls10 (vk131 (by omega)) lk_RX10_316 (dec_of D_X10_share (i := 33) rfl) rfl (by decide) (c_X10_laysShares (l := _) hG _ _ _) rfl rfl (Nat.le_of_ble_eq_true rfl) (fun q7 => ?_)
            refine s_aload_n 0 (n := 62) hX (dec_of D_X10_share (i := 34) rfl) rfl rfl rfl ?_
            refine s_getR (c := 10) (p := 46) (k' := 47) (n := 65) hX cls10 (vk131 (by omega)) (dec_of D_X10_share (i := 35) rfl) rfl rfl wd_1392 ?_
            refine s_iload 4 (n := 67) hX (dec_of D_X10_share (i := 36) rfl) rfl rfl ?_
            refine s_iald (n := 68) hX (vk47 (by omega)) (by decide) (dec_of D_X10_share (i := 37) rfl) rfl (fun v8 => ?_)
            exact s_iret hX hR (dec_of D_X10_share (i := 38) rfl) rfl
          · refine s_bipush (v := (-2)) (n := 47) hX (dec_of D_X10_share (i := 23) rfl) rfl (by decide) ?_
            exact s_iret hX hR (dec_of D_X10_share (i := 24) rfl) rfl
        · refine s_iconst (v := (-1)) (n := 34) hX (dec_of D_X10_share (i := 16) rfl) rfl (by decide) ?_
          exact s_iret hX hR (dec_of D_X10_share (i := 17) rfl) rfl

theorem lk_RX10_223 : LkV RX10 223 RX10 yX10_takesText cX10_takesText 2 none 0 := ⟨wd_1591, wd_1593, wd_34, wd_93, wd_1594, by decide +kernel, by decide⟩
theorem lk_RX10_217 : LkV RX10 217 RX10 yX10_readLine cX10_readLine 2 none 0 := ⟨wd_1531, wd_1533, wd_19, wd_93, wd_1534, by decide +kernel, by decide⟩
def T_X10_text : List (Nat × Instr × Nat) := [(0, .aload_n 0, 1), (1, .iconst 0, 1), (2, .putfield 86, 3), (5, .iload_n 1, 1), (6, .ifCond .lt 11, 3), (9, .iload_n 1, 1), (10, .aload_n 0, 1), (11, .getfield 89, 3), (14, .if_icmp .le 6, 3), (17, .bipush (-2), 2), (19, .ireturn, 1), (20, .aload_n 0, 1), (21, .iconst 0, 1), (22, .putfield 156, 3), (25, .aload_n 0, 1), (26, .iconst 0, 1), (27, .putfield 163, 3), (30, .aload_n 0, 1), (31, .iconst 0, 1), (32, .putfield 166, 3), (35, .aload_n 0, 1), (36, .iconst 0, 1), (37, .putfield 214, 3), (40, .aload_n 0, 1), (41, .bipush 60, 2), (43, .putfield 190, 3), (46, .aload_n 0, 1), (47, .iconst 3, 1), (48, .putfield 196, 3), (51, .aload_n 0, 1), (52, .iconst 0, 1), (53, .putfield 186, 3), (56, .aload_n 0, 1), (57, .iconst 0, 1), (58, .putfield 193, 3), (61, .aload_n 0, 1), (62, .iload_n 1, 1), (63, .putfield 95, 3), (66, .aload_n 0, 1), (67, .iconst 0, 1), (68, .putfield 92, 3), (71, .aload_n 0, 1), (72, .iconst 0, 1), (73, .putfield 136, 3), (76, .aload_n 0, 1), (77, .invokevirtual 142, 3), (80, .aload_n 0, 1), (81, .getfield 136, 3), (84, .ifCond .ne 18, 3), (87, .aload_n 0, 1), (88, .getfield 105, 3), (91, .iconst 3, 1), (92, .if_icmp .eq 10, 3), (95, .aload_n 0, 1), (96, .invokevirtual 217, 3), (99, .goto (-19), 3), (102, .aload_n 0, 1), (103, .iconst 0, 1), (104, .putfield 89, 3), (107, .aload_n 0, 1), (108, .aload_n 0, 1), (109, .getfield 136, 3), (112, .putfield 220, 3), (115, .aload_n 0, 1), (116, .aload_n 0, 1), (117, .getfield 136, 3), (120, .ifCond .ne 7, 3), (123, .iconst (-1), 1), (124, .goto 7, 3), (127, .aload_n 0, 1), (128, .getfield 139, 3), (131, .putfield 34, 3), (134, .aload_n 0, 1), (135, .getfield 136, 3), (138, .ifCond .eq 5, 3), (141, .iconst (-1), 1), (142, .ireturn, 1), (143, .aload_n 0, 1), (144, .invokevirtual 223, 3), (147, .aload_n 0, 1), (148, .getfield 226, 3), (151, .ireturn, 1)]
theorem D_X10_text : dchk cX10_text T_X10_text = true := by decide +kernel
def Mo_text (σ : ST) (a1 : Int32) : Option (Int32 × ST) :=
  lt_ (setF σ 840 0 0) (fun s1 => (if a1 < 0 then some ((-2), s1) else (if a1 ≤ (gF s1 842 0) then lt_ (setF s1 867 0 0) (fun s2 => lt_ (setF s2 868 0 0) (fun s3 => lt_ (setF s3 869 0 0) (fun s4 => lt_ (setF s4 870 0 0) (fun s5 => lt_ (setF s5 871 0 60) (fun s6 => lt_ (setF s6 872 0 3) (fun s7 => lt_ (setF s7 873 0 0) (fun s8 => lt_ (setF s8 874 0 0) (fun s9 => lt_ (setF s9 857 0 a1) (fun s10 => lt_ (setF s10 858 0 0) (fun s11 => lt_ (setF s11 863 0 0) (fun s12 => bd_ (Mo_token s12) (fun q13 => lk_ (fun kk15 => lp_ (fun rec25 (z24 : ST) => (if (gF z24 863 0) = 0 then (if (gF z24 860 0) = 3 then kk15 z24 else bd_ (Mo_readLine z24) (fun q27 => rec25 q27)) else kk15 z24)) FU q13) (fun (j14 : ST) => lt_ (setF j14 842 0 0) (fun s17 => lt_ (setF s17 865 0 (gF s17 863 0)) (fun s18 => lk_ (fun kk20 => (if (gF s18 863 0) = 0 then kk20 (-1) else kk20 (gF s18 864 0))) (fun (j19 : Int32) => lt_ (setF s18 866 0 j19) (fun s22 => (if (gF s22 863 0) = 0 then bd_ (Mo_takesText s22) (fun q23 => some ((gF q23 853 0), q23)) else some ((-1), s22))))))))))))))))))) else some ((-2), s1))))
set_option maxHeartbeats 4000000 in
set_option maxRecDepth 100000 in
theorem c_X10_text {G : GW} (hG : Good G) {l : Launch} (σ : ST) (a1 : Int32) : Ctr G l yX10_text cX10_text 2 (some .int) 13 [.ref (ga G 131 0), .int a1] σ oP (Mo_text σ a1) := by
  refine ctr_of hG (by decide) (Nat.le_of_ble_eq_true rfl) ?_
  intro X hXl hR hX
  have hX : Ok G X cX10_text 2 RX10 13 := hX
  unfold Mo_text
  show Sim G X 2 (MQX G X oP) σ 0 [(0, .ref (ga G 131 0)), (1, .int a1)] [] _
  refine s_aload_n 0 (n := 1) hX (dec_of D_X10_text (i := 0) rfl) rfl rfl rfl ?_
  refine s_iconst (v := 0) (n := 2) hX (dec_of D_X10_text (i := 1) rfl) rfl (by decide) ?_
  refine s_putI (c := 10) (p := 0) (n := 5) hX cls10 (vk131 (by omega)) (dec_of D_X10_text (i := 2) rfl) rfl rfl (by decide) wd_1346 rfl rfl rfl (fun s1 => ?_)
  refine s_iload_n 1 (n := 6) hX (dec_of D_X10_text (i := 3) rfl) rfl rfl rfl ?_
  refine s_if_lt (tgt := 17) (n := 9) hX (dec_of D_X10_text (i := 4) rfl) rfl rfl ?_ ?_
  · refine s_bipush (v := (-2)) (n := 19) hX (dec_of D_X10_text (i := 9) rfl) rfl (by decide) ?_
    exact s_iret hX hR (dec_of D_X10_text (i := 10) rfl) rfl
  · refine s_iload_n 1 (n := 10) hX (dec_of D_X10_text (i := 5) rfl) rfl rfl rfl ?_
    refine s_aload_n 0 (n := 11) hX (dec_of D_X10_text (i := 6) rfl) rfl rfl rfl ?_
    refine s_getI (c := 10) (p := 2) (id := 842) (n := 14) hX cls10 (vk131 (by omega)) (dec_of D_X10_text (i := 7) rfl) rfl rfl wd_1348 ?_
    refine s_icmp_le (tgt := 20) (n := 17) hX (dec_of D_X10_text (i := 8) rfl) rfl rfl ?_ ?_
    · refine s_aload_n 0 (n := 21) hX (dec_of D_X10_text (i := 11) rfl) rfl rfl rfl ?_
      refine s_iconst (v := 0) (n := 22) hX (dec_of D_X10_text (i := 12) rfl) rfl (by decide) ?_
      refine s_putI (c := 10) (p := 27) (n := 25) hX cls10 (vk131 (by omega)) (dec_of D_X10_text (i := 13) rfl) rfl rfl (by decide) wd_1373 rfl rfl rfl (fun s2 => ?_)
      refine s_aload_n 0 (n := 26) hX (dec_of D_X10_text (i := 14) rfl) rfl rfl rfl ?_
      refine s_iconst (v := 0) (n := 27) hX (dec_of D_X10_text (i := 15) rfl) rfl (by decide) ?_
      refine s_putI (c := 10) (p := 28) (n := 30) hX cls10 (vk131 (by omega)) (dec_of D_X10_text (i := 16) rfl) rfl rfl (by decide) wd_1374 rfl rfl rfl (fun s3 => ?_)
      refine s_aload_n 0 (n := 31) hX (dec_of D_X10_text (i := 17) rfl) rfl rfl rfl ?_
      refine s_iconst (v := 0) (n := 32) hX (dec_of D_X10_text (i := 18) rfl) rfl (by decide) ?_
      refine s_putI (c := 10) (p := 29) (n := 35) hX cls10 (vk131 (by omega)) (dec_of D_X10_text (i := 19) rfl) rfl rfl (by decide) wd_1375 rfl rfl rfl (fun s4 => ?_)
      refine s_aload_n 0 (n := 36) hX (dec_of D_X10_text (i := 20) rfl) rfl rfl rfl ?_
      refine s_iconst (v := 0) (n := 37) hX (dec_of D_X10_text (i := 21) rfl) rfl (by decide) ?_
      refine s_putI (c := 10) (p := 30) (n := 40) hX cls10 (vk131 (by omega)) (dec_of D_X10_text (i := 22) rfl) rfl rfl (by decide) wd_1376 rfl rfl rfl (fun s5 => ?_)
      refine s_aload_n 0 (n := 41) hX (dec_of D_X10_text (i := 23) rfl) rfl rfl rfl ?_
      refine s_bipush (v := 60) (n := 43) hX (dec_of D_X10_text (i := 24) rfl) rfl (by decide) ?_
      refine s_putI (c := 10) (p := 31) (n := 46) hX cls10 (vk131 (by omega)) (dec_of D_X10_text (i := 25) rfl) rfl rfl (by decide) wd_1377 rfl rfl rfl (fun s6 => ?_)
      refine s_aload_n 0 (n := 47) hX (dec_of D_X10_text (i := 26) rfl) rfl rfl rfl ?_
      refine s_iconst (v := 3) (n := 48) hX (dec_of D_X10_text (i := 27) rfl) rfl (by decide) ?_
      refine s_putI (c := 10) (p := 32) (n := 51) hX cls10 (vk131 (by omega)) (dec_of D_X10_text (i := 28) rfl) rfl rfl (by decide) wd_1378 rfl rfl rfl (fun s7 => ?_)
      refine s_aload_n 0 (n := 52) hX (dec_of D_X10_text (i := 29) rfl) rfl rfl rfl ?_
      refine s_iconst (v := 0) (n := 53) hX (dec_of D_X10_text (i := 30) rfl) rfl (by decide) ?_
      refine s_putI (c := 10) (p := 33) (n := 56) hX cls10 (vk131 (by omega)) (dec_of D_X10_text (i := 31) rfl) rfl rfl (by decide) wd_1379 rfl rfl rfl (fun s8 => ?_)
      refine s_aload_n 0 (n := 57) hX (dec_of D_X10_text (i := 32) rfl) rfl rfl rfl ?_
      refine s_iconst (v := 0) (n := 58) hX (dec_of D_X10_text (i := 33) rfl) rfl (by decide) ?_
      refine s_putI (c := 10) (p := 34) (n := 61) hX cls10 (vk131 (by omega)) (dec_of D_X10_text (i := 34) rfl) rfl rfl (by decide) wd_1380 rfl rfl rfl (fun s9 => ?_)
      refine s_aload_n 0 (n := 62) hX (dec_of D_X10_text (i := 35) rfl) rfl rfl rfl ?_
      refine s_iload_n 1 (n := 63) hX (dec_of D_X10_text (i := 36) rfl) rfl rfl rfl ?_
      refine s_putI (c := 10) (p := 17) (n := 66) hX cls10 (vk131 (by omega)) (dec_of D_X10_text (i := 37) rfl) rfl rfl (by decide) wd_1363 rfl rfl rfl (fun s10 => ?_)
      refine s_aload_n 0 (n := 67) hX (dec_of D_X10_text (i := 38) rfl) rfl rfl rfl ?_
      refine s_iconst (v := 0) (n := 68) hX (dec_of D_X10_text (i := 39) rfl) rfl (by decide) ?_
      refine s_putI (c := 10) (p := 18) (n := 71) hX cls10 (vk131 (by omega)) (dec_of D_X10_text (i := 40) rfl) rfl rfl (by decide) wd_1364 rfl rfl rfl (fun s11 => ?_)
      refine s_aload_n 0 (n := 72) hX (dec_of D_X10_text (i := 41) rfl) rfl rfl rfl ?_
      refine s_iconst (v := 0) (n := 73) hX (dec_of D_X10_text (i := 42) rfl) rfl (by decide) ?_
      refine s_putI (c := 10) (p := 23) (n := 76) hX cls10 (vk131 (by omega)) (dec_of D_X10_text (i := 43) rfl) rfl rfl (by decide) wd_1369 rfl rfl rfl (fun s12 => ?_)
      refine s_aload_n 0 (n := 77) hX (dec_of D_X10_text (i := 44) rfl) rfl rfl rfl ?_
      refine s_callVV (c := 10) (n := 80) hX cls10 (vk131 (by omega)) lk_RX10_142 (dec_of D_X10_text (i := 45) rfl) rfl (by decide) (c_X10_token (l := _) hG _) rfl rfl (Nat.le_of_ble_eq_true rfl) (fun q13 => ?_)
      refine s_lk (pcj := 102) (Sf := fun (j14 : ST) => j14) (lvf := fun (j14 : ST) => [(0, .ref (ga G 131 0))]) (stf := fun (j14 : ST) => []) (fun j14 => ?_) (fun kk15 hkk16 => ?_)
      · refine s_aload_n 0 (n := 103) hX (dec_of D_X10_text (i := 56) rfl) rfl rfl rfl ?_
        refine s_iconst (v := 0) (n := 104) hX (dec_of D_X10_text (i := 57) rfl) rfl (by decide) ?_
        refine s_putI (c := 10) (p := 2) (n := 107) hX cls10 (vk131 (by omega)) (dec_of D_X10_text (i := 58) rfl) rfl rfl (by decide) wd_1348 rfl rfl rfl (fun s17 => ?_)
        refine s_aload_n 0 (n := 108) hX (dec_of D_X10_text (i := 59) rfl) rfl rfl rfl ?_
        refine s_aload_n 0 (n := 109) hX (dec_of D_X10_text (i := 60) rfl) rfl rfl rfl ?_
        refine s_getI (c := 10) (p := 23) (id := 863) (n := 112) hX cls10 (vk131 (by omega)) (dec_of D_X10_text (i := 61) rfl) rfl rfl wd_1369 ?_
        refine s_putI (c := 10) (p := 25) (n := 115) hX cls10 (vk131 (by omega)) (dec_of D_X10_text (i := 62) rfl) rfl rfl (by decide) wd_1371 rfl rfl rfl (fun s18 => ?_)
        refine s_aload_n 0 (n := 116) hX (dec_of D_X10_text (i := 63) rfl) rfl rfl rfl ?_
        refine s_aload_n 0 (n := 117) hX (dec_of D_X10_text (i := 64) rfl) rfl rfl rfl ?_
        refine s_getI (c := 10) (p := 23) (id := 863) (n := 120) hX cls10 (vk131 (by omega)) (dec_of D_X10_text (i := 65) rfl) rfl rfl wd_1369 ?_
        refine s_lk (pcj := 131) (Sf := fun (j19 : Int32) => s18) (lvf := fun (j19 : Int32) => [(0, .ref (ga G 131 0))]) (stf := fun (j19 : Int32) => [.int j19, .ref (ga G 131 0)]) (fun j19 => ?_) (fun kk20 hkk21 => ?_)
        · refine s_putI (c := 10) (p := 26) (n := 134) hX cls10 (vk131 (by omega)) (dec_of D_X10_text (i := 71) rfl) rfl rfl (by decide) wd_1372 rfl rfl rfl (fun s22 => ?_)
          refine s_aload_n 0 (n := 135) hX (dec_of D_X10_text (i := 72) rfl) rfl rfl rfl ?_
          refine s_getI (c := 10) (p := 23) (id := 863) (n := 138) hX cls10 (vk131 (by omega)) (dec_of D_X10_text (i := 73) rfl) rfl rfl wd_1369 ?_
          refine s_if_eq (tgt := 143) (n := 141) hX (dec_of D_X10_text (i := 74) rfl) rfl rfl ?_ ?_
          · refine s_aload_n 0 (n := 144) hX (dec_of D_X10_text (i := 77) rfl) rfl rfl rfl ?_
            refine s_callVV (c := 10) (n := 147) hX cls10 (vk131 (by omega)) lk_RX10_223 (dec_of D_X10_text (i := 78) rfl) rfl (by decide) (c_X10_takesText (l := _) hG _) rfl rfl (Nat.le_of_ble_eq_true rfl) (fun q23 => ?_)
            refine s_aload_n 0 (n := 148) hX (dec_of D_X10_text (i := 79) rfl) rfl rfl rfl ?_
            refine s_getI (c := 10) (p := 13) (id := 853) (n := 151) hX cls10 (vk131 (by omega)) (dec_of D_X10_text (i := 80) rfl) rfl rfl wd_1359 ?_
            exact s_iret hX hR (dec_of D_X10_text (i := 81) rfl) rfl
          · refine s_iconst (v := (-1)) (n := 142) hX (dec_of D_X10_text (i := 75) rfl) rfl (by decide) ?_
            exact s_iret hX hR (dec_of D_X10_text (i := 76) rfl) rfl
        · refine s_if_ne (tgt := 127) (n := 123) hX (dec_of D_X10_text (i := 66) rfl) rfl rfl ?_ ?_
          · refine s_aload_n 0 (n := 128) hX (dec_of D_X10_text (i := 69) rfl) rfl rfl rfl ?_
            refine s_getI (c := 10) (p := 24) (id := 864) (n := 131) hX cls10 (vk131 (by omega)) (dec_of D_X10_text (i := 70) rfl) rfl rfl wd_1370 ?_
            exact s_sub [0] rfl (hkk21 (gF s18 864 0))
          · refine s_iconst (v := (-1)) (n := 124) hX (dec_of D_X10_text (i := 67) rfl) rfl (by decide) ?_
            refine s_goto (n := 131) hX (dec_of D_X10_text (i := 68) rfl) rfl ?_
            exact s_sub [0] rfl (hkk21 (-1))
      · refine s_sub [0] rfl (s_lp (pc := 80) (Sf := fun (z24 : ST) => z24) (lvf := fun (z24 : ST) => [(0, .ref (ga G 131 0))]) (fun rec25 hre26 z24 => ?_) FU q13)
        refine s_aload_n 0 (n := 81) hX (dec_of D_X10_text (i := 46) rfl) rfl rfl rfl ?_
        refine s_getI (c := 10) (p := 23) (id := 863) (n := 84) hX cls10 (vk131 (by omega)) (dec_of D_X10_text (i := 47) rfl) rfl rfl wd_1369 ?_
        refine s_if_ne (tgt := 102) (n := 87) hX (dec_of D_X10_text (i := 48) rfl) rfl rfl ?_ ?_
        · exact s_sub [0] rfl (hkk16 z24)
        · refine s_aload_n 0 (n := 88) hX (dec_of D_X10_text (i := 49) rfl) rfl rfl rfl ?_
          refine s_getI (c := 10) (p := 20) (id := 860) (n := 91) hX cls10 (vk131 (by omega)) (dec_of D_X10_text (i := 50) rfl) rfl rfl wd_1366 ?_
          refine s_iconst (v := 3) (n := 92) hX (dec_of D_X10_text (i := 51) rfl) rfl (by decide) ?_
          refine s_icmp_eq (tgt := 102) (n := 95) hX (dec_of D_X10_text (i := 52) rfl) rfl rfl ?_ ?_
          · exact s_sub [0] rfl (hkk16 z24)
          · refine s_aload_n 0 (n := 96) hX (dec_of D_X10_text (i := 53) rfl) rfl rfl rfl ?_
            refine s_callVV (c := 10) (n := 99) hX cls10 (vk131 (by omega)) lk_RX10_217 (dec_of D_X10_text (i := 54) rfl) rfl (by decide) (c_X10_readLine (l := _) hG _) rfl rfl (Nat.le_of_ble_eq_true rfl) (fun q27 => ?_)
            refine s_goto (n := 80) hX (dec_of D_X10_text (i := 55) rfl) rfl ?_
            exact s_sub [0] rfl (hre26 q27)
    · refine s_bipush (v := (-2)) (n := 19) hX (dec_of D_X10_text (i := 9) rfl) rfl (by decide) ?_
      exact s_iret hX hR (dec_of D_X10_text (i := 10) rfl) rfl
def T_X10_fault : List (Nat × Instr × Nat) := [(0, .aload_n 0, 1), (1, .iconst 0, 1), (2, .putfield 86, 3), (5, .iload_n 1, 1), (6, .ifCond .ne 10, 3), (9, .aload_n 0, 1), (10, .getfield 220, 3), (13, .goto 16, 3), (16, .iload_n 1, 1), (17, .iconst 1, 1), (18, .if_icmp .ne 10, 3), (21, .aload_n 0, 1), (22, .getfield 34, 3), (25, .goto 4, 3), (28, .iconst (-1), 1), (29, .ireturn, 1)]
theorem D_X10_fault : dchk cX10_fault T_X10_fault = true := by decide +kernel
def Mo_fault (σ : ST) (a1 : Int32) : Option (Int32 × ST) :=
  lt_ (setF σ 840 0 0) (fun s1 => (if a1 = 0 then some ((gF s1 865 0), s1) else (if a1 = 1 then some ((gF s1 866 0), s1) else some ((-1), s1))))
set_option maxHeartbeats 4000000 in
set_option maxRecDepth 100000 in
theorem c_X10_fault {G : GW} (hG : Good G) {l : Launch} (σ : ST) (a1 : Int32) : Ctr G l yX10_fault cX10_fault 2 (some .int) 0 [.ref (ga G 131 0), .int a1] σ oP (Mo_fault σ a1) := by
  refine ctr_of hG (by decide) (Nat.le_of_ble_eq_true rfl) ?_
  intro X hXl hR hX
  have hX : Ok G X cX10_fault 2 RX10 0 := hX
  unfold Mo_fault
  show Sim G X 2 (MQX G X oP) σ 0 [(0, .ref (ga G 131 0)), (1, .int a1)] [] _
  refine s_aload_n 0 (n := 1) hX (dec_of D_X10_fault (i := 0) rfl) rfl rfl rfl ?_
  refine s_iconst (v := 0) (n := 2) hX (dec_of D_X10_fault (i := 1) rfl) rfl (by decide) ?_
  refine s_putI (c := 10) (p := 0) (n := 5) hX cls10 (vk131 (by omega)) (dec_of D_X10_fault (i := 2) rfl) rfl rfl (by decide) wd_1346 rfl rfl rfl (fun s1 => ?_)
  refine s_iload_n 1 (n := 6) hX (dec_of D_X10_fault (i := 3) rfl) rfl rfl rfl ?_
  refine s_if_ne (tgt := 16) (n := 9) hX (dec_of D_X10_fault (i := 4) rfl) rfl rfl ?_ ?_
  · refine s_iload_n 1 (n := 17) hX (dec_of D_X10_fault (i := 8) rfl) rfl rfl rfl ?_
    refine s_iconst (v := 1) (n := 18) hX (dec_of D_X10_fault (i := 9) rfl) rfl (by decide) ?_
    refine s_icmp_ne (tgt := 28) (n := 21) hX (dec_of D_X10_fault (i := 10) rfl) rfl rfl ?_ ?_
    · refine s_iconst (v := (-1)) (n := 29) hX (dec_of D_X10_fault (i := 14) rfl) rfl (by decide) ?_
      exact s_iret hX hR (dec_of D_X10_fault (i := 15) rfl) rfl
    · refine s_aload_n 0 (n := 22) hX (dec_of D_X10_fault (i := 11) rfl) rfl rfl rfl ?_
      refine s_getI (c := 10) (p := 26) (id := 866) (n := 25) hX cls10 (vk131 (by omega)) (dec_of D_X10_fault (i := 12) rfl) rfl rfl wd_1372 ?_
      refine s_goto (n := 29) hX (dec_of D_X10_fault (i := 13) rfl) rfl ?_
      exact s_iret hX hR (dec_of D_X10_fault (i := 15) rfl) rfl
  · refine s_aload_n 0 (n := 10) hX (dec_of D_X10_fault (i := 5) rfl) rfl rfl rfl ?_
    refine s_getI (c := 10) (p := 25) (id := 865) (n := 13) hX cls10 (vk131 (by omega)) (dec_of D_X10_fault (i := 6) rfl) rfl rfl wd_1371 ?_
    refine s_goto (n := 29) hX (dec_of D_X10_fault (i := 7) rfl) rfl ?_
    exact s_iret hX hR (dec_of D_X10_fault (i := 15) rfl) rfl
def T_X10_isLand : List (Nat × Instr × Nat) := [(0, .iload_n 1, 1), (1, .ifCond .lt 15, 3), (4, .iload_n 1, 1), (5, .aload_n 0, 1), (6, .getfield 229, 3), (9, .if_icmp .ge 7, 3), (12, .iconst 1, 1), (13, .goto 4, 3), (16, .iconst 0, 1), (17, .ireturn, 1)]
theorem D_X10_isLand : dchk cX10_isLand T_X10_isLand = true := by decide +kernel
def Mo_isLand (σ : ST) (a1 : Int32) : Option Int32 :=
  (if a1 < 0 then some 0 else (if (gF σ 850 0) ≤ a1 then some 0 else some 1))
set_option maxHeartbeats 4000000 in
set_option maxRecDepth 100000 in
theorem c_X10_isLand {G : GW} (hG : Good G) {l : Launch} (σ : ST) (a1 : Int32) : Ctr G l yX10_isLand cX10_isLand 2 (some .boolean) 0 [.ref (ga G 131 0), .int a1] σ (oI σ) (Mo_isLand σ a1) := by
  refine ctr_of hG (by decide) (Nat.le_of_ble_eq_true rfl) ?_
  intro X hXl hR hX
  have hX : Ok G X cX10_isLand 2 RX10 0 := hX
  unfold Mo_isLand
  show Sim G X 2 (MQX G X (oI σ)) σ 0 [(0, .ref (ga G 131 0)), (1, .int a1)] [] _
  refine s_iload_n 1 (n := 1) hX (dec_of D_X10_isLand (i := 0) rfl) rfl rfl rfl ?_
  refine s_if_lt (tgt := 16) (n := 4) hX (dec_of D_X10_isLand (i := 1) rfl) rfl rfl ?_ ?_
  · refine s_iconst (v := 0) (n := 17) hX (dec_of D_X10_isLand (i := 8) rfl) rfl (by decide) ?_
    exact s_zret hX hR (dec_of D_X10_isLand (i := 9) rfl) rfl rfl
  · refine s_iload_n 1 (n := 5) hX (dec_of D_X10_isLand (i := 2) rfl) rfl rfl rfl ?_
    refine s_aload_n 0 (n := 6) hX (dec_of D_X10_isLand (i := 3) rfl) rfl rfl rfl ?_
    refine s_getI (c := 10) (p := 10) (id := 850) (n := 9) hX cls10 (vk131 (by omega)) (dec_of D_X10_isLand (i := 4) rfl) rfl rfl wd_1356 ?_
    refine s_icmp_ge (tgt := 16) (n := 12) hX (dec_of D_X10_isLand (i := 5) rfl) rfl rfl ?_ ?_
    · refine s_iconst (v := 0) (n := 17) hX (dec_of D_X10_isLand (i := 8) rfl) rfl (by decide) ?_
      exact s_zret hX hR (dec_of D_X10_isLand (i := 9) rfl) rfl rfl
    · refine s_iconst (v := 1) (n := 13) hX (dec_of D_X10_isLand (i := 6) rfl) rfl (by decide) ?_
      refine s_goto (n := 17) hX (dec_of D_X10_isLand (i := 7) rfl) rfl ?_
      exact s_zret hX hR (dec_of D_X10_isLand (i := 9) rfl) rfl rfl
def T_X10_isPlayer : List (Nat × Instr × Nat) := [(0, .iload_n 1, 1), (1, .ifCond .lt 15, 3), (4, .iload_n 1, 1), (5, .aload_n 0, 1), (6, .getfield 232, 3), (9, .if_icmp .ge 7, 3), (12, .iconst 1, 1), (13, .goto 4, 3), (16, .iconst 0, 1), (17, .ireturn, 1)]
theorem D_X10_isPlayer : dchk cX10_isPlayer T_X10_isPlayer = true := by decide +kernel
def Mo_isPlayer (σ : ST) (a1 : Int32) : Option Int32 :=
  (if a1 < 0 then some 0 else (if (gF σ 851 0) ≤ a1 then some 0 else some 1))
set_option maxHeartbeats 4000000 in
set_option maxRecDepth 100000 in
theorem c_X10_isPlayer {G : GW} (hG : Good G) {l : Launch} (σ : ST) (a1 : Int32) : Ctr G l yX10_isPlayer cX10_isPlayer 2 (some .boolean) 0 [.ref (ga G 131 0), .int a1] σ (oI σ) (Mo_isPlayer σ a1) := by
  refine ctr_of hG (by decide) (Nat.le_of_ble_eq_true rfl) ?_
  intro X hXl hR hX
  have hX : Ok G X cX10_isPlayer 2 RX10 0 := hX
  unfold Mo_isPlayer
  show Sim G X 2 (MQX G X (oI σ)) σ 0 [(0, .ref (ga G 131 0)), (1, .int a1)] [] _
  refine s_iload_n 1 (n := 1) hX (dec_of D_X10_isPlayer (i := 0) rfl) rfl rfl rfl ?_
  refine s_if_lt (tgt := 16) (n := 4) hX (dec_of D_X10_isPlayer (i := 1) rfl) rfl rfl ?_ ?_
  · refine s_iconst (v := 0) (n := 17) hX (dec_of D_X10_isPlayer (i := 8) rfl) rfl (by decide) ?_
    exact s_zret hX hR (dec_of D_X10_isPlayer (i := 9) rfl) rfl rfl
  · refine s_iload_n 1 (n := 5) hX (dec_of D_X10_isPlayer (i := 2) rfl) rfl rfl rfl ?_
    refine s_aload_n 0 (n := 6) hX (dec_of D_X10_isPlayer (i := 3) rfl) rfl rfl rfl ?_
    refine s_getI (c := 10) (p := 11) (id := 851) (n := 9) hX cls10 (vk131 (by omega)) (dec_of D_X10_isPlayer (i := 4) rfl) rfl rfl wd_1357 ?_
    refine s_icmp_ge (tgt := 16) (n := 12) hX (dec_of D_X10_isPlayer (i := 5) rfl) rfl rfl ?_ ?_
    · refine s_iconst (v := 0) (n := 17) hX (dec_of D_X10_isPlayer (i := 8) rfl) rfl (by decide) ?_
      exact s_zret hX hR (dec_of D_X10_isPlayer (i := 9) rfl) rfl rfl
    · refine s_iconst (v := 1) (n := 13) hX (dec_of D_X10_isPlayer (i := 6) rfl) rfl (by decide) ?_
      refine s_goto (n := 17) hX (dec_of D_X10_isPlayer (i := 7) rfl) rfl ?_
      exact s_zret hX hR (dec_of D_X10_isPlayer (i := 9) rfl) rfl rfl
def T_X10_isSession : List (Nat × Instr × Nat) := [(0, .iload_n 1, 1), (1, .ifCond .lt 15, 3), (4, .iload_n 1, 1), (5, .aload_n 0, 1), (6, .getfield 235, 3), (9, .if_icmp .ge 7, 3), (12, .iconst 1, 1), (13, .goto 4, 3), (16, .iconst 0, 1), (17, .ireturn, 1)]
theorem D_X10_isSession : dchk cX10_isSession T_X10_isSession = true := by decide +kernel
def Mo_isSession (σ : ST) (a1 : Int32) : Option Int32 :=
  (if a1 < 0 then some 0 else (if (gF σ 852 0) ≤ a1 then some 0 else some 1))
set_option maxHeartbeats 4000000 in
set_option maxRecDepth 100000 in
theorem c_X10_isSession {G : GW} (hG : Good G) {l : Launch} (σ : ST) (a1 : Int32) : Ctr G l yX10_isSession cX10_isSession 2 (some .boolean) 0 [.ref (ga G 131 0), .int a1] σ (oI σ) (Mo_isSession σ a1) := by
  refine ctr_of hG (by decide) (Nat.le_of_ble_eq_true rfl) ?_
  intro X hXl hR hX
  have hX : Ok G X cX10_isSession 2 RX10 0 := hX
  unfold Mo_isSession
  show Sim G X 2 (MQX G X (oI σ)) σ 0 [(0, .ref (ga G 131 0)), (1, .int a1)] [] _
  refine s_iload_n 1 (n := 1) hX (dec_of D_X10_isSession (i := 0) rfl) rfl rfl rfl ?_
  refine s_if_lt (tgt := 16) (n := 4) hX (dec_of D_X10_isSession (i := 1) rfl) rfl rfl ?_ ?_
  · refine s_iconst (v := 0) (n := 17) hX (dec_of D_X10_isSession (i := 8) rfl) rfl (by decide) ?_
    exact s_zret hX hR (dec_of D_X10_isSession (i := 9) rfl) rfl rfl
  · refine s_iload_n 1 (n := 5) hX (dec_of D_X10_isSession (i := 2) rfl) rfl rfl rfl ?_
    refine s_aload_n 0 (n := 6) hX (dec_of D_X10_isSession (i := 3) rfl) rfl rfl rfl ?_
    refine s_getI (c := 10) (p := 12) (id := 852) (n := 9) hX cls10 (vk131 (by omega)) (dec_of D_X10_isSession (i := 4) rfl) rfl rfl wd_1358 ?_
    refine s_icmp_ge (tgt := 16) (n := 12) hX (dec_of D_X10_isSession (i := 5) rfl) rfl rfl ?_ ?_
    · refine s_iconst (v := 0) (n := 17) hX (dec_of D_X10_isSession (i := 8) rfl) rfl (by decide) ?_
      exact s_zret hX hR (dec_of D_X10_isSession (i := 9) rfl) rfl rfl
    · refine s_iconst (v := 1) (n := 13) hX (dec_of D_X10_isSession (i := 6) rfl) rfl (by decide) ?_
      refine s_goto (n := 17) hX (dec_of D_X10_isSession (i := 7) rfl) rfl ?_
      exact s_zret hX hR (dec_of D_X10_isSession (i := 9) rfl) rfl rfl
theorem lk_RX10_241 : LkV RX10 241 RX10 yX10_isSession cX10_isSession 2 (some .boolean) 1 := ⟨wd_1658, wd_1660, wd_46, wd_93, wd_1661, by decide +kernel, by decide⟩
def T_X10_isSeat : List (Nat × Instr × Nat) := [(0, .aload_n 0, 1), (1, .iload_n 1, 1), (2, .invokevirtual 241, 3), (5, .ifCond .eq 21, 3), (8, .iload_n 2, 1), (9, .ifCond .lt 17, 3), (12, .iload_n 2, 1), (13, .aload_n 0, 1), (14, .getfield 25, 3), (17, .iload_n 1, 1), (18, .iaload, 1), (19, .if_icmp .ge 7, 3), (22, .iconst 1, 1), (23, .goto 4, 3), (26, .iconst 0, 1), (27, .ireturn, 1)]
theorem D_X10_isSeat : dchk cX10_isSeat T_X10_isSeat = true := by decide +kernel
def Mo_isSeat (σ : ST) (a1 : Int32) (a2 : Int32) : Option Int32 :=
  bd_ (Mo_isSession (σ) a1) (fun q1 => (if q1 = 0 then some 0 else (if a2 < 0 then some 0 else bd_ (ldI σ 33 0 a1) (fun v2 => (if v2 ≤ a2 then some 0 else some 1)))))
set_option maxHeartbeats 4000000 in
set_option maxRecDepth 100000 in
theorem c_X10_isSeat {G : GW} (hG : Good G) {l : Launch} (σ : ST) (a1 : Int32) (a2 : Int32) : Ctr G l yX10_isSeat cX10_isSeat 3 (some .boolean) 1 [.ref (ga G 131 0), .int a1, .int a2] σ (oI σ) (Mo_isSeat σ a1 a2) := by
  refine ctr_of hG (by decide) (Nat.le_of_ble_eq_true rfl) ?_
  intro X hXl hR hX
  have hX : Ok G X cX10_isSeat 3 RX10 1 := hX
  unfold Mo_isSeat
  show Sim G X 3 (MQX G X (oI σ)) σ 0 [(0, .ref (ga G 131 0)), (1, .int a1), (2, .int a2)] [] _
  refine s_aload_n 0 (n := 1) hX (dec_of D_X10_isSeat (i := 0) rfl) rfl rfl rfl ?_
  refine s_iload_n 1 (n := 2) hX (dec_of D_X10_isSeat (i := 1) rfl) rfl rfl rfl ?_
  refine s_callVI (c := 10) (n := 5) hX cls10 (vk131 (by omega)) lk_RX10_241 (dec_of D_X10_isSeat (i := 2) rfl) rfl (by decide) (c_X10_isSession (l := _) hG _ _) rfl rfl (Nat.le_of_ble_eq_true rfl) (fun q1 => ?_)
  refine s_if_eq (tgt := 26) (n := 8) hX (dec_of D_X10_isSeat (i := 3) rfl) rfl rfl ?_ ?_
  · refine s_iconst (v := 0) (n := 27) hX (dec_of D_X10_isSeat (i := 14) rfl) rfl (by decide) ?_
    exact s_zret hX hR (dec_of D_X10_isSeat (i := 15) rfl) rfl rfl
  · refine s_iload_n 2 (n := 9) hX (dec_of D_X10_isSeat (i := 4) rfl) rfl rfl rfl ?_
    refine s_if_lt (tgt := 26) (n := 12) hX (dec_of D_X10_isSeat (i := 5) rfl) rfl rfl ?_ ?_
    · refine s_iconst (v := 0) (n := 27) hX (dec_of D_X10_isSeat (i := 14) rfl) rfl (by decide) ?_
      exact s_zret hX hR (dec_of D_X10_isSeat (i := 15) rfl) rfl rfl
    · refine s_iload_n 2 (n := 13) hX (dec_of D_X10_isSeat (i := 6) rfl) rfl rfl rfl ?_
      refine s_aload_n 0 (n := 14) hX (dec_of D_X10_isSeat (i := 7) rfl) rfl rfl rfl ?_
      refine s_getR (c := 10) (p := 7) (k' := 33) (n := 17) hX cls10 (vk131 (by omega)) (dec_of D_X10_isSeat (i := 8) rfl) rfl rfl wd_1353 ?_
      refine s_iload_n 1 (n := 18) hX (dec_of D_X10_isSeat (i := 9) rfl) rfl rfl rfl ?_
      refine s_iald (n := 19) hX (vk33 (by omega)) (by decide) (dec_of D_X10_isSeat (i := 10) rfl) rfl (fun v2 => ?_)
      refine s_icmp_ge (tgt := 26) (n := 22) hX (dec_of D_X10_isSeat (i := 11) rfl) rfl rfl ?_ ?_
      · refine s_iconst (v := 0) (n := 27) hX (dec_of D_X10_isSeat (i := 14) rfl) rfl (by decide) ?_
        exact s_zret hX hR (dec_of D_X10_isSeat (i := 15) rfl) rfl rfl
      · refine s_iconst (v := 1) (n := 23) hX (dec_of D_X10_isSeat (i := 12) rfl) rfl (by decide) ?_
        refine s_goto (n := 27) hX (dec_of D_X10_isSeat (i := 13) rfl) rfl ?_
        exact s_zret hX hR (dec_of D_X10_isSeat (i := 15) rfl) rfl rfl
def T_X10_isRole : List (Nat × Instr × Nat) := [(0, .iload_n 0, 1), (1, .ifCond .eq 8, 3), (4, .iload_n 0, 1), (5, .iconst 1, 1), (6, .if_icmp .ne 7, 3), (9, .iconst 1, 1), (10, .goto 4, 3), (13, .iconst 0, 1), (14, .ireturn, 1)]
theorem D_X10_isRole : dchk cX10_isRole T_X10_isRole = true := by decide +kernel
def Mo_isRole (σ : ST) (a0 : Int32) : Option Int32 :=
  (if a0 = 0 then some 1 else (if a0 = 1 then some 1 else some 0))
set_option maxHeartbeats 4000000 in
set_option maxRecDepth 100000 in
theorem c_X10_isRole {G : GW} (hG : Good G) {l : Launch} (σ : ST) (a0 : Int32) : Ctr G l yX10_isRole cX10_isRole 1 (some .boolean) 0 [.int a0] σ (oI σ) (Mo_isRole σ a0) := by
  refine ctr_of hG (by decide) (Nat.le_of_ble_eq_true rfl) ?_
  intro X hXl hR hX
  have hX : Ok G X cX10_isRole 1 RX10 0 := hX
  unfold Mo_isRole
  show Sim G X 1 (MQX G X (oI σ)) σ 0 [(0, .int a0)] [] _
  refine s_iload_n 0 (n := 1) hX (dec_of D_X10_isRole (i := 0) rfl) rfl rfl rfl ?_
  refine s_if_eq (tgt := 9) (n := 4) hX (dec_of D_X10_isRole (i := 1) rfl) rfl rfl ?_ ?_
  · refine s_iconst (v := 1) (n := 10) hX (dec_of D_X10_isRole (i := 5) rfl) rfl (by decide) ?_
    refine s_goto (n := 14) hX (dec_of D_X10_isRole (i := 6) rfl) rfl ?_
    exact s_zret hX hR (dec_of D_X10_isRole (i := 8) rfl) rfl rfl
  · refine s_iload_n 0 (n := 5) hX (dec_of D_X10_isRole (i := 2) rfl) rfl rfl rfl ?_
    refine s_iconst (v := 1) (n := 6) hX (dec_of D_X10_isRole (i := 3) rfl) rfl (by decide) ?_
    refine s_icmp_ne (tgt := 13) (n := 9) hX (dec_of D_X10_isRole (i := 4) rfl) rfl rfl ?_ ?_
    · refine s_iconst (v := 0) (n := 14) hX (dec_of D_X10_isRole (i := 7) rfl) rfl (by decide) ?_
      exact s_zret hX hR (dec_of D_X10_isRole (i := 8) rfl) rfl rfl
    · refine s_iconst (v := 1) (n := 10) hX (dec_of D_X10_isRole (i := 5) rfl) rfl (by decide) ?_
      refine s_goto (n := 14) hX (dec_of D_X10_isRole (i := 6) rfl) rfl ?_
      exact s_zret hX hR (dec_of D_X10_isRole (i := 8) rfl) rfl rfl
def T_X10_areCopies : List (Nat × Instr × Nat) := [(0, .iload_n 0, 1), (1, .iconst 1, 1), (2, .if_icmp .lt 13, 3), (5, .iload_n 0, 1), (6, .ldc 124, 2), (8, .if_icmp .gt 7, 3), (11, .iconst 1, 1), (12, .goto 4, 3), (15, .iconst 0, 1), (16, .ireturn, 1)]
theorem D_X10_areCopies : dchk cX10_areCopies T_X10_areCopies = true := by decide +kernel
def Mo_areCopies (σ : ST) (a0 : Int32) : Option Int32 :=
  (if a0 < 1 then some 0 else (if 99999 < a0 then some 0 else some 1))
set_option maxHeartbeats 4000000 in
set_option maxRecDepth 100000 in
theorem c_X10_areCopies {G : GW} (hG : Good G) {l : Launch} (σ : ST) (a0 : Int32) : Ctr G l yX10_areCopies cX10_areCopies 1 (some .boolean) 0 [.int a0] σ (oI σ) (Mo_areCopies σ a0) := by
  refine ctr_of hG (by decide) (Nat.le_of_ble_eq_true rfl) ?_
  intro X hXl hR hX
  have hX : Ok G X cX10_areCopies 1 RX10 0 := hX
  unfold Mo_areCopies
  show Sim G X 1 (MQX G X (oI σ)) σ 0 [(0, .int a0)] [] _
  refine s_iload_n 0 (n := 1) hX (dec_of D_X10_areCopies (i := 0) rfl) rfl rfl rfl ?_
  refine s_iconst (v := 1) (n := 2) hX (dec_of D_X10_areCopies (i := 1) rfl) rfl (by decide) ?_
  refine s_icmp_lt (tgt := 15) (n := 5) hX (dec_of D_X10_areCopies (i := 2) rfl) rfl rfl ?_ ?_
  · refine s_iconst (v := 0) (n := 16) hX (dec_of D_X10_areCopies (i := 8) rfl) rfl (by decide) ?_
    exact s_zret hX hR (dec_of D_X10_areCopies (i := 9) rfl) rfl rfl
  · refine s_iload_n 0 (n := 6) hX (dec_of D_X10_areCopies (i := 3) rfl) rfl rfl rfl ?_
    refine s_ldc (v := 99999) (n := 8) hX (dec_of D_X10_areCopies (i := 4) rfl) rfl wd_1530 ?_
    refine s_icmp_gt (tgt := 15) (n := 11) hX (dec_of D_X10_areCopies (i := 5) rfl) rfl rfl ?_ ?_
    · refine s_iconst (v := 0) (n := 16) hX (dec_of D_X10_areCopies (i := 8) rfl) rfl (by decide) ?_
      exact s_zret hX hR (dec_of D_X10_areCopies (i := 9) rfl) rfl rfl
    · refine s_iconst (v := 1) (n := 12) hX (dec_of D_X10_areCopies (i := 6) rfl) rfl (by decide) ?_
      refine s_goto (n := 16) hX (dec_of D_X10_areCopies (i := 7) rfl) rfl ?_
      exact s_zret hX hR (dec_of D_X10_areCopies (i := 9) rfl) rfl rfl
def T_X10_areTerms : List (Nat × Instr × Nat) := [(0, .iload_n 0, 1), (1, .ifCond .lt 22, 3), (4, .iload_n 0, 1), (5, .iconst 2, 1), (6, .if_icmp .gt 17, 3), (9, .iload_n 1, 1), (10, .iconst 1, 1), (11, .if_icmp .lt 12, 3), (14, .iload_n 1, 1), (15, .iconst 3, 1), (16, .if_icmp .gt 7, 3), (19, .iconst 1, 1), (20, .goto 4, 3), (23, .iconst 0, 1), (24, .ireturn, 1)]
theorem D_X10_areTerms : dchk cX10_areTerms T_X10_areTerms = true := by decide +kernel
def Mo_areTerms (σ : ST) (a0 : Int32) (a1 : Int32) : Option Int32 :=
  (if a0 < 0 then some 0 else (if 2 < a0 then some 0 else (if a1 < 1 then some 0 else (if 3 < a1 then some 0 else some 1))))
set_option maxHeartbeats 4000000 in
set_option maxRecDepth 100000 in
theorem c_X10_areTerms {G : GW} (hG : Good G) {l : Launch} (σ : ST) (a0 : Int32) (a1 : Int32) : Ctr G l yX10_areTerms cX10_areTerms 2 (some .boolean) 0 [.int a0, .int a1] σ (oI σ) (Mo_areTerms σ a0 a1) := by
  refine ctr_of hG (by decide) (Nat.le_of_ble_eq_true rfl) ?_
  intro X hXl hR hX
  have hX : Ok G X cX10_areTerms 2 RX10 0 := hX
  unfold Mo_areTerms
  show Sim G X 2 (MQX G X (oI σ)) σ 0 [(0, .int a0), (1, .int a1)] [] _
  refine s_iload_n 0 (n := 1) hX (dec_of D_X10_areTerms (i := 0) rfl) rfl rfl rfl ?_
  refine s_if_lt (tgt := 23) (n := 4) hX (dec_of D_X10_areTerms (i := 1) rfl) rfl rfl ?_ ?_
  · refine s_iconst (v := 0) (n := 24) hX (dec_of D_X10_areTerms (i := 13) rfl) rfl (by decide) ?_
    exact s_zret hX hR (dec_of D_X10_areTerms (i := 14) rfl) rfl rfl
  · refine s_iload_n 0 (n := 5) hX (dec_of D_X10_areTerms (i := 2) rfl) rfl rfl rfl ?_
    refine s_iconst (v := 2) (n := 6) hX (dec_of D_X10_areTerms (i := 3) rfl) rfl (by decide) ?_
    refine s_icmp_gt (tgt := 23) (n := 9) hX (dec_of D_X10_areTerms (i := 4) rfl) rfl rfl ?_ ?_
    · refine s_iconst (v := 0) (n := 24) hX (dec_of D_X10_areTerms (i := 13) rfl) rfl (by decide) ?_
      exact s_zret hX hR (dec_of D_X10_areTerms (i := 14) rfl) rfl rfl
    · refine s_iload_n 1 (n := 10) hX (dec_of D_X10_areTerms (i := 5) rfl) rfl rfl rfl ?_
      refine s_iconst (v := 1) (n := 11) hX (dec_of D_X10_areTerms (i := 6) rfl) rfl (by decide) ?_
      refine s_icmp_lt (tgt := 23) (n := 14) hX (dec_of D_X10_areTerms (i := 7) rfl) rfl rfl ?_ ?_
      · refine s_iconst (v := 0) (n := 24) hX (dec_of D_X10_areTerms (i := 13) rfl) rfl (by decide) ?_
        exact s_zret hX hR (dec_of D_X10_areTerms (i := 14) rfl) rfl rfl
      · refine s_iload_n 1 (n := 15) hX (dec_of D_X10_areTerms (i := 8) rfl) rfl rfl rfl ?_
        refine s_iconst (v := 3) (n := 16) hX (dec_of D_X10_areTerms (i := 9) rfl) rfl (by decide) ?_
        refine s_icmp_gt (tgt := 23) (n := 19) hX (dec_of D_X10_areTerms (i := 10) rfl) rfl rfl ?_ ?_
        · refine s_iconst (v := 0) (n := 24) hX (dec_of D_X10_areTerms (i := 13) rfl) rfl (by decide) ?_
          exact s_zret hX hR (dec_of D_X10_areTerms (i := 14) rfl) rfl rfl
        · refine s_iconst (v := 1) (n := 20) hX (dec_of D_X10_areTerms (i := 11) rfl) rfl (by decide) ?_
          refine s_goto (n := 24) hX (dec_of D_X10_areTerms (i := 12) rfl) rfl ?_
          exact s_zret hX hR (dec_of D_X10_areTerms (i := 14) rfl) rfl rfl
def T_X10_paidIn : List (Nat × Instr × Nat) := [(0, .aload_n 0, 1), (1, .getfield 28, 3), (4, .iconst 0, 1), (5, .bipush 6, 2), (7, .iload_n 1, 1), (8, .imul, 1), (9, .iadd, 1), (10, .iload_n 2, 1), (11, .iadd, 1), (12, .iaload, 1), (13, .ireturn, 1)]
theorem D_X10_paidIn : dchk cX10_paidIn T_X10_paidIn = true := by decide +kernel
def Mo_paidIn (σ : ST) (a1 : Int32) (a2 : Int32) : Option Int32 :=
  bd_ (ldI σ 34 0 ((0 + (6 * a1)) + a2)) (fun v1 => some v1)
set_option maxHeartbeats 4000000 in
set_option maxRecDepth 100000 in
theorem c_X10_paidIn {G : GW} (hG : Good G) {l : Launch} (σ : ST) (a1 : Int32) (a2 : Int32) : Ctr G l yX10_paidIn cX10_paidIn 3 (some .int) 0 [.ref (ga G 131 0), .int a1, .int a2] σ (oI σ) (Mo_paidIn σ a1 a2) := by
  refine ctr_of hG (by decide) (Nat.le_of_ble_eq_true rfl) ?_
  intro X hXl hR hX
  have hX : Ok G X cX10_paidIn 3 RX10 0 := hX
  unfold Mo_paidIn
  show Sim G X 3 (MQX G X (oI σ)) σ 0 [(0, .ref (ga G 131 0)), (1, .int a1), (2, .int a2)] [] _
  refine s_aload_n 0 (n := 1) hX (dec_of D_X10_paidIn (i := 0) rfl) rfl rfl rfl ?_
  refine s_getR (c := 10) (p := 14) (k' := 34) (n := 4) hX cls10 (vk131 (by omega)) (dec_of D_X10_paidIn (i := 1) rfl) rfl rfl wd_1360 ?_
  refine s_iconst (v := 0) (n := 5) hX (dec_of D_X10_paidIn (i := 2) rfl) rfl (by decide) ?_
  refine s_bipush (v := 6) (n := 7) hX (dec_of D_X10_paidIn (i := 3) rfl) rfl (by decide) ?_
  refine s_iload_n 1 (n := 8) hX (dec_of D_X10_paidIn (i := 4) rfl) rfl rfl rfl ?_
  refine s_imul (n := 9) hX (dec_of D_X10_paidIn (i := 5) rfl) rfl ?_
  refine s_iadd (n := 10) hX (dec_of D_X10_paidIn (i := 6) rfl) rfl ?_
  refine s_iload_n 2 (n := 11) hX (dec_of D_X10_paidIn (i := 7) rfl) rfl rfl rfl ?_
  refine s_iadd (n := 12) hX (dec_of D_X10_paidIn (i := 8) rfl) rfl ?_
  refine s_iald (n := 13) hX (vk34 (by omega)) (by decide) (dec_of D_X10_paidIn (i := 9) rfl) rfl (fun v1 => ?_)
  exact s_iret hX hR (dec_of D_X10_paidIn (i := 10) rfl) rfl
def T_X10_weightIn : List (Nat × Instr × Nat) := [(0, .aload_n 0, 1), (1, .getfield 28, 3), (4, .bipush 96, 2), (6, .bipush 6, 2), (8, .iload_n 1, 1), (9, .imul, 1), (10, .iadd, 1), (11, .iload_n 2, 1), (12, .iadd, 1), (13, .iaload, 1), (14, .ireturn, 1)]
theorem D_X10_weightIn : dchk cX10_weightIn T_X10_weightIn = true := by decide +kernel
def Mo_weightIn (σ : ST) (a1 : Int32) (a2 : Int32) : Option Int32 :=
  bd_ (ldI σ 34 0 ((96 + (6 * a1)) + a2)) (fun v1 => some v1)
set_option maxHeartbeats 4000000 in
set_option maxRecDepth 100000 in
theorem c_X10_weightIn {G : GW} (hG : Good G) {l : Launch} (σ : ST) (a1 : Int32) (a2 : Int32) : Ctr G l yX10_weightIn cX10_weightIn 3 (some .int) 0 [.ref (ga G 131 0), .int a1, .int a2] σ (oI σ) (Mo_weightIn σ a1 a2) := by
  refine ctr_of hG (by decide) (Nat.le_of_ble_eq_true rfl) ?_
  intro X hXl hR hX
  have hX : Ok G X cX10_weightIn 3 RX10 0 := hX
  unfold Mo_weightIn
  show Sim G X 3 (MQX G X (oI σ)) σ 0 [(0, .ref (ga G 131 0)), (1, .int a1), (2, .int a2)] [] _
  refine s_aload_n 0 (n := 1) hX (dec_of D_X10_weightIn (i := 0) rfl) rfl rfl rfl ?_
  refine s_getR (c := 10) (p := 14) (k' := 34) (n := 4) hX cls10 (vk131 (by omega)) (dec_of D_X10_weightIn (i := 1) rfl) rfl rfl wd_1360 ?_
  refine s_bipush (v := 96) (n := 6) hX (dec_of D_X10_weightIn (i := 2) rfl) rfl (by decide) ?_
  refine s_bipush (v := 6) (n := 8) hX (dec_of D_X10_weightIn (i := 3) rfl) rfl (by decide) ?_
  refine s_iload_n 1 (n := 9) hX (dec_of D_X10_weightIn (i := 4) rfl) rfl rfl rfl ?_
  refine s_imul (n := 10) hX (dec_of D_X10_weightIn (i := 5) rfl) rfl ?_
  refine s_iadd (n := 11) hX (dec_of D_X10_weightIn (i := 6) rfl) rfl ?_
  refine s_iload_n 2 (n := 12) hX (dec_of D_X10_weightIn (i := 7) rfl) rfl rfl rfl ?_
  refine s_iadd (n := 13) hX (dec_of D_X10_weightIn (i := 8) rfl) rfl ?_
  refine s_iald (n := 14) hX (vk34 (by omega)) (by decide) (dec_of D_X10_weightIn (i := 9) rfl) rfl (fun v1 => ?_)
  exact s_iret hX hR (dec_of D_X10_weightIn (i := 10) rfl) rfl
def T_X10_keptAt : List (Nat × Instr × Nat) := [(0, .sipush 204, 3), (3, .bipush 9, 2), (5, .iconst 5, 1), (6, .bipush 8, 2), (8, .iload_n 0, 1), (9, .imul, 1), (10, .iload_n 1, 1), (11, .iadd, 1), (12, .imul, 1), (13, .iload_n 2, 1), (14, .iadd, 1), (15, .imul, 1), (16, .iadd, 1), (17, .ireturn, 1)]
theorem D_X10_keptAt : dchk cX10_keptAt T_X10_keptAt = true := by decide +kernel
def Mo_keptAt (σ : ST) (a0 : Int32) (a1 : Int32) (a2 : Int32) : Option Int32 :=
  some (204 + (9 * ((5 * ((8 * a0) + a1)) + a2)))
set_option maxHeartbeats 4000000 in
set_option maxRecDepth 100000 in
theorem c_X10_keptAt {G : GW} (hG : Good G) {l : Launch} (σ : ST) (a0 : Int32) (a1 : Int32) (a2 : Int32) : Ctr G l yX10_keptAt cX10_keptAt 3 (some .int) 0 [.int a0, .int a1, .int a2] σ (oI σ) (Mo_keptAt σ a0 a1 a2) := by
  refine ctr_of hG (by decide) (Nat.le_of_ble_eq_true rfl) ?_
  intro X hXl hR hX
  have hX : Ok G X cX10_keptAt 3 RX10 0 := hX
  unfold Mo_keptAt
  show Sim G X 3 (MQX G X (oI σ)) σ 0 [(0, .int a0), (1, .int a1), (2, .int a2)] [] _
  refine s_sipush (v := 204) (n := 3) hX (dec_of D_X10_keptAt (i := 0) rfl) rfl (by decide) ?_
  refine s_bipush (v := 9) (n := 5) hX (dec_of D_X10_keptAt (i := 1) rfl) rfl (by decide) ?_
  refine s_iconst (v := 5) (n := 6) hX (dec_of D_X10_keptAt (i := 2) rfl) rfl (by decide) ?_
  refine s_bipush (v := 8) (n := 8) hX (dec_of D_X10_keptAt (i := 3) rfl) rfl (by decide) ?_
  refine s_iload_n 0 (n := 9) hX (dec_of D_X10_keptAt (i := 4) rfl) rfl rfl rfl ?_
  refine s_imul (n := 10) hX (dec_of D_X10_keptAt (i := 5) rfl) rfl ?_
  refine s_iload_n 1 (n := 11) hX (dec_of D_X10_keptAt (i := 6) rfl) rfl rfl rfl ?_
  refine s_iadd (n := 12) hX (dec_of D_X10_keptAt (i := 7) rfl) rfl ?_
  refine s_imul (n := 13) hX (dec_of D_X10_keptAt (i := 8) rfl) rfl ?_
  refine s_iload_n 2 (n := 14) hX (dec_of D_X10_keptAt (i := 9) rfl) rfl rfl rfl ?_
  refine s_iadd (n := 15) hX (dec_of D_X10_keptAt (i := 10) rfl) rfl ?_
  refine s_imul (n := 16) hX (dec_of D_X10_keptAt (i := 11) rfl) rfl ?_
  refine s_iadd (n := 17) hX (dec_of D_X10_keptAt (i := 12) rfl) rfl ?_
  exact s_iret hX hR (dec_of D_X10_keptAt (i := 13) rfl) rfl
def T_X10_lapsedAt : List (Nat × Instr × Nat) := [(0, .sipush 2364, 3), (3, .iconst 5, 1), (4, .bipush 8, 2), (6, .iload_n 0, 1), (7, .imul, 1), (8, .iload_n 1, 1), (9, .iadd, 1), (10, .imul, 1), (11, .iadd, 1), (12, .iload_n 2, 1), (13, .iadd, 1), (14, .ireturn, 1)]
theorem D_X10_lapsedAt : dchk cX10_lapsedAt T_X10_lapsedAt = true := by decide +kernel
def Mo_lapsedAt (σ : ST) (a0 : Int32) (a1 : Int32) (a2 : Int32) : Option Int32 :=
  some ((2364 + (5 * ((8 * a0) + a1))) + a2)
set_option maxHeartbeats 4000000 in
set_option maxRecDepth 100000 in
theorem c_X10_lapsedAt {G : GW} (hG : Good G) {l : Launch} (σ : ST) (a0 : Int32) (a1 : Int32) (a2 : Int32) : Ctr G l yX10_lapsedAt cX10_lapsedAt 3 (some .int) 0 [.int a0, .int a1, .int a2] σ (oI σ) (Mo_lapsedAt σ a0 a1 a2) := by
  refine ctr_of hG (by decide) (Nat.le_of_ble_eq_true rfl) ?_
  intro X hXl hR hX
  have hX : Ok G X cX10_lapsedAt 3 RX10 0 := hX
  unfold Mo_lapsedAt
  show Sim G X 3 (MQX G X (oI σ)) σ 0 [(0, .int a0), (1, .int a1), (2, .int a2)] [] _
  refine s_sipush (v := 2364) (n := 3) hX (dec_of D_X10_lapsedAt (i := 0) rfl) rfl (by decide) ?_
  refine s_iconst (v := 5) (n := 4) hX (dec_of D_X10_lapsedAt (i := 1) rfl) rfl (by decide) ?_
  refine s_bipush (v := 8) (n := 6) hX (dec_of D_X10_lapsedAt (i := 2) rfl) rfl (by decide) ?_
  refine s_iload_n 0 (n := 7) hX (dec_of D_X10_lapsedAt (i := 3) rfl) rfl rfl rfl ?_
  refine s_imul (n := 8) hX (dec_of D_X10_lapsedAt (i := 4) rfl) rfl ?_
  refine s_iload_n 1 (n := 9) hX (dec_of D_X10_lapsedAt (i := 5) rfl) rfl rfl rfl ?_
  refine s_iadd (n := 10) hX (dec_of D_X10_lapsedAt (i := 6) rfl) rfl ?_
  refine s_imul (n := 11) hX (dec_of D_X10_lapsedAt (i := 7) rfl) rfl ?_
  refine s_iadd (n := 12) hX (dec_of D_X10_lapsedAt (i := 8) rfl) rfl ?_
  refine s_iload_n 2 (n := 13) hX (dec_of D_X10_lapsedAt (i := 9) rfl) rfl rfl rfl ?_
  refine s_iadd (n := 14) hX (dec_of D_X10_lapsedAt (i := 10) rfl) rfl ?_
  exact s_iret hX hR (dec_of D_X10_lapsedAt (i := 11) rfl) rfl
def T_X10_owner : List (Nat × Instr × Nat) := [(0, .aload_n 0, 1), (1, .getfield 28, 3), (4, .sipush 2604, 3), (7, .iconst 5, 1), (8, .iload_n 1, 1), (9, .imul, 1), (10, .iadd, 1), (11, .iload_n 2, 1), (12, .iadd, 1), (13, .iaload, 1), (14, .ireturn, 1)]
theorem D_X10_owner : dchk cX10_owner T_X10_owner = true := by decide +kernel
def Mo_owner (σ : ST) (a1 : Int32) (a2 : Int32) : Option Int32 :=
  bd_ (ldI σ 34 0 ((2604 + (5 * a1)) + a2)) (fun v1 => some v1)
set_option maxHeartbeats 4000000 in
set_option maxRecDepth 100000 in
theorem c_X10_owner {G : GW} (hG : Good G) {l : Launch} (σ : ST) (a1 : Int32) (a2 : Int32) : Ctr G l yX10_owner cX10_owner 3 (some .int) 0 [.ref (ga G 131 0), .int a1, .int a2] σ (oI σ) (Mo_owner σ a1 a2) := by
  refine ctr_of hG (by decide) (Nat.le_of_ble_eq_true rfl) ?_
  intro X hXl hR hX
  have hX : Ok G X cX10_owner 3 RX10 0 := hX
  unfold Mo_owner
  show Sim G X 3 (MQX G X (oI σ)) σ 0 [(0, .ref (ga G 131 0)), (1, .int a1), (2, .int a2)] [] _
  refine s_aload_n 0 (n := 1) hX (dec_of D_X10_owner (i := 0) rfl) rfl rfl rfl ?_
  refine s_getR (c := 10) (p := 14) (k' := 34) (n := 4) hX cls10 (vk131 (by omega)) (dec_of D_X10_owner (i := 1) rfl) rfl rfl wd_1360 ?_
  refine s_sipush (v := 2604) (n := 7) hX (dec_of D_X10_owner (i := 2) rfl) rfl (by decide) ?_
  refine s_iconst (v := 5) (n := 8) hX (dec_of D_X10_owner (i := 3) rfl) rfl (by decide) ?_
  refine s_iload_n 1 (n := 9) hX (dec_of D_X10_owner (i := 4) rfl) rfl rfl rfl ?_
  refine s_imul (n := 10) hX (dec_of D_X10_owner (i := 5) rfl) rfl ?_
  refine s_iadd (n := 11) hX (dec_of D_X10_owner (i := 6) rfl) rfl ?_
  refine s_iload_n 2 (n := 12) hX (dec_of D_X10_owner (i := 7) rfl) rfl rfl rfl ?_
  refine s_iadd (n := 13) hX (dec_of D_X10_owner (i := 8) rfl) rfl ?_
  refine s_iald (n := 14) hX (vk34 (by omega)) (by decide) (dec_of D_X10_owner (i := 9) rfl) rfl (fun v1 => ?_)
  exact s_iret hX hR (dec_of D_X10_owner (i := 10) rfl) rfl
theorem lk_RX10_244 : LkS RX10 244 yX10_keptAt cX10_keptAt 3 (some .int) 3 := ⟨wd_1615, wd_1616, wd_93, wd_1617, by decide +kernel, by decide⟩
def T_X10_keptOf : List (Nat × Instr × Nat) := [(0, .iconst 0, 1), (1, .istore 4, 2), (3, .iconst 0, 1), (4, .istore 5, 2), (6, .iload 5, 2), (8, .bipush 9, 2), (10, .if_icmp .ge 28, 3), (13, .iload 4, 2), (15, .aload_n 0, 1), (16, .getfield 28, 3), (19, .iload_n 1, 1), (20, .iload_n 2, 1), (21, .iload_n 3, 1), (22, .invokestatic 244, 3), (25, .iload 5, 2), (27, .iadd, 1), (28, .iaload, 1), (29, .iadd, 1), (30, .istore 4, 2), (32, .iinc 5 1, 3), (35, .goto (-29), 3), (38, .iload 4, 2), (40, .ireturn, 1)]
theorem D_X10_keptOf : dchk cX10_keptOf T_X10_keptOf = true := by decide +kernel
def Mo_keptOf (σ : ST) (a1 : Int32) (a2 : Int32) (a3 : Int32) : Option Int32 :=
  lp_ (fun rec2 (z1 : Int32 × Int32) => (if 9 ≤ z1.2 then some z1.1 else bd_ (Mo_keptAt (σ) a1 a2 a3) (fun q4 => bd_ (ldI σ 34 0 (q4 + z1.2)) (fun v5 => lt_ ((z1.1 + v5)) (fun x6 => rec2 (x6, (z1.2 + 1))))))) FU (0, 0)
set_option maxHeartbeats 4000000 in
set_option maxRecDepth 100000 in
theorem c_X10_keptOf {G : GW} (hG : Good G) {l : Launch} (σ : ST) (a1 : Int32) (a2 : Int32) (a3 : Int32) : Ctr G l yX10_keptOf cX10_keptOf 6 (some .int) 1 [.ref (ga G 131 0), .int a1, .int a2, .int a3] σ (oI σ) (Mo_keptOf σ a1 a2 a3) := by
  refine ctr_of hG (by decide) (Nat.le_of_ble_eq_true rfl) ?_
  intro X hXl hR hX
  have hX : Ok G X cX10_keptOf 6 RX10 1 := hX
  unfold Mo_keptOf
  show Sim G X 6 (MQX G X (oI σ)) σ 0 [(0, .ref (ga G 131 0)), (1, .int a1), (2, .int a2), (3, .int a3)] [] _
  refine s_iconst (v := 0) (n := 1) hX (dec_of D_X10_keptOf (i := 0) rfl) rfl (by decide) ?_
  refine s_istore (lv' := [(0, _), (1, _), (2, _), (3, _), (4, _)]) [1, 2, 3, 4, 0] (n := 3) hX (dec_of D_X10_keptOf (i := 1) rfl) rfl (by decide) rfl ?_
  refine s_iconst (v := 0) (n := 4) hX (dec_of D_X10_keptOf (i := 2) rfl) rfl (by decide) ?_
  refine s_istore (lv' := [(0, _), (1, _), (2, _), (3, _), (4, _), (5, _)]) [1, 2, 3, 4, 5, 0] (n := 6) hX (dec_of D_X10_keptOf (i := 3) rfl) rfl (by decide) rfl ?_
  refine s_sub [0, 1, 2, 3, 4, 5] rfl (s_lp (pc := 6) (Sf := fun (z1 : Int32 × Int32) => σ) (lvf := fun (z1 : Int32 × Int32) => [(0, .ref (ga G 131 0)), (1, .int a1), (2, .int a2), (3, .int a3), (4, .int z1.1), (5, .int z1.2)]) (fun rec2 hre3 z1 => ?_) FU (0, 0))
  refine s_iload 5 (n := 8) hX (dec_of D_X10_keptOf (i := 4) rfl) rfl rfl ?_
  refine s_bipush (v := 9) (n := 10) hX (dec_of D_X10_keptOf (i := 5) rfl) rfl (by decide) ?_
  refine s_icmp_ge (tgt := 38) (n := 13) hX (dec_of D_X10_keptOf (i := 6) rfl) rfl rfl ?_ ?_
  · refine s_iload 4 (n := 40) hX (dec_of D_X10_keptOf (i := 21) rfl) rfl rfl ?_
    exact s_iret hX hR (dec_of D_X10_keptOf (i := 22) rfl) rfl
  · refine s_iload 4 (n := 15) hX (dec_of D_X10_keptOf (i := 7) rfl) rfl rfl ?_
    refine s_aload_n 0 (n := 16) hX (dec_of D_X10_keptOf (i := 8) rfl) rfl rfl rfl ?_
    refine s_getR (c := 10) (p := 14) (k' := 34) (n := 19) hX cls10 (vk131 (by omega)) (dec_of D_X10_keptOf (i := 9) rfl) rfl rfl wd_1360 ?_
    refine s_iload_n 1 (n := 20) hX (dec_of D_X10_keptOf (i := 10) rfl) rfl rfl rfl ?_
    refine s_iload_n 2 (n := 21) hX (dec_of D_X10_keptOf (i := 11) rfl) rfl rfl rfl ?_
    refine s_iload_n 3 (n := 22) hX (dec_of D_X10_keptOf (i := 12) rfl) rfl rfl rfl ?_
    refine s_callSI (n := 25) hX lk_RX10_244 (dec_of D_X10_keptOf (i := 13) rfl) rfl (by decide) (c_X10_keptAt (l := _) hG _ _ _ _) rfl rfl (Nat.le_of_ble_eq_true rfl) (fun q4 => ?_)
    refine s_iload 5 (n := 27) hX (dec_of D_X10_keptOf (i := 14) rfl) rfl rfl ?_
    refine s_iadd (n := 28) hX (dec_of D_X10_keptOf (i := 15) rfl) rfl ?_
    refine s_iald (n := 29) hX (vk34 (by omega)) (by decide) (dec_of D_X10_keptOf (i := 16) rfl) rfl (fun v5 => ?_)
    refine s_iadd (n := 30) hX (dec_of D_X10_keptOf (i := 17) rfl) rfl ?_
    refine s_topi (fun x6 => ?_)
    refine s_istore (lv' := [(0, _), (1, _), (2, _), (3, _), (4, _), (5, _)]) [1, 2, 3, 4, 0, 5] (n := 32) hX (dec_of D_X10_keptOf (i := 18) rfl) rfl (by decide) rfl ?_
    refine s_iinc (v := z1.2 + 1) (lv' := [(0, _), (1, _), (2, _), (3, _), (4, _), (5, _)]) 5 [1, 2, 3, 4, 5, 0] (n := 35) hX (dec_of D_X10_keptOf (i := 19) rfl) rfl rfl rfl (by decide) rfl ?_
    refine s_goto (n := 6) hX (dec_of D_X10_keptOf (i := 20) rfl) rfl ?_
    exact s_sub [0, 1, 2, 3, 4, 5] rfl (hre3 (x6, (z1.2 + 1)))
theorem lk_RX10_248 : LkV RX10 248 RX10 yX10_paidIn cX10_paidIn 3 (some .int) 2 := ⟨wd_1607, wd_1609, wd_36, wd_93, wd_1610, by decide +kernel, by decide⟩
def T_X10_paidAll : List (Nat × Instr × Nat) := [(0, .iconst 0, 1), (1, .istore_n 2, 1), (2, .iconst 0, 1), (3, .istore_n 3, 1), (4, .iload_n 3, 1), (5, .bipush 6, 2), (7, .if_icmp .ge 18, 3), (10, .iload_n 2, 1), (11, .aload_n 0, 1), (12, .iload_n 1, 1), (13, .iload_n 3, 1), (14, .invokevirtual 248, 3), (17, .iadd, 1), (18, .istore_n 2, 1), (19, .iinc 3 1, 3), (22, .goto (-18), 3), (25, .iload_n 2, 1), (26, .ireturn, 1)]
theorem D_X10_paidAll : dchk cX10_paidAll T_X10_paidAll = true := by decide +kernel
def Mo_paidAll (σ : ST) (a1 : Int32) : Option Int32 :=
  lp_ (fun rec2 (z1 : Int32 × Int32) => (if 6 ≤ z1.2 then some z1.1 else bd_ (Mo_paidIn (σ) a1 z1.2) (fun q4 => lt_ ((z1.1 + q4)) (fun x5 => rec2 (x5, (z1.2 + 1)))))) FU (0, 0)
set_option maxHeartbeats 4000000 in
set_option maxRecDepth 100000 in
theorem c_X10_paidAll {G : GW} (hG : Good G) {l : Launch} (σ : ST) (a1 : Int32) : Ctr G l yX10_paidAll cX10_paidAll 4 (some .int) 1 [.ref (ga G 131 0), .int a1] σ (oI σ) (Mo_paidAll σ a1) := by
  refine ctr_of hG (by decide) (Nat.le_of_ble_eq_true rfl) ?_
  intro X hXl hR hX
  have hX : Ok G X cX10_paidAll 4 RX10 1 := hX
  unfold Mo_paidAll
  show Sim G X 4 (MQX G X (oI σ)) σ 0 [(0, .ref (ga G 131 0)), (1, .int a1)] [] _
  refine s_iconst (v := 0) (n := 1) hX (dec_of D_X10_paidAll (i := 0) rfl) rfl (by decide) ?_
  refine s_istore_n (lv' := [(0, _), (1, _), (2, _)]) [1, 2, 0] (n := 2) hX (dec_of D_X10_paidAll (i := 1) rfl) rfl rfl (by decide) rfl ?_
  refine s_iconst (v := 0) (n := 3) hX (dec_of D_X10_paidAll (i := 2) rfl) rfl (by decide) ?_
  refine s_istore_n (lv' := [(0, _), (1, _), (2, _), (3, _)]) [1, 2, 3, 0] (n := 4) hX (dec_of D_X10_paidAll (i := 3) rfl) rfl rfl (by decide) rfl ?_
  refine s_sub [0, 1, 2, 3] rfl (s_lp (pc := 4) (Sf := fun (z1 : Int32 × Int32) => σ) (lvf := fun (z1 : Int32 × Int32) => [(0, .ref (ga G 131 0)), (1, .int a1), (2, .int z1.1), (3, .int z1.2)]) (fun rec2 hre3 z1 => ?_) FU (0, 0))
  refine s_iload_n 3 (n := 5) hX (dec_of D_X10_paidAll (i := 4) rfl) rfl rfl rfl ?_
  refine s_bipush (v := 6) (n := 7) hX (dec_of D_X10_paidAll (i := 5) rfl) rfl (by decide) ?_
  refine s_icmp_ge (tgt := 25) (n := 10) hX (dec_of D_X10_paidAll (i := 6) rfl) rfl rfl ?_ ?_
  · refine s_iload_n 2 (n := 26) hX (dec_of D_X10_paidAll (i := 16) rfl) rfl rfl rfl ?_
    exact s_iret hX hR (dec_of D_X10_paidAll (i := 17) rfl) rfl
  · refine s_iload_n 2 (n := 11) hX (dec_of D_X10_paidAll (i := 7) rfl) rfl rfl rfl ?_
    refine s_aload_n 0 (n := 12) hX (dec_of D_X10_paidAll (i := 8) rfl) rfl rfl rfl ?_
    refine s_iload_n 1 (n := 13) hX (dec_of D_X10_paidAll (i := 9) rfl) rfl rfl rfl ?_
    refine s_iload_n 3 (n := 14) hX (dec_of D_X10_paidAll (i := 10) rfl) rfl rfl rfl ?_
    refine s_callVI (c := 10) (n := 17) hX cls10 (vk131 (by omega)) lk_RX10_248 (dec_of D_X10_paidAll (i := 11) rfl) rfl (by decide) (c_X10_paidIn (l := _) hG _ _ _) rfl rfl (Nat.le_of_ble_eq_true rfl) (fun q4 => ?_)
    refine s_iadd (n := 18) hX (dec_of D_X10_paidAll (i := 12) rfl) rfl ?_
    refine s_topi (fun x5 => ?_)
    refine s_istore_n (lv' := [(0, _), (1, _), (2, _), (3, _)]) [1, 2, 0, 3] (n := 19) hX (dec_of D_X10_paidAll (i := 13) rfl) rfl rfl (by decide) rfl ?_
    refine s_iinc (v := z1.2 + 1) (lv' := [(0, _), (1, _), (2, _), (3, _)]) 3 [1, 2, 3, 0] (n := 22) hX (dec_of D_X10_paidAll (i := 14) rfl) rfl rfl rfl (by decide) rfl ?_
    refine s_goto (n := 4) hX (dec_of D_X10_paidAll (i := 15) rfl) rfl ?_
    exact s_sub [0, 1, 2, 3] rfl (hre3 (x5, (z1.2 + 1)))
theorem lk_RX10_251 : LkV RX10 251 RX10 yX10_weightIn cX10_weightIn 3 (some .int) 2 := ⟨wd_1634, wd_1636, wd_41, wd_93, wd_1637, by decide +kernel, by decide⟩
def T_X10_weightAll : List (Nat × Instr × Nat) := [(0, .iconst 0, 1), (1, .istore_n 2, 1), (2, .iconst 0, 1), (3, .istore_n 3, 1), (4, .iload_n 3, 1), (5, .bipush 6, 2), (7, .if_icmp .ge 18, 3), (10, .iload_n 2, 1), (11, .aload_n 0, 1), (12, .iload_n 1, 1), (13, .iload_n 3, 1), (14, .invokevirtual 251, 3), (17, .iadd, 1), (18, .istore_n 2, 1), (19, .iinc 3 1, 3), (22, .goto (-18), 3), (25, .iload_n 2, 1), (26, .ireturn, 1)]
theorem D_X10_weightAll : dchk cX10_weightAll T_X10_weightAll = true := by decide +kernel
def Mo_weightAll (σ : ST) (a1 : Int32) : Option Int32 :=
  lp_ (fun rec2 (z1 : Int32 × Int32) => (if 6 ≤ z1.2 then some z1.1 else bd_ (Mo_weightIn (σ) a1 z1.2) (fun q4 => lt_ ((z1.1 + q4)) (fun x5 => rec2 (x5, (z1.2 + 1)))))) FU (0, 0)
set_option maxHeartbeats 4000000 in
set_option maxRecDepth 100000 in
theorem c_X10_weightAll {G : GW} (hG : Good G) {l : Launch} (σ : ST) (a1 : Int32) : Ctr G l yX10_weightAll cX10_weightAll 4 (some .int) 1 [.ref (ga G 131 0), .int a1] σ (oI σ) (Mo_weightAll σ a1) := by
  refine ctr_of hG (by decide) (Nat.le_of_ble_eq_true rfl) ?_
  intro X hXl hR hX
  have hX : Ok G X cX10_weightAll 4 RX10 1 := hX
  unfold Mo_weightAll
  show Sim G X 4 (MQX G X (oI σ)) σ 0 [(0, .ref (ga G 131 0)), (1, .int a1)] [] _
  refine s_iconst (v := 0) (n := 1) hX (dec_of D_X10_weightAll (i := 0) rfl) rfl (by decide) ?_
  refine s_istore_n (lv' := [(0, _), (1, _), (2, _)]) [1, 2, 0] (n := 2) hX (dec_of D_X10_weightAll (i := 1) rfl) rfl rfl (by decide) rfl ?_
  refine s_iconst (v := 0) (n := 3) hX (dec_of D_X10_weightAll (i := 2) rfl) rfl (by decide) ?_
  refine s_istore_n (lv' := [(0, _), (1, _), (2, _), (3, _)]) [1, 2, 3, 0] (n := 4) hX (dec_of D_X10_weightAll (i := 3) rfl) rfl rfl (by decide) rfl ?_
  refine s_sub [0, 1, 2, 3] rfl (s_lp (pc := 4) (Sf := fun (z1 : Int32 × Int32) => σ) (lvf := fun (z1 : Int32 × Int32) => [(0, .ref (ga G 131 0)), (1, .int a1), (2, .int z1.1), (3, .int z1.2)]) (fun rec2 hre3 z1 => ?_) FU (0, 0))
  refine s_iload_n 3 (n := 5) hX (dec_of D_X10_weightAll (i := 4) rfl) rfl rfl rfl ?_
  refine s_bipush (v := 6) (n := 7) hX (dec_of D_X10_weightAll (i := 5) rfl) rfl (by decide) ?_
  refine s_icmp_ge (tgt := 25) (n := 10) hX (dec_of D_X10_weightAll (i := 6) rfl) rfl rfl ?_ ?_
  · refine s_iload_n 2 (n := 26) hX (dec_of D_X10_weightAll (i := 16) rfl) rfl rfl rfl ?_
    exact s_iret hX hR (dec_of D_X10_weightAll (i := 17) rfl) rfl
  · refine s_iload_n 2 (n := 11) hX (dec_of D_X10_weightAll (i := 7) rfl) rfl rfl rfl ?_
    refine s_aload_n 0 (n := 12) hX (dec_of D_X10_weightAll (i := 8) rfl) rfl rfl rfl ?_
    refine s_iload_n 1 (n := 13) hX (dec_of D_X10_weightAll (i := 9) rfl) rfl rfl rfl ?_
    refine s_iload_n 3 (n := 14) hX (dec_of D_X10_weightAll (i := 10) rfl) rfl rfl rfl ?_
    refine s_callVI (c := 10) (n := 17) hX cls10 (vk131 (by omega)) lk_RX10_251 (dec_of D_X10_weightAll (i := 11) rfl) rfl (by decide) (c_X10_weightIn (l := _) hG _ _ _) rfl rfl (Nat.le_of_ble_eq_true rfl) (fun q4 => ?_)
    refine s_iadd (n := 18) hX (dec_of D_X10_weightAll (i := 12) rfl) rfl ?_
    refine s_topi (fun x5 => ?_)
    refine s_istore_n (lv' := [(0, _), (1, _), (2, _), (3, _)]) [1, 2, 0, 3] (n := 19) hX (dec_of D_X10_weightAll (i := 13) rfl) rfl rfl (by decide) rfl ?_
    refine s_iinc (v := z1.2 + 1) (lv' := [(0, _), (1, _), (2, _), (3, _)]) 3 [1, 2, 3, 0] (n := 22) hX (dec_of D_X10_weightAll (i := 14) rfl) rfl rfl rfl (by decide) rfl ?_
    refine s_goto (n := 4) hX (dec_of D_X10_weightAll (i := 15) rfl) rfl ?_
    exact s_sub [0, 1, 2, 3] rfl (hre3 (x5, (z1.2 + 1)))
theorem lk_RX10_254 : LkV RX10 254 RX10 yX10_owner cX10_owner 3 (some .int) 2 := ⟨wd_1642, wd_1644, wd_43, wd_93, wd_1645, by decide +kernel, by decide⟩
def T_X10_roleOf : List (Nat × Instr × Nat) := [(0, .iconst 0, 1), (1, .istore_n 3, 1), (2, .iload_n 3, 1), (3, .aload_n 0, 1), (4, .getfield 22, 3), (7, .iload_n 2, 1), (8, .iaload, 1), (9, .if_icmp .ge 36, 3), (12, .aload_n 0, 1), (13, .getfield 16, 3), (16, .bipush 8, 2), (18, .iload_n 2, 1), (19, .imul, 1), (20, .iload_n 3, 1), (21, .iadd, 1), (22, .iaload, 1), (23, .iload_n 1, 1), (24, .if_icmp .ne 15, 3), (27, .aload_n 0, 1), (28, .getfield 19, 3), (31, .bipush 8, 2), (33, .iload_n 2, 1), (34, .imul, 1), (35, .iload_n 3, 1), (36, .iadd, 1), (37, .iaload, 1), (38, .ireturn, 1), (39, .iinc 3 1, 3), (42, .goto (-40), 3), (45, .iconst 0, 1), (46, .istore_n 3, 1), (47, .iload_n 3, 1), (48, .aload_n 0, 1), (49, .getfield 25, 3), (52, .iload_n 2, 1), (53, .iaload, 1), (54, .if_icmp .ge 21, 3), (57, .aload_n 0, 1), (58, .iload_n 2, 1), (59, .iload_n 3, 1), (60, .invokevirtual 254, 3), (63, .iload_n 1, 1), (64, .if_icmp .ne 5, 3), (67, .iconst 2, 1), (68, .ireturn, 1), (69, .iinc 3 1, 3), (72, .goto (-25), 3), (75, .bipush (-2), 2), (77, .ireturn, 1)]
theorem D_X10_roleOf : dchk cX10_roleOf T_X10_roleOf = true := by decide +kernel
def Mo_roleOf (σ : ST) (a1 : Int32) (a2 : Int32) : Option Int32 :=
  lp_ (fun rec2 (z1 : Int32) => bd_ (ldI σ 32 0 a2) (fun v4 => (if v4 ≤ z1 then lp_ (fun rec6 (z5 : Int32) => bd_ (ldI σ 33 0 a2) (fun v8 => (if v8 ≤ z5 then some (-2) else bd_ (Mo_owner (σ) a2 z5) (fun q9 => (if q9 = a1 then some 2 else rec6 (z5 + 1)))))) FU 0 else bd_ (ldI σ 30 0 ((8 * a2) + z1)) (fun v10 => (if v10 = a1 then bd_ (ldI σ 31 0 ((8 * a2) + z1)) (fun v11 => some v11) else rec2 (z1 + 1)))))) FU 0
set_option maxHeartbeats 4000000 in
set_option maxRecDepth 100000 in
theorem c_X10_roleOf {G : GW} (hG : Good G) {l : Launch} (σ : ST) (a1 : Int32) (a2 : Int32) : Ctr G l yX10_roleOf cX10_roleOf 4 (some .int) 1 [.ref (ga G 131 0), .int a1, .int a2] σ (oI σ) (Mo_roleOf σ a1 a2) := by
  refine ctr_of hG (by decide) (Nat.le_of_ble_eq_true rfl) ?_
  intro X hXl hR hX
  have hX : Ok G X cX10_roleOf 4 RX10 1 := hX
  unfold Mo_roleOf
  show Sim G X 4 (MQX G X (oI σ)) σ 0 [(0, .ref (ga G 131 0)), (1, .int a1), (2, .int a2)] [] _
  refine s_iconst (v := 0) (n := 1) hX (dec_of D_X10_roleOf (i := 0) rfl) rfl (by decide) ?_
  refine s_istore_n (lv' := [(0, _), (1, _), (2, _), (3, _)]) [1, 2, 3, 0] (n := 2) hX (dec_of D_X10_roleOf (i := 1) rfl) rfl rfl (by decide) rfl ?_
  refine s_sub [0, 1, 2, 3] rfl (s_lp (pc := 2) (Sf := fun (z1 : Int32) => σ) (lvf := fun (z1 : Int32) => [(0, .ref (ga G 131 0)), (1, .int a1), (2, .int a2), (3, .int z1)]) (fun rec2 hre3 z1 => ?_) FU 0)
  refine s_iload_n 3 (n := 3) hX (dec_of D_X10_roleOf (i := 2) rfl) rfl rfl rfl ?_
  refine s_aload_n 0 (n := 4) hX (dec_of D_X10_roleOf (i := 3) rfl) rfl rfl rfl ?_
  refine s_getR (c := 10) (p := 6) (k' := 32) (n := 7) hX cls10 (vk131 (by omega)) (dec_of D_X10_roleOf (i := 4) rfl) rfl rfl wd_1352 ?_
  refine s_iload_n 2 (n := 8) hX (dec_of D_X10_roleOf (i := 5) rfl) rfl rfl rfl ?_
  refine s_iald (n := 9) hX (vk32 (by omega)) (by decide) (dec_of D_X10_roleOf (i := 6) rfl) rfl (fun v4 => ?_)
  refine s_icmp_ge (tgt := 45) (n := 12) hX (dec_of D_X10_roleOf (i := 7) rfl) rfl rfl ?_ ?_
  · refine s_iconst (v := 0) (n := 46) hX (dec_of D_X10_roleOf (i := 29) rfl) rfl (by decide) ?_
    refine s_istore_n (lv' := [(0, _), (1, _), (2, _), (3, _)]) [1, 2, 3, 0] (n := 47) hX (dec_of D_X10_roleOf (i := 30) rfl) rfl rfl (by decide) rfl ?_
    refine s_sub [0, 1, 2, 3] rfl (s_lp (pc := 47) (Sf := fun (z5 : Int32) => σ) (lvf := fun (z5 : Int32) => [(0, .ref (ga G 131 0)), (1, .int a1), (2, .int a2), (3, .int z5)]) (fun rec6 hre7 z5 => ?_) FU 0)
    refine s_iload_n 3 (n := 48) hX (dec_of D_X10_roleOf (i := 31) rfl) rfl rfl rfl ?_
    refine s_aload_n 0 (n := 49) hX (dec_of D_X10_roleOf (i := 32) rfl) rfl rfl rfl ?_
    refine s_getR (c := 10) (p := 7) (k' := 33) (n := 52) hX cls10 (vk131 (by omega)) (dec_of D_X10_roleOf (i := 33) rfl) rfl rfl wd_1353 ?_
    refine s_iload_n 2 (n := 53) hX (dec_of D_X10_roleOf (i := 34) rfl) rfl rfl rfl ?_
    refine s_iald (n := 54) hX (vk33 (by omega)) (by decide) (dec_of D_X10_roleOf (i := 35) rfl) rfl (fun v8 => ?_)
    refine s_icmp_ge (tgt := 75) (n := 57) hX (dec_of D_X10_roleOf (i := 36) rfl) rfl rfl ?_ ?_
    · refine s_bipush (v := (-2)) (n := 77) hX (dec_of D_X10_roleOf (i := 47) rfl) rfl (by decide) ?_
      exact s_iret hX hR (dec_of D_X10_roleOf (i := 48) rfl) rfl
    · refine s_aload_n 0 (n := 58) hX (dec_of D_X10_roleOf (i := 37) rfl) rfl rfl rfl ?_
      refine s_iload_n 2 (n := 59) hX (dec_of D_X10_roleOf (i := 38) rfl) rfl rfl rfl ?_
      refine s_iload_n 3 (n := 60) hX (dec_of D_X10_roleOf (i := 39) rfl) rfl rfl rfl ?_
      refine s_callVI (c := 10) (n := 63) hX cls10 (vk131 (by omega)) lk_RX10_254 (dec_of D_X10_roleOf (i := 40) rfl) rfl (by decide) (c_X10_owner (l := _) hG _ _ _) rfl rfl (Nat.le_of_ble_eq_true rfl) (fun q9 => ?_)
      refine s_iload_n 1 (n := 64) hX (dec_of D_X10_roleOf (i := 41) rfl) rfl rfl rfl ?_
      refine s_icmp_ne (tgt := 69) (n := 67) hX (dec_of D_X10_roleOf (i := 42) rfl) rfl rfl ?_ ?_
      · refine s_iinc (v := z5 + 1) (lv' := [(0, _), (1, _), (2, _), (3, _)]) 3 [1, 2, 3, 0] (n := 72) hX (dec_of D_X10_roleOf (i := 45) rfl) rfl rfl rfl (by decide) rfl ?_
        refine s_goto (n := 47) hX (dec_of D_X10_roleOf (i := 46) rfl) rfl ?_
        exact s_sub [0, 1, 2, 3] rfl (hre7 (z5 + 1))
      · refine s_iconst (v := 2) (n := 68) hX (dec_of D_X10_roleOf (i := 43) rfl) rfl (by decide) ?_
        exact s_iret hX hR (dec_of D_X10_roleOf (i := 44) rfl) rfl
  · refine s_aload_n 0 (n := 13) hX (dec_of D_X10_roleOf (i := 8) rfl) rfl rfl rfl ?_
    refine s_getR (c := 10) (p := 4) (k' := 30) (n := 16) hX cls10 (vk131 (by omega)) (dec_of D_X10_roleOf (i := 9) rfl) rfl rfl wd_1350 ?_
    refine s_bipush (v := 8) (n := 18) hX (dec_of D_X10_roleOf (i := 10) rfl) rfl (by decide) ?_
    refine s_iload_n 2 (n := 19) hX (dec_of D_X10_roleOf (i := 11) rfl) rfl rfl rfl ?_
    refine s_imul (n := 20) hX (dec_of D_X10_roleOf (i := 12) rfl) rfl ?_
    refine s_iload_n 3 (n := 21) hX (dec_of D_X10_roleOf (i := 13) rfl) rfl rfl rfl ?_
    refine s_iadd (n := 22) hX (dec_of D_X10_roleOf (i := 14) rfl) rfl ?_
    refine s_iald (n := 23) hX (vk30 (by omega)) (by decide) (dec_of D_X10_roleOf (i := 15) rfl) rfl (fun v10 => ?_)
    refine s_iload_n 1 (n := 24) hX (dec_of D_X10_roleOf (i := 16) rfl) rfl rfl rfl ?_
    refine s_icmp_ne (tgt := 39) (n := 27) hX (dec_of D_X10_roleOf (i := 17) rfl) rfl rfl ?_ ?_
    · refine s_iinc (v := z1 + 1) (lv' := [(0, _), (1, _), (2, _), (3, _)]) 3 [1, 2, 3, 0] (n := 42) hX (dec_of D_X10_roleOf (i := 27) rfl) rfl rfl rfl (by decide) rfl ?_
      refine s_goto (n := 2) hX (dec_of D_X10_roleOf (i := 28) rfl) rfl ?_
      exact s_sub [0, 1, 2, 3] rfl (hre3 (z1 + 1))
    · refine s_aload_n 0 (n := 28) hX (dec_of D_X10_roleOf (i := 18) rfl) rfl rfl rfl ?_
      refine s_getR (c := 10) (p := 5) (k' := 31) (n := 31) hX cls10 (vk131 (by omega)) (dec_of D_X10_roleOf (i := 19) rfl) rfl rfl wd_1351 ?_
      refine s_bipush (v := 8) (n := 33) hX (dec_of D_X10_roleOf (i := 20) rfl) rfl (by decide) ?_
      refine s_iload_n 2 (n := 34) hX (dec_of D_X10_roleOf (i := 21) rfl) rfl rfl rfl ?_
      refine s_imul (n := 35) hX (dec_of D_X10_roleOf (i := 22) rfl) rfl ?_
      refine s_iload_n 3 (n := 36) hX (dec_of D_X10_roleOf (i := 23) rfl) rfl rfl rfl ?_
      refine s_iadd (n := 37) hX (dec_of D_X10_roleOf (i := 24) rfl) rfl ?_
      refine s_iald (n := 38) hX (vk31 (by omega)) (by decide) (dec_of D_X10_roleOf (i := 25) rfl) rfl (fun v11 => ?_)
      exact s_iret hX hR (dec_of D_X10_roleOf (i := 26) rfl) rfl
def T_X10_doesPay : List (Nat × Instr × Nat) := [(0, .aload_n 0, 1), (1, .getfield 28, 3), (4, .sipush 2666, 3), (7, .iload_n 1, 1), (8, .iadd, 1), (9, .iaload, 1), (10, .iload_n 3, 1), (11, .ishr, 1), (12, .iconst 1, 1), (13, .iand, 1), (14, .ifCond .ne 5, 3), (17, .iconst 0, 1), (18, .ireturn, 1), (19, .iload_n 1, 1), (20, .iload_n 2, 1), (21, .if_icmp .eq 16, 3), (24, .aload_n 0, 1), (25, .getfield 28, 3), (28, .sipush 2660, 3), (31, .iload_n 1, 1), (32, .iadd, 1), (33, .iaload, 1), (34, .ifCond .ne 5, 3), (37, .iconst 1, 1), (38, .ireturn, 1), (39, .aload_n 0, 1), (40, .getfield 28, 3), (43, .sipush 2660, 3), (46, .iload_n 1, 1), (47, .iadd, 1), (48, .iaload, 1), (49, .iconst 1, 1), (50, .if_icmp .ne 39, 3), (53, .aload_n 0, 1), (54, .getfield 28, 3), (57, .sipush 2660, 3), (60, .iload_n 2, 1), (61, .iadd, 1), (62, .iaload, 1), (63, .iconst 2, 1), (64, .if_icmp .eq 25, 3), (67, .aload_n 0, 1), (68, .getfield 28, 3), (71, .sipush 2666, 3), (74, .iload_n 2, 1), (75, .iadd, 1), (76, .iaload, 1), (77, .iload_n 3, 1), (78, .ishr, 1), (79, .iconst 1, 1), (80, .iand, 1), (81, .iconst 1, 1), (82, .if_icmp .ne 7, 3), (85, .iconst 1, 1), (86, .goto 4, 3), (89, .iconst 0, 1), (90, .ireturn, 1)]
theorem D_X10_doesPay : dchk cX10_doesPay T_X10_doesPay = true := by decide +kernel
def Mo_doesPay (σ : ST) (a1 : Int32) (a2 : Int32) (a3 : Int32) : Option Int32 :=
  bd_ (ldI σ 34 0 (2666 + a1)) (fun v1 => (if ((v1 >>> (a3 &&& 31)) &&& 1) = 0 then some 0 else (if a1 = a2 then some 1 else bd_ (ldI σ 34 0 (2660 + a1)) (fun v2 => (if v2 = 0 then some 1 else bd_ (ldI σ 34 0 (2660 + a1)) (fun v3 => (if v3 = 1 then bd_ (ldI σ 34 0 (2660 + a2)) (fun v4 => (if v4 = 2 then some 0 else bd_ (ldI σ 34 0 (2666 + a2)) (fun v5 => (if ((v5 >>> (a3 &&& 31)) &&& 1) = 1 then some 1 else some 0)))) else some 0)))))))
set_option maxHeartbeats 4000000 in
set_option maxRecDepth 100000 in
theorem c_X10_doesPay {G : GW} (hG : Good G) {l : Launch} (σ : ST) (a1 : Int32) (a2 : Int32) (a3 : Int32) : Ctr G l yX10_doesPay cX10_doesPay 4 (some .boolean) 0 [.ref (ga G 131 0), .int a1, .int a2, .int a3] σ (oI σ) (Mo_doesPay σ a1 a2 a3) := by
  refine ctr_of hG (by decide) (Nat.le_of_ble_eq_true rfl) ?_
  intro X hXl hR hX
  have hX : Ok G X cX10_doesPay 4 RX10 0 := hX
  unfold Mo_doesPay
  show Sim G X 4 (MQX G X (oI σ)) σ 0 [(0, .ref (ga G 131 0)), (1, .int a1), (2, .int a2), (3, .int a3)] [] _
  refine s_aload_n 0 (n := 1) hX (dec_of D_X10_doesPay (i := 0) rfl) rfl rfl rfl ?_
  refine s_getR (c := 10) (p := 14) (k' := 34) (n := 4) hX cls10 (vk131 (by omega)) (dec_of D_X10_doesPay (i := 1) rfl) rfl rfl wd_1360 ?_
  refine s_sipush (v := 2666) (n := 7) hX (dec_of D_X10_doesPay (i := 2) rfl) rfl (by decide) ?_
  refine s_iload_n 1 (n := 8) hX (dec_of D_X10_doesPay (i := 3) rfl) rfl rfl rfl ?_
  refine s_iadd (n := 9) hX (dec_of D_X10_doesPay (i := 4) rfl) rfl ?_
  refine s_iald (n := 10) hX (vk34 (by omega)) (by decide) (dec_of D_X10_doesPay (i := 5) rfl) rfl (fun v1 => ?_)
  refine s_iload_n 3 (n := 11) hX (dec_of D_X10_doesPay (i := 6) rfl) rfl rfl rfl ?_
  refine s_ishr (n := 12) hX (dec_of D_X10_doesPay (i := 7) rfl) rfl ?_
  refine s_iconst (v := 1) (n := 13) hX (dec_of D_X10_doesPay (i := 8) rfl) rfl (by decide) ?_
  refine s_iand (n := 14) hX (dec_of D_X10_doesPay (i := 9) rfl) rfl ?_
  refine s_if_ne (tgt := 19) (n := 17) hX (dec_of D_X10_doesPay (i := 10) rfl) rfl rfl ?_ ?_
  · refine s_iload_n 1 (n := 20) hX (dec_of D_X10_doesPay (i := 13) rfl) rfl rfl rfl ?_
    refine s_iload_n 2 (n := 21) hX (dec_of D_X10_doesPay (i := 14) rfl) rfl rfl rfl ?_
    refine s_icmp_eq (tgt := 37) (n := 24) hX (dec_of D_X10_doesPay (i := 15) rfl) rfl rfl ?_ ?_
    · refine s_iconst (v := 1) (n := 38) hX (dec_of D_X10_doesPay (i := 23) rfl) rfl (by decide) ?_
      exact s_zret hX hR (dec_of D_X10_doesPay (i := 24) rfl) rfl rfl
    · refine s_aload_n 0 (n := 25) hX (dec_of D_X10_doesPay (i := 16) rfl) rfl rfl rfl ?_
      refine s_getR (c := 10) (p := 14) (k' := 34) (n := 28) hX cls10 (vk131 (by omega)) (dec_of D_X10_doesPay (i := 17) rfl) rfl rfl wd_1360 ?_
      refine s_sipush (v := 2660) (n := 31) hX (dec_of D_X10_doesPay (i := 18) rfl) rfl (by decide) ?_
      refine s_iload_n 1 (n := 32) hX (dec_of D_X10_doesPay (i := 19) rfl) rfl rfl rfl ?_
      refine s_iadd (n := 33) hX (dec_of D_X10_doesPay (i := 20) rfl) rfl ?_
      refine s_iald (n := 34) hX (vk34 (by omega)) (by decide) (dec_of D_X10_doesPay (i := 21) rfl) rfl (fun v2 => ?_)
      refine s_if_ne (tgt := 39) (n := 37) hX (dec_of D_X10_doesPay (i := 22) rfl) rfl rfl ?_ ?_
      · refine s_aload_n 0 (n := 40) hX (dec_of D_X10_doesPay (i := 25) rfl) rfl rfl rfl ?_
        refine s_getR (c := 10) (p := 14) (k' := 34) (n := 43) hX cls10 (vk131 (by omega)) (dec_of D_X10_doesPay (i := 26) rfl) rfl rfl wd_1360 ?_
        refine s_sipush (v := 2660) (n := 46) hX (dec_of D_X10_doesPay (i := 27) rfl) rfl (by decide) ?_
        refine s_iload_n 1 (n := 47) hX (dec_of D_X10_doesPay (i := 28) rfl) rfl rfl rfl ?_
        refine s_iadd (n := 48) hX (dec_of D_X10_doesPay (i := 29) rfl) rfl ?_
        refine s_iald (n := 49) hX (vk34 (by omega)) (by decide) (dec_of D_X10_doesPay (i := 30) rfl) rfl (fun v3 => ?_)
        refine s_iconst (v := 1) (n := 50) hX (dec_of D_X10_doesPay (i := 31) rfl) rfl (by decide) ?_
        refine s_icmp_ne (tgt := 89) (n := 53) hX (dec_of D_X10_doesPay (i := 32) rfl) rfl rfl ?_ ?_
        · refine s_iconst (v := 0) (n := 90) hX (dec_of D_X10_doesPay (i := 55) rfl) rfl (by decide) ?_
          exact s_zret hX hR (dec_of D_X10_doesPay (i := 56) rfl) rfl rfl
        · refine s_aload_n 0 (n := 54) hX (dec_of D_X10_doesPay (i := 33) rfl) rfl rfl rfl ?_
          refine s_getR (c := 10) (p := 14) (k' := 34) (n := 57) hX cls10 (vk131 (by omega)) (dec_of D_X10_doesPay (i := 34) rfl) rfl rfl wd_1360 ?_
          refine s_sipush (v := 2660) (n := 60) hX (dec_of D_X10_doesPay (i := 35) rfl) rfl (by decide) ?_
          refine s_iload_n 2 (n := 61) hX (dec_of D_X10_doesPay (i := 36) rfl) rfl rfl rfl ?_
          refine s_iadd (n := 62) hX (dec_of D_X10_doesPay (i := 37) rfl) rfl ?_
          refine s_iald (n := 63) hX (vk34 (by omega)) (by decide) (dec_of D_X10_doesPay (i := 38) rfl) rfl (fun v4 => ?_)
          refine s_iconst (v := 2) (n := 64) hX (dec_of D_X10_doesPay (i := 39) rfl) rfl (by decide) ?_
          refine s_icmp_eq (tgt := 89) (n := 67) hX (dec_of D_X10_doesPay (i := 40) rfl) rfl rfl ?_ ?_
          · refine s_iconst (v := 0) (n := 90) hX (dec_of D_X10_doesPay (i := 55) rfl) rfl (by decide) ?_
            exact s_zret hX hR (dec_of D_X10_doesPay (i := 56) rfl) rfl rfl
          · refine s_aload_n 0 (n := 68) hX (dec_of D_X10_doesPay (i := 41) rfl) rfl rfl rfl ?_
            refine s_getR (c := 10) (p := 14) (k' := 34) (n := 71) hX cls10 (vk131 (by omega)) (dec_of D_X10_doesPay (i := 42) rfl) rfl rfl wd_1360 ?_
            refine s_sipush (v := 2666) (n := 74) hX (dec_of D_X10_doesPay (i := 43) rfl) rfl (by decide) ?_
            refine s_iload_n 2 (n := 75) hX (dec_of D_X10_doesPay (i := 44) rfl) rfl rfl rfl ?_
            refine s_iadd (n := 76) hX (dec_of D_X10_doesPay (i := 45) rfl) rfl ?_
            refine s_iald (n := 77) hX (vk34 (by omega)) (by decide) (dec_of D_X10_doesPay (i := 46) rfl) rfl (fun v5 => ?_)
            refine s_iload_n 3 (n := 78) hX (dec_of D_X10_doesPay (i := 47) rfl) rfl rfl rfl ?_
            refine s_ishr (n := 79) hX (dec_of D_X10_doesPay (i := 48) rfl) rfl ?_
            refine s_iconst (v := 1) (n := 80) hX (dec_of D_X10_doesPay (i := 49) rfl) rfl (by decide) ?_
            refine s_iand (n := 81) hX (dec_of D_X10_doesPay (i := 50) rfl) rfl ?_
            refine s_iconst (v := 1) (n := 82) hX (dec_of D_X10_doesPay (i := 51) rfl) rfl (by decide) ?_
            refine s_icmp_ne (tgt := 89) (n := 85) hX (dec_of D_X10_doesPay (i := 52) rfl) rfl rfl ?_ ?_
            · refine s_iconst (v := 0) (n := 90) hX (dec_of D_X10_doesPay (i := 55) rfl) rfl (by decide) ?_
              exact s_zret hX hR (dec_of D_X10_doesPay (i := 56) rfl) rfl rfl
            · refine s_iconst (v := 1) (n := 86) hX (dec_of D_X10_doesPay (i := 53) rfl) rfl (by decide) ?_
              refine s_goto (n := 90) hX (dec_of D_X10_doesPay (i := 54) rfl) rfl ?_
              exact s_zret hX hR (dec_of D_X10_doesPay (i := 56) rfl) rfl rfl
      · refine s_iconst (v := 1) (n := 38) hX (dec_of D_X10_doesPay (i := 23) rfl) rfl (by decide) ?_
        exact s_zret hX hR (dec_of D_X10_doesPay (i := 24) rfl) rfl rfl
  · refine s_iconst (v := 0) (n := 18) hX (dec_of D_X10_doesPay (i := 11) rfl) rfl (by decide) ?_
    exact s_zret hX hR (dec_of D_X10_doesPay (i := 12) rfl) rfl rfl
def T_X10_openSeat : List (Nat × Instr × Nat) := [(0, .iconst 0, 1), (1, .istore_n 2, 1), (2, .iload_n 2, 1), (3, .aload_n 0, 1), (4, .getfield 25, 3), (7, .iload_n 1, 1), (8, .iaload, 1), (9, .if_icmp .ge 21, 3), (12, .aload_n 0, 1), (13, .iload_n 1, 1), (14, .iload_n 2, 1), (15, .invokevirtual 254, 3), (18, .iconst (-1), 1), (19, .if_icmp .ne 5, 3), (22, .iload_n 2, 1), (23, .ireturn, 1), (24, .iinc 2 1, 3), (27, .goto (-25), 3), (30, .iconst (-1), 1), (31, .ireturn, 1)]
theorem D_X10_openSeat : dchk cX10_openSeat T_X10_openSeat = true := by decide +kernel
def Mo_openSeat (σ : ST) (a1 : Int32) : Option Int32 :=
  lp_ (fun rec2 (z1 : Int32) => bd_ (ldI σ 33 0 a1) (fun v4 => (if v4 ≤ z1 then some (-1) else bd_ (Mo_owner (σ) a1 z1) (fun q5 => (if q5 = (-1) then some z1 else rec2 (z1 + 1)))))) FU 0
set_option maxHeartbeats 4000000 in
set_option maxRecDepth 100000 in
theorem c_X10_openSeat {G : GW} (hG : Good G) {l : Launch} (σ : ST) (a1 : Int32) : Ctr G l yX10_openSeat cX10_openSeat 3 (some .int) 1 [.ref (ga G 131 0), .int a1] σ (oI σ) (Mo_openSeat σ a1) := by
  refine ctr_of hG (by decide) (Nat.le_of_ble_eq_true rfl) ?_
  intro X hXl hR hX
  have hX : Ok G X cX10_openSeat 3 RX10 1 := hX
  unfold Mo_openSeat
  show Sim G X 3 (MQX G X (oI σ)) σ 0 [(0, .ref (ga G 131 0)), (1, .int a1)] [] _
  refine s_iconst (v := 0) (n := 1) hX (dec_of D_X10_openSeat (i := 0) rfl) rfl (by decide) ?_
  refine s_istore_n (lv' := [(0, _), (1, _), (2, _)]) [1, 2, 0] (n := 2) hX (dec_of D_X10_openSeat (i := 1) rfl) rfl rfl (by decide) rfl ?_
  refine s_sub [0, 1, 2] rfl (s_lp (pc := 2) (Sf := fun (z1 : Int32) => σ) (lvf := fun (z1 : Int32) => [(0, .ref (ga G 131 0)), (1, .int a1), (2, .int z1)]) (fun rec2 hre3 z1 => ?_) FU 0)
  refine s_iload_n 2 (n := 3) hX (dec_of D_X10_openSeat (i := 2) rfl) rfl rfl rfl ?_
  refine s_aload_n 0 (n := 4) hX (dec_of D_X10_openSeat (i := 3) rfl) rfl rfl rfl ?_
  refine s_getR (c := 10) (p := 7) (k' := 33) (n := 7) hX cls10 (vk131 (by omega)) (dec_of D_X10_openSeat (i := 4) rfl) rfl rfl wd_1353 ?_
  refine s_iload_n 1 (n := 8) hX (dec_of D_X10_openSeat (i := 5) rfl) rfl rfl rfl ?_
  refine s_iald (n := 9) hX (vk33 (by omega)) (by decide) (dec_of D_X10_openSeat (i := 6) rfl) rfl (fun v4 => ?_)
  refine s_icmp_ge (tgt := 30) (n := 12) hX (dec_of D_X10_openSeat (i := 7) rfl) rfl rfl ?_ ?_
  · refine s_iconst (v := (-1)) (n := 31) hX (dec_of D_X10_openSeat (i := 18) rfl) rfl (by decide) ?_
    exact s_iret hX hR (dec_of D_X10_openSeat (i := 19) rfl) rfl
  · refine s_aload_n 0 (n := 13) hX (dec_of D_X10_openSeat (i := 8) rfl) rfl rfl rfl ?_
    refine s_iload_n 1 (n := 14) hX (dec_of D_X10_openSeat (i := 9) rfl) rfl rfl rfl ?_
    refine s_iload_n 2 (n := 15) hX (dec_of D_X10_openSeat (i := 10) rfl) rfl rfl rfl ?_
    refine s_callVI (c := 10) (n := 18) hX cls10 (vk131 (by omega)) lk_RX10_254 (dec_of D_X10_openSeat (i := 11) rfl) rfl (by decide) (c_X10_owner (l := _) hG _ _ _) rfl rfl (Nat.le_of_ble_eq_true rfl) (fun q5 => ?_)
    refine s_iconst (v := (-1)) (n := 19) hX (dec_of D_X10_openSeat (i := 12) rfl) rfl (by decide) ?_
    refine s_icmp_ne (tgt := 24) (n := 22) hX (dec_of D_X10_openSeat (i := 13) rfl) rfl rfl ?_ ?_
    · refine s_iinc (v := z1 + 1) (lv' := [(0, _), (1, _), (2, _)]) 2 [1, 2, 0] (n := 27) hX (dec_of D_X10_openSeat (i := 16) rfl) rfl rfl rfl (by decide) rfl ?_
      refine s_goto (n := 2) hX (dec_of D_X10_openSeat (i := 17) rfl) rfl ?_
      exact s_sub [0, 1, 2] rfl (hre3 (z1 + 1))
    · refine s_iload_n 2 (n := 23) hX (dec_of D_X10_openSeat (i := 14) rfl) rfl rfl rfl ?_
      exact s_iret hX hR (dec_of D_X10_openSeat (i := 15) rfl) rfl
def T_X10_keptIn : List (Nat × Instr × Nat) := [(0, .iconst 0, 1), (1, .istore_n 2, 1), (2, .iload_n 1, 1), (3, .iconst 0, 1), (4, .iconst 0, 1), (5, .invokestatic 244, 3), (8, .istore_n 3, 1), (9, .iload_n 3, 1), (10, .iload_n 1, 1), (11, .iconst 1, 1), (12, .iadd, 1), (13, .iconst 0, 1), (14, .iconst 0, 1), (15, .invokestatic 244, 3), (18, .if_icmp .ge 18, 3), (21, .iload_n 2, 1), (22, .aload_n 0, 1), (23, .getfield 28, 3), (26, .iload_n 3, 1), (27, .iaload, 1), (28, .iadd, 1), (29, .istore_n 2, 1), (30, .iinc 3 1, 3), (33, .goto (-24), 3), (36, .iload_n 2, 1), (37, .ireturn, 1)]
theorem D_X10_keptIn : dchk cX10_keptIn T_X10_keptIn = true := by decide +kernel
def Mo_keptIn (σ : ST) (a1 : Int32) : Option Int32 :=
  bd_ (Mo_keptAt (σ) a1 0 0) (fun q1 => lp_ (fun rec3 (z2 : Int32 × Int32) => bd_ (Mo_keptAt (σ) (a1 + 1) 0 0) (fun q5 => (if q5 ≤ z2.2 then some z2.1 else bd_ (ldI σ 34 0 z2.2) (fun v6 => lt_ ((z2.1 + v6)) (fun x7 => rec3 (x7, (z2.2 + 1))))))) FU (0, q1))
set_option maxHeartbeats 4000000 in
set_option maxRecDepth 100000 in
theorem c_X10_keptIn {G : GW} (hG : Good G) {l : Launch} (σ : ST) (a1 : Int32) : Ctr G l yX10_keptIn cX10_keptIn 4 (some .int) 1 [.ref (ga G 131 0), .int a1] σ (oI σ) (Mo_keptIn σ a1) := by
  refine ctr_of hG (by decide) (Nat.le_of_ble_eq_true rfl) ?_
  intro X hXl hR hX
  have hX : Ok G X cX10_keptIn 4 RX10 1 := hX
  unfold Mo_keptIn
  show Sim G X 4 (MQX G X (oI σ)) σ 0 [(0, .ref (ga G 131 0)), (1, .int a1)] [] _
  refine s_iconst (v := 0) (n := 1) hX (dec_of D_X10_keptIn (i := 0) rfl) rfl (by decide) ?_
  refine s_istore_n (lv' := [(0, _), (1, _), (2, _)]) [1, 2, 0] (n := 2) hX (dec_of D_X10_keptIn (i := 1) rfl) rfl rfl (by decide) rfl ?_
  refine s_iload_n 1 (n := 3) hX (dec_of D_X10_keptIn (i := 2) rfl) rfl rfl rfl ?_
  refine s_iconst (v := 0) (n := 4) hX (dec_of D_X10_keptIn (i := 3) rfl) rfl (by decide) ?_
  refine s_iconst (v := 0) (n := 5) hX (dec_of D_X10_keptIn (i := 4) rfl) rfl (by decide) ?_
  refine s_callSI (n := 8) hX lk_RX10_244 (dec_of D_X10_keptIn (i := 5) rfl) rfl (by decide) (c_X10_keptAt (l := _) hG _ _ _ _) rfl rfl (Nat.le_of_ble_eq_true rfl) (fun q1 => ?_)
  refine s_istore_n (lv' := [(0, _), (1, _), (2, _), (3, _)]) [1, 2, 3, 0] (n := 9) hX (dec_of D_X10_keptIn (i := 6) rfl) rfl rfl (by decide) rfl ?_
  refine s_sub [0, 1, 2, 3] rfl (s_lp (pc := 9) (Sf := fun (z2 : Int32 × Int32) => σ) (lvf := fun (z2 : Int32 × Int32) => [(0, .ref (ga G 131 0)), (1, .int a1), (2, .int z2.1), (3, .int z2.2)]) (fun rec3 hre4 z2 => ?_) FU (0, q1))
  refine s_iload_n 3 (n := 10) hX (dec_of D_X10_keptIn (i := 7) rfl) rfl rfl rfl ?_
  refine s_iload_n 1 (n := 11) hX (dec_of D_X10_keptIn (i := 8) rfl) rfl rfl rfl ?_
  refine s_iconst (v := 1) (n := 12) hX (dec_of D_X10_keptIn (i := 9) rfl) rfl (by decide) ?_
  refine s_iadd (n := 13) hX (dec_of D_X10_keptIn (i := 10) rfl) rfl ?_
  refine s_iconst (v := 0) (n := 14) hX (dec_of D_X10_keptIn (i := 11) rfl) rfl (by decide) ?_
  refine s_iconst (v := 0) (n := 15) hX (dec_of D_X10_keptIn (i := 12) rfl) rfl (by decide) ?_
  refine s_callSI (n := 18) hX lk_RX10_244 (dec_of D_X10_keptIn (i := 13) rfl) rfl (by decide) (c_X10_keptAt (l := _) hG _ _ _ _) rfl rfl (Nat.le_of_ble_eq_true rfl) (fun q5 => ?_)
  refine s_icmp_ge (tgt := 36) (n := 21) hX (dec_of D_X10_keptIn (i := 14) rfl) rfl rfl ?_ ?_
  · refine s_iload_n 2 (n := 37) hX (dec_of D_X10_keptIn (i := 24) rfl) rfl rfl rfl ?_
    exact s_iret hX hR (dec_of D_X10_keptIn (i := 25) rfl) rfl
  · refine s_iload_n 2 (n := 22) hX (dec_of D_X10_keptIn (i := 15) rfl) rfl rfl rfl ?_
    refine s_aload_n 0 (n := 23) hX (dec_of D_X10_keptIn (i := 16) rfl) rfl rfl rfl ?_
    refine s_getR (c := 10) (p := 14) (k' := 34) (n := 26) hX cls10 (vk131 (by omega)) (dec_of D_X10_keptIn (i := 17) rfl) rfl rfl wd_1360 ?_
    refine s_iload_n 3 (n := 27) hX (dec_of D_X10_keptIn (i := 18) rfl) rfl rfl rfl ?_
    refine s_iald (n := 28) hX (vk34 (by omega)) (by decide) (dec_of D_X10_keptIn (i := 19) rfl) rfl (fun v6 => ?_)
    refine s_iadd (n := 29) hX (dec_of D_X10_keptIn (i := 20) rfl) rfl ?_
    refine s_topi (fun x7 => ?_)
    refine s_istore_n (lv' := [(0, _), (1, _), (2, _), (3, _)]) [1, 2, 0, 3] (n := 30) hX (dec_of D_X10_keptIn (i := 21) rfl) rfl rfl (by decide) rfl ?_
    refine s_iinc (v := z2.2 + 1) (lv' := [(0, _), (1, _), (2, _), (3, _)]) 3 [1, 2, 3, 0] (n := 33) hX (dec_of D_X10_keptIn (i := 22) rfl) rfl rfl rfl (by decide) rfl ?_
    refine s_goto (n := 9) hX (dec_of D_X10_keptIn (i := 23) rfl) rfl ?_
    exact s_sub [0, 1, 2, 3] rfl (hre4 (x7, (z2.2 + 1)))
theorem lk_RX10_257 : LkV RX10 257 RX10 yX10_isLand cX10_isLand 2 (some .boolean) 1 := ⟨wd_1603, wd_1605, wd_35, wd_93, wd_1606, by decide +kernel, by decide⟩
theorem lk_RX10_260 : LkV RX10 260 RX10 yX10_keptIn cX10_keptIn 4 (some .int) 1 := ⟨wd_1611, wd_1613, wd_37, wd_93, wd_1614, by decide +kernel, by decide⟩
def T_X10_land : List (Nat × Instr × Nat) := [(0, .aload_n 0, 1), (1, .iconst 0, 1), (2, .putfield 86, 3), (5, .aload_n 0, 1), (6, .iload_n 1, 1), (7, .invokevirtual 257, 3), (10, .ifCond .ne 10, 3), (13, .aload_n 0, 1), (14, .iconst 1, 1), (15, .putfield 86, 3), (18, .iconst 0, 1), (19, .ireturn, 1), (20, .iconst 0, 1), (21, .istore_n 3, 1), (22, .iload_n 2, 1), (23, .tableswitch 175 0 7 #[45, 56, 67, 74, 85, 96, 126, 132], 45), (68, .aload_n 0, 1), (69, .getfield 28, 3), (72, .sipush 2660, 3), (75, .iload_n 1, 1), (76, .iadd, 1), (77, .iaload, 1), (78, .ireturn, 1), (79, .aload_n 0, 1), (80, .getfield 28, 3), (83, .sipush 2666, 3), (86, .iload_n 1, 1), (87, .iadd, 1), (88, .iaload, 1), (89, .ireturn, 1), (90, .aload_n 0, 1), (91, .getfield 13, 3), (94, .iload_n 1, 1), (95, .iaload, 1), (96, .ireturn, 1), (97, .aload_n 0, 1), (98, .getfield 28, 3), (101, .sipush 192, 3), (104, .iload_n 1, 1), (105, .iadd, 1), (106, .iaload, 1), (107, .ireturn, 1), (108, .aload_n 0, 1), (109, .getfield 28, 3), (112, .sipush 198, 3), (115, .iload_n 1, 1), (116, .iadd, 1), (117, .iaload, 1), (118, .ireturn, 1), (119, .iconst 0, 1), (120, .istore 4, 2), (122, .iload 4, 2), (124, .aload_n 0, 1), (125, .getfield 232, 3), (128, .if_icmp .ge 19, 3), (131, .iload_n 3, 1), (132, .aload_n 0, 1), (133, .iload 4, 2), (135, .iload_n 1, 1), (136, .invokevirtual 248, 3), (139, .iadd, 1), (140, .istore_n 3, 1), (141, .iinc 4 1, 3), (144, .goto (-22), 3), (147, .iload_n 3, 1), (148, .ireturn, 1), (149, .aload_n 0, 1), (150, .iload_n 1, 1), (151, .invokevirtual 260, 3), (154, .ireturn, 1), (155, .iconst 0, 1), (156, .istore 4, 2), (158, .iload 4, 2), (160, .aload_n 0, 1), (161, .getfield 232, 3), (164, .if_icmp .ge 32, 3), (167, .iload_n 3, 1), (168, .aload_n 0, 1), (169, .getfield 28, 3), (172, .sipush 2672, 3), (175, .iload 4, 2), (177, .iadd, 1), (178, .iaload, 1), (179, .iload_n 1, 1), (180, .if_icmp .ne 7, 3), (183, .iconst 1, 1), (184, .goto 4, 3), (187, .iconst 0, 1), (188, .iadd, 1), (189, .istore_n 3, 1), (190, .iinc 4 1, 3), (193, .goto (-35), 3), (196, .iload_n 3, 1), (197, .ireturn, 1), (198, .aload_n 0, 1), (199, .iconst 2, 1), (200, .putfield 86, 3), (203, .iconst 0, 1), (204, .ireturn, 1)]
theorem D_X10_land : dchk cX10_land T_X10_land = true := by decide +kernel
def Mo_land (σ : ST) (a1 : Int32) (a2 : Int32) : Option (Int32 × ST) :=
  lt_ (setF σ 840 0 0) (fun s1 => bd_ (Mo_isLand s1 a1) (fun q2 => (if q2 = 0 then lt_ (setF s1 840 0 1) (fun s21 => some (0, s21)) else sw_ a2 0 [bd_ (ldI s1 34 0 (2660 + a1)) (fun v4 => some (v4, s1)), bd_ (ldI s1 34 0 (2666 + a1)) (fun v5 => some (v5, s1)), bd_ (ldI s1 29 0 a1) (fun v6 => some (v6, s1)), bd_ (ldI s1 34 0 (192 + a1)) (fun v7 => some (v7, s1)), bd_ (ldI s1 34 0 (198 + a1)) (fun v8 => some (v8, s1)), lp_ (fun rec10 (z9 : Int32 × Int32) => (if (gF s1 851 0) ≤ z9.2 then some (z9.1, s1) else bd_ (Mo_paidIn s1 z9.2 a1) (fun q12 => lt_ ((z9.1 + q12)) (fun x13 => rec10 (x13, (z9.2 + 1)))))) FU (0, 0), bd_ (Mo_keptIn s1 a1) (fun q14 => some (q14, s1)), lp_ (fun rec16 (z15 : Int32 × Int32) => (if (gF s1 851 0) ≤ z15.2 then some (z15.1, s1) else bd_ (ldI s1 34 0 (2672 + z15.2)) (fun v18 => (if v18 = a1 then lt_ ((z15.1 + 1)) (fun x20 => rec16 (x20, (z15.2 + 1))) else lt_ ((z15.1 + 0)) (fun x19 => rec16 (x19, (z15.2 + 1))))))) FU (0, 0)] (lt_ (setF s1 840 0 2) (fun s3 => some (0, s3))))))
set_option maxHeartbeats 4000000 in
set_option maxRecDepth 100000 in
theorem c_X10_land {G : GW} (hG : Good G) {l : Launch} (σ : ST) (a1 : Int32) (a2 : Int32) : Ctr G l yX10_land cX10_land 5 (some .int) 2 [.ref (ga G 131 0), .int a1, .int a2] σ oP (Mo_land σ a1 a2) := by
  refine ctr_of hG (by decide) (Nat.le_of_ble_eq_true rfl) ?_
  intro X hXl hR hX
  have hX : Ok G X cX10_land 5 RX10 2 := hX
  unfold Mo_land
  show Sim G X 5 (MQX G X oP) σ 0 [(0, .ref (ga G 131 0)), (1, .int a1), (2, .int a2)] [] _
  refine s_aload_n 0 (n := 1) hX (dec_of D_X10_land (i := 0) rfl) rfl rfl rfl ?_
  refine s_iconst (v := 0) (n := 2) hX (dec_of D_X10_land (i := 1) rfl) rfl (by decide) ?_
  refine s_putI (c := 10) (p := 0) (n := 5) hX cls10 (vk131 (by omega)) (dec_of D_X10_land (i := 2) rfl) rfl rfl (by decide) wd_1346 rfl rfl rfl (fun s1 => ?_)
  refine s_aload_n 0 (n := 6) hX (dec_of D_X10_land (i := 3) rfl) rfl rfl rfl ?_
  refine s_iload_n 1 (n := 7) hX (dec_of D_X10_land (i := 4) rfl) rfl rfl rfl ?_
  refine s_callVI (c := 10) (n := 10) hX cls10 (vk131 (by omega)) lk_RX10_257 (dec_of D_X10_land (i := 5) rfl) rfl (by decide) (c_X10_isLand (l := _) hG _ _) rfl rfl (Nat.le_of_ble_eq_true rfl) (fun q2 => ?_)
  refine s_if_ne (tgt := 20) (n := 13) hX (dec_of D_X10_land (i := 6) rfl) rfl rfl ?_ ?_
  · refine s_iconst (v := 0) (n := 21) hX (dec_of D_X10_land (i := 12) rfl) rfl (by decide) ?_
    refine s_istore_n (lv' := [(0, _), (1, _), (2, _), (3, _)]) [1, 2, 3, 0] (n := 22) hX (dec_of D_X10_land (i := 13) rfl) rfl rfl (by decide) rfl ?_
    refine s_iload_n 2 (n := 23) hX (dec_of D_X10_land (i := 14) rfl) rfl rfl rfl ?_
    refine s_tsw (lo' := 0) (Ps := [_, _, _, _, _, _, _, _]) hX (dec_of D_X10_land (i := 15) rfl) rfl 8 rfl (by decide) (by decide) [68, 79, 90, 97, 108, 119, 149, 155] 198 rfl rfl (by decide +kernel) ?_ ?_
    · skip
      refine swS_cons ?_ ?_
      · refine s_aload_n 0 (n := 69) hX (dec_of D_X10_land (i := 16) rfl) rfl rfl rfl ?_
        refine s_getR (c := 10) (p := 14) (k' := 34) (n := 72) hX cls10 (vk131 (by omega)) (dec_of D_X10_land (i := 17) rfl) rfl rfl wd_1360 ?_
        refine s_sipush (v := 2660) (n := 75) hX (dec_of D_X10_land (i := 18) rfl) rfl (by decide) ?_
        refine s_iload_n 1 (n := 76) hX (dec_of D_X10_land (i := 19) rfl) rfl rfl rfl ?_
        refine s_iadd (n := 77) hX (dec_of D_X10_land (i := 20) rfl) rfl ?_
        refine s_iald (n := 78) hX (vk34 (by omega)) (by decide) (dec_of D_X10_land (i := 21) rfl) rfl (fun v4 => ?_)
        exact s_iret hX hR (dec_of D_X10_land (i := 22) rfl) rfl
      refine swS_cons ?_ ?_
      · refine s_aload_n 0 (n := 80) hX (dec_of D_X10_land (i := 23) rfl) rfl rfl rfl ?_
        refine s_getR (c := 10) (p := 14) (k' := 34) (n := 83) hX cls10 (vk131 (by omega)) (dec_of D_X10_land (i := 24) rfl) rfl rfl wd_1360 ?_
        refine s_sipush (v := 2666) (n := 86) hX (dec_of D_X10_land (i := 25) rfl) rfl (by decide) ?_
        refine s_iload_n 1 (n := 87) hX (dec_of D_X10_land (i := 26) rfl) rfl rfl rfl ?_
        refine s_iadd (n := 88) hX (dec_of D_X10_land (i := 27) rfl) rfl ?_
        refine s_iald (n := 89) hX (vk34 (by omega)) (by decide) (dec_of D_X10_land (i := 28) rfl) rfl (fun v5 => ?_)
        exact s_iret hX hR (dec_of D_X10_land (i := 29) rfl) rfl
      refine swS_cons ?_ ?_
      · refine s_aload_n 0 (n := 91) hX (dec_of D_X10_land (i := 30) rfl) rfl rfl rfl ?_
        refine s_getR (c := 10) (p := 3) (k' := 29) (n := 94) hX cls10 (vk131 (by omega)) (dec_of D_X10_land (i := 31) rfl) rfl rfl wd_1349 ?_
        refine s_iload_n 1 (n := 95) hX (dec_of D_X10_land (i := 32) rfl) rfl rfl rfl ?_
        refine s_iald (n := 96) hX (vk29 (by omega)) (by decide) (dec_of D_X10_land (i := 33) rfl) rfl (fun v6 => ?_)
        exact s_iret hX hR (dec_of D_X10_land (i := 34) rfl) rfl
      refine swS_cons ?_ ?_
      · refine s_aload_n 0 (n := 98) hX (dec_of D_X10_land (i := 35) rfl) rfl rfl rfl ?_
        refine s_getR (c := 10) (p := 14) (k' := 34) (n := 101) hX cls10 (vk131 (by omega)) (dec_of D_X10_land (i := 36) rfl) rfl rfl wd_1360 ?_
        refine s_sipush (v := 192) (n := 104) hX (dec_of D_X10_land (i := 37) rfl) rfl (by decide) ?_
        refine s_iload_n 1 (n := 105) hX (dec_of D_X10_land (i := 38) rfl) rfl rfl rfl ?_
        refine s_iadd (n := 106) hX (dec_of D_X10_land (i := 39) rfl) rfl ?_
        refine s_iald (n := 107) hX (vk34 (by omega)) (by decide) (dec_of D_X10_land (i := 40) rfl) rfl (fun v7 => ?_)
        exact s_iret hX hR (dec_of D_X10_land (i := 41) rfl) rfl
      refine swS_cons ?_ ?_
      · refine s_aload_n 0 (n := 109) hX (dec_of D_X10_land (i := 42) rfl) rfl rfl rfl ?_
        refine s_getR (c := 10) (p := 14) (k' := 34) (n := 112) hX cls10 (vk131 (by omega)) (dec_of D_X10_land (i := 43) rfl) rfl rfl wd_1360 ?_
        refine s_sipush (v := 198) (n := 115) hX (dec_of D_X10_land (i := 44) rfl) rfl (by decide) ?_
        refine s_iload_n 1 (n := 116) hX (dec_of D_X10_land (i := 45) rfl) rfl rfl rfl ?_
        refine s_iadd (n := 117) hX (dec_of D_X10_land (i := 46) rfl) rfl ?_
        refine s_iald (n := 118) hX (vk34 (by omega)) (by decide) (dec_of D_X10_land (i := 47) rfl) rfl (fun v8 => ?_)
        exact s_iret hX hR (dec_of D_X10_land (i := 48) rfl) rfl
      refine swS_cons ?_ ?_
      · refine s_iconst (v := 0) (n := 120) hX (dec_of D_X10_land (i := 49) rfl) rfl (by decide) ?_
        refine s_istore (lv' := [(0, _), (1, _), (2, _), (3, _), (4, _)]) [1, 2, 3, 4, 0] (n := 122) hX (dec_of D_X10_land (i := 50) rfl) rfl (by decide) rfl ?_
        refine s_sub [0, 1, 3, 4] rfl (s_lp (pc := 122) (Sf := fun (z9 : Int32 × Int32) => s1) (lvf := fun (z9 : Int32 × Int32) => [(0, .ref (ga G 131 0)), (1, .int a1), (3, .int z9.1), (4, .int z9.2)]) (fun rec10 hre11 z9 => ?_) FU (0, 0))
        refine s_iload 3 (n := 124) hX (dec_of D_X10_land (i := 51) rfl) rfl rfl ?_
        refine s_aload_n 0 (n := 125) hX (dec_of D_X10_land (i := 52) rfl) rfl rfl rfl ?_
        refine s_getI (c := 10) (p := 11) (id := 851) (n := 128) hX cls10 (vk131 (by omega)) (dec_of D_X10_land (i := 53) rfl) rfl rfl wd_1357 ?_
        refine s_icmp_ge (tgt := 147) (n := 131) hX (dec_of D_X10_land (i := 54) rfl) rfl rfl ?_ ?_
        · refine s_iload_n 2 (n := 148) hX (dec_of D_X10_land (i := 64) rfl) rfl rfl rfl ?_
          exact s_iret hX hR (dec_of D_X10_land (i := 65) rfl) rfl
        · refine s_iload_n 2 (n := 132) hX (dec_of D_X10_land (i := 55) rfl) rfl rfl rfl ?_
          refine s_aload_n 0 (n := 133) hX (dec_of D_X10_land (i := 56) rfl) rfl rfl rfl ?_
          refine s_iload 3 (n := 135) hX (dec_of D_X10_land (i := 57) rfl) rfl rfl ?_
          refine s_iload_n 1 (n := 136) hX (dec_of D_X10_land (i := 58) rfl) rfl rfl rfl ?_
          refine s_callVI (c := 10) (n := 139) hX cls10 (vk131 (by omega)) lk_RX10_248 (dec_of D_X10_land (i := 59) rfl) rfl (by decide) (c_X10_paidIn (l := _) hG _ _ _) rfl rfl (Nat.le_of_ble_eq_true rfl) (fun q12 => ?_)
          refine s_iadd (n := 140) hX (dec_of D_X10_land (i := 60) rfl) rfl ?_
          refine s_topi (fun x13 => ?_)
          refine s_istore_n (lv' := [(0, _), (1, _), (3, _), (4, _)]) [1, 2, 0, 3] (n := 141) hX (dec_of D_X10_land (i := 61) rfl) rfl rfl (by decide) rfl ?_
          refine s_iinc (v := z9.2 + 1) (lv' := [(0, _), (1, _), (3, _), (4, _)]) 3 [1, 2, 3, 0] (n := 144) hX (dec_of D_X10_land (i := 62) rfl) rfl rfl rfl (by decide) rfl ?_
          refine s_goto (n := 122) hX (dec_of D_X10_land (i := 63) rfl) rfl ?_
          exact s_sub [0, 1, 2, 3] rfl (hre11 (x13, (z9.2 + 1)))
      refine swS_cons ?_ ?_
      · refine s_aload_n 0 (n := 150) hX (dec_of D_X10_land (i := 66) rfl) rfl rfl rfl ?_
        refine s_iload_n 1 (n := 151) hX (dec_of D_X10_land (i := 67) rfl) rfl rfl rfl ?_
        refine s_callVI (c := 10) (n := 154) hX cls10 (vk131 (by omega)) lk_RX10_260 (dec_of D_X10_land (i := 68) rfl) rfl (by decide) (c_X10_keptIn (l := _) hG _ _) rfl rfl (Nat.le_of_ble_eq_true rfl) (fun q14 => ?_)
        exact s_iret hX hR (dec_of D_X10_land (i := 69) rfl) rfl
      refine swS_cons ?_ ?_
      · refine s_iconst (v := 0) (n := 156) hX (dec_of D_X10_land (i := 70) rfl) rfl (by decide) ?_
        refine s_istore (lv' := [(0, _), (1, _), (2, _), (3, _), (4, _)]) [1, 2, 3, 4, 0] (n := 158) hX (dec_of D_X10_land (i := 71) rfl) rfl (by decide) rfl ?_
        refine s_sub [0, 1, 3, 4] rfl (s_lp (pc := 158) (Sf := fun (z15 : Int32 × Int32) => s1) (lvf := fun (z15 : Int32 × Int32) => [(0, .ref (ga G 131 0)), (1, .int a1), (3, .int z15.1), (4, .int z15.2)]) (fun rec16 hre17 z15 => ?_) FU (0, 0))
        refine s_iload 3 (n := 160) hX (dec_of D_X10_land (i := 72) rfl) rfl rfl ?_
        refine s_aload_n 0 (n := 161) hX (dec_of D_X10_land (i := 73) rfl) rfl rfl rfl ?_
        refine s_getI (c := 10) (p := 11) (id := 851) (n := 164) hX cls10 (vk131 (by omega)) (dec_of D_X10_land (i := 74) rfl) rfl rfl wd_1357 ?_
        refine s_icmp_ge (tgt := 196) (n := 167) hX (dec_of D_X10_land (i := 75) rfl) rfl rfl ?_ ?_
        · refine s_iload_n 2 (n := 197) hX (dec_of D_X10_land (i := 92) rfl) rfl rfl rfl ?_
          exact s_iret hX hR (dec_of D_X10_land (i := 93) rfl) rfl
        · refine s_iload_n 2 (n := 168) hX (dec_of D_X10_land (i := 76) rfl) rfl rfl rfl ?_
          refine s_aload_n 0 (n := 169) hX (dec_of D_X10_land (i := 77) rfl) rfl rfl rfl ?_
          refine s_getR (c := 10) (p := 14) (k' := 34) (n := 172) hX cls10 (vk131 (by omega)) (dec_of D_X10_land (i := 78) rfl) rfl rfl wd_1360 ?_
          refine s_sipush (v := 2672) (n := 175) hX (dec_of D_X10_land (i := 79) rfl) rfl (by decide) ?_
          refine s_iload 3 (n := 177) hX (dec_of D_X10_land (i := 80) rfl) rfl rfl ?_
          refine s_iadd (n := 178) hX (dec_of D_X10_land (i := 81) rfl) rfl ?_
          refine s_iald (n := 179) hX (vk34 (by omega)) (by decide) (dec_of D_X10_land (i := 82) rfl) rfl (fun v18 => ?_)
          refine s_iload_n 1 (n := 180) hX (dec_of D_X10_land (i := 83) rfl) rfl rfl rfl ?_
          refine s_icmp_ne (tgt := 187) (n := 183) hX (dec_of D_X10_land (i := 84) rfl) rfl rfl ?_ ?_
          · refine s_iconst (v := 0) (n := 188) hX (dec_of D_X10_land (i := 87) rfl) rfl (by decide) ?_
            refine s_iadd (n := 189) hX (dec_of D_X10_land (i := 88) rfl) rfl ?_
            refine s_topi (fun x19 => ?_)
            refine s_istore_n (lv' := [(0, _), (1, _), (3, _), (4, _)]) [1, 2, 0, 3] (n := 190) hX (dec_of D_X10_land (i := 89) rfl) rfl rfl (by decide) rfl ?_
            refine s_iinc (v := z15.2 + 1) (lv' := [(0, _), (1, _), (3, _), (4, _)]) 3 [1, 2, 3, 0] (n := 193) hX (dec_of D_X10_land (i := 90) rfl) rfl rfl rfl (by decide) rfl ?_
            refine s_goto (n := 158) hX (dec_of D_X10_land (i := 91) rfl) rfl ?_
            exact s_sub [0, 1, 2, 3] rfl (hre17 (x19, (z15.2 + 1)))
          · refine s_iconst (v := 1) (n := 184) hX (dec_of D_X10_land (i := 85) rfl) rfl (by decide) ?_
            refine s_goto (n := 188) hX (dec_of D_X10_land (i := 86) rfl) rfl ?_
            refine s_iadd (n := 189) hX (dec_of D_X10_land (i := 88) rfl) rfl ?_
            refine s_topi (fun x20 => ?_)
            refine s_istore_n (lv' := [(0, _), (1, _), (3, _), (4, _)]) [1, 2, 0, 3] (n := 190) hX (dec_of D_X10_land (i := 89) rfl) rfl rfl (by decide) rfl ?_
            refine s_iinc (v := z15.2 + 1) (lv' := [(0, _), (1, _), (3, _), (4, _)]) 3 [1, 2, 3, 0] (n := 193) hX (dec_of D_X10_land (i := 90) rfl) rfl rfl rfl (by decide) rfl ?_
            refine s_goto (n := 158) hX (dec_of D_X10_land (i := 91) rfl) rfl ?_
            exact s_sub [0, 1, 2, 3] rfl (hre17 (x20, (z15.2 + 1)))
      exact swS_nil
    · refine s_aload_n 0 (n := 199) hX (dec_of D_X10_land (i := 94) rfl) rfl rfl rfl ?_
      refine s_iconst (v := 2) (n := 200) hX (dec_of D_X10_land (i := 95) rfl) rfl (by decide) ?_
      refine s_putI (c := 10) (p := 0) (n := 203) hX cls10 (vk131 (by omega)) (dec_of D_X10_land (i := 96) rfl) rfl rfl (by decide) wd_1346 rfl rfl rfl (fun s3 => ?_)
      refine s_iconst (v := 0) (n := 204) hX (dec_of D_X10_land (i := 97) rfl) rfl (by decide) ?_
      exact s_iret hX hR (dec_of D_X10_land (i := 98) rfl) rfl
  · refine s_aload_n 0 (n := 14) hX (dec_of D_X10_land (i := 7) rfl) rfl rfl rfl ?_
    refine s_iconst (v := 1) (n := 15) hX (dec_of D_X10_land (i := 8) rfl) rfl (by decide) ?_
    refine s_putI (c := 10) (p := 0) (n := 18) hX cls10 (vk131 (by omega)) (dec_of D_X10_land (i := 9) rfl) rfl rfl (by decide) wd_1346 rfl rfl rfl (fun s21 => ?_)
    refine s_iconst (v := 0) (n := 19) hX (dec_of D_X10_land (i := 10) rfl) rfl (by decide) ?_
    exact s_iret hX hR (dec_of D_X10_land (i := 11) rfl) rfl
theorem lk_RX10_279 : LkV RX10 279 RX10 yX10_doesPay cX10_doesPay 4 (some .boolean) 3 := ⟨wd_1650, wd_1652, wd_45, wd_93, wd_1653, by decide +kernel, by decide⟩
def T_X10_paidByOf : List (Nat × Instr × Nat) := [(0, .iconst 0, 1), (1, .istore_n 3, 1), (2, .iconst 0, 1), (3, .istore 4, 2), (5, .iload 4, 2), (7, .aload_n 0, 1), (8, .getfield 229, 3), (11, .if_icmp .ge 28, 3), (14, .iload_n 3, 1), (15, .aload_n 0, 1), (16, .iload 4, 2), (18, .iload_n 1, 1), (19, .iload_n 2, 1), (20, .invokevirtual 279, 3), (23, .ifCond .eq 7, 3), (26, .iconst 1, 1), (27, .goto 4, 3), (30, .iconst 0, 1), (31, .iadd, 1), (32, .istore_n 3, 1), (33, .iinc 4 1, 3), (36, .goto (-31), 3), (39, .iload_n 3, 1), (40, .ireturn, 1)]
theorem D_X10_paidByOf : dchk cX10_paidByOf T_X10_paidByOf = true := by decide +kernel
def Mo_paidByOf (σ : ST) (a1 : Int32) (a2 : Int32) : Option Int32 :=
  lp_ (fun rec2 (z1 : Int32 × Int32) => (if (gF σ 850 0) ≤ z1.2 then some z1.1 else bd_ (Mo_doesPay (σ) z1.2 a1 a2) (fun q4 => (if q4 = 0 then lt_ ((z1.1 + 0)) (fun x5 => rec2 (x5, (z1.2 + 1))) else lt_ ((z1.1 + 1)) (fun x6 => rec2 (x6, (z1.2 + 1))))))) FU (0, 0)
set_option maxHeartbeats 4000000 in
set_option maxRecDepth 100000 in
theorem c_X10_paidByOf {G : GW} (hG : Good G) {l : Launch} (σ : ST) (a1 : Int32) (a2 : Int32) : Ctr G l yX10_paidByOf cX10_paidByOf 5 (some .int) 1 [.ref (ga G 131 0), .int a1, .int a2] σ (oI σ) (Mo_paidByOf σ a1 a2) := by
  refine ctr_of hG (by decide) (Nat.le_of_ble_eq_true rfl) ?_
  intro X hXl hR hX
  have hX : Ok G X cX10_paidByOf 5 RX10 1 := hX
  unfold Mo_paidByOf
  show Sim G X 5 (MQX G X (oI σ)) σ 0 [(0, .ref (ga G 131 0)), (1, .int a1), (2, .int a2)] [] _
  refine s_iconst (v := 0) (n := 1) hX (dec_of D_X10_paidByOf (i := 0) rfl) rfl (by decide) ?_
  refine s_istore_n (lv' := [(0, _), (1, _), (2, _), (3, _)]) [1, 2, 3, 0] (n := 2) hX (dec_of D_X10_paidByOf (i := 1) rfl) rfl rfl (by decide) rfl ?_
  refine s_iconst (v := 0) (n := 3) hX (dec_of D_X10_paidByOf (i := 2) rfl) rfl (by decide) ?_
  refine s_istore (lv' := [(0, _), (1, _), (2, _), (3, _), (4, _)]) [1, 2, 3, 4, 0] (n := 5) hX (dec_of D_X10_paidByOf (i := 3) rfl) rfl (by decide) rfl ?_
  refine s_sub [0, 1, 2, 3, 4] rfl (s_lp (pc := 5) (Sf := fun (z1 : Int32 × Int32) => σ) (lvf := fun (z1 : Int32 × Int32) => [(0, .ref (ga G 131 0)), (1, .int a1), (2, .int a2), (3, .int z1.1), (4, .int z1.2)]) (fun rec2 hre3 z1 => ?_) FU (0, 0))
  refine s_iload 4 (n := 7) hX (dec_of D_X10_paidByOf (i := 4) rfl) rfl rfl ?_
  refine s_aload_n 0 (n := 8) hX (dec_of D_X10_paidByOf (i := 5) rfl) rfl rfl rfl ?_
  refine s_getI (c := 10) (p := 10) (id := 850) (n := 11) hX cls10 (vk131 (by omega)) (dec_of D_X10_paidByOf (i := 6) rfl) rfl rfl wd_1356 ?_
  refine s_icmp_ge (tgt := 39) (n := 14) hX (dec_of D_X10_paidByOf (i := 7) rfl) rfl rfl ?_ ?_
  · refine s_iload_n 3 (n := 40) hX (dec_of D_X10_paidByOf (i := 22) rfl) rfl rfl rfl ?_
    exact s_iret hX hR (dec_of D_X10_paidByOf (i := 23) rfl) rfl
  · refine s_iload_n 3 (n := 15) hX (dec_of D_X10_paidByOf (i := 8) rfl) rfl rfl rfl ?_
    refine s_aload_n 0 (n := 16) hX (dec_of D_X10_paidByOf (i := 9) rfl) rfl rfl rfl ?_
    refine s_iload 4 (n := 18) hX (dec_of D_X10_paidByOf (i := 10) rfl) rfl rfl ?_
    refine s_iload_n 1 (n := 19) hX (dec_of D_X10_paidByOf (i := 11) rfl) rfl rfl rfl ?_
    refine s_iload_n 2 (n := 20) hX (dec_of D_X10_paidByOf (i := 12) rfl) rfl rfl rfl ?_
    refine s_callVI (c := 10) (n := 23) hX cls10 (vk131 (by omega)) lk_RX10_279 (dec_of D_X10_paidByOf (i := 13) rfl) rfl (by decide) (c_X10_doesPay (l := _) hG _ _ _ _) rfl rfl (Nat.le_of_ble_eq_true rfl) (fun q4 => ?_)
    refine s_if_eq (tgt := 30) (n := 26) hX (dec_of D_X10_paidByOf (i := 14) rfl) rfl rfl ?_ ?_
    · refine s_iconst (v := 0) (n := 31) hX (dec_of D_X10_paidByOf (i := 17) rfl) rfl (by decide) ?_
      refine s_iadd (n := 32) hX (dec_of D_X10_paidByOf (i := 18) rfl) rfl ?_
      refine s_topi (fun x5 => ?_)
      refine s_istore_n (lv' := [(0, _), (1, _), (2, _), (3, _), (4, _)]) [1, 2, 3, 0, 4] (n := 33) hX (dec_of D_X10_paidByOf (i := 19) rfl) rfl rfl (by decide) rfl ?_
      refine s_iinc (v := z1.2 + 1) (lv' := [(0, _), (1, _), (2, _), (3, _), (4, _)]) 4 [1, 2, 3, 4, 0] (n := 36) hX (dec_of D_X10_paidByOf (i := 20) rfl) rfl rfl rfl (by decide) rfl ?_
      refine s_goto (n := 5) hX (dec_of D_X10_paidByOf (i := 21) rfl) rfl ?_
      exact s_sub [0, 1, 2, 3, 4] rfl (hre3 (x5, (z1.2 + 1)))
    · refine s_iconst (v := 1) (n := 27) hX (dec_of D_X10_paidByOf (i := 15) rfl) rfl (by decide) ?_
      refine s_goto (n := 31) hX (dec_of D_X10_paidByOf (i := 16) rfl) rfl ?_
      refine s_iadd (n := 32) hX (dec_of D_X10_paidByOf (i := 18) rfl) rfl ?_
      refine s_topi (fun x6 => ?_)
      refine s_istore_n (lv' := [(0, _), (1, _), (2, _), (3, _), (4, _)]) [1, 2, 3, 0, 4] (n := 33) hX (dec_of D_X10_paidByOf (i := 19) rfl) rfl rfl (by decide) rfl ?_
      refine s_iinc (v := z1.2 + 1) (lv' := [(0, _), (1, _), (2, _), (3, _), (4, _)]) 4 [1, 2, 3, 4, 0] (n := 36) hX (dec_of D_X10_paidByOf (i := 20) rfl) rfl rfl rfl (by decide) rfl ?_
      refine s_goto (n := 5) hX (dec_of D_X10_paidByOf (i := 21) rfl) rfl ?_
      exact s_sub [0, 1, 2, 3, 4] rfl (hre3 (x6, (z1.2 + 1)))
theorem lk_RX10_264 : LkV RX10 264 RX10 yX10_isPlayer cX10_isPlayer 2 (some .boolean) 1 := ⟨wd_1622, wd_1624, wd_38, wd_93, wd_1625, by decide +kernel, by decide⟩
theorem lk_RX10_276 : LkV RX10 276 RX10 yX10_paidByOf cX10_paidByOf 5 (some .int) 2 := ⟨wd_1646, wd_1648, wd_44, wd_93, wd_1649, by decide +kernel, by decide⟩
theorem lk_RX10_273 : LkV RX10 273 RX10 yX10_roleOf cX10_roleOf 4 (some .int) 2 := ⟨wd_1638, wd_1640, wd_42, wd_93, wd_1641, by decide +kernel, by decide⟩
theorem lk_RX10_267 : LkV RX10 267 RX10 yX10_paidAll cX10_paidAll 4 (some .int) 1 := ⟨wd_1626, wd_1628, wd_39, wd_93, wd_1629, by decide +kernel, by decide⟩
theorem lk_RX10_270 : LkV RX10 270 RX10 yX10_weightAll cX10_weightAll 4 (some .int) 1 := ⟨wd_1630, wd_1632, wd_40, wd_93, wd_1633, by decide +kernel, by decide⟩
def T_X10_player : List (Nat × Instr × Nat) := [(0, .aload_n 0, 1), (1, .iconst 0, 1), (2, .putfield 86, 3), (5, .aload_n 0, 1), (6, .iload_n 1, 1), (7, .invokevirtual 264, 3), (10, .ifCond .ne 10, 3), (13, .aload_n 0, 1), (14, .iconst 1, 1), (15, .putfield 86, 3), (18, .iconst 0, 1), (19, .ireturn, 1), (20, .iconst 0, 1), (21, .istore_n 3, 1), (22, .iload_n 2, 1), (23, .tableswitch 149 0 6 #[41, 52, 58, 70, 70, 130, 130], 41), (64, .aload_n 0, 1), (65, .getfield 28, 3), (68, .sipush 2672, 3), (71, .iload_n 1, 1), (72, .iadd, 1), (73, .iaload, 1), (74, .ireturn, 1), (75, .aload_n 0, 1), (76, .iload_n 1, 1), (77, .invokevirtual 267, 3), (80, .ireturn, 1), (81, .aload_n 0, 1), (82, .iload_n 1, 1), (83, .invokevirtual 267, 3), (86, .aload_n 0, 1), (87, .iload_n 1, 1), (88, .invokevirtual 270, 3), (91, .isub, 1), (92, .ireturn, 1), (93, .iconst 0, 1), (94, .istore 4, 2), (96, .iload 4, 2), (98, .aload_n 0, 1), (99, .getfield 235, 3), (102, .if_icmp .ge 49, 3), (105, .iload_n 3, 1), (106, .iload_n 2, 1), (107, .iconst 3, 1), (108, .if_icmp .ne 15, 3), (111, .aload_n 0, 1), (112, .iload_n 1, 1), (113, .iload 4, 2), (115, .invokevirtual 273, 3), (118, .bipush (-2), 2), (120, .if_icmp .ne 18, 3), (123, .iload_n 2, 1), (124, .iconst 4, 1), (125, .if_icmp .ne 17, 3), (128, .aload_n 0, 1), (129, .iload_n 1, 1), (130, .iload 4, 2), (132, .invokevirtual 273, 3), (135, .ifCond .ne 7, 3), (138, .iconst 1, 1), (139, .goto 4, 3), (142, .iconst 0, 1), (143, .iadd, 1), (144, .istore_n 3, 1), (145, .iinc 4 1, 3), (148, .goto (-52), 3), (151, .iload_n 3, 1), (152, .ireturn, 1), (153, .aload_n 0, 1), (154, .aload_n 0, 1), (155, .getfield 28, 3), (158, .sipush 2672, 3), (161, .iload_n 1, 1), (162, .iadd, 1), (163, .iaload, 1), (164, .bipush 6, 2), (166, .iload_n 2, 1), (167, .isub, 1), (168, .invokevirtual 276, 3), (171, .ireturn, 1), (172, .aload_n 0, 1), (173, .iconst 2, 1), (174, .putfield 86, 3), (177, .iconst 0, 1), (178, .ireturn, 1)]
theorem D_X10_player : dchk cX10_player T_X10_player = true := by decide +kernel
def Mo_player (σ : ST) (a1 : Int32) (a2 : Int32) : Option (Int32 × ST) :=
  lt_ (setF σ 840 0 0) (fun s1 => bd_ (Mo_isPlayer s1 a1) (fun q2 => (if q2 = 0 then lt_ (setF s1 840 0 1) (fun s28 => some (0, s28)) else lk_ (fun kk4 => lk_ (fun kk9 => sw_ a2 0 [bd_ (ldI s1 34 0 (2672 + a1)) (fun v24 => some (v24, s1)), bd_ (Mo_paidAll s1 a1) (fun q25 => some (q25, s1)), bd_ (Mo_paidAll s1 a1) (fun q26 => bd_ (Mo_weightAll s1 a1) (fun q27 => some ((q26 - q27), s1))), kk9 (), kk9 (), kk4 (), kk4 ()] (lt_ (setF s1 840 0 2) (fun s23 => some (0, s23)))) (fun (j8 : Unit) => lp_ (fun rec12 (z11 : Int32 × Int32) => (if (gF s1 852 0) ≤ z11.2 then some (z11.1, s1) else lk_ (fun kk15 => (if a2 = 3 then bd_ (Mo_roleOf s1 a1 z11.2) (fun q21 => (if q21 = (-2) then kk15 () else lt_ ((z11.1 + 1)) (fun x22 => rec12 (x22, (z11.2 + 1))))) else kk15 ())) (fun (j14 : Unit) => (if a2 = 4 then bd_ (Mo_roleOf s1 a1 z11.2) (fun q18 => (if q18 = 0 then lt_ ((z11.1 + 1)) (fun x20 => rec12 (x20, (z11.2 + 1))) else lt_ ((z11.1 + 0)) (fun x19 => rec12 (x19, (z11.2 + 1))))) else lt_ ((z11.1 + 0)) (fun x17 => rec12 (x17, (z11.2 + 1))))))) FU (0, 0))) (fun (j3 : Unit) => bd_ (ldI s1 34 0 (2672 + a1)) (fun v6 => bd_ (Mo_paidByOf s1 v6 (6 - a2)) (fun q7 => some (q7, s1)))))))
set_option maxHeartbeats 4000000 in
set_option maxRecDepth 100000 in
theorem c_X10_player {G : GW} (hG : Good G) {l : Launch} (σ : ST) (a1 : Int32) (a2 : Int32) : Ctr G l yX10_player cX10_player 5 (some .int) 2 [.ref (ga G 131 0), .int a1, .int a2] σ oP (Mo_player σ a1 a2) := by
  refine ctr_of hG (by decide) (Nat.le_of_ble_eq_true rfl) ?_
  intro X hXl hR hX
  have hX : Ok G X cX10_player 5 RX10 2 := hX
  unfold Mo_player
  show Sim G X 5 (MQX G X oP) σ 0 [(0, .ref (ga G 131 0)), (1, .int a1), (2, .int a2)] [] _
  refine s_aload_n 0 (n := 1) hX (dec_of D_X10_player (i := 0) rfl) rfl rfl rfl ?_
  refine s_iconst (v := 0) (n := 2) hX (dec_of D_X10_player (i := 1) rfl) rfl (by decide) ?_
  refine s_putI (c := 10) (p := 0) (n := 5) hX cls10 (vk131 (by omega)) (dec_of D_X10_player (i := 2) rfl) rfl rfl (by decide) wd_1346 rfl rfl rfl (fun s1 => ?_)
  refine s_aload_n 0 (n := 6) hX (dec_of D_X10_player (i := 3) rfl) rfl rfl rfl ?_
  refine s_iload_n 1 (n := 7) hX (dec_of D_X10_player (i := 4) rfl) rfl rfl rfl ?_
  refine s_callVI (c := 10) (n := 10) hX cls10 (vk131 (by omega)) lk_RX10_264 (dec_of D_X10_player (i := 5) rfl) rfl (by decide) (c_X10_isPlayer (l := _) hG _ _) rfl rfl (Nat.le_of_ble_eq_true rfl) (fun q2 => ?_)
  refine s_if_ne (tgt := 20) (n := 13) hX (dec_of D_X10_player (i := 6) rfl) rfl rfl ?_ ?_
  · refine s_iconst (v := 0) (n := 21) hX (dec_of D_X10_player (i := 12) rfl) rfl (by decide) ?_
    refine s_istore_n (lv' := [(0, _), (1, _), (2, _), (3, _)]) [1, 2, 3, 0] (n := 22) hX (dec_of D_X10_player (i := 13) rfl) rfl rfl (by decide) rfl ?_
    refine s_iload_n 2 (n := 23) hX (dec_of D_X10_player (i := 14) rfl) rfl rfl rfl ?_
    refine s_lk (pcj := 153) (Sf := fun (j3 : Unit) => s1) (lvf := fun (j3 : Unit) => [(0, .ref (ga G 131 0)), (1, .int a1), (2, .int a2)]) (stf := fun (j3 : Unit) => []) (fun j3 => ?_) (fun kk4 hkk5 => ?_)
    · refine s_aload_n 0 (n := 154) hX (dec_of D_X10_player (i := 68) rfl) rfl rfl rfl ?_
      refine s_aload_n 0 (n := 155) hX (dec_of D_X10_player (i := 69) rfl) rfl rfl rfl ?_
      refine s_getR (c := 10) (p := 14) (k' := 34) (n := 158) hX cls10 (vk131 (by omega)) (dec_of D_X10_player (i := 70) rfl) rfl rfl wd_1360 ?_
      refine s_sipush (v := 2672) (n := 161) hX (dec_of D_X10_player (i := 71) rfl) rfl (by decide) ?_
      refine s_iload_n 1 (n := 162) hX (dec_of D_X10_player (i := 72) rfl) rfl rfl rfl ?_
      refine s_iadd (n := 163) hX (dec_of D_X10_player (i := 73) rfl) rfl ?_
      refine s_iald (n := 164) hX (vk34 (by omega)) (by decide) (dec_of D_X10_player (i := 74) rfl) rfl (fun v6 => ?_)
      refine s_bipush (v := 6) (n := 166) hX (dec_of D_X10_player (i := 75) rfl) rfl (by decide) ?_
      refine s_iload_n 2 (n := 167) hX (dec_of D_X10_player (i := 76) rfl) rfl rfl rfl ?_
      refine s_isub (n := 168) hX (dec_of D_X10_player (i := 77) rfl) rfl ?_
      refine s_callVI (c := 10) (n := 171) hX cls10 (vk131 (by omega)) lk_RX10_276 (dec_of D_X10_player (i := 78) rfl) rfl (by decide) (c_X10_paidByOf (l := _) hG _ _ _) rfl rfl (Nat.le_of_ble_eq_true rfl) (fun q7 => ?_)
      exact s_iret hX hR (dec_of D_X10_player (i := 79) rfl) rfl
    · refine s_lk (pcj := 93) (Sf := fun (j8 : Unit) => s1) (lvf := fun (j8 : Unit) => [(0, .ref (ga G 131 0)), (1, .int a1), (2, .int a2), (3, .int 0)]) (stf := fun (j8 : Unit) => []) (fun j8 => ?_) (fun kk9 hkk10 => ?_)
      · refine s_iconst (v := 0) (n := 94) hX (dec_of D_X10_player (i := 35) rfl) rfl (by decide) ?_
        refine s_istore (lv' := [(0, _), (1, _), (2, _), (3, _), (4, _)]) [1, 2, 3, 4, 0] (n := 96) hX (dec_of D_X10_player (i := 36) rfl) rfl (by decide) rfl ?_
        refine s_sub [0, 1, 2, 3, 4] rfl (s_lp (pc := 96) (Sf := fun (z11 : Int32 × Int32) => s1) (lvf := fun (z11 : Int32 × Int32) => [(0, .ref (ga G 131 0)), (1, .int a1), (2, .int a2), (3, .int z11.1), (4, .int z11.2)]) (fun rec12 hre13 z11 => ?_) FU (0, 0))
        refine s_iload 4 (n := 98) hX (dec_of D_X10_player (i := 37) rfl) rfl rfl ?_
        refine s_aload_n 0 (n := 99) hX (dec_of D_X10_player (i := 38) rfl) rfl rfl rfl ?_
        refine s_getI (c := 10) (p := 12) (id := 852) (n := 102) hX cls10 (vk131 (by omega)) (dec_of D_X10_player (i := 39) rfl) rfl rfl wd_1358 ?_
        refine s_icmp_ge (tgt := 151) (n := 105) hX (dec_of D_X10_player (i := 40) rfl) rfl rfl ?_ ?_
        · refine s_iload_n 3 (n := 152) hX (dec_of D_X10_player (i := 66) rfl) rfl rfl rfl ?_
          exact s_iret hX hR (dec_of D_X10_player (i := 67) rfl) rfl
        · refine s_iload_n 3 (n := 106) hX (dec_of D_X10_player (i := 41) rfl) rfl rfl rfl ?_
          refine s_iload_n 2 (n := 107) hX (dec_of D_X10_player (i := 42) rfl) rfl rfl rfl ?_
          refine s_iconst (v := 3) (n := 108) hX (dec_of D_X10_player (i := 43) rfl) rfl (by decide) ?_
          refine s_lk (pcj := 123) (Sf := fun (j14 : Unit) => s1) (lvf := fun (j14 : Unit) => [(0, .ref (ga G 131 0)), (1, .int a1), (2, .int a2), (4, .int z11.2)]) (stf := fun (j14 : Unit) => [.int z11.1]) (fun j14 => ?_) (fun kk15 hkk16 => ?_)
          · refine s_iload_n 2 (n := 124) hX (dec_of D_X10_player (i := 51) rfl) rfl rfl rfl ?_
            refine s_iconst (v := 4) (n := 125) hX (dec_of D_X10_player (i := 52) rfl) rfl (by decide) ?_
            refine s_icmp_ne (tgt := 142) (n := 128) hX (dec_of D_X10_player (i := 53) rfl) rfl rfl ?_ ?_
            · refine s_iconst (v := 0) (n := 143) hX (dec_of D_X10_player (i := 61) rfl) rfl (by decide) ?_
              refine s_iadd (n := 144) hX (dec_of D_X10_player (i := 62) rfl) rfl ?_
              refine s_topi (fun x17 => ?_)
              refine s_istore_n (lv' := [(0, _), (1, _), (2, _), (3, _), (4, _)]) [1, 2, 3, 0, 4] (n := 145) hX (dec_of D_X10_player (i := 63) rfl) rfl rfl (by decide) rfl ?_
              refine s_iinc (v := z11.2 + 1) (lv' := [(0, _), (1, _), (2, _), (3, _), (4, _)]) 4 [1, 2, 3, 4, 0] (n := 148) hX (dec_of D_X10_player (i := 64) rfl) rfl rfl rfl (by decide) rfl ?_
              refine s_goto (n := 96) hX (dec_of D_X10_player (i := 65) rfl) rfl ?_
              exact s_sub [0, 1, 2, 3, 4] rfl (hre13 (x17, (z11.2 + 1)))
            · refine s_aload_n 0 (n := 129) hX (dec_of D_X10_player (i := 54) rfl) rfl rfl rfl ?_
              refine s_iload_n 1 (n := 130) hX (dec_of D_X10_player (i := 55) rfl) rfl rfl rfl ?_
              refine s_iload 3 (n := 132) hX (dec_of D_X10_player (i := 56) rfl) rfl rfl ?_
              refine s_callVI (c := 10) (n := 135) hX cls10 (vk131 (by omega)) lk_RX10_273 (dec_of D_X10_player (i := 57) rfl) rfl (by decide) (c_X10_roleOf (l := _) hG _ _ _) rfl rfl (Nat.le_of_ble_eq_true rfl) (fun q18 => ?_)
              refine s_if_ne (tgt := 142) (n := 138) hX (dec_of D_X10_player (i := 58) rfl) rfl rfl ?_ ?_
              · refine s_iconst (v := 0) (n := 143) hX (dec_of D_X10_player (i := 61) rfl) rfl (by decide) ?_
                refine s_iadd (n := 144) hX (dec_of D_X10_player (i := 62) rfl) rfl ?_
                refine s_topi (fun x19 => ?_)
                refine s_istore_n (lv' := [(0, _), (1, _), (2, _), (3, _), (4, _)]) [1, 2, 3, 0, 4] (n := 145) hX (dec_of D_X10_player (i := 63) rfl) rfl rfl (by decide) rfl ?_
                refine s_iinc (v := z11.2 + 1) (lv' := [(0, _), (1, _), (2, _), (3, _), (4, _)]) 4 [1, 2, 3, 4, 0] (n := 148) hX (dec_of D_X10_player (i := 64) rfl) rfl rfl rfl (by decide) rfl ?_
                refine s_goto (n := 96) hX (dec_of D_X10_player (i := 65) rfl) rfl ?_
                exact s_sub [0, 1, 2, 3, 4] rfl (hre13 (x19, (z11.2 + 1)))
              · refine s_iconst (v := 1) (n := 139) hX (dec_of D_X10_player (i := 59) rfl) rfl (by decide) ?_
                refine s_goto (n := 143) hX (dec_of D_X10_player (i := 60) rfl) rfl ?_
                refine s_iadd (n := 144) hX (dec_of D_X10_player (i := 62) rfl) rfl ?_
                refine s_topi (fun x20 => ?_)
                refine s_istore_n (lv' := [(0, _), (1, _), (2, _), (3, _), (4, _)]) [1, 2, 3, 0, 4] (n := 145) hX (dec_of D_X10_player (i := 63) rfl) rfl rfl (by decide) rfl ?_
                refine s_iinc (v := z11.2 + 1) (lv' := [(0, _), (1, _), (2, _), (3, _), (4, _)]) 4 [1, 2, 3, 4, 0] (n := 148) hX (dec_of D_X10_player (i := 64) rfl) rfl rfl rfl (by decide) rfl ?_
                refine s_goto (n := 96) hX (dec_of D_X10_player (i := 65) rfl) rfl ?_
                exact s_sub [0, 1, 2, 3, 4] rfl (hre13 (x20, (z11.2 + 1)))
          · refine s_icmp_ne (tgt := 123) (n := 111) hX (dec_of D_X10_player (i := 44) rfl) rfl rfl ?_ ?_
            · exact s_sub [0, 1, 2, 4] rfl (hkk16 ())
            · refine s_aload_n 0 (n := 112) hX (dec_of D_X10_player (i := 45) rfl) rfl rfl rfl ?_
              refine s_iload_n 1 (n := 113) hX (dec_of D_X10_player (i := 46) rfl) rfl rfl rfl ?_
              refine s_iload 4 (n := 115) hX (dec_of D_X10_player (i := 47) rfl) rfl rfl ?_
              refine s_callVI (c := 10) (n := 118) hX cls10 (vk131 (by omega)) lk_RX10_273 (dec_of D_X10_player (i := 48) rfl) rfl (by decide) (c_X10_roleOf (l := _) hG _ _ _) rfl rfl (Nat.le_of_ble_eq_true rfl) (fun q21 => ?_)
              refine s_bipush (v := (-2)) (n := 120) hX (dec_of D_X10_player (i := 49) rfl) rfl (by decide) ?_
              refine s_icmp_ne (tgt := 138) (n := 123) hX (dec_of D_X10_player (i := 50) rfl) rfl rfl ?_ ?_
              · refine s_iconst (v := 1) (n := 139) hX (dec_of D_X10_player (i := 59) rfl) rfl (by decide) ?_
                refine s_goto (n := 143) hX (dec_of D_X10_player (i := 60) rfl) rfl ?_
                refine s_iadd (n := 144) hX (dec_of D_X10_player (i := 62) rfl) rfl ?_
                refine s_topi (fun x22 => ?_)
                refine s_istore_n (lv' := [(0, _), (1, _), (2, _), (3, _), (4, _)]) [1, 2, 3, 0, 4] (n := 145) hX (dec_of D_X10_player (i := 63) rfl) rfl rfl (by decide) rfl ?_
                refine s_iinc (v := z11.2 + 1) (lv' := [(0, _), (1, _), (2, _), (3, _), (4, _)]) 4 [1, 2, 3, 4, 0] (n := 148) hX (dec_of D_X10_player (i := 64) rfl) rfl rfl rfl (by decide) rfl ?_
                refine s_goto (n := 96) hX (dec_of D_X10_player (i := 65) rfl) rfl ?_
                exact s_sub [0, 1, 2, 3, 4] rfl (hre13 (x22, (z11.2 + 1)))
              · exact s_sub [0, 1, 2, 4] rfl (hkk16 ())
      · refine s_tsw (lo' := 0) (Ps := [_, _, _, _, _, _, _]) hX (dec_of D_X10_player (i := 15) rfl) rfl 7 rfl (by decide) (by decide) [64, 75, 81, 93, 93, 153, 153] 172 rfl rfl (by decide +kernel) ?_ ?_
        · skip
          refine swS_cons ?_ ?_
          · refine s_aload_n 0 (n := 65) hX (dec_of D_X10_player (i := 16) rfl) rfl rfl rfl ?_
            refine s_getR (c := 10) (p := 14) (k' := 34) (n := 68) hX cls10 (vk131 (by omega)) (dec_of D_X10_player (i := 17) rfl) rfl rfl wd_1360 ?_
            refine s_sipush (v := 2672) (n := 71) hX (dec_of D_X10_player (i := 18) rfl) rfl (by decide) ?_
            refine s_iload_n 1 (n := 72) hX (dec_of D_X10_player (i := 19) rfl) rfl rfl rfl ?_
            refine s_iadd (n := 73) hX (dec_of D_X10_player (i := 20) rfl) rfl ?_
            refine s_iald (n := 74) hX (vk34 (by omega)) (by decide) (dec_of D_X10_player (i := 21) rfl) rfl (fun v24 => ?_)
            exact s_iret hX hR (dec_of D_X10_player (i := 22) rfl) rfl
          refine swS_cons ?_ ?_
          · refine s_aload_n 0 (n := 76) hX (dec_of D_X10_player (i := 23) rfl) rfl rfl rfl ?_
            refine s_iload_n 1 (n := 77) hX (dec_of D_X10_player (i := 24) rfl) rfl rfl rfl ?_
            refine s_callVI (c := 10) (n := 80) hX cls10 (vk131 (by omega)) lk_RX10_267 (dec_of D_X10_player (i := 25) rfl) rfl (by decide) (c_X10_paidAll (l := _) hG _ _) rfl rfl (Nat.le_of_ble_eq_true rfl) (fun q25 => ?_)
            exact s_iret hX hR (dec_of D_X10_player (i := 26) rfl) rfl
          refine swS_cons ?_ ?_
          · refine s_aload_n 0 (n := 82) hX (dec_of D_X10_player (i := 27) rfl) rfl rfl rfl ?_
            refine s_iload_n 1 (n := 83) hX (dec_of D_X10_player (i := 28) rfl) rfl rfl rfl ?_
            refine s_callVI (c := 10) (n := 86) hX cls10 (vk131 (by omega)) lk_RX10_267 (dec_of D_X10_player (i := 29) rfl) rfl (by decide) (c_X10_paidAll (l := _) hG _ _) rfl rfl (Nat.le_of_ble_eq_true rfl) (fun q26 => ?_)
            refine s_aload_n 0 (n := 87) hX (dec_of D_X10_player (i := 30) rfl) rfl rfl rfl ?_
            refine s_iload_n 1 (n := 88) hX (dec_of D_X10_player (i := 31) rfl) rfl rfl rfl ?_
            refine s_callVI (c := 10) (n := 91) hX cls10 (vk131 (by omega)) lk_RX10_270 (dec_of D_X10_player (i := 32) rfl) rfl (by decide) (c_X10_weightAll (l := _) hG _ _) rfl rfl (Nat.le_of_ble_eq_true rfl) (fun q27 => ?_)
            refine s_isub (n := 92) hX (dec_of D_X10_player (i := 33) rfl) rfl ?_
            exact s_iret hX hR (dec_of D_X10_player (i := 34) rfl) rfl
          refine swS_cons ?_ ?_
          · exact s_sub [0, 1, 2, 3] rfl (hkk10 ())
          refine swS_cons ?_ ?_
          · exact s_sub [0, 1, 2, 3] rfl (hkk10 ())
          refine swS_cons ?_ ?_
          · exact s_sub [0, 1, 2] rfl (hkk5 ())
          refine swS_cons ?_ ?_
          · exact s_sub [0, 1, 2] rfl (hkk5 ())
          exact swS_nil
        · refine s_aload_n 0 (n := 173) hX (dec_of D_X10_player (i := 80) rfl) rfl rfl rfl ?_
          refine s_iconst (v := 2) (n := 174) hX (dec_of D_X10_player (i := 81) rfl) rfl (by decide) ?_
          refine s_putI (c := 10) (p := 0) (n := 177) hX cls10 (vk131 (by omega)) (dec_of D_X10_player (i := 82) rfl) rfl rfl (by decide) wd_1346 rfl rfl rfl (fun s23 => ?_)
          refine s_iconst (v := 0) (n := 178) hX (dec_of D_X10_player (i := 83) rfl) rfl (by decide) ?_
          exact s_iret hX hR (dec_of D_X10_player (i := 84) rfl) rfl
  · refine s_aload_n 0 (n := 14) hX (dec_of D_X10_player (i := 7) rfl) rfl rfl rfl ?_
    refine s_iconst (v := 1) (n := 15) hX (dec_of D_X10_player (i := 8) rfl) rfl (by decide) ?_
    refine s_putI (c := 10) (p := 0) (n := 18) hX cls10 (vk131 (by omega)) (dec_of D_X10_player (i := 9) rfl) rfl rfl (by decide) wd_1346 rfl rfl rfl (fun s28 => ?_)
    refine s_iconst (v := 0) (n := 19) hX (dec_of D_X10_player (i := 10) rfl) rfl (by decide) ?_
    exact s_iret hX hR (dec_of D_X10_player (i := 11) rfl) rfl
def T_X10_manyOf : List (Nat × Instr × Nat) := [(0, .iconst 0, 1), (1, .istore_n 3, 1), (2, .iconst 0, 1), (3, .istore 4, 2), (5, .iload 4, 2), (7, .aload_n 0, 1), (8, .getfield 22, 3), (11, .iload_n 1, 1), (12, .iaload, 1), (13, .if_icmp .ge 33, 3), (16, .iload_n 3, 1), (17, .aload_n 0, 1), (18, .getfield 19, 3), (21, .bipush 8, 2), (23, .iload_n 1, 1), (24, .imul, 1), (25, .iload 4, 2), (27, .iadd, 1), (28, .iaload, 1), (29, .iload_n 2, 1), (30, .if_icmp .ne 7, 3), (33, .iconst 1, 1), (34, .goto 4, 3), (37, .iconst 0, 1), (38, .iadd, 1), (39, .istore_n 3, 1), (40, .iinc 4 1, 3), (43, .goto (-38), 3), (46, .iload_n 3, 1), (47, .ireturn, 1)]
theorem D_X10_manyOf : dchk cX10_manyOf T_X10_manyOf = true := by decide +kernel
def Mo_manyOf (σ : ST) (a1 : Int32) (a2 : Int32) : Option Int32 :=
  lp_ (fun rec2 (z1 : Int32 × Int32) => bd_ (ldI σ 32 0 a1) (fun v4 => (if v4 ≤ z1.2 then some z1.1 else bd_ (ldI σ 31 0 ((8 * a1) + z1.2)) (fun v5 => (if v5 = a2 then lt_ ((z1.1 + 1)) (fun x7 => rec2 (x7, (z1.2 + 1))) else lt_ ((z1.1 + 0)) (fun x6 => rec2 (x6, (z1.2 + 1)))))))) FU (0, 0)
set_option maxHeartbeats 4000000 in
set_option maxRecDepth 100000 in
theorem c_X10_manyOf {G : GW} (hG : Good G) {l : Launch} (σ : ST) (a1 : Int32) (a2 : Int32) : Ctr G l yX10_manyOf cX10_manyOf 5 (some .int) 0 [.ref (ga G 131 0), .int a1, .int a2] σ (oI σ) (Mo_manyOf σ a1 a2) := by
  refine ctr_of hG (by decide) (Nat.le_of_ble_eq_true rfl) ?_
  intro X hXl hR hX
  have hX : Ok G X cX10_manyOf 5 RX10 0 := hX
  unfold Mo_manyOf
  show Sim G X 5 (MQX G X (oI σ)) σ 0 [(0, .ref (ga G 131 0)), (1, .int a1), (2, .int a2)] [] _
  refine s_iconst (v := 0) (n := 1) hX (dec_of D_X10_manyOf (i := 0) rfl) rfl (by decide) ?_
  refine s_istore_n (lv' := [(0, _), (1, _), (2, _), (3, _)]) [1, 2, 3, 0] (n := 2) hX (dec_of D_X10_manyOf (i := 1) rfl) rfl rfl (by decide) rfl ?_
  refine s_iconst (v := 0) (n := 3) hX (dec_of D_X10_manyOf (i := 2) rfl) rfl (by decide) ?_
  refine s_istore (lv' := [(0, _), (1, _), (2, _), (3, _), (4, _)]) [1, 2, 3, 4, 0] (n := 5) hX (dec_of D_X10_manyOf (i := 3) rfl) rfl (by decide) rfl ?_
  refine s_sub [0, 1, 2, 3, 4] rfl (s_lp (pc := 5) (Sf := fun (z1 : Int32 × Int32) => σ) (lvf := fun (z1 : Int32 × Int32) => [(0, .ref (ga G 131 0)), (1, .int a1), (2, .int a2), (3, .int z1.1), (4, .int z1.2)]) (fun rec2 hre3 z1 => ?_) FU (0, 0))
  refine s_iload 4 (n := 7) hX (dec_of D_X10_manyOf (i := 4) rfl) rfl rfl ?_
  refine s_aload_n 0 (n := 8) hX (dec_of D_X10_manyOf (i := 5) rfl) rfl rfl rfl ?_
  refine s_getR (c := 10) (p := 6) (k' := 32) (n := 11) hX cls10 (vk131 (by omega)) (dec_of D_X10_manyOf (i := 6) rfl) rfl rfl wd_1352 ?_
  refine s_iload_n 1 (n := 12) hX (dec_of D_X10_manyOf (i := 7) rfl) rfl rfl rfl ?_
  refine s_iald (n := 13) hX (vk32 (by omega)) (by decide) (dec_of D_X10_manyOf (i := 8) rfl) rfl (fun v4 => ?_)
  refine s_icmp_ge (tgt := 46) (n := 16) hX (dec_of D_X10_manyOf (i := 9) rfl) rfl rfl ?_ ?_
  · refine s_iload_n 3 (n := 47) hX (dec_of D_X10_manyOf (i := 28) rfl) rfl rfl rfl ?_
    exact s_iret hX hR (dec_of D_X10_manyOf (i := 29) rfl) rfl
  · refine s_iload_n 3 (n := 17) hX (dec_of D_X10_manyOf (i := 10) rfl) rfl rfl rfl ?_
    refine s_aload_n 0 (n := 18) hX (dec_of D_X10_manyOf (i := 11) rfl) rfl rfl rfl ?_
    refine s_getR (c := 10) (p := 5) (k' := 31) (n := 21) hX cls10 (vk131 (by omega)) (dec_of D_X10_manyOf (i := 12) rfl) rfl rfl wd_1351 ?_
    refine s_bipush (v := 8) (n := 23) hX (dec_of D_X10_manyOf (i := 13) rfl) rfl (by decide) ?_
    refine s_iload_n 1 (n := 24) hX (dec_of D_X10_manyOf (i := 14) rfl) rfl rfl rfl ?_
    refine s_imul (n := 25) hX (dec_of D_X10_manyOf (i := 15) rfl) rfl ?_
    refine s_iload 4 (n := 27) hX (dec_of D_X10_manyOf (i := 16) rfl) rfl rfl ?_
    refine s_iadd (n := 28) hX (dec_of D_X10_manyOf (i := 17) rfl) rfl ?_
    refine s_iald (n := 29) hX (vk31 (by omega)) (by decide) (dec_of D_X10_manyOf (i := 18) rfl) rfl (fun v5 => ?_)
    refine s_iload_n 2 (n := 30) hX (dec_of D_X10_manyOf (i := 19) rfl) rfl rfl rfl ?_
    refine s_icmp_ne (tgt := 37) (n := 33) hX (dec_of D_X10_manyOf (i := 20) rfl) rfl rfl ?_ ?_
    · refine s_iconst (v := 0) (n := 38) hX (dec_of D_X10_manyOf (i := 23) rfl) rfl (by decide) ?_
      refine s_iadd (n := 39) hX (dec_of D_X10_manyOf (i := 24) rfl) rfl ?_
      refine s_topi (fun x6 => ?_)
      refine s_istore_n (lv' := [(0, _), (1, _), (2, _), (3, _), (4, _)]) [1, 2, 3, 0, 4] (n := 40) hX (dec_of D_X10_manyOf (i := 25) rfl) rfl rfl (by decide) rfl ?_
      refine s_iinc (v := z1.2 + 1) (lv' := [(0, _), (1, _), (2, _), (3, _), (4, _)]) 4 [1, 2, 3, 4, 0] (n := 43) hX (dec_of D_X10_manyOf (i := 26) rfl) rfl rfl rfl (by decide) rfl ?_
      refine s_goto (n := 5) hX (dec_of D_X10_manyOf (i := 27) rfl) rfl ?_
      exact s_sub [0, 1, 2, 3, 4] rfl (hre3 (x6, (z1.2 + 1)))
    · refine s_iconst (v := 1) (n := 34) hX (dec_of D_X10_manyOf (i := 21) rfl) rfl (by decide) ?_
      refine s_goto (n := 38) hX (dec_of D_X10_manyOf (i := 22) rfl) rfl ?_
      refine s_iadd (n := 39) hX (dec_of D_X10_manyOf (i := 24) rfl) rfl ?_
      refine s_topi (fun x7 => ?_)
      refine s_istore_n (lv' := [(0, _), (1, _), (2, _), (3, _), (4, _)]) [1, 2, 3, 0, 4] (n := 40) hX (dec_of D_X10_manyOf (i := 25) rfl) rfl rfl (by decide) rfl ?_
      refine s_iinc (v := z1.2 + 1) (lv' := [(0, _), (1, _), (2, _), (3, _), (4, _)]) 4 [1, 2, 3, 4, 0] (n := 43) hX (dec_of D_X10_manyOf (i := 26) rfl) rfl rfl rfl (by decide) rfl ?_
      refine s_goto (n := 5) hX (dec_of D_X10_manyOf (i := 27) rfl) rfl ?_
      exact s_sub [0, 1, 2, 3, 4] rfl (hre3 (x7, (z1.2 + 1)))
def T_X10_openOf : List (Nat × Instr × Nat) := [(0, .iconst 0, 1), (1, .istore_n 2, 1), (2, .iconst 0, 1), (3, .istore_n 3, 1), (4, .iload_n 3, 1), (5, .aload_n 0, 1), (6, .getfield 25, 3), (9, .iload_n 1, 1), (10, .iaload, 1), (11, .if_icmp .ge 27, 3), (14, .iload_n 2, 1), (15, .aload_n 0, 1), (16, .iload_n 1, 1), (17, .iload_n 3, 1), (18, .invokevirtual 254, 3), (21, .iconst (-1), 1), (22, .if_icmp .ne 7, 3), (25, .iconst 1, 1), (26, .goto 4, 3), (29, .iconst 0, 1), (30, .iadd, 1), (31, .istore_n 2, 1), (32, .iinc 3 1, 3), (35, .goto (-31), 3), (38, .iload_n 2, 1), (39, .ireturn, 1)]
theorem D_X10_openOf : dchk cX10_openOf T_X10_openOf = true := by decide +kernel
def Mo_openOf (σ : ST) (a1 : Int32) : Option Int32 :=
  lp_ (fun rec2 (z1 : Int32 × Int32) => bd_ (ldI σ 33 0 a1) (fun v4 => (if v4 ≤ z1.2 then some z1.1 else bd_ (Mo_owner (σ) a1 z1.2) (fun q5 => (if q5 = (-1) then lt_ ((z1.1 + 1)) (fun x7 => rec2 (x7, (z1.2 + 1))) else lt_ ((z1.1 + 0)) (fun x6 => rec2 (x6, (z1.2 + 1)))))))) FU (0, 0)
set_option maxHeartbeats 4000000 in
set_option maxRecDepth 100000 in
theorem c_X10_openOf {G : GW} (hG : Good G) {l : Launch} (σ : ST) (a1 : Int32) : Ctr G l yX10_openOf cX10_openOf 4 (some .int) 1 [.ref (ga G 131 0), .int a1] σ (oI σ) (Mo_openOf σ a1) := by
  refine ctr_of hG (by decide) (Nat.le_of_ble_eq_true rfl) ?_
  intro X hXl hR hX
  have hX : Ok G X cX10_openOf 4 RX10 1 := hX
  unfold Mo_openOf
  show Sim G X 4 (MQX G X (oI σ)) σ 0 [(0, .ref (ga G 131 0)), (1, .int a1)] [] _
  refine s_iconst (v := 0) (n := 1) hX (dec_of D_X10_openOf (i := 0) rfl) rfl (by decide) ?_
  refine s_istore_n (lv' := [(0, _), (1, _), (2, _)]) [1, 2, 0] (n := 2) hX (dec_of D_X10_openOf (i := 1) rfl) rfl rfl (by decide) rfl ?_
  refine s_iconst (v := 0) (n := 3) hX (dec_of D_X10_openOf (i := 2) rfl) rfl (by decide) ?_
  refine s_istore_n (lv' := [(0, _), (1, _), (2, _), (3, _)]) [1, 2, 3, 0] (n := 4) hX (dec_of D_X10_openOf (i := 3) rfl) rfl rfl (by decide) rfl ?_
  refine s_sub [0, 1, 2, 3] rfl (s_lp (pc := 4) (Sf := fun (z1 : Int32 × Int32) => σ) (lvf := fun (z1 : Int32 × Int32) => [(0, .ref (ga G 131 0)), (1, .int a1), (2, .int z1.1), (3, .int z1.2)]) (fun rec2 hre3 z1 => ?_) FU (0, 0))
  refine s_iload_n 3 (n := 5) hX (dec_of D_X10_openOf (i := 4) rfl) rfl rfl rfl ?_
  refine s_aload_n 0 (n := 6) hX (dec_of D_X10_openOf (i := 5) rfl) rfl rfl rfl ?_
  refine s_getR (c := 10) (p := 7) (k' := 33) (n := 9) hX cls10 (vk131 (by omega)) (dec_of D_X10_openOf (i := 6) rfl) rfl rfl wd_1353 ?_
  refine s_iload_n 1 (n := 10) hX (dec_of D_X10_openOf (i := 7) rfl) rfl rfl rfl ?_
  refine s_iald (n := 11) hX (vk33 (by omega)) (by decide) (dec_of D_X10_openOf (i := 8) rfl) rfl (fun v4 => ?_)
  refine s_icmp_ge (tgt := 38) (n := 14) hX (dec_of D_X10_openOf (i := 9) rfl) rfl rfl ?_ ?_
  · refine s_iload_n 2 (n := 39) hX (dec_of D_X10_openOf (i := 24) rfl) rfl rfl rfl ?_
    exact s_iret hX hR (dec_of D_X10_openOf (i := 25) rfl) rfl
  · refine s_iload_n 2 (n := 15) hX (dec_of D_X10_openOf (i := 10) rfl) rfl rfl rfl ?_
    refine s_aload_n 0 (n := 16) hX (dec_of D_X10_openOf (i := 11) rfl) rfl rfl rfl ?_
    refine s_iload_n 1 (n := 17) hX (dec_of D_X10_openOf (i := 12) rfl) rfl rfl rfl ?_
    refine s_iload_n 3 (n := 18) hX (dec_of D_X10_openOf (i := 13) rfl) rfl rfl rfl ?_
    refine s_callVI (c := 10) (n := 21) hX cls10 (vk131 (by omega)) lk_RX10_254 (dec_of D_X10_openOf (i := 14) rfl) rfl (by decide) (c_X10_owner (l := _) hG _ _ _) rfl rfl (Nat.le_of_ble_eq_true rfl) (fun q5 => ?_)
    refine s_iconst (v := (-1)) (n := 22) hX (dec_of D_X10_openOf (i := 15) rfl) rfl (by decide) ?_
    refine s_icmp_ne (tgt := 29) (n := 25) hX (dec_of D_X10_openOf (i := 16) rfl) rfl rfl ?_ ?_
    · refine s_iconst (v := 0) (n := 30) hX (dec_of D_X10_openOf (i := 19) rfl) rfl (by decide) ?_
      refine s_iadd (n := 31) hX (dec_of D_X10_openOf (i := 20) rfl) rfl ?_
      refine s_topi (fun x6 => ?_)
      refine s_istore_n (lv' := [(0, _), (1, _), (2, _), (3, _)]) [1, 2, 0, 3] (n := 32) hX (dec_of D_X10_openOf (i := 21) rfl) rfl rfl (by decide) rfl ?_
      refine s_iinc (v := z1.2 + 1) (lv' := [(0, _), (1, _), (2, _), (3, _)]) 3 [1, 2, 3, 0] (n := 35) hX (dec_of D_X10_openOf (i := 22) rfl) rfl rfl rfl (by decide) rfl ?_
      refine s_goto (n := 4) hX (dec_of D_X10_openOf (i := 23) rfl) rfl ?_
      exact s_sub [0, 1, 2, 3] rfl (hre3 (x6, (z1.2 + 1)))
    · refine s_iconst (v := 1) (n := 26) hX (dec_of D_X10_openOf (i := 17) rfl) rfl (by decide) ?_
      refine s_goto (n := 30) hX (dec_of D_X10_openOf (i := 18) rfl) rfl ?_
      refine s_iadd (n := 31) hX (dec_of D_X10_openOf (i := 20) rfl) rfl ?_
      refine s_topi (fun x7 => ?_)
      refine s_istore_n (lv' := [(0, _), (1, _), (2, _), (3, _)]) [1, 2, 0, 3] (n := 32) hX (dec_of D_X10_openOf (i := 21) rfl) rfl rfl (by decide) rfl ?_
      refine s_iinc (v := z1.2 + 1) (lv' := [(0, _), (1, _), (2, _), (3, _)]) 3 [1, 2, 3, 0] (n := 35) hX (dec_of D_X10_openOf (i := 22) rfl) rfl rfl rfl (by decide) rfl ?_
      refine s_goto (n := 4) hX (dec_of D_X10_openOf (i := 23) rfl) rfl ?_
      exact s_sub [0, 1, 2, 3] rfl (hre3 (x7, (z1.2 + 1)))
theorem lk_RX10_283 : LkV RX10 283 RX10 yX10_manyOf cX10_manyOf 5 (some .int) 2 := ⟨wd_1662, wd_1664, wd_47, wd_93, wd_1665, by decide +kernel, by decide⟩
theorem lk_RX10_286 : LkV RX10 286 RX10 yX10_openOf cX10_openOf 4 (some .int) 1 := ⟨wd_1666, wd_1668, wd_48, wd_93, wd_1669, by decide +kernel, by decide⟩
theorem lk_RX10_289 : LkV RX10 289 RX10 yX10_keptOf cX10_keptOf 6 (some .int) 3 := ⟨wd_1670, wd_1672, wd_49, wd_93, wd_1673, by decide +kernel, by decide⟩
def T_X10_session : List (Nat × Instr × Nat) := [(0, .aload_n 0, 1), (1, .iconst 0, 1), (2, .putfield 86, 3), (5, .aload_n 0, 1), (6, .iload_n 1, 1), (7, .invokevirtual 241, 3), (10, .ifCond .ne 10, 3), (13, .aload_n 0, 1), (14, .iconst 1, 1), (15, .putfield 86, 3), (18, .iconst 0, 1), (19, .ireturn, 1), (20, .iconst 0, 1), (21, .istore_n 3, 1), (22, .iload_n 2, 1), (23, .tableswitch 142 0 6 #[41, 48, 55, 62, 68, 79, 90], 41), (64, .aload_n 0, 1), (65, .iload_n 1, 1), (66, .iconst 0, 1), (67, .invokevirtual 283, 3), (70, .ireturn, 1), (71, .aload_n 0, 1), (72, .iload_n 1, 1), (73, .iconst 1, 1), (74, .invokevirtual 283, 3), (77, .ireturn, 1), (78, .aload_n 0, 1), (79, .getfield 25, 3), (82, .iload_n 1, 1), (83, .iaload, 1), (84, .ireturn, 1), (85, .aload_n 0, 1), (86, .iload_n 1, 1), (87, .invokevirtual 286, 3), (90, .ireturn, 1), (91, .aload_n 0, 1), (92, .getfield 28, 3), (95, .sipush 2644, 3), (98, .iload_n 1, 1), (99, .iadd, 1), (100, .iaload, 1), (101, .ireturn, 1), (102, .aload_n 0, 1), (103, .getfield 28, 3), (106, .sipush 2652, 3), (109, .iload_n 1, 1), (110, .iadd, 1), (111, .iaload, 1), (112, .ireturn, 1), (113, .iconst 0, 1), (114, .istore 4, 2), (116, .iload 4, 2), (118, .aload_n 0, 1), (119, .getfield 229, 3), (122, .if_icmp .ge 41, 3), (125, .iconst 0, 1), (126, .istore 5, 2), (128, .iload 5, 2), (130, .aload_n 0, 1), (131, .getfield 25, 3), (134, .iload_n 1, 1), (135, .iaload, 1), (136, .if_icmp .ge 21, 3), (139, .iload_n 3, 1), (140, .aload_n 0, 1), (141, .iload 4, 2), (143, .iload_n 1, 1), (144, .iload 5, 2), (146, .invokevirtual 289, 3), (149, .iadd, 1), (150, .istore_n 3, 1), (151, .iinc 5 1, 3), (154, .goto (-26), 3), (157, .iinc 4 1, 3), (160, .goto (-44), 3), (163, .iload_n 3, 1), (164, .ireturn, 1), (165, .aload_n 0, 1), (166, .iconst 2, 1), (167, .putfield 86, 3), (170, .iconst 0, 1), (171, .ireturn, 1)]
theorem D_X10_session : dchk cX10_session T_X10_session = true := by decide +kernel
def Mo_session (σ : ST) (a1 : Int32) (a2 : Int32) : Option (Int32 × ST) :=
  lt_ (setF σ 840 0 0) (fun s1 => bd_ (Mo_isSession s1 a1) (fun q2 => (if q2 = 0 then lt_ (setF s1 840 0 1) (fun s19 => some (0, s19)) else sw_ a2 0 [bd_ (Mo_manyOf s1 a1 0) (fun q4 => some (q4, s1)), bd_ (Mo_manyOf s1 a1 1) (fun q5 => some (q5, s1)), bd_ (ldI s1 33 0 a1) (fun v6 => some (v6, s1)), bd_ (Mo_openOf s1 a1) (fun q7 => some (q7, s1)), bd_ (ldI s1 34 0 (2644 + a1)) (fun v8 => some (v8, s1)), bd_ (ldI s1 34 0 (2652 + a1)) (fun v9 => some (v9, s1)), lp_ (fun rec11 (z10 : Int32 × Int32) => (if (gF s1 850 0) ≤ z10.2 then some (z10.1, s1) else lp_ (fun rec14 (z13 : Int32 × Int32) => bd_ (ldI s1 33 0 a1) (fun v16 => (if v16 ≤ z13.2 then rec11 (z13.1, (z10.2 + 1)) else bd_ (Mo_keptOf s1 z10.2 a1 z13.2) (fun q17 => lt_ ((z13.1 + q17)) (fun x18 => rec14 (x18, (z13.2 + 1))))))) FU (z10.1, 0))) FU (0, 0)] (lt_ (setF s1 840 0 2) (fun s3 => some (0, s3))))))
set_option maxHeartbeats 4000000 in
set_option maxRecDepth 100000 in
theorem c_X10_session {G : GW} (hG : Good G) {l : Launch} (σ : ST) (a1 : Int32) (a2 : Int32) : Ctr G l yX10_session cX10_session 6 (some .int) 2 [.ref (ga G 131 0), .int a1, .int a2] σ oP (Mo_session σ a1 a2) := by
  refine ctr_of hG (by decide) (Nat.le_of_ble_eq_true rfl) ?_
  intro X hXl hR hX
  have hX : Ok G X cX10_session 6 RX10 2 := hX
  unfold Mo_session
  show Sim G X 6 (MQX G X oP) σ 0 [(0, .ref (ga G 131 0)), (1, .int a1), (2, .int a2)] [] _
  refine s_aload_n 0 (n := 1) hX (dec_of D_X10_session (i := 0) rfl) rfl rfl rfl ?_
  refine s_iconst (v := 0) (n := 2) hX (dec_of D_X10_session (i := 1) rfl) rfl (by decide) ?_
  refine s_putI (c := 10) (p := 0) (n := 5) hX cls10 (vk131 (by omega)) (dec_of D_X10_session (i := 2) rfl) rfl rfl (by decide) wd_1346 rfl rfl rfl (fun s1 => ?_)
  refine s_aload_n 0 (n := 6) hX (dec_of D_X10_session (i := 3) rfl) rfl rfl rfl ?_
  refine s_iload_n 1 (n := 7) hX (dec_of D_X10_session (i := 4) rfl) rfl rfl rfl ?_
  refine s_callVI (c := 10) (n := 10) hX cls10 (vk131 (by omega)) lk_RX10_241 (dec_of D_X10_session (i := 5) rfl) rfl (by decide) (c_X10_isSession (l := _) hG _ _) rfl rfl (Nat.le_of_ble_eq_true rfl) (fun q2 => ?_)
  refine s_if_ne (tgt := 20) (n := 13) hX (dec_of D_X10_session (i := 6) rfl) rfl rfl ?_ ?_
  · refine s_iconst (v := 0) (n := 21) hX (dec_of D_X10_session (i := 12) rfl) rfl (by decide) ?_
    refine s_istore_n (lv' := [(0, _), (1, _), (2, _), (3, _)]) [1, 2, 3, 0] (n := 22) hX (dec_of D_X10_session (i := 13) rfl) rfl rfl (by decide) rfl ?_
    refine s_iload_n 2 (n := 23) hX (dec_of D_X10_session (i := 14) rfl) rfl rfl rfl ?_
    refine s_tsw (lo' := 0) (Ps := [_, _, _, _, _, _, _]) hX (dec_of D_X10_session (i := 15) rfl) rfl 7 rfl (by decide) (by decide) [64, 71, 78, 85, 91, 102, 113] 165 rfl rfl (by decide +kernel) ?_ ?_
    · skip
      refine swS_cons ?_ ?_
      · refine s_aload_n 0 (n := 65) hX (dec_of D_X10_session (i := 16) rfl) rfl rfl rfl ?_
        refine s_iload_n 1 (n := 66) hX (dec_of D_X10_session (i := 17) rfl) rfl rfl rfl ?_
        refine s_iconst (v := 0) (n := 67) hX (dec_of D_X10_session (i := 18) rfl) rfl (by decide) ?_
        refine s_callVI (c := 10) (n := 70) hX cls10 (vk131 (by omega)) lk_RX10_283 (dec_of D_X10_session (i := 19) rfl) rfl (by decide) (c_X10_manyOf (l := _) hG _ _ _) rfl rfl (Nat.le_of_ble_eq_true rfl) (fun q4 => ?_)
        exact s_iret hX hR (dec_of D_X10_session (i := 20) rfl) rfl
      refine swS_cons ?_ ?_
      · refine s_aload_n 0 (n := 72) hX (dec_of D_X10_session (i := 21) rfl) rfl rfl rfl ?_
        refine s_iload_n 1 (n := 73) hX (dec_of D_X10_session (i := 22) rfl) rfl rfl rfl ?_
        refine s_iconst (v := 1) (n := 74) hX (dec_of D_X10_session (i := 23) rfl) rfl (by decide) ?_
        refine s_callVI (c := 10) (n := 77) hX cls10 (vk131 (by omega)) lk_RX10_283 (dec_of D_X10_session (i := 24) rfl) rfl (by decide) (c_X10_manyOf (l := _) hG _ _ _) rfl rfl (Nat.le_of_ble_eq_true rfl) (fun q5 => ?_)
        exact s_iret hX hR (dec_of D_X10_session (i := 25) rfl) rfl
      refine swS_cons ?_ ?_
      · refine s_aload_n 0 (n := 79) hX (dec_of D_X10_session (i := 26) rfl) rfl rfl rfl ?_
        refine s_getR (c := 10) (p := 7) (k' := 33) (n := 82) hX cls10 (vk131 (by omega)) (dec_of D_X10_session (i := 27) rfl) rfl rfl wd_1353 ?_
        refine s_iload_n 1 (n := 83) hX (dec_of D_X10_session (i := 28) rfl) rfl rfl rfl ?_
        refine s_iald (n := 84) hX (vk33 (by omega)) (by decide) (dec_of D_X10_session (i := 29) rfl) rfl (fun v6 => ?_)
        exact s_iret hX hR (dec_of D_X10_session (i := 30) rfl) rfl
      refine swS_cons ?_ ?_
      · refine s_aload_n 0 (n := 86) hX (dec_of D_X10_session (i := 31) rfl) rfl rfl rfl ?_
        refine s_iload_n 1 (n := 87) hX (dec_of D_X10_session (i := 32) rfl) rfl rfl rfl ?_
        refine s_callVI (c := 10) (n := 90) hX cls10 (vk131 (by omega)) lk_RX10_286 (dec_of D_X10_session (i := 33) rfl) rfl (by decide) (c_X10_openOf (l := _) hG _ _) rfl rfl (Nat.le_of_ble_eq_true rfl) (fun q7 => ?_)
        exact s_iret hX hR (dec_of D_X10_session (i := 34) rfl) rfl
      refine swS_cons ?_ ?_
      · refine s_aload_n 0 (n := 92) hX (dec_of D_X10_session (i := 35) rfl) rfl rfl rfl ?_
        refine s_getR (c := 10) (p := 14) (k' := 34) (n := 95) hX cls10 (vk131 (by omega)) (dec_of D_X10_session (i := 36) rfl) rfl rfl wd_1360 ?_
        refine s_sipush (v := 2644) (n := 98) hX (dec_of D_X10_session (i := 37) rfl) rfl (by decide) ?_
        refine s_iload_n 1 (n := 99) hX (dec_of D_X10_session (i := 38) rfl) rfl rfl rfl ?_
        refine s_iadd (n := 100) hX (dec_of D_X10_session (i := 39) rfl) rfl ?_
        refine s_iald (n := 101) hX (vk34 (by omega)) (by decide) (dec_of D_X10_session (i := 40) rfl) rfl (fun v8 => ?_)
        exact s_iret hX hR (dec_of D_X10_session (i := 41) rfl) rfl
      refine swS_cons ?_ ?_
      · refine s_aload_n 0 (n := 103) hX (dec_of D_X10_session (i := 42) rfl) rfl rfl rfl ?_
        refine s_getR (c := 10) (p := 14) (k' := 34) (n := 106) hX cls10 (vk131 (by omega)) (dec_of D_X10_session (i := 43) rfl) rfl rfl wd_1360 ?_
        refine s_sipush (v := 2652) (n := 109) hX (dec_of D_X10_session (i := 44) rfl) rfl (by decide) ?_
        refine s_iload_n 1 (n := 110) hX (dec_of D_X10_session (i := 45) rfl) rfl rfl rfl ?_
        refine s_iadd (n := 111) hX (dec_of D_X10_session (i := 46) rfl) rfl ?_
        refine s_iald (n := 112) hX (vk34 (by omega)) (by decide) (dec_of D_X10_session (i := 47) rfl) rfl (fun v9 => ?_)
        exact s_iret hX hR (dec_of D_X10_session (i := 48) rfl) rfl
      refine swS_cons ?_ ?_
      · refine s_iconst (v := 0) (n := 114) hX (dec_of D_X10_session (i := 49) rfl) rfl (by decide) ?_
        refine s_istore (lv' := [(0, _), (1, _), (2, _), (3, _), (4, _)]) [1, 2, 3, 4, 0] (n := 116) hX (dec_of D_X10_session (i := 50) rfl) rfl (by decide) rfl ?_
        refine s_sub [0, 1, 3, 4] rfl (s_lp (pc := 116) (Sf := fun (z10 : Int32 × Int32) => s1) (lvf := fun (z10 : Int32 × Int32) => [(0, .ref (ga G 131 0)), (1, .int a1), (3, .int z10.1), (4, .int z10.2)]) (fun rec11 hre12 z10 => ?_) FU (0, 0))
        refine s_iload 3 (n := 118) hX (dec_of D_X10_session (i := 51) rfl) rfl rfl ?_
        refine s_aload_n 0 (n := 119) hX (dec_of D_X10_session (i := 52) rfl) rfl rfl rfl ?_
        refine s_getI (c := 10) (p := 10) (id := 850) (n := 122) hX cls10 (vk131 (by omega)) (dec_of D_X10_session (i := 53) rfl) rfl rfl wd_1356 ?_
        refine s_icmp_ge (tgt := 163) (n := 125) hX (dec_of D_X10_session (i := 54) rfl) rfl rfl ?_ ?_
        · refine s_iload_n 2 (n := 164) hX (dec_of D_X10_session (i := 75) rfl) rfl rfl rfl ?_
          exact s_iret hX hR (dec_of D_X10_session (i := 76) rfl) rfl
        · refine s_iconst (v := 0) (n := 126) hX (dec_of D_X10_session (i := 55) rfl) rfl (by decide) ?_
          refine s_istore (lv' := [(0, _), (1, _), (3, _), (4, _), (5, _)]) [1, 2, 3, 4, 0] (n := 128) hX (dec_of D_X10_session (i := 56) rfl) rfl (by decide) rfl ?_
          refine s_sub [0, 1, 2, 3, 4] rfl (s_lp (pc := 128) (Sf := fun (z13 : Int32 × Int32) => s1) (lvf := fun (z13 : Int32 × Int32) => [(0, .ref (ga G 131 0)), (1, .int a1), (3, .int z13.1), (4, .int z10.2), (5, .int z13.2)]) (fun rec14 hre15 z13 => ?_) FU (z10.1, 0))
          refine s_iload 4 (n := 130) hX (dec_of D_X10_session (i := 57) rfl) rfl rfl ?_
          refine s_aload_n 0 (n := 131) hX (dec_of D_X10_session (i := 58) rfl) rfl rfl rfl ?_
          refine s_getR (c := 10) (p := 7) (k' := 33) (n := 134) hX cls10 (vk131 (by omega)) (dec_of D_X10_session (i := 59) rfl) rfl rfl wd_1353 ?_
          refine s_iload_n 1 (n := 135) hX (dec_of D_X10_session (i := 60) rfl) rfl rfl rfl ?_
          refine s_iald (n := 136) hX (vk33 (by omega)) (by decide) (dec_of D_X10_session (i := 61) rfl) rfl (fun v16 => ?_)
          refine s_icmp_ge (tgt := 157) (n := 139) hX (dec_of D_X10_session (i := 62) rfl) rfl rfl ?_ ?_
          · refine s_iinc (v := z10.2 + 1) (lv' := [(0, _), (1, _), (3, _), (4, _), (5, _)]) 3 [1, 2, 3, 0, 4] (n := 160) hX (dec_of D_X10_session (i := 73) rfl) rfl rfl rfl (by decide) rfl ?_
            refine s_goto (n := 116) hX (dec_of D_X10_session (i := 74) rfl) rfl ?_
            exact s_sub [0, 1, 2, 3] rfl (hre12 (z13.1, (z10.2 + 1)))
          · refine s_iload_n 2 (n := 140) hX (dec_of D_X10_session (i := 63) rfl) rfl rfl rfl ?_
            refine s_aload_n 0 (n := 141) hX (dec_of D_X10_session (i := 64) rfl) rfl rfl rfl ?_
            refine s_iload 3 (n := 143) hX (dec_of D_X10_session (i := 65) rfl) rfl rfl ?_
            refine s_iload_n 1 (n := 144) hX (dec_of D_X10_session (i := 66) rfl) rfl rfl rfl ?_
            refine s_iload 4 (n := 146) hX (dec_of D_X10_session (i := 67) rfl) rfl rfl ?_
            refine s_callVI (c := 10) (n := 149) hX cls10 (vk131 (by omega)) lk_RX10_289 (dec_of D_X10_session (i := 68) rfl) rfl (by decide) (c_X10_keptOf (l := _) hG _ _ _ _) rfl rfl (Nat.le_of_ble_eq_true rfl) (fun q17 => ?_)
            refine s_iadd (n := 150) hX (dec_of D_X10_session (i := 69) rfl) rfl ?_
            refine s_topi (fun x18 => ?_)
            refine s_istore_n (lv' := [(0, _), (1, _), (3, _), (4, _), (5, _)]) [1, 2, 0, 3, 4] (n := 151) hX (dec_of D_X10_session (i := 70) rfl) rfl rfl (by decide) rfl ?_
            refine s_iinc (v := z13.2 + 1) (lv' := [(0, _), (1, _), (3, _), (4, _), (5, _)]) 4 [1, 2, 3, 4, 0] (n := 154) hX (dec_of D_X10_session (i := 71) rfl) rfl rfl rfl (by decide) rfl ?_
            refine s_goto (n := 128) hX (dec_of D_X10_session (i := 72) rfl) rfl ?_
            exact s_sub [0, 1, 2, 3, 4] rfl (hre15 (x18, (z13.2 + 1)))
      exact swS_nil
    · refine s_aload_n 0 (n := 166) hX (dec_of D_X10_session (i := 77) rfl) rfl rfl rfl ?_
      refine s_iconst (v := 2) (n := 167) hX (dec_of D_X10_session (i := 78) rfl) rfl (by decide) ?_
      refine s_putI (c := 10) (p := 0) (n := 170) hX cls10 (vk131 (by omega)) (dec_of D_X10_session (i := 79) rfl) rfl rfl (by decide) wd_1346 rfl rfl rfl (fun s3 => ?_)
      refine s_iconst (v := 0) (n := 171) hX (dec_of D_X10_session (i := 80) rfl) rfl (by decide) ?_
      exact s_iret hX hR (dec_of D_X10_session (i := 81) rfl) rfl
  · refine s_aload_n 0 (n := 14) hX (dec_of D_X10_session (i := 7) rfl) rfl rfl rfl ?_
    refine s_iconst (v := 1) (n := 15) hX (dec_of D_X10_session (i := 8) rfl) rfl (by decide) ?_
    refine s_putI (c := 10) (p := 0) (n := 18) hX cls10 (vk131 (by omega)) (dec_of D_X10_session (i := 9) rfl) rfl rfl (by decide) wd_1346 rfl rfl rfl (fun s19 => ?_)
    refine s_iconst (v := 0) (n := 19) hX (dec_of D_X10_session (i := 10) rfl) rfl (by decide) ?_
    exact s_iret hX hR (dec_of D_X10_session (i := 11) rfl) rfl
def T_X10_of : List (Nat × Instr × Nat) := [(0, .aload_n 0, 1), (1, .iconst 0, 1), (2, .putfield 86, 3), (5, .aload_n 0, 1), (6, .iload_n 1, 1), (7, .invokevirtual 241, 3), (10, .ifCond .eq 16, 3), (13, .iload_n 2, 1), (14, .ifCond .lt 12, 3), (17, .iload_n 3, 1), (18, .ifCond .lt 8, 3), (21, .iload_n 3, 1), (22, .iconst 1, 1), (23, .if_icmp .le 5, 3), (26, .iconst (-1), 1), (27, .ireturn, 1), (28, .iload_n 2, 1), (29, .aload_n 0, 1), (30, .getfield 22, 3), (33, .iload_n 1, 1), (34, .iaload, 1), (35, .if_icmp .lt 6, 3), (38, .bipush (-2), 2), (40, .ireturn, 1), (41, .iload_n 3, 1), (42, .ifCond .ne 17, 3), (45, .aload_n 0, 1), (46, .getfield 16, 3), (49, .bipush 8, 2), (51, .iload_n 1, 1), (52, .imul, 1), (53, .iload_n 2, 1), (54, .iadd, 1), (55, .iaload, 1), (56, .goto 14, 3), (59, .aload_n 0, 1), (60, .getfield 19, 3), (63, .bipush 8, 2), (65, .iload_n 1, 1), (66, .imul, 1), (67, .iload_n 2, 1), (68, .iadd, 1), (69, .iaload, 1), (70, .ireturn, 1)]
theorem D_X10_of : dchk cX10_of T_X10_of = true := by decide +kernel
def Mo_of (σ : ST) (a1 : Int32) (a2 : Int32) (a3 : Int32) : Option (Int32 × ST) :=
  lt_ (setF σ 840 0 0) (fun s1 => bd_ (Mo_isSession s1 a1) (fun q2 => (if q2 = 0 then some ((-1), s1) else (if a2 < 0 then some ((-1), s1) else (if a3 < 0 then some ((-1), s1) else (if a3 ≤ 1 then bd_ (ldI s1 32 0 a1) (fun v3 => (if a2 < v3 then (if a3 = 0 then bd_ (ldI s1 30 0 ((8 * a1) + a2)) (fun v5 => some (v5, s1)) else bd_ (ldI s1 31 0 ((8 * a1) + a2)) (fun v4 => some (v4, s1))) else some ((-2), s1))) else some ((-1), s1)))))))
set_option maxHeartbeats 4000000 in
set_option maxRecDepth 100000 in
theorem c_X10_of {G : GW} (hG : Good G) {l : Launch} (σ : ST) (a1 : Int32) (a2 : Int32) (a3 : Int32) : Ctr G l yX10_of cX10_of 4 (some .int) 1 [.ref (ga G 131 0), .int a1, .int a2, .int a3] σ oP (Mo_of σ a1 a2 a3) := by
  refine ctr_of hG (by decide) (Nat.le_of_ble_eq_true rfl) ?_
  intro X hXl hR hX
  have hX : Ok G X cX10_of 4 RX10 1 := hX
  unfold Mo_of
  show Sim G X 4 (MQX G X oP) σ 0 [(0, .ref (ga G 131 0)), (1, .int a1), (2, .int a2), (3, .int a3)] [] _
  refine s_aload_n 0 (n := 1) hX (dec_of D_X10_of (i := 0) rfl) rfl rfl rfl ?_
  refine s_iconst (v := 0) (n := 2) hX (dec_of D_X10_of (i := 1) rfl) rfl (by decide) ?_
  refine s_putI (c := 10) (p := 0) (n := 5) hX cls10 (vk131 (by omega)) (dec_of D_X10_of (i := 2) rfl) rfl rfl (by decide) wd_1346 rfl rfl rfl (fun s1 => ?_)
  refine s_aload_n 0 (n := 6) hX (dec_of D_X10_of (i := 3) rfl) rfl rfl rfl ?_
  refine s_iload_n 1 (n := 7) hX (dec_of D_X10_of (i := 4) rfl) rfl rfl rfl ?_
  refine s_callVI (c := 10) (n := 10) hX cls10 (vk131 (by omega)) lk_RX10_241 (dec_of D_X10_of (i := 5) rfl) rfl (by decide) (c_X10_isSession (l := _) hG _ _) rfl rfl (Nat.le_of_ble_eq_true rfl) (fun q2 => ?_)
  refine s_if_eq (tgt := 26) (n := 13) hX (dec_of D_X10_of (i := 6) rfl) rfl rfl ?_ ?_
  · refine s_iconst (v := (-1)) (n := 27) hX (dec_of D_X10_of (i := 14) rfl) rfl (by decide) ?_
    exact s_iret hX hR (dec_of D_X10_of (i := 15) rfl) rfl
  · refine s_iload_n 2 (n := 14) hX (dec_of D_X10_of (i := 7) rfl) rfl rfl rfl ?_
    refine s_if_lt (tgt := 26) (n := 17) hX (dec_of D_X10_of (i := 8) rfl) rfl rfl ?_ ?_
    · refine s_iconst (v := (-1)) (n := 27) hX (dec_of D_X10_of (i := 14) rfl) rfl (by decide) ?_
      exact s_iret hX hR (dec_of D_X10_of (i := 15) rfl) rfl
    · refine s_iload_n 3 (n := 18) hX (dec_of D_X10_of (i := 9) rfl) rfl rfl rfl ?_
      refine s_if_lt (tgt := 26) (n := 21) hX (dec_of D_X10_of (i := 10) rfl) rfl rfl ?_ ?_
      · refine s_iconst (v := (-1)) (n := 27) hX (dec_of D_X10_of (i := 14) rfl) rfl (by decide) ?_
        exact s_iret hX hR (dec_of D_X10_of (i := 15) rfl) rfl
      · refine s_iload_n 3 (n := 22) hX (dec_of D_X10_of (i := 11) rfl) rfl rfl rfl ?_
        refine s_iconst (v := 1) (n := 23) hX (dec_of D_X10_of (i := 12) rfl) rfl (by decide) ?_
        refine s_icmp_le (tgt := 28) (n := 26) hX (dec_of D_X10_of (i := 13) rfl) rfl rfl ?_ ?_
        · refine s_iload_n 2 (n := 29) hX (dec_of D_X10_of (i := 16) rfl) rfl rfl rfl ?_
          refine s_aload_n 0 (n := 30) hX (dec_of D_X10_of (i := 17) rfl) rfl rfl rfl ?_
          refine s_getR (c := 10) (p := 6) (k' := 32) (n := 33) hX cls10 (vk131 (by omega)) (dec_of D_X10_of (i := 18) rfl) rfl rfl wd_1352 ?_
          refine s_iload_n 1 (n := 34) hX (dec_of D_X10_of (i := 19) rfl) rfl rfl rfl ?_
          refine s_iald (n := 35) hX (vk32 (by omega)) (by decide) (dec_of D_X10_of (i := 20) rfl) rfl (fun v3 => ?_)
          refine s_icmp_lt (tgt := 41) (n := 38) hX (dec_of D_X10_of (i := 21) rfl) rfl rfl ?_ ?_
          · refine s_iload_n 3 (n := 42) hX (dec_of D_X10_of (i := 24) rfl) rfl rfl rfl ?_
            refine s_if_ne (tgt := 59) (n := 45) hX (dec_of D_X10_of (i := 25) rfl) rfl rfl ?_ ?_
            · refine s_aload_n 0 (n := 60) hX (dec_of D_X10_of (i := 35) rfl) rfl rfl rfl ?_
              refine s_getR (c := 10) (p := 5) (k' := 31) (n := 63) hX cls10 (vk131 (by omega)) (dec_of D_X10_of (i := 36) rfl) rfl rfl wd_1351 ?_
              refine s_bipush (v := 8) (n := 65) hX (dec_of D_X10_of (i := 37) rfl) rfl (by decide) ?_
              refine s_iload_n 1 (n := 66) hX (dec_of D_X10_of (i := 38) rfl) rfl rfl rfl ?_
              refine s_imul (n := 67) hX (dec_of D_X10_of (i := 39) rfl) rfl ?_
              refine s_iload_n 2 (n := 68) hX (dec_of D_X10_of (i := 40) rfl) rfl rfl rfl ?_
              refine s_iadd (n := 69) hX (dec_of D_X10_of (i := 41) rfl) rfl ?_
              refine s_iald (n := 70) hX (vk31 (by omega)) (by decide) (dec_of D_X10_of (i := 42) rfl) rfl (fun v4 => ?_)
              exact s_iret hX hR (dec_of D_X10_of (i := 43) rfl) rfl
            · refine s_aload_n 0 (n := 46) hX (dec_of D_X10_of (i := 26) rfl) rfl rfl rfl ?_
              refine s_getR (c := 10) (p := 4) (k' := 30) (n := 49) hX cls10 (vk131 (by omega)) (dec_of D_X10_of (i := 27) rfl) rfl rfl wd_1350 ?_
              refine s_bipush (v := 8) (n := 51) hX (dec_of D_X10_of (i := 28) rfl) rfl (by decide) ?_
              refine s_iload_n 1 (n := 52) hX (dec_of D_X10_of (i := 29) rfl) rfl rfl rfl ?_
              refine s_imul (n := 53) hX (dec_of D_X10_of (i := 30) rfl) rfl ?_
              refine s_iload_n 2 (n := 54) hX (dec_of D_X10_of (i := 31) rfl) rfl rfl rfl ?_
              refine s_iadd (n := 55) hX (dec_of D_X10_of (i := 32) rfl) rfl ?_
              refine s_iald (n := 56) hX (vk30 (by omega)) (by decide) (dec_of D_X10_of (i := 33) rfl) rfl (fun v5 => ?_)
              refine s_goto (n := 70) hX (dec_of D_X10_of (i := 34) rfl) rfl ?_
              exact s_iret hX hR (dec_of D_X10_of (i := 43) rfl) rfl
          · refine s_bipush (v := (-2)) (n := 40) hX (dec_of D_X10_of (i := 22) rfl) rfl (by decide) ?_
            exact s_iret hX hR (dec_of D_X10_of (i := 23) rfl) rfl
        · refine s_iconst (v := (-1)) (n := 27) hX (dec_of D_X10_of (i := 14) rfl) rfl (by decide) ?_
          exact s_iret hX hR (dec_of D_X10_of (i := 15) rfl) rfl
theorem lk_RX10_292 : LkV RX10 292 RX10 yX10_isSeat cX10_isSeat 3 (some .boolean) 2 := ⟨wd_1682, wd_1684, wd_50, wd_93, wd_1685, by decide +kernel, by decide⟩
def T_X10_seat : List (Nat × Instr × Nat) := [(0, .aload_n 0, 1), (1, .iconst 0, 1), (2, .putfield 86, 3), (5, .aload_n 0, 1), (6, .iload_n 1, 1), (7, .iload_n 2, 1), (8, .invokevirtual 292, 3), (11, .ifCond .ne 5, 3), (14, .iconst (-1), 1), (15, .ireturn, 1), (16, .aload_n 0, 1), (17, .iload_n 1, 1), (18, .iload_n 2, 1), (19, .invokevirtual 254, 3), (22, .iconst (-1), 1), (23, .if_icmp .ne 8, 3), (26, .bipush (-2), 2), (28, .goto 9, 3), (31, .aload_n 0, 1), (32, .iload_n 1, 1), (33, .iload_n 2, 1), (34, .invokevirtual 254, 3), (37, .ireturn, 1)]
theorem D_X10_seat : dchk cX10_seat T_X10_seat = true := by decide +kernel
def Mo_seat (σ : ST) (a1 : Int32) (a2 : Int32) : Option (Int32 × ST) :=
  lt_ (setF σ 840 0 0) (fun s1 => bd_ (Mo_isSeat s1 a1 a2) (fun q2 => (if q2 = 0 then some ((-1), s1) else bd_ (Mo_owner s1 a1 a2) (fun q3 => (if q3 = (-1) then some ((-2), s1) else bd_ (Mo_owner s1 a1 a2) (fun q4 => some (q4, s1)))))))
set_option maxHeartbeats 4000000 in
set_option maxRecDepth 100000 in
theorem c_X10_seat {G : GW} (hG : Good G) {l : Launch} (σ : ST) (a1 : Int32) (a2 : Int32) : Ctr G l yX10_seat cX10_seat 3 (some .int) 2 [.ref (ga G 131 0), .int a1, .int a2] σ oP (Mo_seat σ a1 a2) := by
  refine ctr_of hG (by decide) (Nat.le_of_ble_eq_true rfl) ?_
  intro X hXl hR hX
  have hX : Ok G X cX10_seat 3 RX10 2 := hX
  unfold Mo_seat
  show Sim G X 3 (MQX G X oP) σ 0 [(0, .ref (ga G 131 0)), (1, .int a1), (2, .int a2)] [] _
  refine s_aload_n 0 (n := 1) hX (dec_of D_X10_seat (i := 0) rfl) rfl rfl rfl ?_
  refine s_iconst (v := 0) (n := 2) hX (dec_of D_X10_seat (i := 1) rfl) rfl (by decide) ?_
  refine s_putI (c := 10) (p := 0) (n := 5) hX cls10 (vk131 (by omega)) (dec_of D_X10_seat (i := 2) rfl) rfl rfl (by decide) wd_1346 rfl rfl rfl (fun s1 => ?_)
  refine s_aload_n 0 (n := 6) hX (dec_of D_X10_seat (i := 3) rfl) rfl rfl rfl ?_
  refine s_iload_n 1 (n := 7) hX (dec_of D_X10_seat (i := 4) rfl) rfl rfl rfl ?_
  refine s_iload_n 2 (n := 8) hX (dec_of D_X10_seat (i := 5) rfl) rfl rfl rfl ?_
  refine s_callVI (c := 10) (n := 11) hX cls10 (vk131 (by omega)) lk_RX10_292 (dec_of D_X10_seat (i := 6) rfl) rfl (by decide) (c_X10_isSeat (l := _) hG _ _ _) rfl rfl (Nat.le_of_ble_eq_true rfl) (fun q2 => ?_)
  refine s_if_ne (tgt := 16) (n := 14) hX (dec_of D_X10_seat (i := 7) rfl) rfl rfl ?_ ?_
  · refine s_aload_n 0 (n := 17) hX (dec_of D_X10_seat (i := 10) rfl) rfl rfl rfl ?_
    refine s_iload_n 1 (n := 18) hX (dec_of D_X10_seat (i := 11) rfl) rfl rfl rfl ?_
    refine s_iload_n 2 (n := 19) hX (dec_of D_X10_seat (i := 12) rfl) rfl rfl rfl ?_
    refine s_callVI (c := 10) (n := 22) hX cls10 (vk131 (by omega)) lk_RX10_254 (dec_of D_X10_seat (i := 13) rfl) rfl (by decide) (c_X10_owner (l := _) hG _ _ _) rfl rfl (Nat.le_of_ble_eq_true rfl) (fun q3 => ?_)
    refine s_iconst (v := (-1)) (n := 23) hX (dec_of D_X10_seat (i := 14) rfl) rfl (by decide) ?_
    refine s_icmp_ne (tgt := 31) (n := 26) hX (dec_of D_X10_seat (i := 15) rfl) rfl rfl ?_ ?_
    · refine s_aload_n 0 (n := 32) hX (dec_of D_X10_seat (i := 18) rfl) rfl rfl rfl ?_
      refine s_iload_n 1 (n := 33) hX (dec_of D_X10_seat (i := 19) rfl) rfl rfl rfl ?_
      refine s_iload_n 2 (n := 34) hX (dec_of D_X10_seat (i := 20) rfl) rfl rfl rfl ?_
      refine s_callVI (c := 10) (n := 37) hX cls10 (vk131 (by omega)) lk_RX10_254 (dec_of D_X10_seat (i := 21) rfl) rfl (by decide) (c_X10_owner (l := _) hG _ _ _) rfl rfl (Nat.le_of_ble_eq_true rfl) (fun q4 => ?_)
      exact s_iret hX hR (dec_of D_X10_seat (i := 22) rfl) rfl
    · refine s_bipush (v := (-2)) (n := 28) hX (dec_of D_X10_seat (i := 16) rfl) rfl (by decide) ?_
      refine s_goto (n := 37) hX (dec_of D_X10_seat (i := 17) rfl) rfl ?_
      exact s_iret hX hR (dec_of D_X10_seat (i := 22) rfl) rfl
  · refine s_iconst (v := (-1)) (n := 15) hX (dec_of D_X10_seat (i := 8) rfl) rfl (by decide) ?_
    exact s_iret hX hR (dec_of D_X10_seat (i := 9) rfl) rfl
def T_X10_role : List (Nat × Instr × Nat) := [(0, .aload_n 0, 1), (1, .iconst 0, 1), (2, .putfield 86, 3), (5, .aload_n 0, 1), (6, .iload_n 1, 1), (7, .invokevirtual 264, 3), (10, .ifCond .eq 20, 3), (13, .aload_n 0, 1), (14, .iload_n 2, 1), (15, .invokevirtual 241, 3), (18, .ifCond .eq 12, 3), (21, .aload_n 0, 1), (22, .iload_n 1, 1), (23, .iload_n 2, 1), (24, .invokevirtual 273, 3), (27, .goto 4, 3), (30, .iconst (-1), 1), (31, .ireturn, 1)]
theorem D_X10_role : dchk cX10_role T_X10_role = true := by decide +kernel
def Mo_role (σ : ST) (a1 : Int32) (a2 : Int32) : Option (Int32 × ST) :=
  lt_ (setF σ 840 0 0) (fun s1 => bd_ (Mo_isPlayer s1 a1) (fun q2 => (if q2 = 0 then some ((-1), s1) else bd_ (Mo_isSession s1 a2) (fun q3 => (if q3 = 0 then some ((-1), s1) else bd_ (Mo_roleOf s1 a1 a2) (fun q4 => some (q4, s1)))))))
set_option maxHeartbeats 4000000 in
set_option maxRecDepth 100000 in
theorem c_X10_role {G : GW} (hG : Good G) {l : Launch} (σ : ST) (a1 : Int32) (a2 : Int32) : Ctr G l yX10_role cX10_role 3 (some .int) 2 [.ref (ga G 131 0), .int a1, .int a2] σ oP (Mo_role σ a1 a2) := by
  refine ctr_of hG (by decide) (Nat.le_of_ble_eq_true rfl) ?_
  intro X hXl hR hX
  have hX : Ok G X cX10_role 3 RX10 2 := hX
  unfold Mo_role
  show Sim G X 3 (MQX G X oP) σ 0 [(0, .ref (ga G 131 0)), (1, .int a1), (2, .int a2)] [] _
  refine s_aload_n 0 (n := 1) hX (dec_of D_X10_role (i := 0) rfl) rfl rfl rfl ?_
  refine s_iconst (v := 0) (n := 2) hX (dec_of D_X10_role (i := 1) rfl) rfl (by decide) ?_
  refine s_putI (c := 10) (p := 0) (n := 5) hX cls10 (vk131 (by omega)) (dec_of D_X10_role (i := 2) rfl) rfl rfl (by decide) wd_1346 rfl rfl rfl (fun s1 => ?_)
  refine s_aload_n 0 (n := 6) hX (dec_of D_X10_role (i := 3) rfl) rfl rfl rfl ?_
  refine s_iload_n 1 (n := 7) hX (dec_of D_X10_role (i := 4) rfl) rfl rfl rfl ?_
  refine s_callVI (c := 10) (n := 10) hX cls10 (vk131 (by omega)) lk_RX10_264 (dec_of D_X10_role (i := 5) rfl) rfl (by decide) (c_X10_isPlayer (l := _) hG _ _) rfl rfl (Nat.le_of_ble_eq_true rfl) (fun q2 => ?_)
  refine s_if_eq (tgt := 30) (n := 13) hX (dec_of D_X10_role (i := 6) rfl) rfl rfl ?_ ?_
  · refine s_iconst (v := (-1)) (n := 31) hX (dec_of D_X10_role (i := 16) rfl) rfl (by decide) ?_
    exact s_iret hX hR (dec_of D_X10_role (i := 17) rfl) rfl
  · refine s_aload_n 0 (n := 14) hX (dec_of D_X10_role (i := 7) rfl) rfl rfl rfl ?_
    refine s_iload_n 2 (n := 15) hX (dec_of D_X10_role (i := 8) rfl) rfl rfl rfl ?_
    refine s_callVI (c := 10) (n := 18) hX cls10 (vk131 (by omega)) lk_RX10_241 (dec_of D_X10_role (i := 9) rfl) rfl (by decide) (c_X10_isSession (l := _) hG _ _) rfl rfl (Nat.le_of_ble_eq_true rfl) (fun q3 => ?_)
    refine s_if_eq (tgt := 30) (n := 21) hX (dec_of D_X10_role (i := 10) rfl) rfl rfl ?_ ?_
    · refine s_iconst (v := (-1)) (n := 31) hX (dec_of D_X10_role (i := 16) rfl) rfl (by decide) ?_
      exact s_iret hX hR (dec_of D_X10_role (i := 17) rfl) rfl
    · refine s_aload_n 0 (n := 22) hX (dec_of D_X10_role (i := 11) rfl) rfl rfl rfl ?_
      refine s_iload_n 1 (n := 23) hX (dec_of D_X10_role (i := 12) rfl) rfl rfl rfl ?_
      refine s_iload_n 2 (n := 24) hX (dec_of D_X10_role (i := 13) rfl) rfl rfl rfl ?_
      refine s_callVI (c := 10) (n := 27) hX cls10 (vk131 (by omega)) lk_RX10_273 (dec_of D_X10_role (i := 14) rfl) rfl (by decide) (c_X10_roleOf (l := _) hG _ _ _) rfl rfl (Nat.le_of_ble_eq_true rfl) (fun q4 => ?_)
      refine s_goto (n := 31) hX (dec_of D_X10_role (i := 15) rfl) rfl ?_
      exact s_iret hX hR (dec_of D_X10_role (i := 17) rfl) rfl
theorem lk_RX10_296 : LkS RX10 296 yX10_isRole cX10_isRole 1 (some .boolean) 1 := ⟨wd_1694, wd_1695, wd_93, wd_1696, by decide +kernel, by decide⟩
def T_X10_pays : List (Nat × Instr × Nat) := [(0, .aload_n 0, 1), (1, .iconst 0, 1), (2, .putfield 86, 3), (5, .aload_n 0, 1), (6, .iload_n 1, 1), (7, .invokevirtual 257, 3), (10, .ifCond .eq 18, 3), (13, .aload_n 0, 1), (14, .iload_n 2, 1), (15, .invokevirtual 257, 3), (18, .ifCond .eq 10, 3), (21, .iload_n 3, 1), (22, .invokestatic 296, 3), (25, .ifCond .ne 5, 3), (28, .iconst (-1), 1), (29, .ireturn, 1), (30, .aload_n 0, 1), (31, .iload_n 1, 1), (32, .iload_n 2, 1), (33, .iload_n 3, 1), (34, .invokevirtual 279, 3), (37, .ifCond .eq 7, 3), (40, .iconst 1, 1), (41, .goto 4, 3), (44, .iconst 0, 1), (45, .ireturn, 1)]
theorem D_X10_pays : dchk cX10_pays T_X10_pays = true := by decide +kernel
def Mo_pays (σ : ST) (a1 : Int32) (a2 : Int32) (a3 : Int32) : Option (Int32 × ST) :=
  lt_ (setF σ 840 0 0) (fun s1 => bd_ (Mo_isLand s1 a1) (fun q2 => (if q2 = 0 then some ((-1), s1) else bd_ (Mo_isLand s1 a2) (fun q3 => (if q3 = 0 then some ((-1), s1) else bd_ (Mo_isRole s1 a3) (fun q4 => (if q4 = 0 then some ((-1), s1) else bd_ (Mo_doesPay s1 a1 a2 a3) (fun q5 => (if q5 = 0 then some (0, s1) else some (1, s1))))))))))
set_option maxHeartbeats 4000000 in
set_option maxRecDepth 100000 in
theorem c_X10_pays {G : GW} (hG : Good G) {l : Launch} (σ : ST) (a1 : Int32) (a2 : Int32) (a3 : Int32) : Ctr G l yX10_pays cX10_pays 4 (some .int) 1 [.ref (ga G 131 0), .int a1, .int a2, .int a3] σ oP (Mo_pays σ a1 a2 a3) := by
  refine ctr_of hG (by decide) (Nat.le_of_ble_eq_true rfl) ?_
  intro X hXl hR hX
  have hX : Ok G X cX10_pays 4 RX10 1 := hX
  unfold Mo_pays
  show Sim G X 4 (MQX G X oP) σ 0 [(0, .ref (ga G 131 0)), (1, .int a1), (2, .int a2), (3, .int a3)] [] _
  refine s_aload_n 0 (n := 1) hX (dec_of D_X10_pays (i := 0) rfl) rfl rfl rfl ?_
  refine s_iconst (v := 0) (n := 2) hX (dec_of D_X10_pays (i := 1) rfl) rfl (by decide) ?_
  refine s_putI (c := 10) (p := 0) (n := 5) hX cls10 (vk131 (by omega)) (dec_of D_X10_pays (i := 2) rfl) rfl rfl (by decide) wd_1346 rfl rfl rfl (fun s1 => ?_)
  refine s_aload_n 0 (n := 6) hX (dec_of D_X10_pays (i := 3) rfl) rfl rfl rfl ?_
  refine s_iload_n 1 (n := 7) hX (dec_of D_X10_pays (i := 4) rfl) rfl rfl rfl ?_
  refine s_callVI (c := 10) (n := 10) hX cls10 (vk131 (by omega)) lk_RX10_257 (dec_of D_X10_pays (i := 5) rfl) rfl (by decide) (c_X10_isLand (l := _) hG _ _) rfl rfl (Nat.le_of_ble_eq_true rfl) (fun q2 => ?_)
  refine s_if_eq (tgt := 28) (n := 13) hX (dec_of D_X10_pays (i := 6) rfl) rfl rfl ?_ ?_
  · refine s_iconst (v := (-1)) (n := 29) hX (dec_of D_X10_pays (i := 14) rfl) rfl (by decide) ?_
    exact s_iret hX hR (dec_of D_X10_pays (i := 15) rfl) rfl
  · refine s_aload_n 0 (n := 14) hX (dec_of D_X10_pays (i := 7) rfl) rfl rfl rfl ?_
    refine s_iload_n 2 (n := 15) hX (dec_of D_X10_pays (i := 8) rfl) rfl rfl rfl ?_
    refine s_callVI (c := 10) (n := 18) hX cls10 (vk131 (by omega)) lk_RX10_257 (dec_of D_X10_pays (i := 9) rfl) rfl (by decide) (c_X10_isLand (l := _) hG _ _) rfl rfl (Nat.le_of_ble_eq_true rfl) (fun q3 => ?_)
    refine s_if_eq (tgt := 28) (n := 21) hX (dec_of D_X10_pays (i := 10) rfl) rfl rfl ?_ ?_
    · refine s_iconst (v := (-1)) (n := 29) hX (dec_of D_X10_pays (i := 14) rfl) rfl (by decide) ?_
      exact s_iret hX hR (dec_of D_X10_pays (i := 15) rfl) rfl
    · refine s_iload_n 3 (n := 22) hX (dec_of D_X10_pays (i := 11) rfl) rfl rfl rfl ?_
      refine s_callSI (n := 25) hX lk_RX10_296 (dec_of D_X10_pays (i := 12) rfl) rfl (by decide) (c_X10_isRole (l := _) hG _ _) rfl rfl (Nat.le_of_ble_eq_true rfl) (fun q4 => ?_)
      refine s_if_ne (tgt := 30) (n := 28) hX (dec_of D_X10_pays (i := 13) rfl) rfl rfl ?_ ?_
      · refine s_aload_n 0 (n := 31) hX (dec_of D_X10_pays (i := 16) rfl) rfl rfl rfl ?_
        refine s_iload_n 1 (n := 32) hX (dec_of D_X10_pays (i := 17) rfl) rfl rfl rfl ?_
        refine s_iload_n 2 (n := 33) hX (dec_of D_X10_pays (i := 18) rfl) rfl rfl rfl ?_
        refine s_iload_n 3 (n := 34) hX (dec_of D_X10_pays (i := 19) rfl) rfl rfl rfl ?_
        refine s_callVI (c := 10) (n := 37) hX cls10 (vk131 (by omega)) lk_RX10_279 (dec_of D_X10_pays (i := 20) rfl) rfl (by decide) (c_X10_doesPay (l := _) hG _ _ _ _) rfl rfl (Nat.le_of_ble_eq_true rfl) (fun q5 => ?_)
        refine s_if_eq (tgt := 44) (n := 40) hX (dec_of D_X10_pays (i := 21) rfl) rfl rfl ?_ ?_
        · refine s_iconst (v := 0) (n := 45) hX (dec_of D_X10_pays (i := 24) rfl) rfl (by decide) ?_
          exact s_iret hX hR (dec_of D_X10_pays (i := 25) rfl) rfl
        · refine s_iconst (v := 1) (n := 41) hX (dec_of D_X10_pays (i := 22) rfl) rfl (by decide) ?_
          refine s_goto (n := 45) hX (dec_of D_X10_pays (i := 23) rfl) rfl ?_
          exact s_iret hX hR (dec_of D_X10_pays (i := 25) rfl) rfl
      · refine s_iconst (v := (-1)) (n := 29) hX (dec_of D_X10_pays (i := 14) rfl) rfl (by decide) ?_
        exact s_iret hX hR (dec_of D_X10_pays (i := 15) rfl) rfl
def T_X10_paidBy : List (Nat × Instr × Nat) := [(0, .aload_n 0, 1), (1, .iconst 0, 1), (2, .putfield 86, 3), (5, .aload_n 0, 1), (6, .iload_n 1, 1), (7, .invokevirtual 257, 3), (10, .ifCond .eq 19, 3), (13, .iload_n 2, 1), (14, .invokestatic 296, 3), (17, .ifCond .eq 12, 3), (20, .aload_n 0, 1), (21, .iload_n 1, 1), (22, .iload_n 2, 1), (23, .invokevirtual 276, 3), (26, .goto 4, 3), (29, .iconst (-1), 1), (30, .ireturn, 1)]
theorem D_X10_paidBy : dchk cX10_paidBy T_X10_paidBy = true := by decide +kernel
def Mo_paidBy (σ : ST) (a1 : Int32) (a2 : Int32) : Option (Int32 × ST) :=
  lt_ (setF σ 840 0 0) (fun s1 => bd_ (Mo_isLand s1 a1) (fun q2 => (if q2 = 0 then some ((-1), s1) else bd_ (Mo_isRole s1 a2) (fun q3 => (if q3 = 0 then some ((-1), s1) else bd_ (Mo_paidByOf s1 a1 a2) (fun q4 => some (q4, s1)))))))
set_option maxHeartbeats 4000000 in
set_option maxRecDepth 100000 in
theorem c_X10_paidBy {G : GW} (hG : Good G) {l : Launch} (σ : ST) (a1 : Int32) (a2 : Int32) : Ctr G l yX10_paidBy cX10_paidBy 3 (some .int) 2 [.ref (ga G 131 0), .int a1, .int a2] σ oP (Mo_paidBy σ a1 a2) := by
  refine ctr_of hG (by decide) (Nat.le_of_ble_eq_true rfl) ?_
  intro X hXl hR hX
  have hX : Ok G X cX10_paidBy 3 RX10 2 := hX
  unfold Mo_paidBy
  show Sim G X 3 (MQX G X oP) σ 0 [(0, .ref (ga G 131 0)), (1, .int a1), (2, .int a2)] [] _
  refine s_aload_n 0 (n := 1) hX (dec_of D_X10_paidBy (i := 0) rfl) rfl rfl rfl ?_
  refine s_iconst (v := 0) (n := 2) hX (dec_of D_X10_paidBy (i := 1) rfl) rfl (by decide) ?_
  refine s_putI (c := 10) (p := 0) (n := 5) hX cls10 (vk131 (by omega)) (dec_of D_X10_paidBy (i := 2) rfl) rfl rfl (by decide) wd_1346 rfl rfl rfl (fun s1 => ?_)
  refine s_aload_n 0 (n := 6) hX (dec_of D_X10_paidBy (i := 3) rfl) rfl rfl rfl ?_
  refine s_iload_n 1 (n := 7) hX (dec_of D_X10_paidBy (i := 4) rfl) rfl rfl rfl ?_
  refine s_callVI (c := 10) (n := 10) hX cls10 (vk131 (by omega)) lk_RX10_257 (dec_of D_X10_paidBy (i := 5) rfl) rfl (by decide) (c_X10_isLand (l := _) hG _ _) rfl rfl (Nat.le_of_ble_eq_true rfl) (fun q2 => ?_)
  refine s_if_eq (tgt := 29) (n := 13) hX (dec_of D_X10_paidBy (i := 6) rfl) rfl rfl ?_ ?_
  · refine s_iconst (v := (-1)) (n := 30) hX (dec_of D_X10_paidBy (i := 15) rfl) rfl (by decide) ?_
    exact s_iret hX hR (dec_of D_X10_paidBy (i := 16) rfl) rfl
  · refine s_iload_n 2 (n := 14) hX (dec_of D_X10_paidBy (i := 7) rfl) rfl rfl rfl ?_
    refine s_callSI (n := 17) hX lk_RX10_296 (dec_of D_X10_paidBy (i := 8) rfl) rfl (by decide) (c_X10_isRole (l := _) hG _ _) rfl rfl (Nat.le_of_ble_eq_true rfl) (fun q3 => ?_)
    refine s_if_eq (tgt := 29) (n := 20) hX (dec_of D_X10_paidBy (i := 9) rfl) rfl rfl ?_ ?_
    · refine s_iconst (v := (-1)) (n := 30) hX (dec_of D_X10_paidBy (i := 15) rfl) rfl (by decide) ?_
      exact s_iret hX hR (dec_of D_X10_paidBy (i := 16) rfl) rfl
    · refine s_aload_n 0 (n := 21) hX (dec_of D_X10_paidBy (i := 10) rfl) rfl rfl rfl ?_
      refine s_iload_n 1 (n := 22) hX (dec_of D_X10_paidBy (i := 11) rfl) rfl rfl rfl ?_
      refine s_iload_n 2 (n := 23) hX (dec_of D_X10_paidBy (i := 12) rfl) rfl rfl rfl ?_
      refine s_callVI (c := 10) (n := 26) hX cls10 (vk131 (by omega)) lk_RX10_276 (dec_of D_X10_paidBy (i := 13) rfl) rfl (by decide) (c_X10_paidByOf (l := _) hG _ _ _) rfl rfl (Nat.le_of_ble_eq_true rfl) (fun q4 => ?_)
      refine s_goto (n := 30) hX (dec_of D_X10_paidBy (i := 14) rfl) rfl ?_
      exact s_iret hX hR (dec_of D_X10_paidBy (i := 16) rfl) rfl
def T_X10_doAnswer : List (Nat × Instr × Nat) := [(0, .aload_n 0, 1), (1, .iload_n 1, 1), (2, .iload_n 2, 1), (3, .iconst 0, 1), (4, .invokevirtual 279, 3), (7, .ifCond .ne 13, 3), (10, .aload_n 0, 1), (11, .iload_n 1, 1), (12, .iload_n 2, 1), (13, .iconst 1, 1), (14, .invokevirtual 279, 3), (17, .ifCond .eq 27, 3), (20, .aload_n 0, 1), (21, .iload_n 2, 1), (22, .iload_n 1, 1), (23, .iconst 0, 1), (24, .invokevirtual 279, 3), (27, .ifCond .ne 13, 3), (30, .aload_n 0, 1), (31, .iload_n 2, 1), (32, .iload_n 1, 1), (33, .iconst 1, 1), (34, .invokevirtual 279, 3), (37, .ifCond .eq 7, 3), (40, .iconst 1, 1), (41, .goto 4, 3), (44, .iconst 0, 1), (45, .ireturn, 1)]
theorem D_X10_doAnswer : dchk cX10_doAnswer T_X10_doAnswer = true := by decide +kernel
def Mo_doAnswer (σ : ST) (a1 : Int32) (a2 : Int32) : Option Int32 :=
  bd_ (Mo_doesPay (σ) a1 a2 0) (fun q1 => lk_ (fun kk3 => (if q1 = 0 then bd_ (Mo_doesPay (σ) a1 a2 1) (fun q7 => (if q7 = 0 then some 0 else kk3 ())) else kk3 ())) (fun (j2 : Unit) => bd_ (Mo_doesPay (σ) a2 a1 0) (fun q5 => (if q5 = 0 then bd_ (Mo_doesPay (σ) a2 a1 1) (fun q6 => (if q6 = 0 then some 0 else some 1)) else some 1))))
set_option maxHeartbeats 4000000 in
set_option maxRecDepth 100000 in
theorem c_X10_doAnswer {G : GW} (hG : Good G) {l : Launch} (σ : ST) (a1 : Int32) (a2 : Int32) : Ctr G l yX10_doAnswer cX10_doAnswer 3 (some .boolean) 1 [.ref (ga G 131 0), .int a1, .int a2] σ (oI σ) (Mo_doAnswer σ a1 a2) := by
  refine ctr_of hG (by decide) (Nat.le_of_ble_eq_true rfl) ?_
  intro X hXl hR hX
  have hX : Ok G X cX10_doAnswer 3 RX10 1 := hX
  unfold Mo_doAnswer
  show Sim G X 3 (MQX G X (oI σ)) σ 0 [(0, .ref (ga G 131 0)), (1, .int a1), (2, .int a2)] [] _
  refine s_aload_n 0 (n := 1) hX (dec_of D_X10_doAnswer (i := 0) rfl) rfl rfl rfl ?_
  refine s_iload_n 1 (n := 2) hX (dec_of D_X10_doAnswer (i := 1) rfl) rfl rfl rfl ?_
  refine s_iload_n 2 (n := 3) hX (dec_of D_X10_doAnswer (i := 2) rfl) rfl rfl rfl ?_
  refine s_iconst (v := 0) (n := 4) hX (dec_of D_X10_doAnswer (i := 3) rfl) rfl (by decide) ?_
  refine s_callVI (c := 10) (n := 7) hX cls10 (vk131 (by omega)) lk_RX10_279 (dec_of D_X10_doAnswer (i := 4) rfl) rfl (by decide) (c_X10_doesPay (l := _) hG _ _ _ _) rfl rfl (Nat.le_of_ble_eq_true rfl) (fun q1 => ?_)
  refine s_lk (pcj := 20) (Sf := fun (j2 : Unit) => σ) (lvf := fun (j2 : Unit) => [(0, .ref (ga G 131 0)), (1, .int a1), (2, .int a2)]) (stf := fun (j2 : Unit) => []) (fun j2 => ?_) (fun kk3 hkk4 => ?_)
  · refine s_aload_n 0 (n := 21) hX (dec_of D_X10_doAnswer (i := 12) rfl) rfl rfl rfl ?_
    refine s_iload_n 2 (n := 22) hX (dec_of D_X10_doAnswer (i := 13) rfl) rfl rfl rfl ?_
    refine s_iload_n 1 (n := 23) hX (dec_of D_X10_doAnswer (i := 14) rfl) rfl rfl rfl ?_
    refine s_iconst (v := 0) (n := 24) hX (dec_of D_X10_doAnswer (i := 15) rfl) rfl (by decide) ?_
    refine s_callVI (c := 10) (n := 27) hX cls10 (vk131 (by omega)) lk_RX10_279 (dec_of D_X10_doAnswer (i := 16) rfl) rfl (by decide) (c_X10_doesPay (l := _) hG _ _ _ _) rfl rfl (Nat.le_of_ble_eq_true rfl) (fun q5 => ?_)
    refine s_if_ne (tgt := 40) (n := 30) hX (dec_of D_X10_doAnswer (i := 17) rfl) rfl rfl ?_ ?_
    · refine s_iconst (v := 1) (n := 41) hX (dec_of D_X10_doAnswer (i := 24) rfl) rfl (by decide) ?_
      refine s_goto (n := 45) hX (dec_of D_X10_doAnswer (i := 25) rfl) rfl ?_
      exact s_zret hX hR (dec_of D_X10_doAnswer (i := 27) rfl) rfl rfl
    · refine s_aload_n 0 (n := 31) hX (dec_of D_X10_doAnswer (i := 18) rfl) rfl rfl rfl ?_
      refine s_iload_n 2 (n := 32) hX (dec_of D_X10_doAnswer (i := 19) rfl) rfl rfl rfl ?_
      refine s_iload_n 1 (n := 33) hX (dec_of D_X10_doAnswer (i := 20) rfl) rfl rfl rfl ?_
      refine s_iconst (v := 1) (n := 34) hX (dec_of D_X10_doAnswer (i := 21) rfl) rfl (by decide) ?_
      refine s_callVI (c := 10) (n := 37) hX cls10 (vk131 (by omega)) lk_RX10_279 (dec_of D_X10_doAnswer (i := 22) rfl) rfl (by decide) (c_X10_doesPay (l := _) hG _ _ _ _) rfl rfl (Nat.le_of_ble_eq_true rfl) (fun q6 => ?_)
      refine s_if_eq (tgt := 44) (n := 40) hX (dec_of D_X10_doAnswer (i := 23) rfl) rfl rfl ?_ ?_
      · refine s_iconst (v := 0) (n := 45) hX (dec_of D_X10_doAnswer (i := 26) rfl) rfl (by decide) ?_
        exact s_zret hX hR (dec_of D_X10_doAnswer (i := 27) rfl) rfl rfl
      · refine s_iconst (v := 1) (n := 41) hX (dec_of D_X10_doAnswer (i := 24) rfl) rfl (by decide) ?_
        refine s_goto (n := 45) hX (dec_of D_X10_doAnswer (i := 25) rfl) rfl ?_
        exact s_zret hX hR (dec_of D_X10_doAnswer (i := 27) rfl) rfl rfl
  · refine s_if_ne (tgt := 20) (n := 10) hX (dec_of D_X10_doAnswer (i := 5) rfl) rfl rfl ?_ ?_
    · exact s_sub [0, 1, 2] rfl (hkk4 ())
    · refine s_aload_n 0 (n := 11) hX (dec_of D_X10_doAnswer (i := 6) rfl) rfl rfl rfl ?_
      refine s_iload_n 1 (n := 12) hX (dec_of D_X10_doAnswer (i := 7) rfl) rfl rfl rfl ?_
      refine s_iload_n 2 (n := 13) hX (dec_of D_X10_doAnswer (i := 8) rfl) rfl rfl rfl ?_
      refine s_iconst (v := 1) (n := 14) hX (dec_of D_X10_doAnswer (i := 9) rfl) rfl (by decide) ?_
      refine s_callVI (c := 10) (n := 17) hX cls10 (vk131 (by omega)) lk_RX10_279 (dec_of D_X10_doAnswer (i := 10) rfl) rfl (by decide) (c_X10_doesPay (l := _) hG _ _ _ _) rfl rfl (Nat.le_of_ble_eq_true rfl) (fun q7 => ?_)
      refine s_if_eq (tgt := 44) (n := 20) hX (dec_of D_X10_doAnswer (i := 11) rfl) rfl rfl ?_ ?_
      · refine s_iconst (v := 0) (n := 45) hX (dec_of D_X10_doAnswer (i := 26) rfl) rfl (by decide) ?_
        exact s_zret hX hR (dec_of D_X10_doAnswer (i := 27) rfl) rfl rfl
      · exact s_sub [0, 1, 2] rfl (hkk4 ())
theorem lk_RX10_299 : LkV RX10 299 RX10 yX10_doAnswer cX10_doAnswer 3 (some .boolean) 2 := ⟨wd_1705, wd_1707, wd_51, wd_93, wd_1708, by decide +kernel, by decide⟩
def T_X10_answer : List (Nat × Instr × Nat) := [(0, .aload_n 0, 1), (1, .iconst 0, 1), (2, .putfield 86, 3), (5, .aload_n 0, 1), (6, .iload_n 1, 1), (7, .invokevirtual 257, 3), (10, .ifCond .eq 11, 3), (13, .aload_n 0, 1), (14, .iload_n 2, 1), (15, .invokevirtual 257, 3), (18, .ifCond .ne 5, 3), (21, .iconst (-1), 1), (22, .ireturn, 1), (23, .aload_n 0, 1), (24, .iload_n 1, 1), (25, .iload_n 2, 1), (26, .invokevirtual 299, 3), (29, .ifCond .eq 7, 3), (32, .iconst 1, 1), (33, .goto 4, 3), (36, .iconst 0, 1), (37, .ireturn, 1)]
theorem D_X10_answer : dchk cX10_answer T_X10_answer = true := by decide +kernel
def Mo_answer (σ : ST) (a1 : Int32) (a2 : Int32) : Option (Int32 × ST) :=
  lt_ (setF σ 840 0 0) (fun s1 => bd_ (Mo_isLand s1 a1) (fun q2 => (if q2 = 0 then some ((-1), s1) else bd_ (Mo_isLand s1 a2) (fun q3 => (if q3 = 0 then some ((-1), s1) else bd_ (Mo_doAnswer s1 a1 a2) (fun q4 => (if q4 = 0 then some (0, s1) else some (1, s1))))))))
set_option maxHeartbeats 4000000 in
set_option maxRecDepth 100000 in
theorem c_X10_answer {G : GW} (hG : Good G) {l : Launch} (σ : ST) (a1 : Int32) (a2 : Int32) : Ctr G l yX10_answer cX10_answer 3 (some .int) 2 [.ref (ga G 131 0), .int a1, .int a2] σ oP (Mo_answer σ a1 a2) := by
  refine ctr_of hG (by decide) (Nat.le_of_ble_eq_true rfl) ?_
  intro X hXl hR hX
  have hX : Ok G X cX10_answer 3 RX10 2 := hX
  unfold Mo_answer
  show Sim G X 3 (MQX G X oP) σ 0 [(0, .ref (ga G 131 0)), (1, .int a1), (2, .int a2)] [] _
  refine s_aload_n 0 (n := 1) hX (dec_of D_X10_answer (i := 0) rfl) rfl rfl rfl ?_
  refine s_iconst (v := 0) (n := 2) hX (dec_of D_X10_answer (i := 1) rfl) rfl (by decide) ?_
  refine s_putI (c := 10) (p := 0) (n := 5) hX cls10 (vk131 (by omega)) (dec_of D_X10_answer (i := 2) rfl) rfl rfl (by decide) wd_1346 rfl rfl rfl (fun s1 => ?_)
  refine s_aload_n 0 (n := 6) hX (dec_of D_X10_answer (i := 3) rfl) rfl rfl rfl ?_
  refine s_iload_n 1 (n := 7) hX (dec_of D_X10_answer (i := 4) rfl) rfl rfl rfl ?_
  refine s_callVI (c := 10) (n := 10) hX cls10 (vk131 (by omega)) lk_RX10_257 (dec_of D_X10_answer (i := 5) rfl) rfl (by decide) (c_X10_isLand (l := _) hG _ _) rfl rfl (Nat.le_of_ble_eq_true rfl) (fun q2 => ?_)
  refine s_if_eq (tgt := 21) (n := 13) hX (dec_of D_X10_answer (i := 6) rfl) rfl rfl ?_ ?_
  · refine s_iconst (v := (-1)) (n := 22) hX (dec_of D_X10_answer (i := 11) rfl) rfl (by decide) ?_
    exact s_iret hX hR (dec_of D_X10_answer (i := 12) rfl) rfl
  · refine s_aload_n 0 (n := 14) hX (dec_of D_X10_answer (i := 7) rfl) rfl rfl rfl ?_
    refine s_iload_n 2 (n := 15) hX (dec_of D_X10_answer (i := 8) rfl) rfl rfl rfl ?_
    refine s_callVI (c := 10) (n := 18) hX cls10 (vk131 (by omega)) lk_RX10_257 (dec_of D_X10_answer (i := 9) rfl) rfl (by decide) (c_X10_isLand (l := _) hG _ _) rfl rfl (Nat.le_of_ble_eq_true rfl) (fun q3 => ?_)
    refine s_if_ne (tgt := 23) (n := 21) hX (dec_of D_X10_answer (i := 10) rfl) rfl rfl ?_ ?_
    · refine s_aload_n 0 (n := 24) hX (dec_of D_X10_answer (i := 13) rfl) rfl rfl rfl ?_
      refine s_iload_n 1 (n := 25) hX (dec_of D_X10_answer (i := 14) rfl) rfl rfl rfl ?_
      refine s_iload_n 2 (n := 26) hX (dec_of D_X10_answer (i := 15) rfl) rfl rfl rfl ?_
      refine s_callVI (c := 10) (n := 29) hX cls10 (vk131 (by omega)) lk_RX10_299 (dec_of D_X10_answer (i := 16) rfl) rfl (by decide) (c_X10_doAnswer (l := _) hG _ _ _) rfl rfl (Nat.le_of_ble_eq_true rfl) (fun q4 => ?_)
      refine s_if_eq (tgt := 36) (n := 32) hX (dec_of D_X10_answer (i := 17) rfl) rfl rfl ?_ ?_
      · refine s_iconst (v := 0) (n := 37) hX (dec_of D_X10_answer (i := 20) rfl) rfl (by decide) ?_
        exact s_iret hX hR (dec_of D_X10_answer (i := 21) rfl) rfl
      · refine s_iconst (v := 1) (n := 33) hX (dec_of D_X10_answer (i := 18) rfl) rfl (by decide) ?_
        refine s_goto (n := 37) hX (dec_of D_X10_answer (i := 19) rfl) rfl ?_
        exact s_iret hX hR (dec_of D_X10_answer (i := 21) rfl) rfl
    · refine s_iconst (v := (-1)) (n := 22) hX (dec_of D_X10_answer (i := 11) rfl) rfl (by decide) ?_
      exact s_iret hX hR (dec_of D_X10_answer (i := 12) rfl) rfl
def T_X10_ringOf : List (Nat × Instr × Nat) := [(0, .iconst 1, 1), (1, .iload_n 1, 1), (2, .ishl, 1), (3, .istore_n 2, 1), (4, .iconst 0, 1), (5, .istore_n 3, 1), (6, .iload_n 2, 1), (7, .iload_n 3, 1), (8, .if_icmp .eq 72, 3), (11, .iload_n 2, 1), (12, .istore_n 3, 1), (13, .iconst 0, 1), (14, .istore 4, 2), (16, .iload 4, 2), (18, .aload_n 0, 1), (19, .getfield 229, 3), (22, .if_icmp .ge 55, 3), (25, .iconst 0, 1), (26, .istore 5, 2), (28, .iload 5, 2), (30, .aload_n 0, 1), (31, .getfield 229, 3), (34, .if_icmp .ge 37, 3), (37, .iload_n 3, 1), (38, .iload 4, 2), (40, .ishr, 1), (41, .iconst 1, 1), (42, .iand, 1), (43, .iconst 1, 1), (44, .if_icmp .ne 21, 3), (47, .aload_n 0, 1), (48, .iload 4, 2), (50, .iload 5, 2), (52, .invokevirtual 299, 3), (55, .ifCond .eq 10, 3), (58, .iload_n 2, 1), (59, .iconst 1, 1), (60, .iload 5, 2), (62, .ishl, 1), (63, .ior, 1), (64, .istore_n 2, 1), (65, .iinc 5 1, 3), (68, .goto (-40), 3), (71, .iinc 4 1, 3), (74, .goto (-58), 3), (77, .goto (-71), 3), (80, .iload_n 2, 1), (81, .ireturn, 1)]
theorem D_X10_ringOf : dchk cX10_ringOf T_X10_ringOf = true := by decide +kernel
def Mo_ringOf (σ : ST) (a1 : Int32) : Option Int32 :=
  lt_ ((1 <<< (a1 &&& 31))) (fun x1 => lp_ (fun rec3 (z2 : Int32 × Int32) => (if z2.1 = z2.2 then some z2.1 else lp_ (fun rec6 (z5 : Int32 × Int32) => (if (gF σ 850 0) ≤ z5.2 then rec3 (z5.1, z2.1) else lp_ (fun rec9 (z8 : Int32 × Int32) => (if (gF σ 850 0) ≤ z8.2 then rec6 (z8.1, (z5.2 + 1)) else (if ((z2.1 >>> (z5.2 &&& 31)) &&& 1) = 1 then bd_ (Mo_doAnswer (σ) z5.2 z8.2) (fun q11 => (if q11 = 0 then rec9 (z8.1, (z8.2 + 1)) else lt_ ((z8.1 ||| (1 <<< (z8.2 &&& 31)))) (fun x12 => rec9 (x12, (z8.2 + 1))))) else rec9 (z8.1, (z8.2 + 1))))) FU (z5.1, 0))) FU (z2.1, 0))) FU (x1, 0))
set_option maxHeartbeats 4000000 in
set_option maxRecDepth 100000 in
theorem c_X10_ringOf {G : GW} (hG : Good G) {l : Launch} (σ : ST) (a1 : Int32) : Ctr G l yX10_ringOf cX10_ringOf 6 (some .int) 2 [.ref (ga G 131 0), .int a1] σ (oI σ) (Mo_ringOf σ a1) := by
  refine ctr_of hG (by decide) (Nat.le_of_ble_eq_true rfl) ?_
  intro X hXl hR hX
  have hX : Ok G X cX10_ringOf 6 RX10 2 := hX
  unfold Mo_ringOf
  show Sim G X 6 (MQX G X (oI σ)) σ 0 [(0, .ref (ga G 131 0)), (1, .int a1)] [] _
  refine s_iconst (v := 1) (n := 1) hX (dec_of D_X10_ringOf (i := 0) rfl) rfl (by decide) ?_
  refine s_iload_n 1 (n := 2) hX (dec_of D_X10_ringOf (i := 1) rfl) rfl rfl rfl ?_
  refine s_ishl (n := 3) hX (dec_of D_X10_ringOf (i := 2) rfl) rfl ?_
  refine s_topi (fun x1 => ?_)
  refine s_istore_n (lv' := [(0, _), (1, _), (2, _)]) [1, 2, 0] (n := 4) hX (dec_of D_X10_ringOf (i := 3) rfl) rfl rfl (by decide) rfl ?_
  refine s_iconst (v := 0) (n := 5) hX (dec_of D_X10_ringOf (i := 4) rfl) rfl (by decide) ?_
  refine s_istore_n (lv' := [(0, _), (1, _), (2, _), (3, _)]) [1, 2, 3, 0] (n := 6) hX (dec_of D_X10_ringOf (i := 5) rfl) rfl rfl (by decide) rfl ?_
  refine s_sub [0, 2, 3] rfl (s_lp (pc := 6) (Sf := fun (z2 : Int32 × Int32) => σ) (lvf := fun (z2 : Int32 × Int32) => [(0, .ref (ga G 131 0)), (2, .int z2.1), (3, .int z2.2)]) (fun rec3 hre4 z2 => ?_) FU (x1, 0))
  refine s_iload_n 1 (n := 7) hX (dec_of D_X10_ringOf (i := 6) rfl) rfl rfl rfl ?_
  refine s_iload_n 2 (n := 8) hX (dec_of D_X10_ringOf (i := 7) rfl) rfl rfl rfl ?_
  refine s_icmp_eq (tgt := 80) (n := 11) hX (dec_of D_X10_ringOf (i := 8) rfl) rfl rfl ?_ ?_
  · refine s_iload_n 1 (n := 81) hX (dec_of D_X10_ringOf (i := 46) rfl) rfl rfl rfl ?_
    exact s_iret hX hR (dec_of D_X10_ringOf (i := 47) rfl) rfl
  · refine s_iload_n 1 (n := 12) hX (dec_of D_X10_ringOf (i := 9) rfl) rfl rfl rfl ?_
    refine s_istore_n (lv' := [(0, _), (2, _), (3, _)]) [1, 2, 0] (n := 13) hX (dec_of D_X10_ringOf (i := 10) rfl) rfl rfl (by decide) rfl ?_
    refine s_iconst (v := 0) (n := 14) hX (dec_of D_X10_ringOf (i := 11) rfl) rfl (by decide) ?_
    refine s_istore (lv' := [(0, _), (2, _), (3, _), (4, _)]) [1, 2, 3, 0] (n := 16) hX (dec_of D_X10_ringOf (i := 12) rfl) rfl (by decide) rfl ?_
    refine s_sub [0, 1, 2, 3] rfl (s_lp (pc := 16) (Sf := fun (z5 : Int32 × Int32) => σ) (lvf := fun (z5 : Int32 × Int32) => [(0, .ref (ga G 131 0)), (2, .int z5.1), (3, .int z2.1), (4, .int z5.2)]) (fun rec6 hre7 z5 => ?_) FU (z2.1, 0))
    refine s_iload 3 (n := 18) hX (dec_of D_X10_ringOf (i := 13) rfl) rfl rfl ?_
    refine s_aload_n 0 (n := 19) hX (dec_of D_X10_ringOf (i := 14) rfl) rfl rfl rfl ?_
    refine s_getI (c := 10) (p := 10) (id := 850) (n := 22) hX cls10 (vk131 (by omega)) (dec_of D_X10_ringOf (i := 15) rfl) rfl rfl wd_1356 ?_
    refine s_icmp_ge (tgt := 77) (n := 25) hX (dec_of D_X10_ringOf (i := 16) rfl) rfl rfl ?_ ?_
    · refine s_goto (n := 6) hX (dec_of D_X10_ringOf (i := 45) rfl) rfl ?_
      exact s_sub [0, 1, 2] rfl (hre4 (z5.1, z2.1))
    · refine s_iconst (v := 0) (n := 26) hX (dec_of D_X10_ringOf (i := 17) rfl) rfl (by decide) ?_
      refine s_istore (lv' := [(0, _), (2, _), (3, _), (4, _), (5, _)]) [1, 2, 3, 4, 0] (n := 28) hX (dec_of D_X10_ringOf (i := 18) rfl) rfl (by decide) rfl ?_
      refine s_sub [0, 1, 2, 3, 4] rfl (s_lp (pc := 28) (Sf := fun (z8 : Int32 × Int32) => σ) (lvf := fun (z8 : Int32 × Int32) => [(0, .ref (ga G 131 0)), (2, .int z8.1), (3, .int z2.1), (4, .int z5.2), (5, .int z8.2)]) (fun rec9 hre10 z8 => ?_) FU (z5.1, 0))
      refine s_iload 4 (n := 30) hX (dec_of D_X10_ringOf (i := 19) rfl) rfl rfl ?_
      refine s_aload_n 0 (n := 31) hX (dec_of D_X10_ringOf (i := 20) rfl) rfl rfl rfl ?_
      refine s_getI (c := 10) (p := 10) (id := 850) (n := 34) hX cls10 (vk131 (by omega)) (dec_of D_X10_ringOf (i := 21) rfl) rfl rfl wd_1356 ?_
      refine s_icmp_ge (tgt := 71) (n := 37) hX (dec_of D_X10_ringOf (i := 22) rfl) rfl rfl ?_ ?_
      · refine s_iinc (v := z5.2 + 1) (lv' := [(0, _), (2, _), (3, _), (4, _), (5, _)]) 3 [1, 2, 3, 0, 4] (n := 74) hX (dec_of D_X10_ringOf (i := 43) rfl) rfl rfl rfl (by decide) rfl ?_
        refine s_goto (n := 16) hX (dec_of D_X10_ringOf (i := 44) rfl) rfl ?_
        exact s_sub [0, 1, 2, 3] rfl (hre7 (z8.1, (z5.2 + 1)))
      · refine s_iload_n 2 (n := 38) hX (dec_of D_X10_ringOf (i := 23) rfl) rfl rfl rfl ?_
        refine s_iload 3 (n := 40) hX (dec_of D_X10_ringOf (i := 24) rfl) rfl rfl ?_
        refine s_ishr (n := 41) hX (dec_of D_X10_ringOf (i := 25) rfl) rfl ?_
        refine s_iconst (v := 1) (n := 42) hX (dec_of D_X10_ringOf (i := 26) rfl) rfl (by decide) ?_
        refine s_iand (n := 43) hX (dec_of D_X10_ringOf (i := 27) rfl) rfl ?_
        refine s_iconst (v := 1) (n := 44) hX (dec_of D_X10_ringOf (i := 28) rfl) rfl (by decide) ?_
        refine s_icmp_ne (tgt := 65) (n := 47) hX (dec_of D_X10_ringOf (i := 29) rfl) rfl rfl ?_ ?_
        · refine s_iinc (v := z8.2 + 1) (lv' := [(0, _), (2, _), (3, _), (4, _), (5, _)]) 4 [1, 2, 3, 4, 0] (n := 68) hX (dec_of D_X10_ringOf (i := 41) rfl) rfl rfl rfl (by decide) rfl ?_
          refine s_goto (n := 28) hX (dec_of D_X10_ringOf (i := 42) rfl) rfl ?_
          exact s_sub [0, 1, 2, 3, 4] rfl (hre10 (z8.1, (z8.2 + 1)))
        · refine s_aload_n 0 (n := 48) hX (dec_of D_X10_ringOf (i := 30) rfl) rfl rfl rfl ?_
          refine s_iload 3 (n := 50) hX (dec_of D_X10_ringOf (i := 31) rfl) rfl rfl ?_
          refine s_iload 4 (n := 52) hX (dec_of D_X10_ringOf (i := 32) rfl) rfl rfl ?_
          refine s_callVI (c := 10) (n := 55) hX cls10 (vk131 (by omega)) lk_RX10_299 (dec_of D_X10_ringOf (i := 33) rfl) rfl (by decide) (c_X10_doAnswer (l := _) hG _ _ _) rfl rfl (Nat.le_of_ble_eq_true rfl) (fun q11 => ?_)
          refine s_if_eq (tgt := 65) (n := 58) hX (dec_of D_X10_ringOf (i := 34) rfl) rfl rfl ?_ ?_
          · refine s_iinc (v := z8.2 + 1) (lv' := [(0, _), (2, _), (3, _), (4, _), (5, _)]) 4 [1, 2, 3, 4, 0] (n := 68) hX (dec_of D_X10_ringOf (i := 41) rfl) rfl rfl rfl (by decide) rfl ?_
            refine s_goto (n := 28) hX (dec_of D_X10_ringOf (i := 42) rfl) rfl ?_
            exact s_sub [0, 1, 2, 3, 4] rfl (hre10 (z8.1, (z8.2 + 1)))
          · refine s_iload_n 1 (n := 59) hX (dec_of D_X10_ringOf (i := 35) rfl) rfl rfl rfl ?_
            refine s_iconst (v := 1) (n := 60) hX (dec_of D_X10_ringOf (i := 36) rfl) rfl (by decide) ?_
            refine s_iload 4 (n := 62) hX (dec_of D_X10_ringOf (i := 37) rfl) rfl rfl ?_
            refine s_ishl (n := 63) hX (dec_of D_X10_ringOf (i := 38) rfl) rfl ?_
            refine s_ior (n := 64) hX (dec_of D_X10_ringOf (i := 39) rfl) rfl ?_
            refine s_topi (fun x12 => ?_)
            refine s_istore_n (lv' := [(0, _), (2, _), (3, _), (4, _), (5, _)]) [1, 0, 2, 3, 4] (n := 65) hX (dec_of D_X10_ringOf (i := 40) rfl) rfl rfl (by decide) rfl ?_
            refine s_iinc (v := z8.2 + 1) (lv' := [(0, _), (2, _), (3, _), (4, _), (5, _)]) 4 [1, 2, 3, 4, 0] (n := 68) hX (dec_of D_X10_ringOf (i := 41) rfl) rfl rfl rfl (by decide) rfl ?_
            refine s_goto (n := 28) hX (dec_of D_X10_ringOf (i := 42) rfl) rfl ?_
            exact s_sub [0, 1, 2, 3, 4] rfl (hre10 (x12, (z8.2 + 1)))
theorem lk_RX10_302 : LkV RX10 302 RX10 yX10_ringOf cX10_ringOf 6 (some .int) 1 := ⟨wd_1713, wd_1715, wd_52, wd_93, wd_1716, by decide +kernel, by decide⟩
def T_X10_ring : List (Nat × Instr × Nat) := [(0, .aload_n 0, 1), (1, .iconst 0, 1), (2, .putfield 86, 3), (5, .aload_n 0, 1), (6, .iload_n 1, 1), (7, .invokevirtual 257, 3), (10, .ifCond .eq 11, 3), (13, .aload_n 0, 1), (14, .iload_n 1, 1), (15, .invokevirtual 302, 3), (18, .goto 4, 3), (21, .iconst (-1), 1), (22, .ireturn, 1)]
theorem D_X10_ring : dchk cX10_ring T_X10_ring = true := by decide +kernel
def Mo_ring (σ : ST) (a1 : Int32) : Option (Int32 × ST) :=
  lt_ (setF σ 840 0 0) (fun s1 => bd_ (Mo_isLand s1 a1) (fun q2 => (if q2 = 0 then some ((-1), s1) else bd_ (Mo_ringOf s1 a1) (fun q3 => some (q3, s1)))))
set_option maxHeartbeats 4000000 in
set_option maxRecDepth 100000 in
theorem c_X10_ring {G : GW} (hG : Good G) {l : Launch} (σ : ST) (a1 : Int32) : Ctr G l yX10_ring cX10_ring 2 (some .int) 3 [.ref (ga G 131 0), .int a1] σ oP (Mo_ring σ a1) := by
  refine ctr_of hG (by decide) (Nat.le_of_ble_eq_true rfl) ?_
  intro X hXl hR hX
  have hX : Ok G X cX10_ring 2 RX10 3 := hX
  unfold Mo_ring
  show Sim G X 2 (MQX G X oP) σ 0 [(0, .ref (ga G 131 0)), (1, .int a1)] [] _
  refine s_aload_n 0 (n := 1) hX (dec_of D_X10_ring (i := 0) rfl) rfl rfl rfl ?_
  refine s_iconst (v := 0) (n := 2) hX (dec_of D_X10_ring (i := 1) rfl) rfl (by decide) ?_
  refine s_putI (c := 10) (p := 0) (n := 5) hX cls10 (vk131 (by omega)) (dec_of D_X10_ring (i := 2) rfl) rfl rfl (by decide) wd_1346 rfl rfl rfl (fun s1 => ?_)
  refine s_aload_n 0 (n := 6) hX (dec_of D_X10_ring (i := 3) rfl) rfl rfl rfl ?_
  refine s_iload_n 1 (n := 7) hX (dec_of D_X10_ring (i := 4) rfl) rfl rfl rfl ?_
  refine s_callVI (c := 10) (n := 10) hX cls10 (vk131 (by omega)) lk_RX10_257 (dec_of D_X10_ring (i := 5) rfl) rfl (by decide) (c_X10_isLand (l := _) hG _ _) rfl rfl (Nat.le_of_ble_eq_true rfl) (fun q2 => ?_)
  refine s_if_eq (tgt := 21) (n := 13) hX (dec_of D_X10_ring (i := 6) rfl) rfl rfl ?_ ?_
  · refine s_iconst (v := (-1)) (n := 22) hX (dec_of D_X10_ring (i := 11) rfl) rfl (by decide) ?_
    exact s_iret hX hR (dec_of D_X10_ring (i := 12) rfl) rfl
  · refine s_aload_n 0 (n := 14) hX (dec_of D_X10_ring (i := 7) rfl) rfl rfl rfl ?_
    refine s_iload_n 1 (n := 15) hX (dec_of D_X10_ring (i := 8) rfl) rfl rfl rfl ?_
    refine s_callVI (c := 10) (n := 18) hX cls10 (vk131 (by omega)) lk_RX10_302 (dec_of D_X10_ring (i := 9) rfl) rfl (by decide) (c_X10_ringOf (l := _) hG _ _) rfl rfl (Nat.le_of_ble_eq_true rfl) (fun q3 => ?_)
    refine s_goto (n := 22) hX (dec_of D_X10_ring (i := 10) rfl) rfl ?_
    exact s_iret hX hR (dec_of D_X10_ring (i := 12) rfl) rfl
def T_X10_rings : List (Nat × Instr × Nat) := [(0, .aload_n 0, 1), (1, .iconst 0, 1), (2, .putfield 86, 3), (5, .iconst 0, 1), (6, .istore_n 1, 1), (7, .iconst 0, 1), (8, .istore_n 2, 1), (9, .iload_n 2, 1), (10, .aload_n 0, 1), (11, .getfield 229, 3), (14, .if_icmp .ge 31, 3), (17, .iload_n 1, 1), (18, .aload_n 0, 1), (19, .iload_n 2, 1), (20, .invokevirtual 302, 3), (23, .iconst 1, 1), (24, .iload_n 2, 1), (25, .ishl, 1), (26, .iconst 1, 1), (27, .isub, 1), (28, .iand, 1), (29, .ifCond .ne 7, 3), (32, .iconst 1, 1), (33, .goto 4, 3), (36, .iconst 0, 1), (37, .iadd, 1), (38, .istore_n 1, 1), (39, .iinc 2 1, 3), (42, .goto (-33), 3), (45, .iload_n 1, 1), (46, .ireturn, 1)]
theorem D_X10_rings : dchk cX10_rings T_X10_rings = true := by decide +kernel
def Mo_rings (σ : ST)  : Option (Int32 × ST) :=
  lt_ (setF σ 840 0 0) (fun s1 => lp_ (fun rec3 (z2 : Int32 × Int32) => (if (gF s1 850 0) ≤ z2.2 then some (z2.1, s1) else bd_ (Mo_ringOf s1 z2.2) (fun q5 => (if (q5 &&& ((1 <<< (z2.2 &&& 31)) - 1)) = 0 then lt_ ((z2.1 + 1)) (fun x7 => rec3 (x7, (z2.2 + 1))) else lt_ ((z2.1 + 0)) (fun x6 => rec3 (x6, (z2.2 + 1))))))) FU (0, 0))
set_option maxHeartbeats 4000000 in
set_option maxRecDepth 100000 in
theorem c_X10_rings {G : GW} (hG : Good G) {l : Launch} (σ : ST)  : Ctr G l yX10_rings cX10_rings 3 (some .int) 3 [.ref (ga G 131 0)] σ oP (Mo_rings σ ) := by
  refine ctr_of hG (by decide) (Nat.le_of_ble_eq_true rfl) ?_
  intro X hXl hR hX
  have hX : Ok G X cX10_rings 3 RX10 3 := hX
  unfold Mo_rings
  show Sim G X 3 (MQX G X oP) σ 0 [(0, .ref (ga G 131 0))] [] _
  refine s_aload_n 0 (n := 1) hX (dec_of D_X10_rings (i := 0) rfl) rfl rfl rfl ?_
  refine s_iconst (v := 0) (n := 2) hX (dec_of D_X10_rings (i := 1) rfl) rfl (by decide) ?_
  refine s_putI (c := 10) (p := 0) (n := 5) hX cls10 (vk131 (by omega)) (dec_of D_X10_rings (i := 2) rfl) rfl rfl (by decide) wd_1346 rfl rfl rfl (fun s1 => ?_)
  refine s_iconst (v := 0) (n := 6) hX (dec_of D_X10_rings (i := 3) rfl) rfl (by decide) ?_
  refine s_istore_n (lv' := [(0, _), (1, _)]) [1, 0] (n := 7) hX (dec_of D_X10_rings (i := 4) rfl) rfl rfl (by decide) rfl ?_
  refine s_iconst (v := 0) (n := 8) hX (dec_of D_X10_rings (i := 5) rfl) rfl (by decide) ?_
  refine s_istore_n (lv' := [(0, _), (1, _), (2, _)]) [1, 2, 0] (n := 9) hX (dec_of D_X10_rings (i := 6) rfl) rfl rfl (by decide) rfl ?_
  refine s_sub [0, 1, 2] rfl (s_lp (pc := 9) (Sf := fun (z2 : Int32 × Int32) => s1) (lvf := fun (z2 : Int32 × Int32) => [(0, .ref (ga G 131 0)), (1, .int z2.1), (2, .int z2.2)]) (fun rec3 hre4 z2 => ?_) FU (0, 0))
  refine s_iload_n 2 (n := 10) hX (dec_of D_X10_rings (i := 7) rfl) rfl rfl rfl ?_
  refine s_aload_n 0 (n := 11) hX (dec_of D_X10_rings (i := 8) rfl) rfl rfl rfl ?_
  refine s_getI (c := 10) (p := 10) (id := 850) (n := 14) hX cls10 (vk131 (by omega)) (dec_of D_X10_rings (i := 9) rfl) rfl rfl wd_1356 ?_
  refine s_icmp_ge (tgt := 45) (n := 17) hX (dec_of D_X10_rings (i := 10) rfl) rfl rfl ?_ ?_
  · refine s_iload_n 1 (n := 46) hX (dec_of D_X10_rings (i := 29) rfl) rfl rfl rfl ?_
    exact s_iret hX hR (dec_of D_X10_rings (i := 30) rfl) rfl
  · refine s_iload_n 1 (n := 18) hX (dec_of D_X10_rings (i := 11) rfl) rfl rfl rfl ?_
    refine s_aload_n 0 (n := 19) hX (dec_of D_X10_rings (i := 12) rfl) rfl rfl rfl ?_
    refine s_iload_n 2 (n := 20) hX (dec_of D_X10_rings (i := 13) rfl) rfl rfl rfl ?_
    refine s_callVI (c := 10) (n := 23) hX cls10 (vk131 (by omega)) lk_RX10_302 (dec_of D_X10_rings (i := 14) rfl) rfl (by decide) (c_X10_ringOf (l := _) hG _ _) rfl rfl (Nat.le_of_ble_eq_true rfl) (fun q5 => ?_)
    refine s_iconst (v := 1) (n := 24) hX (dec_of D_X10_rings (i := 15) rfl) rfl (by decide) ?_
    refine s_iload_n 2 (n := 25) hX (dec_of D_X10_rings (i := 16) rfl) rfl rfl rfl ?_
    refine s_ishl (n := 26) hX (dec_of D_X10_rings (i := 17) rfl) rfl ?_
    refine s_iconst (v := 1) (n := 27) hX (dec_of D_X10_rings (i := 18) rfl) rfl (by decide) ?_
    refine s_isub (n := 28) hX (dec_of D_X10_rings (i := 19) rfl) rfl ?_
    refine s_iand (n := 29) hX (dec_of D_X10_rings (i := 20) rfl) rfl ?_
    refine s_if_ne (tgt := 36) (n := 32) hX (dec_of D_X10_rings (i := 21) rfl) rfl rfl ?_ ?_
    · refine s_iconst (v := 0) (n := 37) hX (dec_of D_X10_rings (i := 24) rfl) rfl (by decide) ?_
      refine s_iadd (n := 38) hX (dec_of D_X10_rings (i := 25) rfl) rfl ?_
      refine s_topi (fun x6 => ?_)
      refine s_istore_n (lv' := [(0, _), (1, _), (2, _)]) [1, 0, 2] (n := 39) hX (dec_of D_X10_rings (i := 26) rfl) rfl rfl (by decide) rfl ?_
      refine s_iinc (v := z2.2 + 1) (lv' := [(0, _), (1, _), (2, _)]) 2 [1, 2, 0] (n := 42) hX (dec_of D_X10_rings (i := 27) rfl) rfl rfl rfl (by decide) rfl ?_
      refine s_goto (n := 9) hX (dec_of D_X10_rings (i := 28) rfl) rfl ?_
      exact s_sub [0, 1, 2] rfl (hre4 (x6, (z2.2 + 1)))
    · refine s_iconst (v := 1) (n := 33) hX (dec_of D_X10_rings (i := 22) rfl) rfl (by decide) ?_
      refine s_goto (n := 37) hX (dec_of D_X10_rings (i := 23) rfl) rfl ?_
      refine s_iadd (n := 38) hX (dec_of D_X10_rings (i := 25) rfl) rfl ?_
      refine s_topi (fun x7 => ?_)
      refine s_istore_n (lv' := [(0, _), (1, _), (2, _)]) [1, 0, 2] (n := 39) hX (dec_of D_X10_rings (i := 26) rfl) rfl rfl (by decide) rfl ?_
      refine s_iinc (v := z2.2 + 1) (lv' := [(0, _), (1, _), (2, _)]) 2 [1, 2, 0] (n := 42) hX (dec_of D_X10_rings (i := 27) rfl) rfl rfl rfl (by decide) rfl ?_
      refine s_goto (n := 9) hX (dec_of D_X10_rings (i := 28) rfl) rfl ?_
      exact s_sub [0, 1, 2] rfl (hre4 (x7, (z2.2 + 1)))
def T_X10_whole : List (Nat × Instr × Nat) := [(0, .aload_n 0, 1), (1, .getfield 22, 3), (4, .iload_n 1, 1), (5, .iaload, 1), (6, .aload_n 0, 1), (7, .getfield 25, 3), (10, .iload_n 1, 1), (11, .iaload, 1), (12, .iadd, 1), (13, .ireturn, 1)]
theorem D_X10_whole : dchk cX10_whole T_X10_whole = true := by decide +kernel
def Mo_whole (σ : ST) (a1 : Int32) : Option Int32 :=
  bd_ (ldI σ 32 0 a1) (fun v1 => bd_ (ldI σ 33 0 a1) (fun v2 => some (v1 + v2)))
set_option maxHeartbeats 4000000 in
set_option maxRecDepth 100000 in
theorem c_X10_whole {G : GW} (hG : Good G) {l : Launch} (σ : ST) (a1 : Int32) : Ctr G l yX10_whole cX10_whole 2 (some .int) 0 [.ref (ga G 131 0), .int a1] σ (oI σ) (Mo_whole σ a1) := by
  refine ctr_of hG (by decide) (Nat.le_of_ble_eq_true rfl) ?_
  intro X hXl hR hX
  have hX : Ok G X cX10_whole 2 RX10 0 := hX
  unfold Mo_whole
  show Sim G X 2 (MQX G X (oI σ)) σ 0 [(0, .ref (ga G 131 0)), (1, .int a1)] [] _
  refine s_aload_n 0 (n := 1) hX (dec_of D_X10_whole (i := 0) rfl) rfl rfl rfl ?_
  refine s_getR (c := 10) (p := 6) (k' := 32) (n := 4) hX cls10 (vk131 (by omega)) (dec_of D_X10_whole (i := 1) rfl) rfl rfl wd_1352 ?_
  refine s_iload_n 1 (n := 5) hX (dec_of D_X10_whole (i := 2) rfl) rfl rfl rfl ?_
  refine s_iald (n := 6) hX (vk32 (by omega)) (by decide) (dec_of D_X10_whole (i := 3) rfl) rfl (fun v1 => ?_)
  refine s_aload_n 0 (n := 7) hX (dec_of D_X10_whole (i := 4) rfl) rfl rfl rfl ?_
  refine s_getR (c := 10) (p := 7) (k' := 33) (n := 10) hX cls10 (vk131 (by omega)) (dec_of D_X10_whole (i := 5) rfl) rfl rfl wd_1353 ?_
  refine s_iload_n 1 (n := 11) hX (dec_of D_X10_whole (i := 6) rfl) rfl rfl rfl ?_
  refine s_iald (n := 12) hX (vk33 (by omega)) (by decide) (dec_of D_X10_whole (i := 7) rfl) rfl (fun v2 => ?_)
  refine s_iadd (n := 13) hX (dec_of D_X10_whole (i := 8) rfl) rfl ?_
  exact s_iret hX hR (dec_of D_X10_whole (i := 9) rfl) rfl
def T_X10_roleAt : List (Nat × Instr × Nat) := [(0, .iload_n 2, 1), (1, .aload_n 0, 1), (2, .getfield 22, 3), (5, .iload_n 1, 1), (6, .iaload, 1), (7, .if_icmp .ge 17, 3), (10, .aload_n 0, 1), (11, .getfield 19, 3), (14, .bipush 8, 2), (16, .iload_n 1, 1), (17, .imul, 1), (18, .iload_n 2, 1), (19, .iadd, 1), (20, .iaload, 1), (21, .goto 4, 3), (24, .iconst 1, 1), (25, .ireturn, 1)]
theorem D_X10_roleAt : dchk cX10_roleAt T_X10_roleAt = true := by decide +kernel
def Mo_roleAt (σ : ST) (a1 : Int32) (a2 : Int32) : Option Int32 :=
  bd_ (ldI σ 32 0 a1) (fun v1 => (if v1 ≤ a2 then some 1 else bd_ (ldI σ 31 0 ((8 * a1) + a2)) (fun v2 => some v2)))
set_option maxHeartbeats 4000000 in
set_option maxRecDepth 100000 in
theorem c_X10_roleAt {G : GW} (hG : Good G) {l : Launch} (σ : ST) (a1 : Int32) (a2 : Int32) : Ctr G l yX10_roleAt cX10_roleAt 3 (some .int) 0 [.ref (ga G 131 0), .int a1, .int a2] σ (oI σ) (Mo_roleAt σ a1 a2) := by
  refine ctr_of hG (by decide) (Nat.le_of_ble_eq_true rfl) ?_
  intro X hXl hR hX
  have hX : Ok G X cX10_roleAt 3 RX10 0 := hX
  unfold Mo_roleAt
  show Sim G X 3 (MQX G X (oI σ)) σ 0 [(0, .ref (ga G 131 0)), (1, .int a1), (2, .int a2)] [] _
  refine s_iload_n 2 (n := 1) hX (dec_of D_X10_roleAt (i := 0) rfl) rfl rfl rfl ?_
  refine s_aload_n 0 (n := 2) hX (dec_of D_X10_roleAt (i := 1) rfl) rfl rfl rfl ?_
  refine s_getR (c := 10) (p := 6) (k' := 32) (n := 5) hX cls10 (vk131 (by omega)) (dec_of D_X10_roleAt (i := 2) rfl) rfl rfl wd_1352 ?_
  refine s_iload_n 1 (n := 6) hX (dec_of D_X10_roleAt (i := 3) rfl) rfl rfl rfl ?_
  refine s_iald (n := 7) hX (vk32 (by omega)) (by decide) (dec_of D_X10_roleAt (i := 4) rfl) rfl (fun v1 => ?_)
  refine s_icmp_ge (tgt := 24) (n := 10) hX (dec_of D_X10_roleAt (i := 5) rfl) rfl rfl ?_ ?_
  · refine s_iconst (v := 1) (n := 25) hX (dec_of D_X10_roleAt (i := 15) rfl) rfl (by decide) ?_
    exact s_iret hX hR (dec_of D_X10_roleAt (i := 16) rfl) rfl
  · refine s_aload_n 0 (n := 11) hX (dec_of D_X10_roleAt (i := 6) rfl) rfl rfl rfl ?_
    refine s_getR (c := 10) (p := 5) (k' := 31) (n := 14) hX cls10 (vk131 (by omega)) (dec_of D_X10_roleAt (i := 7) rfl) rfl rfl wd_1351 ?_
    refine s_bipush (v := 8) (n := 16) hX (dec_of D_X10_roleAt (i := 8) rfl) rfl (by decide) ?_
    refine s_iload_n 1 (n := 17) hX (dec_of D_X10_roleAt (i := 9) rfl) rfl rfl rfl ?_
    refine s_imul (n := 18) hX (dec_of D_X10_roleAt (i := 10) rfl) rfl ?_
    refine s_iload_n 2 (n := 19) hX (dec_of D_X10_roleAt (i := 11) rfl) rfl rfl rfl ?_
    refine s_iadd (n := 20) hX (dec_of D_X10_roleAt (i := 12) rfl) rfl ?_
    refine s_iald (n := 21) hX (vk31 (by omega)) (by decide) (dec_of D_X10_roleAt (i := 13) rfl) rfl (fun v2 => ?_)
    refine s_goto (n := 25) hX (dec_of D_X10_roleAt (i := 14) rfl) rfl ?_
    exact s_iret hX hR (dec_of D_X10_roleAt (i := 16) rfl) rfl
def T_X10_whose : List (Nat × Instr × Nat) := [(0, .iload_n 2, 1), (1, .aload_n 0, 1), (2, .getfield 22, 3), (5, .iload_n 1, 1), (6, .iaload, 1), (7, .if_icmp .ge 17, 3), (10, .aload_n 0, 1), (11, .getfield 16, 3), (14, .bipush 8, 2), (16, .iload_n 1, 1), (17, .imul, 1), (18, .iload_n 2, 1), (19, .iadd, 1), (20, .iaload, 1), (21, .goto 16, 3), (24, .aload_n 0, 1), (25, .iload_n 1, 1), (26, .iload_n 2, 1), (27, .aload_n 0, 1), (28, .getfield 22, 3), (31, .iload_n 1, 1), (32, .iaload, 1), (33, .isub, 1), (34, .invokevirtual 254, 3), (37, .ireturn, 1)]
theorem D_X10_whose : dchk cX10_whose T_X10_whose = true := by decide +kernel
def Mo_whose (σ : ST) (a1 : Int32) (a2 : Int32) : Option Int32 :=
  bd_ (ldI σ 32 0 a1) (fun v1 => (if v1 ≤ a2 then bd_ (ldI σ 32 0 a1) (fun v2 => bd_ (Mo_owner (σ) a1 (a2 - v2)) (fun q3 => some q3)) else bd_ (ldI σ 30 0 ((8 * a1) + a2)) (fun v4 => some v4)))
set_option maxHeartbeats 4000000 in
set_option maxRecDepth 100000 in
theorem c_X10_whose {G : GW} (hG : Good G) {l : Launch} (σ : ST) (a1 : Int32) (a2 : Int32) : Ctr G l yX10_whose cX10_whose 3 (some .int) 1 [.ref (ga G 131 0), .int a1, .int a2] σ (oI σ) (Mo_whose σ a1 a2) := by
  refine ctr_of hG (by decide) (Nat.le_of_ble_eq_true rfl) ?_
  intro X hXl hR hX
  have hX : Ok G X cX10_whose 3 RX10 1 := hX
  unfold Mo_whose
  show Sim G X 3 (MQX G X (oI σ)) σ 0 [(0, .ref (ga G 131 0)), (1, .int a1), (2, .int a2)] [] _
  refine s_iload_n 2 (n := 1) hX (dec_of D_X10_whose (i := 0) rfl) rfl rfl rfl ?_
  refine s_aload_n 0 (n := 2) hX (dec_of D_X10_whose (i := 1) rfl) rfl rfl rfl ?_
  refine s_getR (c := 10) (p := 6) (k' := 32) (n := 5) hX cls10 (vk131 (by omega)) (dec_of D_X10_whose (i := 2) rfl) rfl rfl wd_1352 ?_
  refine s_iload_n 1 (n := 6) hX (dec_of D_X10_whose (i := 3) rfl) rfl rfl rfl ?_
  refine s_iald (n := 7) hX (vk32 (by omega)) (by decide) (dec_of D_X10_whose (i := 4) rfl) rfl (fun v1 => ?_)
  refine s_icmp_ge (tgt := 24) (n := 10) hX (dec_of D_X10_whose (i := 5) rfl) rfl rfl ?_ ?_
  · refine s_aload_n 0 (n := 25) hX (dec_of D_X10_whose (i := 15) rfl) rfl rfl rfl ?_
    refine s_iload_n 1 (n := 26) hX (dec_of D_X10_whose (i := 16) rfl) rfl rfl rfl ?_
    refine s_iload_n 2 (n := 27) hX (dec_of D_X10_whose (i := 17) rfl) rfl rfl rfl ?_
    refine s_aload_n 0 (n := 28) hX (dec_of D_X10_whose (i := 18) rfl) rfl rfl rfl ?_
    refine s_getR (c := 10) (p := 6) (k' := 32) (n := 31) hX cls10 (vk131 (by omega)) (dec_of D_X10_whose (i := 19) rfl) rfl rfl wd_1352 ?_
    refine s_iload_n 1 (n := 32) hX (dec_of D_X10_whose (i := 20) rfl) rfl rfl rfl ?_
    refine s_iald (n := 33) hX (vk32 (by omega)) (by decide) (dec_of D_X10_whose (i := 21) rfl) rfl (fun v2 => ?_)
    refine s_isub (n := 34) hX (dec_of D_X10_whose (i := 22) rfl) rfl ?_
    refine s_callVI (c := 10) (n := 37) hX cls10 (vk131 (by omega)) lk_RX10_254 (dec_of D_X10_whose (i := 23) rfl) rfl (by decide) (c_X10_owner (l := _) hG _ _ _) rfl rfl (Nat.le_of_ble_eq_true rfl) (fun q3 => ?_)
    exact s_iret hX hR (dec_of D_X10_whose (i := 24) rfl) rfl
  · refine s_aload_n 0 (n := 11) hX (dec_of D_X10_whose (i := 6) rfl) rfl rfl rfl ?_
    refine s_getR (c := 10) (p := 4) (k' := 30) (n := 14) hX cls10 (vk131 (by omega)) (dec_of D_X10_whose (i := 7) rfl) rfl rfl wd_1350 ?_
    refine s_bipush (v := 8) (n := 16) hX (dec_of D_X10_whose (i := 8) rfl) rfl (by decide) ?_
    refine s_iload_n 1 (n := 17) hX (dec_of D_X10_whose (i := 9) rfl) rfl rfl rfl ?_
    refine s_imul (n := 18) hX (dec_of D_X10_whose (i := 10) rfl) rfl ?_
    refine s_iload_n 2 (n := 19) hX (dec_of D_X10_whose (i := 11) rfl) rfl rfl rfl ?_
    refine s_iadd (n := 20) hX (dec_of D_X10_whose (i := 12) rfl) rfl ?_
    refine s_iald (n := 21) hX (vk30 (by omega)) (by decide) (dec_of D_X10_whose (i := 13) rfl) rfl (fun v4 => ?_)
    refine s_goto (n := 37) hX (dec_of D_X10_whose (i := 14) rfl) rfl ?_
    exact s_iret hX hR (dec_of D_X10_whose (i := 24) rfl) rfl
theorem lk_RX10_305 : LkV RX10 305 RX10 yX10_whole cX10_whole 2 (some .int) 1 := ⟨wd_1749, wd_1751, wd_57, wd_93, wd_1752, by decide +kernel, by decide⟩
theorem lk_RX10_310 : LkV RX10 310 RX10 yX10_roleAt cX10_roleAt 3 (some .int) 2 := ⟨wd_1754, wd_1756, wd_58, wd_93, wd_1757, by decide +kernel, by decide⟩
def T_X10_laysShares : List (Nat × Instr × Nat) := [(0, .aload_n 0, 1), (1, .iload_n 1, 1), (2, .iconst 0, 1), (3, .invokevirtual 283, 3), (6, .istore_n 3, 1), (7, .aload_n 0, 1), (8, .iload_n 1, 1), (9, .invokevirtual 305, 3), (12, .iload_n 3, 1), (13, .isub, 1), (14, .istore 4, 2), (16, .iload_n 3, 1), (17, .ifCond .ne 7, 3), (20, .iconst 0, 1), (21, .goto 25, 3), (24, .iload 4, 2), (26, .ifCond .ne 7, 3), (29, .iload_n 2, 1), (30, .goto 16, 3), (33, .iload_n 2, 1), (34, .i2l, 1), (35, .aload_n 0, 1), (36, .getfield 77, 3), (39, .i2l, 1), (40, .lmul, 1), (41, .ldc2_w 308, 3), (44, .ldiv, 1), (45, .l2i, 1), (46, .istore 5, 2), (48, .iconst 0, 1), (49, .istore 6, 2), (51, .iconst 0, 1), (52, .istore 7, 2), (54, .iconst 0, 1), (55, .istore 8, 2), (57, .iload 8, 2), (59, .aload_n 0, 1), (60, .iload_n 1, 1), (61, .invokevirtual 305, 3), (64, .if_icmp .ge 88, 3), (67, .aload_n 0, 1), (68, .iload_n 1, 1), (69, .iload 8, 2), (71, .invokevirtual 310, 3), (74, .ifCond .ne 35, 3), (77, .aload_n 0, 1), (78, .getfield 71, 3), (81, .iload 8, 2), (83, .iload 5, 2), (85, .iload_n 3, 1), (86, .idiv, 1), (87, .iload 6, 2), (89, .iload 5, 2), (91, .iload_n 3, 1), (92, .irem, 1), (93, .if_icmp .ge 7, 3), (96, .iconst 1, 1), (97, .goto 4, 3), (100, .iconst 0, 1), (101, .iadd, 1), (102, .iastore, 1), (103, .iinc 6 1, 3), (106, .goto 40, 3), (109, .iload_n 2, 1), (110, .iload 5, 2), (112, .isub, 1), (113, .istore 9, 2), (115, .aload_n 0, 1), (116, .getfield 71, 3), (119, .iload 8, 2), (121, .iload 9, 2), (123, .iload 4, 2), (125, .idiv, 1), (126, .iload 7, 2), (128, .iload 9, 2), (130, .iload 4, 2), (132, .irem, 1), (133, .if_icmp .ge 7, 3), (136, .iconst 1, 1), (137, .goto 4, 3), (140, .iconst 0, 1), (141, .iadd, 1), (142, .iastore, 1), (143, .iinc 7 1, 3), (146, .iinc 8 1, 3), (149, .goto (-92), 3), (152, .return_, 1)]
theorem D_X10_laysShares : dchk cX10_laysShares T_X10_laysShares = true := by decide +kernel
def Mo_laysShares (σ : ST) (a1 : Int32) (a2 : Int32) : Option ST :=
  bd_ (Mo_manyOf (σ) a1 0) (fun q1 => bd_ (Mo_whole (σ) a1) (fun q2 => lt_ ((q2 - q1)) (fun x3 => lk_ (fun kk5 => (if q1 = 0 then kk5 0 else (if x3 = 0 then kk5 a2 else bd_ (ldv ((Int32.toInt64 a2) * (Int32.toInt64 (gF σ 848 0))) 100) (fun v21 => kk5 (Int64.toInt32 v21))))) (fun (j4 : Int32) => lp_ (fun rec8 (z7 : ST × Int32 × Int32 × Int32) => bd_ (Mo_whole z7.1 a1) (fun q10 => (if q10 ≤ z7.2.2.2 then some z7.1 else bd_ (Mo_roleAt z7.1 a1 z7.2.2.2) (fun q11 => (if q11 = 0 then bd_ (idv j4 q1) (fun v17 => bd_ (irm j4 q1) (fun v18 => (if v18 ≤ z7.2.1 then bd_ (stI z7.1 47 0 z7.2.2.2 (v17 + 0)) (fun s19 => rec8 (s19, (z7.2.1 + 1), z7.2.2.1, (z7.2.2.2 + 1))) else bd_ (stI z7.1 47 0 z7.2.2.2 (v17 + 1)) (fun s20 => rec8 (s20, (z7.2.1 + 1), z7.2.2.1, (z7.2.2.2 + 1)))))) else lt_ ((a2 - j4)) (fun x12 => bd_ (idv x12 x3) (fun v13 => bd_ (irm x12 x3) (fun v14 => (if v14 ≤ z7.2.2.1 then bd_ (stI z7.1 47 0 z7.2.2.2 (v13 + 0)) (fun s15 => rec8 (s15, z7.2.1, (z7.2.2.1 + 1), (z7.2.2.2 + 1))) else bd_ (stI z7.1 47 0 z7.2.2.2 (v13 + 1)) (fun s16 => rec8 (s16, z7.2.1, (z7.2.2.1 + 1), (z7.2.2.2 + 1)))))))))))) FU (σ, 0, 0, 0)))))
set_option maxHeartbeats 4000000 in
set_option maxRecDepth 100000 in
theorem c_X10_laysShares {G : GW} (hG : Good G) {l : Launch} (σ : ST) (a1 : Int32) (a2 : Int32) : Ctr G l yX10_laysShares cX10_laysShares 10 none 1 [.ref (ga G 131 0), .int a1, .int a2] σ oV (Mo_laysShares σ a1 a2) := by
  refine ctr_of hG (by decide) (Nat.le_of_ble_eq_true rfl) ?_
  intro X hXl hR hX
  have hX : Ok G X cX10_laysShares 10 RX10 1 := hX
  unfold Mo_laysShares
  show Sim G X 10 (MQX G X oV) σ 0 [(0, .ref (ga G 131 0)), (1, .int a1), (2, .int a2)] [] _
  refine s_aload_n 0 (n := 1) hX (dec_of D_X10_laysShares (i := 0) rfl) rfl rfl rfl ?_
  refine s_iload_n 1 (n := 2) hX (dec_of D_X10_laysShares (i := 1) rfl) rfl rfl rfl ?_
  refine s_iconst (v := 0) (n := 3) hX (dec_of D_X10_laysShares (i := 2) rfl) rfl (by decide) ?_
  refine s_callVI (c := 10) (n := 6) hX cls10 (vk131 (by omega)) lk_RX10_283 (dec_of D_X10_laysShares (i := 3) rfl) rfl (by decide) (c_X10_manyOf (l := _) hG _ _ _) rfl rfl (Nat.le_of_ble_eq_true rfl) (fun q1 => ?_)
  refine s_istore_n (lv' := [(0, _), (1, _), (2, _), (3, _)]) [1, 2, 3, 0] (n := 7) hX (dec_of D_X10_laysShares (i := 4) rfl) rfl rfl (by decide) rfl ?_
  refine s_aload_n 0 (n := 8) hX (dec_of D_X10_laysShares (i := 5) rfl) rfl rfl rfl ?_
  refine s_iload_n 1 (n := 9) hX (dec_of D_X10_laysShares (i := 6) rfl) rfl rfl rfl ?_
  refine s_callVI (c := 10) (n := 12) hX cls10 (vk131 (by omega)) lk_RX10_305 (dec_of D_X10_laysShares (i := 7) rfl) rfl (by decide) (c_X10_whole (l := _) hG _ _) rfl rfl (Nat.le_of_ble_eq_true rfl) (fun q2 => ?_)
  refine s_iload_n 3 (n := 13) hX (dec_of D_X10_laysShares (i := 8) rfl) rfl rfl rfl ?_
  refine s_isub (n := 14) hX (dec_of D_X10_laysShares (i := 9) rfl) rfl ?_
  refine s_topi (fun x3 => ?_)
  refine s_istore (lv' := [(0, _), (1, _), (2, _), (3, _), (4, _)]) [1, 2, 3, 4, 0] (n := 16) hX (dec_of D_X10_laysShares (i := 10) rfl) rfl (by decide) rfl ?_
  refine s_iload_n 3 (n := 17) hX (dec_of D_X10_laysShares (i := 11) rfl) rfl rfl rfl ?_
  refine s_lk (pcj := 46) (Sf := fun (j4 : Int32) => σ) (lvf := fun (j4 : Int32) => [(0, .ref (ga G 131 0)), (1, .int a1), (2, .int a2), (3, .int q1), (4, .int x3)]) (stf := fun (j4 : Int32) => [.int j4]) (fun j4 => ?_) (fun kk5 hkk6 => ?_)
  · refine s_istore (lv' := [(0, _), (1, _), (2, _), (3, _), (4, _), (5, _)]) [1, 2, 3, 4, 5, 0] (n := 48) hX (dec_of D_X10_laysShares (i := 28) rfl) rfl (by decide) rfl ?_
    refine s_iconst (v := 0) (n := 49) hX (dec_of D_X10_laysShares (i := 29) rfl) rfl (by decide) ?_
    refine s_istore (lv' := [(0, _), (1, _), (2, _), (3, _), (4, _), (5, _), (6, _)]) [1, 2, 3, 4, 5, 6, 0] (n := 51) hX (dec_of D_X10_laysShares (i := 30) rfl) rfl (by decide) rfl ?_
    refine s_iconst (v := 0) (n := 52) hX (dec_of D_X10_laysShares (i := 31) rfl) rfl (by decide) ?_
    refine s_istore (lv' := [(0, _), (1, _), (2, _), (3, _), (4, _), (5, _), (6, _), (7, _)]) [1, 2, 3, 4, 5, 6, 7, 0] (n := 54) hX (dec_of D_X10_laysShares (i := 32) rfl) rfl (by decide) rfl ?_
    refine s_iconst (v := 0) (n := 55) hX (dec_of D_X10_laysShares (i := 33) rfl) rfl (by decide) ?_
    refine s_istore (lv' := [(0, _), (1, _), (2, _), (3, _), (4, _), (5, _), (6, _), (7, _), (8, _)]) [1, 2, 3, 4, 5, 6, 7, 8, 0] (n := 57) hX (dec_of D_X10_laysShares (i := 34) rfl) rfl (by decide) rfl ?_
    refine s_sub [0, 1, 2, 3, 4, 5, 6, 7, 8] rfl (s_lp (pc := 57) (Sf := fun (z7 : ST × Int32 × Int32 × Int32) => z7.1) (lvf := fun (z7 : ST × Int32 × Int32 × Int32) => [(0, .ref (ga G 131 0)), (1, .int a1), (2, .int a2), (3, .int q1), (4, .int x3), (5, .int j4), (6, .int z7.2.1), (7, .int z7.2.2.1), (8, .int z7.2.2.2)]) (fun rec8 hre9 z7 => ?_) FU (σ, 0, 0, 0))
    refine s_iload 8 (n := 59) hX (dec_of D_X10_laysShares (i := 35) rfl) rfl rfl ?_
    refine s_aload_n 0 (n := 60) hX (dec_of D_X10_laysShares (i := 36) rfl) rfl rfl rfl ?_
    refine s_iload_n 1 (n := 61) hX (dec_of D_X10_laysShares (i := 37) rfl) rfl rfl rfl ?_
    refine s_callVI (c := 10) (n := 64) hX cls10 (vk131 (by omega)) lk_RX10_305 (dec_of D_X10_laysShares (i := 38) rfl) rfl (by decide) (c_X10_whole (l := _) hG _ _) rfl rfl (Nat.le_of_ble_eq_true rfl) (fun q10 => ?_)
    refine s_icmp_ge (tgt := 152) (n := 67) hX (dec_of D_X10_laysShares (i := 39) rfl) rfl rfl ?_ ?_
    · exact s_vret hX hR (dec_of D_X10_laysShares (i := 86) rfl) rfl
    · refine s_aload_n 0 (n := 68) hX (dec_of D_X10_laysShares (i := 40) rfl) rfl rfl rfl ?_
      refine s_iload_n 1 (n := 69) hX (dec_of D_X10_laysShares (i := 41) rfl) rfl rfl rfl ?_
      refine s_iload 8 (n := 71) hX (dec_of D_X10_laysShares (i := 42) rfl) rfl rfl ?_
      refine s_callVI (c := 10) (n := 74) hX cls10 (vk131 (by omega)) lk_RX10_310 (dec_of D_X10_laysShares (i := 43) rfl) rfl (by decide) (c_X10_roleAt (l := _) hG _ _ _) rfl rfl (Nat.le_of_ble_eq_true rfl) (fun q11 => ?_)
      refine s_if_ne (tgt := 109) (n := 77) hX (dec_of D_X10_laysShares (i := 44) rfl) rfl rfl ?_ ?_
      · refine s_iload_n 2 (n := 110) hX (dec_of D_X10_laysShares (i := 63) rfl) rfl rfl rfl ?_
        refine s_iload 5 (n := 112) hX (dec_of D_X10_laysShares (i := 64) rfl) rfl rfl ?_
        refine s_isub (n := 113) hX (dec_of D_X10_laysShares (i := 65) rfl) rfl ?_
        refine s_topi (fun x12 => ?_)
        refine s_istore (lv' := [(0, _), (1, _), (2, _), (3, _), (4, _), (5, _), (6, _), (7, _), (8, _), (9, _)]) [1, 2, 3, 4, 5, 6, 7, 8, 9, 0] (n := 115) hX (dec_of D_X10_laysShares (i := 66) rfl) rfl (by decide) rfl ?_
        refine s_aload_n 0 (n := 116) hX (dec_of D_X10_laysShares (i := 67) rfl) rfl rfl rfl ?_
        refine s_getR (c := 10) (p := 46) (k' := 47) (n := 119) hX cls10 (vk131 (by omega)) (dec_of D_X10_laysShares (i := 68) rfl) rfl rfl wd_1392 ?_
        refine s_iload 8 (n := 121) hX (dec_of D_X10_laysShares (i := 69) rfl) rfl rfl ?_
        refine s_iload 9 (n := 123) hX (dec_of D_X10_laysShares (i := 70) rfl) rfl rfl ?_
        refine s_iload 4 (n := 125) hX (dec_of D_X10_laysShares (i := 71) rfl) rfl rfl ?_
        refine s_idiv (n := 126) hX (dec_of D_X10_laysShares (i := 72) rfl) rfl (fun v13 => ?_)
        refine s_iload 7 (n := 128) hX (dec_of D_X10_laysShares (i := 73) rfl) rfl rfl ?_
        refine s_iload 9 (n := 130) hX (dec_of D_X10_laysShares (i := 74) rfl) rfl rfl ?_
        refine s_iload 4 (n := 132) hX (dec_of D_X10_laysShares (i := 75) rfl) rfl rfl ?_
        refine s_irem (n := 133) hX (dec_of D_X10_laysShares (i := 76) rfl) rfl (fun v14 => ?_)
        refine s_icmp_ge (tgt := 140) (n := 136) hX (dec_of D_X10_laysShares (i := 77) rfl) rfl rfl ?_ ?_
        · refine s_iconst (v := 0) (n := 141) hX (dec_of D_X10_laysShares (i := 80) rfl) rfl (by decide) ?_
          refine s_iadd (n := 142) hX (dec_of D_X10_laysShares (i := 81) rfl) rfl ?_
          refine s_iast (n := 143) hX (vk47 (by omega)) (by decide) (dec_of D_X10_laysShares (i := 82) rfl) rfl (fun s15 => ?_)
          refine s_iinc (v := z7.2.2.1 + 1) (lv' := [(0, _), (1, _), (2, _), (3, _), (4, _), (5, _), (6, _), (7, _), (8, _), (9, _)]) 7 [1, 2, 3, 4, 5, 6, 7, 0, 8, 9] (n := 146) hX (dec_of D_X10_laysShares (i := 83) rfl) rfl rfl rfl (by decide) rfl ?_
          refine s_iinc (v := z7.2.2.2 + 1) (lv' := [(0, _), (1, _), (2, _), (3, _), (4, _), (5, _), (6, _), (7, _), (8, _), (9, _)]) 8 [1, 2, 3, 4, 5, 6, 7, 8, 0, 9] (n := 149) hX (dec_of D_X10_laysShares (i := 84) rfl) rfl rfl rfl (by decide) rfl ?_
          refine s_goto (n := 57) hX (dec_of D_X10_laysShares (i := 85) rfl) rfl ?_
          exact s_sub [0, 1, 2, 3, 4, 5, 6, 7, 8] rfl (hre9 (s15, z7.2.1, (z7.2.2.1 + 1), (z7.2.2.2 + 1)))
        · refine s_iconst (v := 1) (n := 137) hX (dec_of D_X10_laysShares (i := 78) rfl) rfl (by decide) ?_
          refine s_goto (n := 141) hX (dec_of D_X10_laysShares (i := 79) rfl) rfl ?_
          refine s_iadd (n := 142) hX (dec_of D_X10_laysShares (i := 81) rfl) rfl ?_
          refine s_iast (n := 143) hX (vk47 (by omega)) (by decide) (dec_of D_X10_laysShares (i := 82) rfl) rfl (fun s16 => ?_)
          refine s_iinc (v := z7.2.2.1 + 1) (lv' := [(0, _), (1, _), (2, _), (3, _), (4, _), (5, _), (6, _), (7, _), (8, _), (9, _)]) 7 [1, 2, 3, 4, 5, 6, 7, 0, 8, 9] (n := 146) hX (dec_of D_X10_laysShares (i := 83) rfl) rfl rfl rfl (by decide) rfl ?_
          refine s_iinc (v := z7.2.2.2 + 1) (lv' := [(0, _), (1, _), (2, _), (3, _), (4, _), (5, _), (6, _), (7, _), (8, _), (9, _)]) 8 [1, 2, 3, 4, 5, 6, 7, 8, 0, 9] (n := 149) hX (dec_of D_X10_laysShares (i := 84) rfl) rfl rfl rfl (by decide) rfl ?_
          refine s_goto (n := 57) hX (dec_of D_X10_laysShares (i := 85) rfl) rfl ?_
          exact s_sub [0, 1, 2, 3, 4, 5, 6, 7, 8] rfl (hre9 (s16, z7.2.1, (z7.2.2.1 + 1), (z7.2.2.2 + 1)))
      · refine s_aload_n 0 (n := 78) hX (dec_of D_X10_laysShares (i := 45) rfl) rfl rfl rfl ?_
        refine s_getR (c := 10) (p := 46) (k' := 47) (n := 81) hX cls10 (vk131 (by omega)) (dec_of D_X10_laysShares (i := 46) rfl) rfl rfl wd_1392 ?_
        refine s_iload 8 (n := 83) hX (dec_of D_X10_laysShares (i := 47) rfl) rfl rfl ?_
        refine s_iload 5 (n := 85) hX (dec_of D_X10_laysShares (i := 48) rfl) rfl rfl ?_
        refine s_iload_n 3 (n := 86) hX (dec_of D_X10_laysShares (i := 49) rfl) rfl rfl rfl ?_
        refine s_idiv (n := 87) hX (dec_of D_X10_laysShares (i := 50) rfl) rfl (fun v17 => ?_)
        refine s_iload 6 (n := 89) hX (dec_of D_X10_laysShares (i := 51) rfl) rfl rfl ?_
        refine s_iload 5 (n := 91) hX (dec_of D_X10_laysShares (i := 52) rfl) rfl rfl ?_
        refine s_iload_n 3 (n := 92) hX (dec_of D_X10_laysShares (i := 53) rfl) rfl rfl rfl ?_
        refine s_irem (n := 93) hX (dec_of D_X10_laysShares (i := 54) rfl) rfl (fun v18 => ?_)
        refine s_icmp_ge (tgt := 100) (n := 96) hX (dec_of D_X10_laysShares (i := 55) rfl) rfl rfl ?_ ?_
        · refine s_iconst (v := 0) (n := 101) hX (dec_of D_X10_laysShares (i := 58) rfl) rfl (by decide) ?_
          refine s_iadd (n := 102) hX (dec_of D_X10_laysShares (i := 59) rfl) rfl ?_
          refine s_iast (n := 103) hX (vk47 (by omega)) (by decide) (dec_of D_X10_laysShares (i := 60) rfl) rfl (fun s19 => ?_)
          refine s_iinc (v := z7.2.1 + 1) (lv' := [(0, _), (1, _), (2, _), (3, _), (4, _), (5, _), (6, _), (7, _), (8, _)]) 6 [1, 2, 3, 4, 5, 6, 0, 7, 8] (n := 106) hX (dec_of D_X10_laysShares (i := 61) rfl) rfl rfl rfl (by decide) rfl ?_
          refine s_goto (n := 146) hX (dec_of D_X10_laysShares (i := 62) rfl) rfl ?_
          refine s_iinc (v := z7.2.2.2 + 1) (lv' := [(0, _), (1, _), (2, _), (3, _), (4, _), (5, _), (6, _), (7, _), (8, _)]) 8 [1, 2, 3, 4, 5, 6, 7, 8, 0] (n := 149) hX (dec_of D_X10_laysShares (i := 84) rfl) rfl rfl rfl (by decide) rfl ?_
          refine s_goto (n := 57) hX (dec_of D_X10_laysShares (i := 85) rfl) rfl ?_
          exact s_sub [0, 1, 2, 3, 4, 5, 6, 7, 8] rfl (hre9 (s19, (z7.2.1 + 1), z7.2.2.1, (z7.2.2.2 + 1)))
        · refine s_iconst (v := 1) (n := 97) hX (dec_of D_X10_laysShares (i := 56) rfl) rfl (by decide) ?_
          refine s_goto (n := 101) hX (dec_of D_X10_laysShares (i := 57) rfl) rfl ?_
          refine s_iadd (n := 102) hX (dec_of D_X10_laysShares (i := 59) rfl) rfl ?_
          refine s_iast (n := 103) hX (vk47 (by omega)) (by decide) (dec_of D_X10_laysShares (i := 60) rfl) rfl (fun s20 => ?_)
          refine s_iinc (v := z7.2.1 + 1) (lv' := [(0, _), (1, _), (2, _), (3, _), (4, _), (5, _), (6, _), (7, _), (8, _)]) 6 [1, 2, 3, 4, 5, 6, 0, 7, 8] (n := 106) hX (dec_of D_X10_laysShares (i := 61) rfl) rfl rfl rfl (by decide) rfl ?_
          refine s_goto (n := 146) hX (dec_of D_X10_laysShares (i := 62) rfl) rfl ?_
          refine s_iinc (v := z7.2.2.2 + 1) (lv' := [(0, _), (1, _), (2, _), (3, _), (4, _), (5, _), (6, _), (7, _), (8, _)]) 8 [1, 2, 3, 4, 5, 6, 7, 8, 0] (n := 149) hX (dec_of D_X10_laysShares (i := 84) rfl) rfl rfl rfl (by decide) rfl ?_
          refine s_goto (n := 57) hX (dec_of D_X10_laysShares (i := 85) rfl) rfl ?_
          exact s_sub [0, 1, 2, 3, 4, 5, 6, 7, 8] rfl (hre9 (s20, (z7.2.1 + 1), z7.2.2.1, (z7.2.2.2 + 1)))
  · refine s_if_ne (tgt := 24) (n := 20) hX (dec_of D_X10_laysShares (i := 12) rfl) rfl rfl ?_ ?_
    · refine s_iload 4 (n := 26) hX (dec_of D_X10_laysShares (i := 15) rfl) rfl rfl ?_
      refine s_if_ne (tgt := 33) (n := 29) hX (dec_of D_X10_laysShares (i := 16) rfl) rfl rfl ?_ ?_
      · refine s_iload_n 2 (n := 34) hX (dec_of D_X10_laysShares (i := 19) rfl) rfl rfl rfl ?_
        refine s_i2l (n := 35) hX (dec_of D_X10_laysShares (i := 20) rfl) rfl ?_
        refine s_aload_n 0 (n := 36) hX (dec_of D_X10_laysShares (i := 21) rfl) rfl rfl rfl ?_
        refine s_getI (c := 10) (p := 8) (id := 848) (n := 39) hX cls10 (vk131 (by omega)) (dec_of D_X10_laysShares (i := 22) rfl) rfl rfl wd_1354 ?_
        refine s_i2l (n := 40) hX (dec_of D_X10_laysShares (i := 23) rfl) rfl ?_
        refine s_lmul (n := 41) hX (dec_of D_X10_laysShares (i := 24) rfl) rfl ?_
        refine s_ldc2 (v := 100) (n := 44) hX (dec_of D_X10_laysShares (i := 25) rfl) rfl wd_1753 ?_
        refine s_ldiv (n := 45) hX (dec_of D_X10_laysShares (i := 26) rfl) rfl (fun v21 => ?_)
        refine s_l2i (n := 46) hX (dec_of D_X10_laysShares (i := 27) rfl) rfl ?_
        exact s_sub [0, 1, 2, 3, 4] rfl (hkk6 (Int64.toInt32 v21))
      · refine s_iload_n 2 (n := 30) hX (dec_of D_X10_laysShares (i := 17) rfl) rfl rfl rfl ?_
        refine s_goto (n := 46) hX (dec_of D_X10_laysShares (i := 18) rfl) rfl ?_
        exact s_sub [0, 1, 2, 3, 4] rfl (hkk6 a2)
    · refine s_iconst (v := 0) (n := 21) hX (dec_of D_X10_laysShares (i := 13) rfl) rfl (by decide) ?_
      refine s_goto (n := 46) hX (dec_of D_X10_laysShares (i := 14) rfl) rfl ?_
      exact s_sub [0, 1, 2, 3, 4] rfl (hkk6 0)
theorem lk_RX10_313 : LkV RX10 313 RX10 yX10_whose cX10_whose 3 (some .int) 2 := ⟨wd_1762, wd_1764, wd_60, wd_93, wd_1765, by decide +kernel, by decide⟩
def T_X10_where : List (Nat × Instr × Nat) := [(0, .aload_n 0, 1), (1, .iload_n 2, 1), (2, .iload_n 3, 1), (3, .invokevirtual 313, 3), (6, .istore 4, 2), (8, .iload 4, 2), (10, .iconst (-1), 1), (11, .if_icmp .ne 27, 3), (14, .aload_n 0, 1), (15, .getfield 28, 3), (18, .sipush 2666, 3), (21, .iload_n 1, 1), (22, .iadd, 1), (23, .iaload, 1), (24, .iconst 1, 1), (25, .ishr, 1), (26, .iconst 1, 1), (27, .iand, 1), (28, .iconst 1, 1), (29, .if_icmp .ne 7, 3), (32, .iconst 1, 1), (33, .goto 4, 3), (36, .iconst 2, 1), (37, .ireturn, 1), (38, .aload_n 0, 1), (39, .iload_n 1, 1), (40, .aload_n 0, 1), (41, .getfield 28, 3), (44, .sipush 2672, 3), (47, .iload 4, 2), (49, .iadd, 1), (50, .iaload, 1), (51, .aload_n 0, 1), (52, .iload_n 2, 1), (53, .iload_n 3, 1), (54, .invokevirtual 310, 3), (57, .invokevirtual 279, 3), (60, .ifCond .eq 7, 3), (63, .iconst 0, 1), (64, .goto 4, 3), (67, .iconst 2, 1), (68, .ireturn, 1)]
theorem D_X10_where : dchk cX10_where T_X10_where = true := by decide +kernel
def Mo_where (σ : ST) (a1 : Int32) (a2 : Int32) (a3 : Int32) : Option Int32 :=
  bd_ (Mo_whose (σ) a2 a3) (fun q1 => (if q1 = (-1) then bd_ (ldI σ 34 0 (2666 + a1)) (fun v5 => (if ((v5 >>> (1 &&& 31)) &&& 1) = 1 then some 1 else some 2)) else bd_ (ldI σ 34 0 (2672 + q1)) (fun v2 => bd_ (Mo_roleAt (σ) a2 a3) (fun q3 => bd_ (Mo_doesPay (σ) a1 v2 q3) (fun q4 => (if q4 = 0 then some 2 else some 0))))))
set_option maxHeartbeats 4000000 in
set_option maxRecDepth 100000 in
theorem c_X10_where {G : GW} (hG : Good G) {l : Launch} (σ : ST) (a1 : Int32) (a2 : Int32) (a3 : Int32) : Ctr G l yX10_where cX10_where 5 (some .int) 2 [.ref (ga G 131 0), .int a1, .int a2, .int a3] σ (oI σ) (Mo_where σ a1 a2 a3) := by
  refine ctr_of hG (by decide) (Nat.le_of_ble_eq_true rfl) ?_
  intro X hXl hR hX
  have hX : Ok G X cX10_where 5 RX10 2 := hX
  unfold Mo_where
  show Sim G X 5 (MQX G X (oI σ)) σ 0 [(0, .ref (ga G 131 0)), (1, .int a1), (2, .int a2), (3, .int a3)] [] _
  refine s_aload_n 0 (n := 1) hX (dec_of D_X10_where (i := 0) rfl) rfl rfl rfl ?_
  refine s_iload_n 2 (n := 2) hX (dec_of D_X10_where (i := 1) rfl) rfl rfl rfl ?_
  refine s_iload_n 3 (n := 3) hX (dec_of D_X10_where (i := 2) rfl) rfl rfl rfl ?_
  refine s_callVI (c := 10) (n := 6) hX cls10 (vk131 (by omega)) lk_RX10_313 (dec_of D_X10_where (i := 3) rfl) rfl (by decide) (c_X10_whose (l := _) hG _ _ _) rfl rfl (Nat.le_of_ble_eq_true rfl) (fun q1 => ?_)
  refine s_istore (lv' := [(0, _), (1, _), (2, _), (3, _), (4, _)]) [1, 2, 3, 4, 0] (n := 8) hX (dec_of D_X10_where (i := 4) rfl) rfl (by decide) rfl ?_
  refine s_iload 4 (n := 10) hX (dec_of D_X10_where (i := 5) rfl) rfl rfl ?_
  refine s_iconst (v := (-1)) (n := 11) hX (dec_of D_X10_where (i := 6) rfl) rfl (by decide) ?_
  refine s_icmp_ne (tgt := 38) (n := 14) hX (dec_of D_X10_where (i := 7) rfl) rfl rfl ?_ ?_
  · refine s_aload_n 0 (n := 39) hX (dec_of D_X10_where (i := 24) rfl) rfl rfl rfl ?_
    refine s_iload_n 1 (n := 40) hX (dec_of D_X10_where (i := 25) rfl) rfl rfl rfl ?_
    refine s_aload_n 0 (n := 41) hX (dec_of D_X10_where (i := 26) rfl) rfl rfl rfl ?_
    refine s_getR (c := 10) (p := 14) (k' := 34) (n := 44) hX cls10 (vk131 (by omega)) (dec_of D_X10_where (i := 27) rfl) rfl rfl wd_1360 ?_
    refine s_sipush (v := 2672) (n := 47) hX (dec_of D_X10_where (i := 28) rfl) rfl (by decide) ?_
    refine s_iload 4 (n := 49) hX (dec_of D_X10_where (i := 29) rfl) rfl rfl ?_
    refine s_iadd (n := 50) hX (dec_of D_X10_where (i := 30) rfl) rfl ?_
    refine s_iald (n := 51) hX (vk34 (by omega)) (by decide) (dec_of D_X10_where (i := 31) rfl) rfl (fun v2 => ?_)
    refine s_aload_n 0 (n := 52) hX (dec_of D_X10_where (i := 32) rfl) rfl rfl rfl ?_
    refine s_iload_n 2 (n := 53) hX (dec_of D_X10_where (i := 33) rfl) rfl rfl rfl ?_
    refine s_iload_n 3 (n := 54) hX (dec_of D_X10_where (i := 34) rfl) rfl rfl rfl ?_
    refine s_callVI (c := 10) (n := 57) hX cls10 (vk131 (by omega)) lk_RX10_310 (dec_of D_X10_where (i := 35) rfl) rfl (by decide) (c_X10_roleAt (l := _) hG _ _ _) rfl rfl (Nat.le_of_ble_eq_true rfl) (fun q3 => ?_)
    refine s_callVI (c := 10) (n := 60) hX cls10 (vk131 (by omega)) lk_RX10_279 (dec_of D_X10_where (i := 36) rfl) rfl (by decide) (c_X10_doesPay (l := _) hG _ _ _ _) rfl rfl (Nat.le_of_ble_eq_true rfl) (fun q4 => ?_)
    refine s_if_eq (tgt := 67) (n := 63) hX (dec_of D_X10_where (i := 37) rfl) rfl rfl ?_ ?_
    · refine s_iconst (v := 2) (n := 68) hX (dec_of D_X10_where (i := 40) rfl) rfl (by decide) ?_
      exact s_iret hX hR (dec_of D_X10_where (i := 41) rfl) rfl
    · refine s_iconst (v := 0) (n := 64) hX (dec_of D_X10_where (i := 38) rfl) rfl (by decide) ?_
      refine s_goto (n := 68) hX (dec_of D_X10_where (i := 39) rfl) rfl ?_
      exact s_iret hX hR (dec_of D_X10_where (i := 41) rfl) rfl
  · refine s_aload_n 0 (n := 15) hX (dec_of D_X10_where (i := 8) rfl) rfl rfl rfl ?_
    refine s_getR (c := 10) (p := 14) (k' := 34) (n := 18) hX cls10 (vk131 (by omega)) (dec_of D_X10_where (i := 9) rfl) rfl rfl wd_1360 ?_
    refine s_sipush (v := 2666) (n := 21) hX (dec_of D_X10_where (i := 10) rfl) rfl (by decide) ?_
    refine s_iload_n 1 (n := 22) hX (dec_of D_X10_where (i := 11) rfl) rfl rfl rfl ?_
    refine s_iadd (n := 23) hX (dec_of D_X10_where (i := 12) rfl) rfl ?_
    refine s_iald (n := 24) hX (vk34 (by omega)) (by decide) (dec_of D_X10_where (i := 13) rfl) rfl (fun v5 => ?_)
    refine s_iconst (v := 1) (n := 25) hX (dec_of D_X10_where (i := 14) rfl) rfl (by decide) ?_
    refine s_ishr (n := 26) hX (dec_of D_X10_where (i := 15) rfl) rfl ?_
    refine s_iconst (v := 1) (n := 27) hX (dec_of D_X10_where (i := 16) rfl) rfl (by decide) ?_
    refine s_iand (n := 28) hX (dec_of D_X10_where (i := 17) rfl) rfl ?_
    refine s_iconst (v := 1) (n := 29) hX (dec_of D_X10_where (i := 18) rfl) rfl (by decide) ?_
    refine s_icmp_ne (tgt := 36) (n := 32) hX (dec_of D_X10_where (i := 19) rfl) rfl rfl ?_ ?_
    · refine s_iconst (v := 2) (n := 37) hX (dec_of D_X10_where (i := 22) rfl) rfl (by decide) ?_
      exact s_iret hX hR (dec_of D_X10_where (i := 23) rfl) rfl
    · refine s_iconst (v := 1) (n := 33) hX (dec_of D_X10_where (i := 20) rfl) rfl (by decide) ?_
      refine s_goto (n := 37) hX (dec_of D_X10_where (i := 21) rfl) rfl ?_
      exact s_iret hX hR (dec_of D_X10_where (i := 23) rfl) rfl
theorem lk_RX10_316 : LkV RX10 316 RX10 yX10_laysShares cX10_laysShares 10 none 2 := ⟨wd_1745, wd_1747, wd_56, wd_93, wd_1748, by decide +kernel, by decide⟩
theorem lk_RX10_320 : LkV RX10 320 RX10 yX10_where cX10_where 5 (some .int) 3 := ⟨wd_1758, wd_1760, wd_59, wd_93, wd_1761, by decide +kernel, by decide⟩
def T_X10_sumOf : List (Nat × Instr × Nat) := [(0, .aload_n 0, 1), (1, .iload_n 2, 1), (2, .iload_n 3, 1), (3, .invokevirtual 316, 3), (6, .iconst 0, 1), (7, .istore 5, 2), (9, .iconst 0, 1), (10, .istore 6, 2), (12, .iload 6, 2), (14, .aload_n 0, 1), (15, .iload_n 2, 1), (16, .invokevirtual 305, 3), (19, .if_icmp .ge 38, 3), (22, .iload 5, 2), (24, .aload_n 0, 1), (25, .iload_n 1, 1), (26, .iload_n 2, 1), (27, .iload 6, 2), (29, .invokevirtual 320, 3), (32, .iload 4, 2), (34, .if_icmp .ne 13, 3), (37, .aload_n 0, 1), (38, .getfield 71, 3), (41, .iload 6, 2), (43, .iaload, 1), (44, .goto 4, 3), (47, .iconst 0, 1), (48, .iadd, 1), (49, .istore 5, 2), (51, .iinc 6 1, 3), (54, .goto (-42), 3), (57, .iload 5, 2), (59, .ireturn, 1)]
theorem D_X10_sumOf : dchk cX10_sumOf T_X10_sumOf = true := by decide +kernel
def Mo_sumOf (σ : ST) (a1 : Int32) (a2 : Int32) (a3 : Int32) (a4 : Int32) : Option (Int32 × ST) :=
  bd_ (Mo_laysShares (σ) a2 a3) (fun q1 => lp_ (fun rec3 (z2 : Int32 × Int32) => bd_ (Mo_whole q1 a2) (fun q5 => (if q5 ≤ z2.2 then some (z2.1, q1) else bd_ (Mo_where q1 a1 a2 z2.2) (fun q6 => (if q6 = a4 then bd_ (ldI q1 47 0 z2.2) (fun v8 => lt_ ((z2.1 + v8)) (fun x9 => rec3 (x9, (z2.2 + 1)))) else lt_ ((z2.1 + 0)) (fun x7 => rec3 (x7, (z2.2 + 1)))))))) FU (0, 0))
set_option maxHeartbeats 4000000 in
set_option maxRecDepth 100000 in
theorem c_X10_sumOf {G : GW} (hG : Good G) {l : Launch} (σ : ST) (a1 : Int32) (a2 : Int32) (a3 : Int32) (a4 : Int32) : Ctr G l yX10_sumOf cX10_sumOf 7 (some .int) 3 [.ref (ga G 131 0), .int a1, .int a2, .int a3, .int a4] σ oP (Mo_sumOf σ a1 a2 a3 a4) := by
  refine ctr_of hG (by decide) (Nat.le_of_ble_eq_true rfl) ?_
  intro X hXl hR hX
  have hX : Ok G X cX10_sumOf 7 RX10 3 := hX
  unfold Mo_sumOf
  show Sim G X 7 (MQX G X oP) σ 0 [(0, .ref (ga G 131 0)), (1, .int a1), (2, .int a2), (3, .int a3), (4, .int a4)] [] _
  refine s_aload_n 0 (n := 1) hX (dec_of D_X10_sumOf (i := 0) rfl) rfl rfl rfl ?_
  refine s_iload_n 2 (n := 2) hX (dec_of D_X10_sumOf (i := 1) rfl) rfl rfl rfl ?_
  refine s_iload_n 3 (n := 3) hX (dec_of D_X10_sumOf (i := 2) rfl) rfl rfl rfl ?_
  refine s_callVV (c := 10) (n := 6) hX cls10 (vk131 (by omega)) lk_RX10_316 (dec_of D_X10_sumOf (i := 3) rfl) rfl (by decide) (c_X10_laysShares (l := _) hG _ _ _) rfl rfl (Nat.le_of_ble_eq_true rfl) (fun q1 => ?_)
  refine s_iconst (v := 0) (n := 7) hX (dec_of D_X10_sumOf (i := 4) rfl) rfl (by decide) ?_
  refine s_istore (lv' := [(0, _), (1, _), (2, _), (3, _), (4, _), (5, _)]) [1, 2, 3, 4, 5, 0] (n := 9) hX (dec_of D_X10_sumOf (i := 5) rfl) rfl (by decide) rfl ?_
  refine s_iconst (v := 0) (n := 10) hX (dec_of D_X10_sumOf (i := 6) rfl) rfl (by decide) ?_
  refine s_istore (lv' := [(0, _), (1, _), (2, _), (3, _), (4, _), (5, _), (6, _)]) [1, 2, 3, 4, 5, 6, 0] (n := 12) hX (dec_of D_X10_sumOf (i := 7) rfl) rfl (by decide) rfl ?_
  refine s_sub [0, 1, 2, 4, 5, 6] rfl (s_lp (pc := 12) (Sf := fun (z2 : Int32 × Int32) => q1) (lvf := fun (z2 : Int32 × Int32) => [(0, .ref (ga G 131 0)), (1, .int a1), (2, .int a2), (4, .int a4), (5, .int z2.1), (6, .int z2.2)]) (fun rec3 hre4 z2 => ?_) FU (0, 0))
  refine s_iload 5 (n := 14) hX (dec_of D_X10_sumOf (i := 8) rfl) rfl rfl ?_
  refine s_aload_n 0 (n := 15) hX (dec_of D_X10_sumOf (i := 9) rfl) rfl rfl rfl ?_
  refine s_iload_n 2 (n := 16) hX (dec_of D_X10_sumOf (i := 10) rfl) rfl rfl rfl ?_
  refine s_callVI (c := 10) (n := 19) hX cls10 (vk131 (by omega)) lk_RX10_305 (dec_of D_X10_sumOf (i := 11) rfl) rfl (by decide) (c_X10_whole (l := _) hG _ _) rfl rfl (Nat.le_of_ble_eq_true rfl) (fun q5 => ?_)
  refine s_icmp_ge (tgt := 57) (n := 22) hX (dec_of D_X10_sumOf (i := 12) rfl) rfl rfl ?_ ?_
  · refine s_iload 4 (n := 59) hX (dec_of D_X10_sumOf (i := 31) rfl) rfl rfl ?_
    exact s_iret hX hR (dec_of D_X10_sumOf (i := 32) rfl) rfl
  · refine s_iload 4 (n := 24) hX (dec_of D_X10_sumOf (i := 13) rfl) rfl rfl ?_
    refine s_aload_n 0 (n := 25) hX (dec_of D_X10_sumOf (i := 14) rfl) rfl rfl rfl ?_
    refine s_iload_n 1 (n := 26) hX (dec_of D_X10_sumOf (i := 15) rfl) rfl rfl rfl ?_
    refine s_iload_n 2 (n := 27) hX (dec_of D_X10_sumOf (i := 16) rfl) rfl rfl rfl ?_
    refine s_iload 5 (n := 29) hX (dec_of D_X10_sumOf (i := 17) rfl) rfl rfl ?_
    refine s_callVI (c := 10) (n := 32) hX cls10 (vk131 (by omega)) lk_RX10_320 (dec_of D_X10_sumOf (i := 18) rfl) rfl (by decide) (c_X10_where (l := _) hG _ _ _ _) rfl rfl (Nat.le_of_ble_eq_true rfl) (fun q6 => ?_)
    refine s_iload 3 (n := 34) hX (dec_of D_X10_sumOf (i := 19) rfl) rfl rfl ?_
    refine s_icmp_ne (tgt := 47) (n := 37) hX (dec_of D_X10_sumOf (i := 20) rfl) rfl rfl ?_ ?_
    · refine s_iconst (v := 0) (n := 48) hX (dec_of D_X10_sumOf (i := 26) rfl) rfl (by decide) ?_
      refine s_iadd (n := 49) hX (dec_of D_X10_sumOf (i := 27) rfl) rfl ?_
      refine s_topi (fun x7 => ?_)
      refine s_istore (lv' := [(0, _), (1, _), (2, _), (4, _), (5, _), (6, _)]) [1, 2, 3, 4, 0, 5] (n := 51) hX (dec_of D_X10_sumOf (i := 28) rfl) rfl (by decide) rfl ?_
      refine s_iinc (v := z2.2 + 1) (lv' := [(0, _), (1, _), (2, _), (4, _), (5, _), (6, _)]) 5 [1, 2, 3, 4, 5, 0] (n := 54) hX (dec_of D_X10_sumOf (i := 29) rfl) rfl rfl rfl (by decide) rfl ?_
      refine s_goto (n := 12) hX (dec_of D_X10_sumOf (i := 30) rfl) rfl ?_
      exact s_sub [0, 1, 2, 3, 4, 5] rfl (hre4 (x7, (z2.2 + 1)))
    · refine s_aload_n 0 (n := 38) hX (dec_of D_X10_sumOf (i := 21) rfl) rfl rfl rfl ?_
      refine s_getR (c := 10) (p := 46) (k' := 47) (n := 41) hX cls10 (vk131 (by omega)) (dec_of D_X10_sumOf (i := 22) rfl) rfl rfl wd_1392 ?_
      refine s_iload 5 (n := 43) hX (dec_of D_X10_sumOf (i := 23) rfl) rfl rfl ?_
      refine s_iald (n := 44) hX (vk47 (by omega)) (by decide) (dec_of D_X10_sumOf (i := 24) rfl) rfl (fun v8 => ?_)
      refine s_goto (n := 48) hX (dec_of D_X10_sumOf (i := 25) rfl) rfl ?_
      refine s_iadd (n := 49) hX (dec_of D_X10_sumOf (i := 27) rfl) rfl ?_
      refine s_topi (fun x9 => ?_)
      refine s_istore (lv' := [(0, _), (1, _), (2, _), (4, _), (5, _), (6, _)]) [1, 2, 3, 4, 0, 5] (n := 51) hX (dec_of D_X10_sumOf (i := 28) rfl) rfl (by decide) rfl ?_
      refine s_iinc (v := z2.2 + 1) (lv' := [(0, _), (1, _), (2, _), (4, _), (5, _), (6, _)]) 5 [1, 2, 3, 4, 5, 0] (n := 54) hX (dec_of D_X10_sumOf (i := 29) rfl) rfl rfl rfl (by decide) rfl ?_
      refine s_goto (n := 12) hX (dec_of D_X10_sumOf (i := 30) rfl) rfl ?_
      exact s_sub [0, 1, 2, 3, 4, 5] rfl (hre4 (x9, (z2.2 + 1)))

def T_X8_whoAt : List (Nat × Instr × Nat) := [(0, .aload_n 1, 1), (1, .getfield 89, 3), (4, .iload_n 2, 1), (5, .iaload, 1), (6, .istore 4, 2), (8, .iload_n 3, 1), (9, .iload 4, 2), (11, .if_icmp .ge 17, 3), (14, .aload_n 1, 1), (15, .getfield 92, 3), (18, .iload_n 2, 1), (19, .bipush 8, 2), (21, .imul, 1), (22, .iload_n 3, 1), (23, .iadd, 1), (24, .iaload, 1), (25, .goto 16, 3), (28, .aload_n 0, 1), (29, .getfield 21, 3), (32, .iload_n 2, 1), (33, .iconst 5, 1), (34, .imul, 1), (35, .iload_n 3, 1), (36, .iadd, 1), (37, .iload 4, 2), (39, .isub, 1), (40, .iaload, 1), (41, .ireturn, 1)]
theorem D_X8_whoAt : dchk cX8_whoAt T_X8_whoAt = true := by decide +kernel
def Wo_whoAt (σ : ST) (i0 : Nat) (i1 : Nat) (a2 : Int32) (a3 : Int32) : Option Int32 :=
  bd_ (ldI σ 17 i1 a2) (fun v1 => (if v1 ≤ a3 then bd_ (ldI σ 27 i0 (((a2 * 5) + a3) - v1)) (fun v2 => some v2) else bd_ (ldI σ 19 i1 ((a2 * 8) + a3)) (fun v3 => some v3)))
set_option maxHeartbeats 4000000 in
set_option maxRecDepth 100000 in
theorem c_X8_whoAt {G : GW} (hG : Good G) {l : Launch} (σ : ST) (i0 : Nat) (h0 : i0 < 14) (i1 : Nat) (h1 : i1 < 2) (a2 : Int32) (a3 : Int32) : Ctr G l yX8_whoAt cX8_whoAt 5 (some .int) 0 [.ref (ga G 129 i0), .ref (ga G 126 i1), .int a2, .int a3] σ (oI σ) (Wo_whoAt σ i0 i1 a2 a3) := by
  refine ctr_of hG (by decide) (Nat.le_of_ble_eq_true rfl) ?_
  intro X hXl hR hX
  have hX : Ok G X cX8_whoAt 5 RX8 0 := hX
  unfold Wo_whoAt
  show Sim G X 5 (MQX G X (oI σ)) σ 0 [(0, .ref (ga G 129 i0)), (1, .ref (ga G 126 i1)), (2, .int a2), (3, .int a3)] [] _
  refine s_aload_n 1 (n := 1) hX (dec_of D_X8_whoAt (i := 0) rfl) rfl rfl rfl ?_
  refine s_getR (c := 5) (p := 4) (k' := 17) (n := 4) hX cls5 (vk126 (by omega)) (dec_of D_X8_whoAt (i := 1) rfl) rfl rfl wd_371 ?_
  refine s_iload_n 2 (n := 5) hX (dec_of D_X8_whoAt (i := 2) rfl) rfl rfl rfl ?_
  refine s_iald (n := 6) hX (vk17 (by omega)) (by decide) (dec_of D_X8_whoAt (i := 3) rfl) rfl (fun v1 => ?_)
  refine s_istore (lv' := [(0, _), (1, _), (2, _), (3, _), (4, _)]) [1, 2, 3, 4, 0] (n := 8) hX (dec_of D_X8_whoAt (i := 4) rfl) rfl (by decide) rfl ?_
  refine s_iload_n 3 (n := 9) hX (dec_of D_X8_whoAt (i := 5) rfl) rfl rfl rfl ?_
  refine s_iload 4 (n := 11) hX (dec_of D_X8_whoAt (i := 6) rfl) rfl rfl ?_
  refine s_icmp_ge (tgt := 28) (n := 14) hX (dec_of D_X8_whoAt (i := 7) rfl) rfl rfl ?_ ?_
  · refine s_aload_n 0 (n := 29) hX (dec_of D_X8_whoAt (i := 17) rfl) rfl rfl rfl ?_
    refine s_getR (c := 8) (p := 3) (k' := 27) (n := 32) hX cls8 (vk129 (by omega)) (dec_of D_X8_whoAt (i := 18) rfl) rfl rfl wd_206 ?_
    refine s_iload_n 2 (n := 33) hX (dec_of D_X8_whoAt (i := 19) rfl) rfl rfl rfl ?_
    refine s_iconst (v := 5) (n := 34) hX (dec_of D_X8_whoAt (i := 20) rfl) rfl (by decide) ?_
    refine s_imul (n := 35) hX (dec_of D_X8_whoAt (i := 21) rfl) rfl ?_
    refine s_iload_n 3 (n := 36) hX (dec_of D_X8_whoAt (i := 22) rfl) rfl rfl rfl ?_
    refine s_iadd (n := 37) hX (dec_of D_X8_whoAt (i := 23) rfl) rfl ?_
    refine s_iload 4 (n := 39) hX (dec_of D_X8_whoAt (i := 24) rfl) rfl rfl ?_
    refine s_isub (n := 40) hX (dec_of D_X8_whoAt (i := 25) rfl) rfl ?_
    refine s_iald (n := 41) hX (vk27 (by omega)) (by decide) (dec_of D_X8_whoAt (i := 26) rfl) rfl (fun v2 => ?_)
    exact s_iret hX hR (dec_of D_X8_whoAt (i := 27) rfl) rfl
  · refine s_aload_n 1 (n := 15) hX (dec_of D_X8_whoAt (i := 8) rfl) rfl rfl rfl ?_
    refine s_getR (c := 5) (p := 6) (k' := 19) (n := 18) hX cls5 (vk126 (by omega)) (dec_of D_X8_whoAt (i := 9) rfl) rfl rfl wd_380 ?_
    refine s_iload_n 2 (n := 19) hX (dec_of D_X8_whoAt (i := 10) rfl) rfl rfl rfl ?_
    refine s_bipush (v := 8) (n := 21) hX (dec_of D_X8_whoAt (i := 11) rfl) rfl (by decide) ?_
    refine s_imul (n := 22) hX (dec_of D_X8_whoAt (i := 12) rfl) rfl ?_
    refine s_iload_n 3 (n := 23) hX (dec_of D_X8_whoAt (i := 13) rfl) rfl rfl rfl ?_
    refine s_iadd (n := 24) hX (dec_of D_X8_whoAt (i := 14) rfl) rfl ?_
    refine s_iald (n := 25) hX (vk19 (by omega)) (by decide) (dec_of D_X8_whoAt (i := 15) rfl) rfl (fun v3 => ?_)
    refine s_goto (n := 41) hX (dec_of D_X8_whoAt (i := 16) rfl) rfl ?_
    exact s_iret hX hR (dec_of D_X8_whoAt (i := 27) rfl) rfl
theorem lk_RX8_49 : LkV RX8 49 RX8 yX8_payable cX8_payable 4 (some .boolean) 3 := ⟨wd_766, wd_751, wd_752, wd_87, wd_753, by decide +kernel, by decide⟩
def T_X8_fateOf : List (Nat × Instr × Nat) := [(0, .iload_n 2, 1), (1, .ifCond .ge 18, 3), (4, .aload_n 0, 1), (5, .iload_n 1, 1), (6, .iconst 1, 1), (7, .invokevirtual 41, 3), (10, .ifCond .eq 7, 3), (13, .iconst 1, 1), (14, .goto 4, 3), (17, .iconst 2, 1), (18, .ireturn, 1), (19, .aload_n 0, 1), (20, .iload_n 1, 1), (21, .aload_n 0, 1), (22, .getfield 18, 3), (25, .iload_n 2, 1), (26, .iaload, 1), (27, .iload_n 3, 1), (28, .invokevirtual 49, 3), (31, .ifCond .eq 7, 3), (34, .iconst 0, 1), (35, .goto 4, 3), (38, .iconst 2, 1), (39, .ireturn, 1)]
theorem D_X8_fateOf : dchk cX8_fateOf T_X8_fateOf = true := by decide +kernel
def Wo_fateOf (σ : ST) (i0 : Nat) (a1 : Int32) (a2 : Int32) (a3 : Int32) : Option Int32 :=
  (if 0 ≤ a2 then bd_ (ldI σ 26 i0 a2) (fun v1 => bd_ (Wo_payable (σ) i0 a1 v1 a3) (fun q2 => (if q2 = 0 then some 2 else some 0))) else bd_ (Wo_hasRole (σ) i0 a1 1) (fun q3 => (if q3 = 0 then some 2 else some 1)))
set_option maxHeartbeats 4000000 in
set_option maxRecDepth 100000 in
theorem c_X8_fateOf {G : GW} (hG : Good G) {l : Launch} (σ : ST) (i0 : Nat) (h0 : i0 < 14) (a1 : Int32) (a2 : Int32) (a3 : Int32) : Ctr G l yX8_fateOf cX8_fateOf 4 (some .int) 2 [.ref (ga G 129 i0), .int a1, .int a2, .int a3] σ (oI σ) (Wo_fateOf σ i0 a1 a2 a3) := by
  refine ctr_of hG (by decide) (Nat.le_of_ble_eq_true rfl) ?_
  intro X hXl hR hX
  have hX : Ok G X cX8_fateOf 4 RX8 2 := hX
  unfold Wo_fateOf
  show Sim G X 4 (MQX G X (oI σ)) σ 0 [(0, .ref (ga G 129 i0)), (1, .int a1), (2, .int a2), (3, .int a3)] [] _
  refine s_iload_n 2 (n := 1) hX (dec_of D_X8_fateOf (i := 0) rfl) rfl rfl rfl ?_
  refine s_if_ge (tgt := 19) (n := 4) hX (dec_of D_X8_fateOf (i := 1) rfl) rfl rfl ?_ ?_
  · refine s_aload_n 0 (n := 20) hX (dec_of D_X8_fateOf (i := 11) rfl) rfl rfl rfl ?_
    refine s_iload_n 1 (n := 21) hX (dec_of D_X8_fateOf (i := 12) rfl) rfl rfl rfl ?_
    refine s_aload_n 0 (n := 22) hX (dec_of D_X8_fateOf (i := 13) rfl) rfl rfl rfl ?_
    refine s_getR (c := 8) (p := 2) (k' := 26) (n := 25) hX cls8 (vk129 (by omega)) (dec_of D_X8_fateOf (i := 14) rfl) rfl rfl wd_202 ?_
    refine s_iload_n 2 (n := 26) hX (dec_of D_X8_fateOf (i := 15) rfl) rfl rfl rfl ?_
    refine s_iald (n := 27) hX (vk26 (by omega)) (by decide) (dec_of D_X8_fateOf (i := 16) rfl) rfl (fun v1 => ?_)
    refine s_iload_n 3 (n := 28) hX (dec_of D_X8_fateOf (i := 17) rfl) rfl rfl rfl ?_
    refine s_callVI (c := 8) (n := 31) hX cls8 (vk129 (by omega)) lk_RX8_49 (dec_of D_X8_fateOf (i := 18) rfl) rfl (by decide) (c_X8_payable (l := _) hG _ _ (by omega) _ _ _) rfl rfl (Nat.le_of_ble_eq_true rfl) (fun q2 => ?_)
    refine s_if_eq (tgt := 38) (n := 34) hX (dec_of D_X8_fateOf (i := 19) rfl) rfl rfl ?_ ?_
    · refine s_iconst (v := 2) (n := 39) hX (dec_of D_X8_fateOf (i := 22) rfl) rfl (by decide) ?_
      exact s_iret hX hR (dec_of D_X8_fateOf (i := 23) rfl) rfl
    · refine s_iconst (v := 0) (n := 35) hX (dec_of D_X8_fateOf (i := 20) rfl) rfl (by decide) ?_
      refine s_goto (n := 39) hX (dec_of D_X8_fateOf (i := 21) rfl) rfl ?_
      exact s_iret hX hR (dec_of D_X8_fateOf (i := 23) rfl) rfl
  · refine s_aload_n 0 (n := 5) hX (dec_of D_X8_fateOf (i := 2) rfl) rfl rfl rfl ?_
    refine s_iload_n 1 (n := 6) hX (dec_of D_X8_fateOf (i := 3) rfl) rfl rfl rfl ?_
    refine s_iconst (v := 1) (n := 7) hX (dec_of D_X8_fateOf (i := 4) rfl) rfl (by decide) ?_
    refine s_callVI (c := 8) (n := 10) hX cls8 (vk129 (by omega)) lk_RX8_41 (dec_of D_X8_fateOf (i := 5) rfl) rfl (by decide) (c_X8_hasRole (l := _) hG _ _ (by omega) _ _) rfl rfl (Nat.le_of_ble_eq_true rfl) (fun q3 => ?_)
    refine s_if_eq (tgt := 17) (n := 13) hX (dec_of D_X8_fateOf (i := 6) rfl) rfl rfl ?_ ?_
    · refine s_iconst (v := 2) (n := 18) hX (dec_of D_X8_fateOf (i := 9) rfl) rfl (by decide) ?_
      exact s_iret hX hR (dec_of D_X8_fateOf (i := 10) rfl) rfl
    · refine s_iconst (v := 1) (n := 14) hX (dec_of D_X8_fateOf (i := 7) rfl) rfl (by decide) ?_
      refine s_goto (n := 18) hX (dec_of D_X8_fateOf (i := 8) rfl) rfl ?_
      exact s_iret hX hR (dec_of D_X8_fateOf (i := 10) rfl) rfl
theorem lk_RX3_24 : LkV RX3 24 RX5 yX5_headsIn cX5_headsIn 2 (some .int) 1 := ⟨wd_828, wd_635, wd_636, wd_92, wd_637, by decide +kernel, by decide⟩
theorem lk_RX3_37 : LkV RX3 37 RX3 yX3_partMoney cX3_partMoney 6 none 3 := ⟨wd_829, wd_830, wd_831, wd_89, wd_832, by decide +kernel, by decide⟩
theorem lk_RX3_41 : LkS RX3 41 yJ7_fill_53178 cJ7_fill_53178 4 none 2 := ⟨wd_846, wd_658, wd_100, wd_659, by decide +kernel, by decide⟩
theorem lk_RX3_47 : LkV RX3 47 RX8 yX8_whoAt cX8_whoAt 5 (some .int) 3 := ⟨wd_847, wd_848, wd_849, wd_87, wd_850, by decide +kernel, by decide⟩
theorem lk_RX3_57 : LkV RX3 57 RX8 yX8_fateOf cX8_fateOf 4 (some .int) 3 := ⟨wd_851, wd_852, wd_853, wd_87, wd_854, by decide +kernel, by decide⟩
def T_X3_think : List (Nat × Instr × Nat) := [(0, .aload_n 0, 1), (1, .aload_n 1, 1), (2, .iload 4, 2), (4, .invokevirtual 24, 3), (7, .putfield 30, 3), (10, .aload_n 0, 1), (11, .aload_n 1, 1), (12, .iload 4, 2), (14, .iload 5, 2), (16, .aload_n 1, 1), (17, .getfield 34, 3), (20, .iload_n 3, 1), (21, .iaload, 1), (22, .imul, 1), (23, .invokevirtual 37, 3), (26, .aload_n 0, 1), (27, .getfield 21, 3), (30, .iconst 0, 1), (31, .invokestatic 41, 3), (34, .iconst 0, 1), (35, .istore 6, 2), (37, .iload 6, 2), (39, .aload_n 0, 1), (40, .getfield 30, 3), (43, .if_icmp .ge 74, 3), (46, .aload_n 0, 1), (47, .getfield 15, 3), (50, .iload 6, 2), (52, .aload_n 2, 1), (53, .aload_n 1, 1), (54, .iload 4, 2), (56, .iload 6, 2), (58, .invokevirtual 47, 3), (61, .iastore, 1), (62, .aload_n 0, 1), (63, .getfield 18, 3), (66, .iload 6, 2), (68, .aload_n 2, 1), (69, .iload_n 3, 1), (70, .aload_n 0, 1), (71, .getfield 15, 3), (74, .iload 6, 2), (76, .iaload, 1), (77, .aload_n 1, 1), (78, .iload 4, 2), (80, .iload 6, 2), (82, .invokevirtual 53, 3), (85, .invokevirtual 57, 3), (88, .iastore, 1), (89, .aload_n 0, 1), (90, .getfield 21, 3), (93, .aload_n 0, 1), (94, .getfield 18, 3), (97, .iload 6, 2), (99, .iaload, 1), (100, .dup2, 1), (101, .iaload, 1), (102, .aload_n 0, 1), (103, .getfield 9, 3), (106, .iload 6, 2), (108, .iaload, 1), (109, .iadd, 1), (110, .iastore, 1), (111, .iinc 6 1, 3), (114, .goto (-77), 3), (117, .return_, 1)]
theorem D_X3_think : dchk cX3_think T_X3_think = true := by decide +kernel
def Oc_think (σ : ST) (i0 : Nat) (i1 : Nat) (i2 : Nat) (a3 : Int32) (a4 : Int32) (a5 : Int32) : Option ST :=
  bd_ (Rl_headsIn (σ) i1 a4) (fun q1 => lt_ (setF σ 396 i0 q1) (fun s2 => bd_ (ldI s2 13 i1 a3) (fun v3 => bd_ (Oc_partMoney s2 i0 i1 a4 (a5 * v3)) (fun q4 => bd_ (Jk_fill q4 12 i0 0) (fun q5 => lp_ (fun rec7 (z6 : ST × Int32) => (if (gF z6.1 396 i0) ≤ z6.2 then some z6.1 else bd_ (Wo_whoAt z6.1 i2 i1 a4 z6.2) (fun q9 => bd_ (stI z6.1 10 i0 z6.2 q9) (fun s10 => bd_ (ldI s10 10 i0 z6.2) (fun v11 => bd_ (Rl_roleAt s10 i1 a4 z6.2) (fun q12 => bd_ (Wo_fateOf s10 i2 a3 v11 q12) (fun q13 => bd_ (stI s10 11 i0 z6.2 q13) (fun s14 => bd_ (ldI s14 11 i0 z6.2) (fun v15 => bd_ (ldI s14 12 i0 v15) (fun v16 => bd_ (ldI s14 9 i0 z6.2) (fun v17 => bd_ (stI s14 12 i0 v15 (v16 + v17)) (fun s18 => rec7 (s18, (z6.2 + 1)))))))))))))) FU (q5, 0))))))
set_option maxHeartbeats 4000000 in
set_option maxRecDepth 100000 in
theorem c_X3_think {G : GW} (hG : Good G) {l : Launch} (σ : ST) (i0 : Nat) (h0 : i0 < 2) (i1 : Nat) (h1 : i1 < 2) (i2 : Nat) (h2 : i2 < 14) (a3 : Int32) (a4 : Int32) (a5 : Int32) : Ctr G l yX3_think cX3_think 7 none 3 [.ref (ga G 124 i0), .ref (ga G 126 i1), .ref (ga G 129 i2), .int a3, .int a4, .int a5] σ oV (Oc_think σ i0 i1 i2 a3 a4 a5) := by
  refine ctr_of hG (by decide) (Nat.le_of_ble_eq_true rfl) ?_
  intro X hXl hR hX
  have hX : Ok G X cX3_think 7 RX3 3 := hX
  unfold Oc_think
  show Sim G X 7 (MQX G X oV) σ 0 [(0, .ref (ga G 124 i0)), (1, .ref (ga G 126 i1)), (2, .ref (ga G 129 i2)), (3, .int a3), (4, .int a4), (5, .int a5)] [] _
  refine s_aload_n 0 (n := 1) hX (dec_of D_X3_think (i := 0) rfl) rfl rfl rfl ?_
  refine s_aload_n 1 (n := 2) hX (dec_of D_X3_think (i := 1) rfl) rfl rfl rfl ?_
  refine s_iload 4 (n := 4) hX (dec_of D_X3_think (i := 2) rfl) rfl rfl ?_
  refine s_callVI (c := 5) (n := 7) hX cls5 (vk126 (by omega)) lk_RX3_24 (dec_of D_X3_think (i := 3) rfl) rfl (by decide) (c_X5_headsIn (l := _) hG _ _ (by omega) _) rfl rfl (Nat.le_of_ble_eq_true rfl) (fun q1 => ?_)
  refine s_putI (c := 3) (p := 4) (n := 10) hX cls3 (vk124 (by omega)) (dec_of D_X3_think (i := 4) rfl) rfl rfl (by decide) wd_299 rfl rfl rfl (fun s2 => ?_)
  refine s_aload_n 0 (n := 11) hX (dec_of D_X3_think (i := 5) rfl) rfl rfl rfl ?_
  refine s_aload_n 1 (n := 12) hX (dec_of D_X3_think (i := 6) rfl) rfl rfl rfl ?_
  refine s_iload 4 (n := 14) hX (dec_of D_X3_think (i := 7) rfl) rfl rfl ?_
  refine s_iload 5 (n := 16) hX (dec_of D_X3_think (i := 8) rfl) rfl rfl ?_
  refine s_aload_n 1 (n := 17) hX (dec_of D_X3_think (i := 9) rfl) rfl rfl rfl ?_
  refine s_getR (c := 5) (p := 0) (k' := 13) (n := 20) hX cls5 (vk126 (by omega)) (dec_of D_X3_think (i := 10) rfl) rfl rfl wd_354 ?_
  refine s_iload_n 3 (n := 21) hX (dec_of D_X3_think (i := 11) rfl) rfl rfl rfl ?_
  refine s_iald (n := 22) hX (vk13 (by omega)) (by decide) (dec_of D_X3_think (i := 12) rfl) rfl (fun v3 => ?_)
  refine s_imul (n := 23) hX (dec_of D_X3_think (i := 13) rfl) rfl ?_
  refine s_callVV (c := 3) (n := 26) hX cls3 (vk124 (by omega)) lk_RX3_37 (dec_of D_X3_think (i := 14) rfl) rfl (by decide) (c_X3_partMoney (l := _) hG _ _ (by omega) _ (by omega) _ _) rfl rfl (Nat.le_of_ble_eq_true rfl) (fun q4 => ?_)
  refine s_aload_n 0 (n := 27) hX (dec_of D_X3_think (i := 15) rfl) rfl rfl rfl ?_
  refine s_getR (c := 3) (p := 3) (k' := 12) (n := 30) hX cls3 (vk124 (by omega)) (dec_of D_X3_think (i := 16) rfl) rfl rfl wd_296 ?_
  refine s_iconst (v := 0) (n := 31) hX (dec_of D_X3_think (i := 17) rfl) rfl (by decide) ?_
  refine s_callSV (n := 34) hX lk_RX3_41 (dec_of D_X3_think (i := 18) rfl) rfl (by decide) (c_J7_fill_53178 (l := _) hG _ _ _ (vk12 (by omega)) (by decide) _) rfl rfl (Nat.le_of_ble_eq_true rfl) (fun q5 => ?_)
  refine s_iconst (v := 0) (n := 35) hX (dec_of D_X3_think (i := 19) rfl) rfl (by decide) ?_
  refine s_istore (lv' := [(0, _), (1, _), (2, _), (3, _), (4, _), (5, _), (6, _)]) [1, 2, 3, 4, 5, 6, 0] (n := 37) hX (dec_of D_X3_think (i := 20) rfl) rfl (by decide) rfl ?_
  refine s_sub [0, 1, 2, 3, 4, 6] rfl (s_lp (pc := 37) (Sf := fun (z6 : ST × Int32) => z6.1) (lvf := fun (z6 : ST × Int32) => [(0, .ref (ga G 124 i0)), (1, .ref (ga G 126 i1)), (2, .ref (ga G 129 i2)), (3, .int a3), (4, .int a4), (6, .int z6.2)]) (fun rec7 hre8 z6 => ?_) FU (q5, 0))
  refine s_iload 5 (n := 39) hX (dec_of D_X3_think (i := 21) rfl) rfl rfl ?_
  refine s_aload_n 0 (n := 40) hX (dec_of D_X3_think (i := 22) rfl) rfl rfl rfl ?_
  refine s_getI (c := 3) (p := 4) (id := 396) (n := 43) hX cls3 (vk124 (by omega)) (dec_of D_X3_think (i := 23) rfl) rfl rfl wd_299 ?_
  refine s_icmp_ge (tgt := 117) (n := 46) hX (dec_of D_X3_think (i := 24) rfl) rfl rfl ?_ ?_
  · exact s_vret hX hR (dec_of D_X3_think (i := 65) rfl) rfl
  · refine s_aload_n 0 (n := 47) hX (dec_of D_X3_think (i := 25) rfl) rfl rfl rfl ?_
    refine s_getR (c := 3) (p := 1) (k' := 10) (n := 50) hX cls3 (vk124 (by omega)) (dec_of D_X3_think (i := 26) rfl) rfl rfl wd_292 ?_
    refine s_iload 5 (n := 52) hX (dec_of D_X3_think (i := 27) rfl) rfl rfl ?_
    refine s_aload_n 2 (n := 53) hX (dec_of D_X3_think (i := 28) rfl) rfl rfl rfl ?_
    refine s_aload_n 1 (n := 54) hX (dec_of D_X3_think (i := 29) rfl) rfl rfl rfl ?_
    refine s_iload 4 (n := 56) hX (dec_of D_X3_think (i := 30) rfl) rfl rfl ?_
    refine s_iload 5 (n := 58) hX (dec_of D_X3_think (i := 31) rfl) rfl rfl ?_
    refine s_callVI (c := 8) (n := 61) hX cls8 (vk129 (by omega)) lk_RX3_47 (dec_of D_X3_think (i := 32) rfl) rfl (by decide) (c_X8_whoAt (l := _) hG _ _ (by omega) _ (by omega) _ _) rfl rfl (Nat.le_of_ble_eq_true rfl) (fun q9 => ?_)
    refine s_iast (n := 62) hX (vk10 (by omega)) (by decide) (dec_of D_X3_think (i := 33) rfl) rfl (fun s10 => ?_)
    refine s_aload_n 0 (n := 63) hX (dec_of D_X3_think (i := 34) rfl) rfl rfl rfl ?_
    refine s_getR (c := 3) (p := 2) (k' := 11) (n := 66) hX cls3 (vk124 (by omega)) (dec_of D_X3_think (i := 35) rfl) rfl rfl wd_294 ?_
    refine s_iload 5 (n := 68) hX (dec_of D_X3_think (i := 36) rfl) rfl rfl ?_
    refine s_aload_n 2 (n := 69) hX (dec_of D_X3_think (i := 37) rfl) rfl rfl rfl ?_
    refine s_iload_n 3 (n := 70) hX (dec_of D_X3_think (i := 38) rfl) rfl rfl rfl ?_
    refine s_aload_n 0 (n := 71) hX (dec_of D_X3_think (i := 39) rfl) rfl rfl rfl ?_
    refine s_getR (c := 3) (p := 1) (k' := 10) (n := 74) hX cls3 (vk124 (by omega)) (dec_of D_X3_think (i := 40) rfl) rfl rfl wd_292 ?_
    refine s_iload 5 (n := 76) hX (dec_of D_X3_think (i := 41) rfl) rfl rfl ?_
    refine s_iald (n := 77) hX (vk10 (by omega)) (by decide) (dec_of D_X3_think (i := 42) rfl) rfl (fun v11 => ?_)
    refine s_aload_n 1 (n := 78) hX (dec_of D_X3_think (i := 43) rfl) rfl rfl rfl ?_
    refine s_iload 4 (n := 80) hX (dec_of D_X3_think (i := 44) rfl) rfl rfl ?_
    refine s_iload 5 (n := 82) hX (dec_of D_X3_think (i := 45) rfl) rfl rfl ?_
    refine s_callVI (c := 5) (n := 85) hX cls5 (vk126 (by omega)) lk_RX3_53 (dec_of D_X3_think (i := 46) rfl) rfl (by decide) (c_X5_roleAt (l := _) hG _ _ (by omega) _ _) rfl rfl (Nat.le_of_ble_eq_true rfl) (fun q12 => ?_)
    refine s_callVI (c := 8) (n := 88) hX cls8 (vk129 (by omega)) lk_RX3_57 (dec_of D_X3_think (i := 47) rfl) rfl (by decide) (c_X8_fateOf (l := _) hG _ _ (by omega) _ _ _) rfl rfl (Nat.le_of_ble_eq_true rfl) (fun q13 => ?_)
    refine s_iast (n := 89) hX (vk11 (by omega)) (by decide) (dec_of D_X3_think (i := 48) rfl) rfl (fun s14 => ?_)
    refine s_aload_n 0 (n := 90) hX (dec_of D_X3_think (i := 49) rfl) rfl rfl rfl ?_
    refine s_getR (c := 3) (p := 3) (k' := 12) (n := 93) hX cls3 (vk124 (by omega)) (dec_of D_X3_think (i := 50) rfl) rfl rfl wd_296 ?_
    refine s_aload_n 0 (n := 94) hX (dec_of D_X3_think (i := 51) rfl) rfl rfl rfl ?_
    refine s_getR (c := 3) (p := 2) (k' := 11) (n := 97) hX cls3 (vk124 (by omega)) (dec_of D_X3_think (i := 52) rfl) rfl rfl wd_294 ?_
    refine s_iload 5 (n := 99) hX (dec_of D_X3_think (i := 53) rfl) rfl rfl ?_
    refine s_iald (n := 100) hX (vk11 (by omega)) (by decide) (dec_of D_X3_think (i := 54) rfl) rfl (fun v15 => ?_)
    refine s_dup2 (n := 101) hX (dec_of D_X3_think (i := 55) rfl) rfl rfl rfl ?_
    refine s_iald (n := 102) hX (vk12 (by omega)) (by decide) (dec_of D_X3_think (i := 56) rfl) rfl (fun v16 => ?_)
    refine s_aload_n 0 (n := 103) hX (dec_of D_X3_think (i := 57) rfl) rfl rfl rfl ?_
    refine s_getR (c := 3) (p := 0) (k' := 9) (n := 106) hX cls3 (vk124 (by omega)) (dec_of D_X3_think (i := 58) rfl) rfl rfl wd_289 ?_
    refine s_iload 5 (n := 108) hX (dec_of D_X3_think (i := 59) rfl) rfl rfl ?_
    refine s_iald (n := 109) hX (vk9 (by omega)) (by decide) (dec_of D_X3_think (i := 60) rfl) rfl (fun v17 => ?_)
    refine s_iadd (n := 110) hX (dec_of D_X3_think (i := 61) rfl) rfl ?_
    refine s_iast (n := 111) hX (vk12 (by omega)) (by decide) (dec_of D_X3_think (i := 62) rfl) rfl (fun s18 => ?_)
    refine s_iinc (v := z6.2 + 1) (lv' := [(0, _), (1, _), (2, _), (3, _), (4, _), (6, _)]) 5 [1, 2, 3, 4, 5, 0] (n := 114) hX (dec_of D_X3_think (i := 63) rfl) rfl rfl rfl (by decide) rfl ?_
    refine s_goto (n := 37) hX (dec_of D_X3_think (i := 64) rfl) rfl ?_
    exact s_sub [0, 1, 2, 3, 4, 5] rfl (hre8 (s18, (z6.2 + 1)))
def T_X3_headsPaid : List (Nat × Instr × Nat) := [(0, .iconst 0, 1), (1, .istore_n 1, 1), (2, .iconst 0, 1), (3, .istore_n 2, 1), (4, .iload_n 2, 1), (5, .aload_n 0, 1), (6, .getfield 30, 3), (9, .if_icmp .ge 21, 3), (12, .aload_n 0, 1), (13, .getfield 18, 3), (16, .iload_n 2, 1), (17, .iaload, 1), (18, .ifCond .ne 6, 3), (21, .iinc 1 1, 3), (24, .iinc 2 1, 3), (27, .goto (-23), 3), (30, .iload_n 1, 1), (31, .ireturn, 1)]
theorem D_X3_headsPaid : dchk cX3_headsPaid T_X3_headsPaid = true := by decide +kernel
def Oc_headsPaid (σ : ST) (i0 : Nat) : Option Int32 :=
  lp_ (fun rec2 (z1 : Int32 × Int32) => (if (gF σ 396 i0) ≤ z1.2 then some z1.1 else bd_ (ldI σ 11 i0 z1.2) (fun v4 => (if v4 = 0 then rec2 ((z1.1 + 1), (z1.2 + 1)) else rec2 (z1.1, (z1.2 + 1)))))) FU (0, 0)
set_option maxHeartbeats 4000000 in
set_option maxRecDepth 100000 in
theorem c_X3_headsPaid {G : GW} (hG : Good G) {l : Launch} (σ : ST) (i0 : Nat) (h0 : i0 < 2) : Ctr G l yX3_headsPaid cX3_headsPaid 3 (some .int) 0 [.ref (ga G 124 i0)] σ (oI σ) (Oc_headsPaid σ i0) := by
  refine ctr_of hG (by decide) (Nat.le_of_ble_eq_true rfl) ?_
  intro X hXl hR hX
  have hX : Ok G X cX3_headsPaid 3 RX3 0 := hX
  unfold Oc_headsPaid
  show Sim G X 3 (MQX G X (oI σ)) σ 0 [(0, .ref (ga G 124 i0))] [] _
  refine s_iconst (v := 0) (n := 1) hX (dec_of D_X3_headsPaid (i := 0) rfl) rfl (by decide) ?_
  refine s_istore_n (lv' := [(0, _), (1, _)]) [1, 0] (n := 2) hX (dec_of D_X3_headsPaid (i := 1) rfl) rfl rfl (by decide) rfl ?_
  refine s_iconst (v := 0) (n := 3) hX (dec_of D_X3_headsPaid (i := 2) rfl) rfl (by decide) ?_
  refine s_istore_n (lv' := [(0, _), (1, _), (2, _)]) [1, 2, 0] (n := 4) hX (dec_of D_X3_headsPaid (i := 3) rfl) rfl rfl (by decide) rfl ?_
  refine s_sub [0, 1, 2] rfl (s_lp (pc := 4) (Sf := fun (z1 : Int32 × Int32) => σ) (lvf := fun (z1 : Int32 × Int32) => [(0, .ref (ga G 124 i0)), (1, .int z1.1), (2, .int z1.2)]) (fun rec2 hre3 z1 => ?_) FU (0, 0))
  refine s_iload_n 2 (n := 5) hX (dec_of D_X3_headsPaid (i := 4) rfl) rfl rfl rfl ?_
  refine s_aload_n 0 (n := 6) hX (dec_of D_X3_headsPaid (i := 5) rfl) rfl rfl rfl ?_
  refine s_getI (c := 3) (p := 4) (id := 396) (n := 9) hX cls3 (vk124 (by omega)) (dec_of D_X3_headsPaid (i := 6) rfl) rfl rfl wd_299 ?_
  refine s_icmp_ge (tgt := 30) (n := 12) hX (dec_of D_X3_headsPaid (i := 7) rfl) rfl rfl ?_ ?_
  · refine s_iload_n 1 (n := 31) hX (dec_of D_X3_headsPaid (i := 16) rfl) rfl rfl rfl ?_
    exact s_iret hX hR (dec_of D_X3_headsPaid (i := 17) rfl) rfl
  · refine s_aload_n 0 (n := 13) hX (dec_of D_X3_headsPaid (i := 8) rfl) rfl rfl rfl ?_
    refine s_getR (c := 3) (p := 2) (k' := 11) (n := 16) hX cls3 (vk124 (by omega)) (dec_of D_X3_headsPaid (i := 9) rfl) rfl rfl wd_294 ?_
    refine s_iload_n 2 (n := 17) hX (dec_of D_X3_headsPaid (i := 10) rfl) rfl rfl rfl ?_
    refine s_iald (n := 18) hX (vk11 (by omega)) (by decide) (dec_of D_X3_headsPaid (i := 11) rfl) rfl (fun v4 => ?_)
    refine s_if_ne (tgt := 24) (n := 21) hX (dec_of D_X3_headsPaid (i := 12) rfl) rfl rfl ?_ ?_
    · refine s_iinc (v := z1.2 + 1) (lv' := [(0, _), (1, _), (2, _)]) 2 [1, 2, 0] (n := 27) hX (dec_of D_X3_headsPaid (i := 14) rfl) rfl rfl rfl (by decide) rfl ?_
      refine s_goto (n := 4) hX (dec_of D_X3_headsPaid (i := 15) rfl) rfl ?_
      exact s_sub [0, 1, 2] rfl (hre3 (z1.1, (z1.2 + 1)))
    · refine s_iinc (v := z1.1 + 1) (lv' := [(0, _), (1, _), (2, _)]) 1 [1, 0, 2] (n := 24) hX (dec_of D_X3_headsPaid (i := 13) rfl) rfl rfl rfl (by decide) rfl ?_
      refine s_iinc (v := z1.2 + 1) (lv' := [(0, _), (1, _), (2, _)]) 2 [1, 2, 0] (n := 27) hX (dec_of D_X3_headsPaid (i := 14) rfl) rfl rfl rfl (by decide) rfl ?_
      refine s_goto (n := 4) hX (dec_of D_X3_headsPaid (i := 15) rfl) rfl ?_
      exact s_sub [0, 1, 2] rfl (hre3 ((z1.1 + 1), (z1.2 + 1)))
def T_X3_paidToOne : List (Nat × Instr × Nat) := [(0, .iconst 0, 1), (1, .istore_n 2, 1), (2, .iconst 0, 1), (3, .istore_n 3, 1), (4, .iload_n 3, 1), (5, .aload_n 0, 1), (6, .getfield 30, 3), (9, .if_icmp .ge 37, 3), (12, .aload_n 0, 1), (13, .getfield 15, 3), (16, .iload_n 3, 1), (17, .iaload, 1), (18, .iload_n 1, 1), (19, .if_icmp .ne 21, 3), (22, .aload_n 0, 1), (23, .getfield 18, 3), (26, .iload_n 3, 1), (27, .iaload, 1), (28, .ifCond .ne 12, 3), (31, .iload_n 2, 1), (32, .aload_n 0, 1), (33, .getfield 9, 3), (36, .iload_n 3, 1), (37, .iaload, 1), (38, .iadd, 1), (39, .istore_n 2, 1), (40, .iinc 3 1, 3), (43, .goto (-39), 3), (46, .iload_n 2, 1), (47, .ireturn, 1)]
theorem D_X3_paidToOne : dchk cX3_paidToOne T_X3_paidToOne = true := by decide +kernel
def Oc_paidToOne (σ : ST) (i0 : Nat) (a1 : Int32) : Option Int32 :=
  lp_ (fun rec2 (z1 : Int32 × Int32) => (if (gF σ 396 i0) ≤ z1.2 then some z1.1 else bd_ (ldI σ 10 i0 z1.2) (fun v4 => (if v4 = a1 then bd_ (ldI σ 11 i0 z1.2) (fun v5 => (if v5 = 0 then bd_ (ldI σ 9 i0 z1.2) (fun v6 => lt_ ((z1.1 + v6)) (fun x7 => rec2 (x7, (z1.2 + 1)))) else rec2 (z1.1, (z1.2 + 1)))) else rec2 (z1.1, (z1.2 + 1)))))) FU (0, 0)
set_option maxHeartbeats 4000000 in
set_option maxRecDepth 100000 in
theorem c_X3_paidToOne {G : GW} (hG : Good G) {l : Launch} (σ : ST) (i0 : Nat) (h0 : i0 < 2) (a1 : Int32) : Ctr G l yX3_paidToOne cX3_paidToOne 4 (some .int) 0 [.ref (ga G 124 i0), .int a1] σ (oI σ) (Oc_paidToOne σ i0 a1) := by
  refine ctr_of hG (by decide) (Nat.le_of_ble_eq_true rfl) ?_
  intro X hXl hR hX
  have hX : Ok G X cX3_paidToOne 4 RX3 0 := hX
  unfold Oc_paidToOne
  show Sim G X 4 (MQX G X (oI σ)) σ 0 [(0, .ref (ga G 124 i0)), (1, .int a1)] [] _
  refine s_iconst (v := 0) (n := 1) hX (dec_of D_X3_paidToOne (i := 0) rfl) rfl (by decide) ?_
  refine s_istore_n (lv' := [(0, _), (1, _), (2, _)]) [1, 2, 0] (n := 2) hX (dec_of D_X3_paidToOne (i := 1) rfl) rfl rfl (by decide) rfl ?_
  refine s_iconst (v := 0) (n := 3) hX (dec_of D_X3_paidToOne (i := 2) rfl) rfl (by decide) ?_
  refine s_istore_n (lv' := [(0, _), (1, _), (2, _), (3, _)]) [1, 2, 3, 0] (n := 4) hX (dec_of D_X3_paidToOne (i := 3) rfl) rfl rfl (by decide) rfl ?_
  refine s_sub [0, 1, 2, 3] rfl (s_lp (pc := 4) (Sf := fun (z1 : Int32 × Int32) => σ) (lvf := fun (z1 : Int32 × Int32) => [(0, .ref (ga G 124 i0)), (1, .int a1), (2, .int z1.1), (3, .int z1.2)]) (fun rec2 hre3 z1 => ?_) FU (0, 0))
  refine s_iload_n 3 (n := 5) hX (dec_of D_X3_paidToOne (i := 4) rfl) rfl rfl rfl ?_
  refine s_aload_n 0 (n := 6) hX (dec_of D_X3_paidToOne (i := 5) rfl) rfl rfl rfl ?_
  refine s_getI (c := 3) (p := 4) (id := 396) (n := 9) hX cls3 (vk124 (by omega)) (dec_of D_X3_paidToOne (i := 6) rfl) rfl rfl wd_299 ?_
  refine s_icmp_ge (tgt := 46) (n := 12) hX (dec_of D_X3_paidToOne (i := 7) rfl) rfl rfl ?_ ?_
  · refine s_iload_n 2 (n := 47) hX (dec_of D_X3_paidToOne (i := 28) rfl) rfl rfl rfl ?_
    exact s_iret hX hR (dec_of D_X3_paidToOne (i := 29) rfl) rfl
  · refine s_aload_n 0 (n := 13) hX (dec_of D_X3_paidToOne (i := 8) rfl) rfl rfl rfl ?_
    refine s_getR (c := 3) (p := 1) (k' := 10) (n := 16) hX cls3 (vk124 (by omega)) (dec_of D_X3_paidToOne (i := 9) rfl) rfl rfl wd_292 ?_
    refine s_iload_n 3 (n := 17) hX (dec_of D_X3_paidToOne (i := 10) rfl) rfl rfl rfl ?_
    refine s_iald (n := 18) hX (vk10 (by omega)) (by decide) (dec_of D_X3_paidToOne (i := 11) rfl) rfl (fun v4 => ?_)
    refine s_iload_n 1 (n := 19) hX (dec_of D_X3_paidToOne (i := 12) rfl) rfl rfl rfl ?_
    refine s_icmp_ne (tgt := 40) (n := 22) hX (dec_of D_X3_paidToOne (i := 13) rfl) rfl rfl ?_ ?_
    · refine s_iinc (v := z1.2 + 1) (lv' := [(0, _), (1, _), (2, _), (3, _)]) 3 [1, 2, 3, 0] (n := 43) hX (dec_of D_X3_paidToOne (i := 26) rfl) rfl rfl rfl (by decide) rfl ?_
      refine s_goto (n := 4) hX (dec_of D_X3_paidToOne (i := 27) rfl) rfl ?_
      exact s_sub [0, 1, 2, 3] rfl (hre3 (z1.1, (z1.2 + 1)))
    · refine s_aload_n 0 (n := 23) hX (dec_of D_X3_paidToOne (i := 14) rfl) rfl rfl rfl ?_
      refine s_getR (c := 3) (p := 2) (k' := 11) (n := 26) hX cls3 (vk124 (by omega)) (dec_of D_X3_paidToOne (i := 15) rfl) rfl rfl wd_294 ?_
      refine s_iload_n 3 (n := 27) hX (dec_of D_X3_paidToOne (i := 16) rfl) rfl rfl rfl ?_
      refine s_iald (n := 28) hX (vk11 (by omega)) (by decide) (dec_of D_X3_paidToOne (i := 17) rfl) rfl (fun v5 => ?_)
      refine s_if_ne (tgt := 40) (n := 31) hX (dec_of D_X3_paidToOne (i := 18) rfl) rfl rfl ?_ ?_
      · refine s_iinc (v := z1.2 + 1) (lv' := [(0, _), (1, _), (2, _), (3, _)]) 3 [1, 2, 3, 0] (n := 43) hX (dec_of D_X3_paidToOne (i := 26) rfl) rfl rfl rfl (by decide) rfl ?_
        refine s_goto (n := 4) hX (dec_of D_X3_paidToOne (i := 27) rfl) rfl ?_
        exact s_sub [0, 1, 2, 3] rfl (hre3 (z1.1, (z1.2 + 1)))
      · refine s_iload_n 2 (n := 32) hX (dec_of D_X3_paidToOne (i := 19) rfl) rfl rfl rfl ?_
        refine s_aload_n 0 (n := 33) hX (dec_of D_X3_paidToOne (i := 20) rfl) rfl rfl rfl ?_
        refine s_getR (c := 3) (p := 0) (k' := 9) (n := 36) hX cls3 (vk124 (by omega)) (dec_of D_X3_paidToOne (i := 21) rfl) rfl rfl wd_289 ?_
        refine s_iload_n 3 (n := 37) hX (dec_of D_X3_paidToOne (i := 22) rfl) rfl rfl rfl ?_
        refine s_iald (n := 38) hX (vk9 (by omega)) (by decide) (dec_of D_X3_paidToOne (i := 23) rfl) rfl (fun v6 => ?_)
        refine s_iadd (n := 39) hX (dec_of D_X3_paidToOne (i := 24) rfl) rfl ?_
        refine s_topi (fun x7 => ?_)
        refine s_istore_n (lv' := [(0, _), (1, _), (2, _), (3, _)]) [1, 2, 0, 3] (n := 40) hX (dec_of D_X3_paidToOne (i := 25) rfl) rfl rfl (by decide) rfl ?_
        refine s_iinc (v := z1.2 + 1) (lv' := [(0, _), (1, _), (2, _), (3, _)]) 3 [1, 2, 3, 0] (n := 43) hX (dec_of D_X3_paidToOne (i := 26) rfl) rfl rfl rfl (by decide) rfl ?_
        refine s_goto (n := 4) hX (dec_of D_X3_paidToOne (i := 27) rfl) rfl ?_
        exact s_sub [0, 1, 2, 3] rfl (hre3 (x7, (z1.2 + 1)))
def T_X3_paidToHome : List (Nat × Instr × Nat) := [(0, .iconst 0, 1), (1, .istore_n 3, 1), (2, .iconst 0, 1), (3, .istore 4, 2), (5, .iload 4, 2), (7, .aload_n 0, 1), (8, .getfield 30, 3), (11, .if_icmp .ge 45, 3), (14, .aload_n 0, 1), (15, .getfield 18, 3), (18, .iload 4, 2), (20, .iaload, 1), (21, .ifCond .ne 29, 3), (24, .aload_n 1, 1), (25, .getfield 79, 3), (28, .aload_n 0, 1), (29, .getfield 15, 3), (32, .iload 4, 2), (34, .iaload, 1), (35, .iaload, 1), (36, .iload_n 2, 1), (37, .if_icmp .ne 13, 3), (40, .iload_n 3, 1), (41, .aload_n 0, 1), (42, .getfield 9, 3), (45, .iload 4, 2), (47, .iaload, 1), (48, .iadd, 1), (49, .istore_n 3, 1), (50, .iinc 4 1, 3), (53, .goto (-48), 3), (56, .iload_n 3, 1), (57, .ireturn, 1)]
theorem D_X3_paidToHome : dchk cX3_paidToHome T_X3_paidToHome = true := by decide +kernel
def Oc_paidToHome (σ : ST) (i0 : Nat) (i1 : Nat) (a2 : Int32) : Option Int32 :=
  lp_ (fun rec2 (z1 : Int32 × Int32) => (if (gF σ 396 i0) ≤ z1.2 then some z1.1 else bd_ (ldI σ 11 i0 z1.2) (fun v4 => (if v4 = 0 then bd_ (ldI σ 10 i0 z1.2) (fun v5 => bd_ (ldI σ 26 i1 v5) (fun v6 => (if v6 = a2 then bd_ (ldI σ 9 i0 z1.2) (fun v7 => lt_ ((z1.1 + v7)) (fun x8 => rec2 (x8, (z1.2 + 1)))) else rec2 (z1.1, (z1.2 + 1))))) else rec2 (z1.1, (z1.2 + 1)))))) FU (0, 0)
set_option maxHeartbeats 4000000 in
set_option maxRecDepth 100000 in
theorem c_X3_paidToHome {G : GW} (hG : Good G) {l : Launch} (σ : ST) (i0 : Nat) (h0 : i0 < 2) (i1 : Nat) (h1 : i1 < 14) (a2 : Int32) : Ctr G l yX3_paidToHome cX3_paidToHome 5 (some .int) 0 [.ref (ga G 124 i0), .ref (ga G 129 i1), .int a2] σ (oI σ) (Oc_paidToHome σ i0 i1 a2) := by
  refine ctr_of hG (by decide) (Nat.le_of_ble_eq_true rfl) ?_
  intro X hXl hR hX
  have hX : Ok G X cX3_paidToHome 5 RX3 0 := hX
  unfold Oc_paidToHome
  show Sim G X 5 (MQX G X (oI σ)) σ 0 [(0, .ref (ga G 124 i0)), (1, .ref (ga G 129 i1)), (2, .int a2)] [] _
  refine s_iconst (v := 0) (n := 1) hX (dec_of D_X3_paidToHome (i := 0) rfl) rfl (by decide) ?_
  refine s_istore_n (lv' := [(0, _), (1, _), (2, _), (3, _)]) [1, 2, 3, 0] (n := 2) hX (dec_of D_X3_paidToHome (i := 1) rfl) rfl rfl (by decide) rfl ?_
  refine s_iconst (v := 0) (n := 3) hX (dec_of D_X3_paidToHome (i := 2) rfl) rfl (by decide) ?_
  refine s_istore (lv' := [(0, _), (1, _), (2, _), (3, _), (4, _)]) [1, 2, 3, 4, 0] (n := 5) hX (dec_of D_X3_paidToHome (i := 3) rfl) rfl (by decide) rfl ?_
  refine s_sub [0, 1, 2, 3, 4] rfl (s_lp (pc := 5) (Sf := fun (z1 : Int32 × Int32) => σ) (lvf := fun (z1 : Int32 × Int32) => [(0, .ref (ga G 124 i0)), (1, .ref (ga G 129 i1)), (2, .int a2), (3, .int z1.1), (4, .int z1.2)]) (fun rec2 hre3 z1 => ?_) FU (0, 0))
  refine s_iload 4 (n := 7) hX (dec_of D_X3_paidToHome (i := 4) rfl) rfl rfl ?_
  refine s_aload_n 0 (n := 8) hX (dec_of D_X3_paidToHome (i := 5) rfl) rfl rfl rfl ?_
  refine s_getI (c := 3) (p := 4) (id := 396) (n := 11) hX cls3 (vk124 (by omega)) (dec_of D_X3_paidToHome (i := 6) rfl) rfl rfl wd_299 ?_
  refine s_icmp_ge (tgt := 56) (n := 14) hX (dec_of D_X3_paidToHome (i := 7) rfl) rfl rfl ?_ ?_
  · refine s_iload_n 3 (n := 57) hX (dec_of D_X3_paidToHome (i := 31) rfl) rfl rfl rfl ?_
    exact s_iret hX hR (dec_of D_X3_paidToHome (i := 32) rfl) rfl
  · refine s_aload_n 0 (n := 15) hX (dec_of D_X3_paidToHome (i := 8) rfl) rfl rfl rfl ?_
    refine s_getR (c := 3) (p := 2) (k' := 11) (n := 18) hX cls3 (vk124 (by omega)) (dec_of D_X3_paidToHome (i := 9) rfl) rfl rfl wd_294 ?_
    refine s_iload 4 (n := 20) hX (dec_of D_X3_paidToHome (i := 10) rfl) rfl rfl ?_
    refine s_iald (n := 21) hX (vk11 (by omega)) (by decide) (dec_of D_X3_paidToHome (i := 11) rfl) rfl (fun v4 => ?_)
    refine s_if_ne (tgt := 50) (n := 24) hX (dec_of D_X3_paidToHome (i := 12) rfl) rfl rfl ?_ ?_
    · refine s_iinc (v := z1.2 + 1) (lv' := [(0, _), (1, _), (2, _), (3, _), (4, _)]) 4 [1, 2, 3, 4, 0] (n := 53) hX (dec_of D_X3_paidToHome (i := 29) rfl) rfl rfl rfl (by decide) rfl ?_
      refine s_goto (n := 5) hX (dec_of D_X3_paidToHome (i := 30) rfl) rfl ?_
      exact s_sub [0, 1, 2, 3, 4] rfl (hre3 (z1.1, (z1.2 + 1)))
    · refine s_aload_n 1 (n := 25) hX (dec_of D_X3_paidToHome (i := 13) rfl) rfl rfl rfl ?_
      refine s_getR (c := 8) (p := 2) (k' := 26) (n := 28) hX cls8 (vk129 (by omega)) (dec_of D_X3_paidToHome (i := 14) rfl) rfl rfl wd_205 ?_
      refine s_aload_n 0 (n := 29) hX (dec_of D_X3_paidToHome (i := 15) rfl) rfl rfl rfl ?_
      refine s_getR (c := 3) (p := 1) (k' := 10) (n := 32) hX cls3 (vk124 (by omega)) (dec_of D_X3_paidToHome (i := 16) rfl) rfl rfl wd_292 ?_
      refine s_iload 4 (n := 34) hX (dec_of D_X3_paidToHome (i := 17) rfl) rfl rfl ?_
      refine s_iald (n := 35) hX (vk10 (by omega)) (by decide) (dec_of D_X3_paidToHome (i := 18) rfl) rfl (fun v5 => ?_)
      refine s_iald (n := 36) hX (vk26 (by omega)) (by decide) (dec_of D_X3_paidToHome (i := 19) rfl) rfl (fun v6 => ?_)
      refine s_iload_n 2 (n := 37) hX (dec_of D_X3_paidToHome (i := 20) rfl) rfl rfl rfl ?_
      refine s_icmp_ne (tgt := 50) (n := 40) hX (dec_of D_X3_paidToHome (i := 21) rfl) rfl rfl ?_ ?_
      · refine s_iinc (v := z1.2 + 1) (lv' := [(0, _), (1, _), (2, _), (3, _), (4, _)]) 4 [1, 2, 3, 4, 0] (n := 53) hX (dec_of D_X3_paidToHome (i := 29) rfl) rfl rfl rfl (by decide) rfl ?_
        refine s_goto (n := 5) hX (dec_of D_X3_paidToHome (i := 30) rfl) rfl ?_
        exact s_sub [0, 1, 2, 3, 4] rfl (hre3 (z1.1, (z1.2 + 1)))
      · refine s_iload_n 3 (n := 41) hX (dec_of D_X3_paidToHome (i := 22) rfl) rfl rfl rfl ?_
        refine s_aload_n 0 (n := 42) hX (dec_of D_X3_paidToHome (i := 23) rfl) rfl rfl rfl ?_
        refine s_getR (c := 3) (p := 0) (k' := 9) (n := 45) hX cls3 (vk124 (by omega)) (dec_of D_X3_paidToHome (i := 24) rfl) rfl rfl wd_289 ?_
        refine s_iload 4 (n := 47) hX (dec_of D_X3_paidToHome (i := 25) rfl) rfl rfl ?_
        refine s_iald (n := 48) hX (vk9 (by omega)) (by decide) (dec_of D_X3_paidToHome (i := 26) rfl) rfl (fun v7 => ?_)
        refine s_iadd (n := 49) hX (dec_of D_X3_paidToHome (i := 27) rfl) rfl ?_
        refine s_topi (fun x8 => ?_)
        refine s_istore_n (lv' := [(0, _), (1, _), (2, _), (3, _), (4, _)]) [1, 2, 3, 0, 4] (n := 50) hX (dec_of D_X3_paidToHome (i := 28) rfl) rfl rfl (by decide) rfl ?_
        refine s_iinc (v := z1.2 + 1) (lv' := [(0, _), (1, _), (2, _), (3, _), (4, _)]) 4 [1, 2, 3, 4, 0] (n := 53) hX (dec_of D_X3_paidToHome (i := 29) rfl) rfl rfl rfl (by decide) rfl ?_
        refine s_goto (n := 5) hX (dec_of D_X3_paidToHome (i := 30) rfl) rfl ?_
        exact s_sub [0, 1, 2, 3, 4] rfl (hre3 (x8, (z1.2 + 1)))
def T_X3_openMoney : List (Nat × Instr × Nat) := [(0, .iconst 0, 1), (1, .istore_n 2, 1), (2, .iconst 0, 1), (3, .istore_n 3, 1), (4, .iload_n 3, 1), (5, .aload_n 0, 1), (6, .getfield 30, 3), (9, .if_icmp .ge 39, 3), (12, .aload_n 0, 1), (13, .getfield 15, 3), (16, .iload_n 3, 1), (17, .iaload, 1), (18, .bipush (-2), 2), (20, .if_icmp .ne 22, 3), (23, .aload_n 0, 1), (24, .getfield 18, 3), (27, .iload_n 3, 1), (28, .iaload, 1), (29, .iload_n 1, 1), (30, .if_icmp .ne 12, 3), (33, .iload_n 2, 1), (34, .aload_n 0, 1), (35, .getfield 9, 3), (38, .iload_n 3, 1), (39, .iaload, 1), (40, .iadd, 1), (41, .istore_n 2, 1), (42, .iinc 3 1, 3), (45, .goto (-41), 3), (48, .iload_n 2, 1), (49, .ireturn, 1)]
theorem D_X3_openMoney : dchk cX3_openMoney T_X3_openMoney = true := by decide +kernel
def Oc_openMoney (σ : ST) (i0 : Nat) (a1 : Int32) : Option Int32 :=
  lp_ (fun rec2 (z1 : Int32 × Int32) => (if (gF σ 396 i0) ≤ z1.2 then some z1.1 else bd_ (ldI σ 10 i0 z1.2) (fun v4 => (if v4 = (-2) then bd_ (ldI σ 11 i0 z1.2) (fun v5 => (if v5 = a1 then bd_ (ldI σ 9 i0 z1.2) (fun v6 => lt_ ((z1.1 + v6)) (fun x7 => rec2 (x7, (z1.2 + 1)))) else rec2 (z1.1, (z1.2 + 1)))) else rec2 (z1.1, (z1.2 + 1)))))) FU (0, 0)
set_option maxHeartbeats 4000000 in
set_option maxRecDepth 100000 in
theorem c_X3_openMoney {G : GW} (hG : Good G) {l : Launch} (σ : ST) (i0 : Nat) (h0 : i0 < 2) (a1 : Int32) : Ctr G l yX3_openMoney cX3_openMoney 4 (some .int) 0 [.ref (ga G 124 i0), .int a1] σ (oI σ) (Oc_openMoney σ i0 a1) := by
  refine ctr_of hG (by decide) (Nat.le_of_ble_eq_true rfl) ?_
  intro X hXl hR hX
  have hX : Ok G X cX3_openMoney 4 RX3 0 := hX
  unfold Oc_openMoney
  show Sim G X 4 (MQX G X (oI σ)) σ 0 [(0, .ref (ga G 124 i0)), (1, .int a1)] [] _
  refine s_iconst (v := 0) (n := 1) hX (dec_of D_X3_openMoney (i := 0) rfl) rfl (by decide) ?_
  refine s_istore_n (lv' := [(0, _), (1, _), (2, _)]) [1, 2, 0] (n := 2) hX (dec_of D_X3_openMoney (i := 1) rfl) rfl rfl (by decide) rfl ?_
  refine s_iconst (v := 0) (n := 3) hX (dec_of D_X3_openMoney (i := 2) rfl) rfl (by decide) ?_
  refine s_istore_n (lv' := [(0, _), (1, _), (2, _), (3, _)]) [1, 2, 3, 0] (n := 4) hX (dec_of D_X3_openMoney (i := 3) rfl) rfl rfl (by decide) rfl ?_
  refine s_sub [0, 1, 2, 3] rfl (s_lp (pc := 4) (Sf := fun (z1 : Int32 × Int32) => σ) (lvf := fun (z1 : Int32 × Int32) => [(0, .ref (ga G 124 i0)), (1, .int a1), (2, .int z1.1), (3, .int z1.2)]) (fun rec2 hre3 z1 => ?_) FU (0, 0))
  refine s_iload_n 3 (n := 5) hX (dec_of D_X3_openMoney (i := 4) rfl) rfl rfl rfl ?_
  refine s_aload_n 0 (n := 6) hX (dec_of D_X3_openMoney (i := 5) rfl) rfl rfl rfl ?_
  refine s_getI (c := 3) (p := 4) (id := 396) (n := 9) hX cls3 (vk124 (by omega)) (dec_of D_X3_openMoney (i := 6) rfl) rfl rfl wd_299 ?_
  refine s_icmp_ge (tgt := 48) (n := 12) hX (dec_of D_X3_openMoney (i := 7) rfl) rfl rfl ?_ ?_
  · refine s_iload_n 2 (n := 49) hX (dec_of D_X3_openMoney (i := 29) rfl) rfl rfl rfl ?_
    exact s_iret hX hR (dec_of D_X3_openMoney (i := 30) rfl) rfl
  · refine s_aload_n 0 (n := 13) hX (dec_of D_X3_openMoney (i := 8) rfl) rfl rfl rfl ?_
    refine s_getR (c := 3) (p := 1) (k' := 10) (n := 16) hX cls3 (vk124 (by omega)) (dec_of D_X3_openMoney (i := 9) rfl) rfl rfl wd_292 ?_
    refine s_iload_n 3 (n := 17) hX (dec_of D_X3_openMoney (i := 10) rfl) rfl rfl rfl ?_
    refine s_iald (n := 18) hX (vk10 (by omega)) (by decide) (dec_of D_X3_openMoney (i := 11) rfl) rfl (fun v4 => ?_)
    refine s_bipush (v := (-2)) (n := 20) hX (dec_of D_X3_openMoney (i := 12) rfl) rfl (by decide) ?_
    refine s_icmp_ne (tgt := 42) (n := 23) hX (dec_of D_X3_openMoney (i := 13) rfl) rfl rfl ?_ ?_
    · refine s_iinc (v := z1.2 + 1) (lv' := [(0, _), (1, _), (2, _), (3, _)]) 3 [1, 2, 3, 0] (n := 45) hX (dec_of D_X3_openMoney (i := 27) rfl) rfl rfl rfl (by decide) rfl ?_
      refine s_goto (n := 4) hX (dec_of D_X3_openMoney (i := 28) rfl) rfl ?_
      exact s_sub [0, 1, 2, 3] rfl (hre3 (z1.1, (z1.2 + 1)))
    · refine s_aload_n 0 (n := 24) hX (dec_of D_X3_openMoney (i := 14) rfl) rfl rfl rfl ?_
      refine s_getR (c := 3) (p := 2) (k' := 11) (n := 27) hX cls3 (vk124 (by omega)) (dec_of D_X3_openMoney (i := 15) rfl) rfl rfl wd_294 ?_
      refine s_iload_n 3 (n := 28) hX (dec_of D_X3_openMoney (i := 16) rfl) rfl rfl rfl ?_
      refine s_iald (n := 29) hX (vk11 (by omega)) (by decide) (dec_of D_X3_openMoney (i := 17) rfl) rfl (fun v5 => ?_)
      refine s_iload_n 1 (n := 30) hX (dec_of D_X3_openMoney (i := 18) rfl) rfl rfl rfl ?_
      refine s_icmp_ne (tgt := 42) (n := 33) hX (dec_of D_X3_openMoney (i := 19) rfl) rfl rfl ?_ ?_
      · refine s_iinc (v := z1.2 + 1) (lv' := [(0, _), (1, _), (2, _), (3, _)]) 3 [1, 2, 3, 0] (n := 45) hX (dec_of D_X3_openMoney (i := 27) rfl) rfl rfl rfl (by decide) rfl ?_
        refine s_goto (n := 4) hX (dec_of D_X3_openMoney (i := 28) rfl) rfl ?_
        exact s_sub [0, 1, 2, 3] rfl (hre3 (z1.1, (z1.2 + 1)))
      · refine s_iload_n 2 (n := 34) hX (dec_of D_X3_openMoney (i := 20) rfl) rfl rfl rfl ?_
        refine s_aload_n 0 (n := 35) hX (dec_of D_X3_openMoney (i := 21) rfl) rfl rfl rfl ?_
        refine s_getR (c := 3) (p := 0) (k' := 9) (n := 38) hX cls3 (vk124 (by omega)) (dec_of D_X3_openMoney (i := 22) rfl) rfl rfl wd_289 ?_
        refine s_iload_n 3 (n := 39) hX (dec_of D_X3_openMoney (i := 23) rfl) rfl rfl rfl ?_
        refine s_iald (n := 40) hX (vk9 (by omega)) (by decide) (dec_of D_X3_openMoney (i := 24) rfl) rfl (fun v6 => ?_)
        refine s_iadd (n := 41) hX (dec_of D_X3_openMoney (i := 25) rfl) rfl ?_
        refine s_topi (fun x7 => ?_)
        refine s_istore_n (lv' := [(0, _), (1, _), (2, _), (3, _)]) [1, 2, 0, 3] (n := 42) hX (dec_of D_X3_openMoney (i := 26) rfl) rfl rfl (by decide) rfl ?_
        refine s_iinc (v := z1.2 + 1) (lv' := [(0, _), (1, _), (2, _), (3, _)]) 3 [1, 2, 3, 0] (n := 45) hX (dec_of D_X3_openMoney (i := 27) rfl) rfl rfl rfl (by decide) rfl ?_
        refine s_goto (n := 4) hX (dec_of D_X3_openMoney (i := 28) rfl) rfl ?_
        exact s_sub [0, 1, 2, 3] rfl (hre3 (x7, (z1.2 + 1)))
def T_X7_isLetter : List (Nat × Instr × Nat) := [(0, .iload_n 0, 1), (1, .bipush 97, 2), (3, .if_icmp .lt 13, 3), (6, .iload_n 0, 1), (7, .bipush 122, 2), (9, .if_icmp .gt 7, 3), (12, .iconst 1, 1), (13, .goto 4, 3), (16, .iconst 0, 1), (17, .ireturn, 1)]
theorem D_X7_isLetter : dchk cX7_isLetter T_X7_isLetter = true := by decide +kernel
def Tp_isLetter (σ : ST) (a0 : Int32) : Option Int32 :=
  (if a0 < 97 then some 0 else (if 122 < a0 then some 0 else some 1))
set_option maxHeartbeats 4000000 in
set_option maxRecDepth 100000 in
theorem c_X7_isLetter {G : GW} (hG : Good G) {l : Launch} (σ : ST) (a0 : Int32) : Ctr G l yX7_isLetter cX7_isLetter 1 (some .boolean) 0 [.int a0] σ (oI σ) (Tp_isLetter σ a0) := by
  refine ctr_of hG (by decide) (Nat.le_of_ble_eq_true rfl) ?_
  intro X hXl hR hX
  have hX : Ok G X cX7_isLetter 1 RX7 0 := hX
  unfold Tp_isLetter
  show Sim G X 1 (MQX G X (oI σ)) σ 0 [(0, .int a0)] [] _
  refine s_iload_n 0 (n := 1) hX (dec_of D_X7_isLetter (i := 0) rfl) rfl rfl rfl ?_
  refine s_bipush (v := 97) (n := 3) hX (dec_of D_X7_isLetter (i := 1) rfl) rfl (by decide) ?_
  refine s_icmp_lt (tgt := 16) (n := 6) hX (dec_of D_X7_isLetter (i := 2) rfl) rfl rfl ?_ ?_
  · refine s_iconst (v := 0) (n := 17) hX (dec_of D_X7_isLetter (i := 8) rfl) rfl (by decide) ?_
    exact s_zret hX hR (dec_of D_X7_isLetter (i := 9) rfl) rfl rfl
  · refine s_iload_n 0 (n := 7) hX (dec_of D_X7_isLetter (i := 3) rfl) rfl rfl rfl ?_
    refine s_bipush (v := 122) (n := 9) hX (dec_of D_X7_isLetter (i := 4) rfl) rfl (by decide) ?_
    refine s_icmp_gt (tgt := 16) (n := 12) hX (dec_of D_X7_isLetter (i := 5) rfl) rfl rfl ?_ ?_
    · refine s_iconst (v := 0) (n := 17) hX (dec_of D_X7_isLetter (i := 8) rfl) rfl (by decide) ?_
      exact s_zret hX hR (dec_of D_X7_isLetter (i := 9) rfl) rfl rfl
    · refine s_iconst (v := 1) (n := 13) hX (dec_of D_X7_isLetter (i := 6) rfl) rfl (by decide) ?_
      refine s_goto (n := 17) hX (dec_of D_X7_isLetter (i := 7) rfl) rfl ?_
      exact s_zret hX hR (dec_of D_X7_isLetter (i := 9) rfl) rfl rfl
def T_X7_withLetter : List (Nat × Instr × Nat) := [(0, .lload_n 0, 1), (1, .ldc2_w 84, 3), (4, .lmul, 1), (5, .iload_n 2, 1), (6, .i2l, 1), (7, .ladd, 1), (8, .ldc2_w 86, 3), (11, .lsub, 1), (12, .lconst 1, 1), (13, .ladd, 1), (14, .lreturn, 1)]
theorem D_X7_withLetter : dchk cX7_withLetter T_X7_withLetter = true := by decide +kernel
def Tp_withLetter (σ : ST) (a0 : Int64) (a2 : Int32) : Option Int64 :=
  some ((((a0 * 32) + (Int32.toInt64 a2)) - 97) + 1)
set_option maxHeartbeats 4000000 in
set_option maxRecDepth 100000 in
theorem c_X7_withLetter {G : GW} (hG : Good G) {l : Launch} (σ : ST) (a0 : Int64) (a2 : Int32) : Ctr G l yX7_withLetter cX7_withLetter 3 (some .long) 0 [.long a0, .int a2] σ (oJ σ) (Tp_withLetter σ a0 a2) := by
  refine ctr_of hG (by decide) (Nat.le_of_ble_eq_true rfl) ?_
  intro X hXl hR hX
  have hX : Ok G X cX7_withLetter 3 RX7 0 := hX
  unfold Tp_withLetter
  show Sim G X 3 (MQX G X (oJ σ)) σ 0 [(0, .long a0), (2, .int a2)] [] _
  refine s_lload_n 0 (n := 1) hX (dec_of D_X7_withLetter (i := 0) rfl) rfl rfl rfl ?_
  refine s_ldc2 (v := 32) (n := 4) hX (dec_of D_X7_withLetter (i := 1) rfl) rfl wd_506 ?_
  refine s_lmul (n := 5) hX (dec_of D_X7_withLetter (i := 2) rfl) rfl ?_
  refine s_iload_n 1 (n := 6) hX (dec_of D_X7_withLetter (i := 3) rfl) rfl rfl rfl ?_
  refine s_i2l (n := 7) hX (dec_of D_X7_withLetter (i := 4) rfl) rfl ?_
  refine s_ladd (n := 8) hX (dec_of D_X7_withLetter (i := 5) rfl) rfl ?_
  refine s_ldc2 (v := 97) (n := 11) hX (dec_of D_X7_withLetter (i := 6) rfl) rfl wd_507 ?_
  refine s_lsub (n := 12) hX (dec_of D_X7_withLetter (i := 7) rfl) rfl ?_
  refine s_lconst (v := 1) (n := 13) hX (dec_of D_X7_withLetter (i := 8) rfl) rfl (by decide) ?_
  refine s_ladd (n := 14) hX (dec_of D_X7_withLetter (i := 9) rfl) rfl ?_
  exact s_lret hX hR (dec_of D_X7_withLetter (i := 10) rfl) rfl
theorem lk_RX7_58 : LkS RX7 58 yX7_withLetter cX7_withLetter 3 (some .long) 2 := ⟨wd_503, wd_504, wd_85, wd_505, by decide +kernel, by decide⟩
def T_X7_kindOfWord : List (Nat × Instr × Nat) := [(0, .iconst 0, 1), (1, .istore_n 3, 1), (2, .lconst 0, 1), (3, .lstore 4, 2), (5, .iconst 0, 1), (6, .istore 6, 2), (8, .iload 6, 2), (10, .ldc 72, 2), (12, .invokevirtual 74, 3), (15, .if_icmp .ge 52, 3), (18, .ldc 72, 2), (20, .iload 6, 2), (22, .invokevirtual 80, 3), (25, .istore 7, 2), (27, .iload 7, 2), (29, .bipush 32, 2), (31, .if_icmp .eq 15, 3), (34, .lload 4, 2), (36, .iload 7, 2), (38, .invokestatic 58, 3), (41, .lstore 4, 2), (43, .goto 18, 3), (46, .lload 4, 2), (48, .lload_n 0, 1), (49, .lcmp, 1), (50, .ifCond .ne 5, 3), (53, .iload_n 3, 1), (54, .ireturn, 1), (55, .iinc 3 1, 3), (58, .lconst 0, 1), (59, .lstore 4, 2), (61, .iinc 6 1, 3), (64, .goto (-56), 3), (67, .iload_n 2, 1), (68, .bipush 6, 2), (70, .if_icmp .gt 8, 3), (73, .bipush 14, 2), (75, .goto 5, 3), (78, .bipush 18, 2), (80, .ireturn, 1)]
theorem D_X7_kindOfWord : dchk cX7_kindOfWord T_X7_kindOfWord = true := by decide +kernel
def Tp_kindOfWord (σ : ST) (a0 : Int64) (a2 : Int32) : Option Int32 :=
  lp_ (fun rec2 (z1 : Int32 × Int64 × Int32) => bd_ (Jk_len (σ)) (fun q4 => (if q4 ≤ z1.2.2 then (if 6 < a2 then some 18 else some 14) else bd_ (Jk_chr (σ) z1.2.2) (fun q5 => (if q5 = 32 then (if (lg_cmp z1.2.1 a0) = 0 then some z1.1 else rec2 ((z1.1 + 1), 0, (z1.2.2 + 1))) else bd_ (Tp_withLetter (σ) z1.2.1 q5) (fun q6 => rec2 (z1.1, q6, (z1.2.2 + 1)))))))) FU (0, 0, 0)
set_option maxHeartbeats 4000000 in
set_option maxRecDepth 100000 in
theorem c_X7_kindOfWord {G : GW} (hG : Good G) {l : Launch} (σ : ST) (a0 : Int64) (a2 : Int32) : Ctr G l yX7_kindOfWord cX7_kindOfWord 8 (some .int) 6 [.long a0, .int a2] σ (oI σ) (Tp_kindOfWord σ a0 a2) := by
  refine ctr_of hG (by decide) (Nat.le_of_ble_eq_true rfl) ?_
  intro X hXl hR hX
  have hX : Ok G X cX7_kindOfWord 8 RX7 6 := hX
  unfold Tp_kindOfWord
  show Sim G X 8 (MQX G X (oI σ)) σ 0 [(0, .long a0), (2, .int a2)] [] _
  refine s_iconst (v := 0) (n := 1) hX (dec_of D_X7_kindOfWord (i := 0) rfl) rfl (by decide) ?_
  refine s_istore_n (lv' := [(0, _), (2, _), (3, _)]) [1, 2, 0] (n := 2) hX (dec_of D_X7_kindOfWord (i := 1) rfl) rfl rfl (by decide) rfl ?_
  refine s_lconst (v := 0) (n := 3) hX (dec_of D_X7_kindOfWord (i := 2) rfl) rfl (by decide) ?_
  refine s_lstore (lv' := [(0, _), (2, _), (3, _), (4, _)]) [1, 2, 3, 0] (n := 5) hX (dec_of D_X7_kindOfWord (i := 3) rfl) rfl (by decide) rfl ?_
  refine s_iconst (v := 0) (n := 6) hX (dec_of D_X7_kindOfWord (i := 4) rfl) rfl (by decide) ?_
  refine s_istore (lv' := [(0, _), (2, _), (3, _), (4, _), (6, _)]) [1, 2, 3, 4, 0] (n := 8) hX (dec_of D_X7_kindOfWord (i := 5) rfl) rfl (by decide) rfl ?_
  refine s_sub [0, 1, 2, 3, 4] rfl (s_lp (pc := 8) (Sf := fun (z1 : Int32 × Int64 × Int32) => σ) (lvf := fun (z1 : Int32 × Int64 × Int32) => [(0, .long a0), (2, .int a2), (3, .int z1.1), (4, .long z1.2.1), (6, .int z1.2.2)]) (fun rec2 hre3 z1 => ?_) FU (0, 0, 0))
  refine s_iload 4 (n := 10) hX (dec_of D_X7_kindOfWord (i := 6) rfl) rfl rfl ?_
  refine s_ldcS (n := 12) hX (dec_of D_X7_kindOfWord (i := 7) rfl) rfl hX.2.2.2.2.2.1.2.2.2.1 ?_
  refine s_callTI (n := 15) hX lk_X7_len (dec_of D_X7_kindOfWord (i := 8) rfl) rfl (by decide) (c_J0_length (l := _) hG _) (As := []) rfl rfl (Nat.le_of_ble_eq_true rfl) (fun q4 => ?_)
  refine s_icmp_ge (tgt := 67) (n := 18) hX (dec_of D_X7_kindOfWord (i := 9) rfl) rfl rfl ?_ ?_
  · refine s_iload_n 1 (n := 68) hX (dec_of D_X7_kindOfWord (i := 33) rfl) rfl rfl rfl ?_
    refine s_bipush (v := 6) (n := 70) hX (dec_of D_X7_kindOfWord (i := 34) rfl) rfl (by decide) ?_
    refine s_icmp_gt (tgt := 78) (n := 73) hX (dec_of D_X7_kindOfWord (i := 35) rfl) rfl rfl ?_ ?_
    · refine s_bipush (v := 18) (n := 80) hX (dec_of D_X7_kindOfWord (i := 38) rfl) rfl (by decide) ?_
      exact s_iret hX hR (dec_of D_X7_kindOfWord (i := 39) rfl) rfl
    · refine s_bipush (v := 14) (n := 75) hX (dec_of D_X7_kindOfWord (i := 36) rfl) rfl (by decide) ?_
      refine s_goto (n := 80) hX (dec_of D_X7_kindOfWord (i := 37) rfl) rfl ?_
      exact s_iret hX hR (dec_of D_X7_kindOfWord (i := 39) rfl) rfl
  · refine s_ldcS (n := 20) hX (dec_of D_X7_kindOfWord (i := 10) rfl) rfl hX.2.2.2.2.2.1.2.2.2.1 ?_
    refine s_iload 4 (n := 22) hX (dec_of D_X7_kindOfWord (i := 11) rfl) rfl rfl ?_
    refine s_callTI (n := 25) hX lk_X7_chr (dec_of D_X7_kindOfWord (i := 12) rfl) rfl (by decide) (c_J0_charAt (l := _) hG _ _) rfl rfl (Nat.le_of_ble_eq_true rfl) (fun q5 => ?_)
    refine s_istore (lv' := [(0, _), (2, _), (3, _), (4, _), (6, _), (7, _)]) [1, 2, 3, 4, 5, 0] (n := 27) hX (dec_of D_X7_kindOfWord (i := 13) rfl) rfl (by decide) rfl ?_
    refine s_iload 5 (n := 29) hX (dec_of D_X7_kindOfWord (i := 14) rfl) rfl rfl ?_
    refine s_bipush (v := 32) (n := 31) hX (dec_of D_X7_kindOfWord (i := 15) rfl) rfl (by decide) ?_
    refine s_icmp_eq (tgt := 46) (n := 34) hX (dec_of D_X7_kindOfWord (i := 16) rfl) rfl rfl ?_ ?_
    · refine s_lload 3 (n := 48) hX (dec_of D_X7_kindOfWord (i := 22) rfl) rfl rfl ?_
      refine s_lload_n 0 (n := 49) hX (dec_of D_X7_kindOfWord (i := 23) rfl) rfl rfl rfl ?_
      refine s_lcmp (n := 50) hX (dec_of D_X7_kindOfWord (i := 24) rfl) rfl ?_
      refine s_if_ne (tgt := 55) (n := 53) hX (dec_of D_X7_kindOfWord (i := 25) rfl) rfl rfl ?_ ?_
      · refine s_iinc (v := z1.1 + 1) (lv' := [(0, _), (2, _), (3, _), (4, _), (6, _), (7, _)]) 2 [1, 2, 0, 3, 4, 5] (n := 58) hX (dec_of D_X7_kindOfWord (i := 28) rfl) rfl rfl rfl (by decide) rfl ?_
        refine s_lconst (v := 0) (n := 59) hX (dec_of D_X7_kindOfWord (i := 29) rfl) rfl (by decide) ?_
        refine s_lstore (lv' := [(0, _), (2, _), (3, _), (4, _), (6, _), (7, _)]) [1, 2, 3, 0, 4, 5] (n := 61) hX (dec_of D_X7_kindOfWord (i := 30) rfl) rfl (by decide) rfl ?_
        refine s_iinc (v := z1.2.2 + 1) (lv' := [(0, _), (2, _), (3, _), (4, _), (6, _), (7, _)]) 4 [1, 2, 3, 4, 0, 5] (n := 64) hX (dec_of D_X7_kindOfWord (i := 31) rfl) rfl rfl rfl (by decide) rfl ?_
        refine s_goto (n := 8) hX (dec_of D_X7_kindOfWord (i := 32) rfl) rfl ?_
        exact s_sub [0, 1, 2, 3, 4] rfl (hre3 ((z1.1 + 1), 0, (z1.2.2 + 1)))
      · refine s_iload_n 2 (n := 54) hX (dec_of D_X7_kindOfWord (i := 26) rfl) rfl rfl rfl ?_
        exact s_iret hX hR (dec_of D_X7_kindOfWord (i := 27) rfl) rfl
    · refine s_lload 3 (n := 36) hX (dec_of D_X7_kindOfWord (i := 17) rfl) rfl rfl ?_
      refine s_iload 5 (n := 38) hX (dec_of D_X7_kindOfWord (i := 18) rfl) rfl rfl ?_
      refine s_callSJ (n := 41) hX lk_RX7_58 (dec_of D_X7_kindOfWord (i := 19) rfl) rfl (by decide) (c_X7_withLetter (l := _) hG _ _ _) rfl rfl (Nat.le_of_ble_eq_true rfl) (fun q6 => ?_)
      refine s_lstore (lv' := [(0, _), (2, _), (3, _), (4, _), (6, _), (7, _)]) [1, 2, 3, 0, 4, 5] (n := 43) hX (dec_of D_X7_kindOfWord (i := 20) rfl) rfl (by decide) rfl ?_
      refine s_goto (n := 61) hX (dec_of D_X7_kindOfWord (i := 21) rfl) rfl ?_
      refine s_iinc (v := z1.2.2 + 1) (lv' := [(0, _), (2, _), (3, _), (4, _), (6, _), (7, _)]) 4 [1, 2, 3, 4, 0, 5] (n := 64) hX (dec_of D_X7_kindOfWord (i := 31) rfl) rfl rfl rfl (by decide) rfl ?_
      refine s_goto (n := 8) hX (dec_of D_X7_kindOfWord (i := 32) rfl) rfl ?_
      exact s_sub [0, 1, 2, 3, 4] rfl (hre3 (z1.1, q6, (z1.2.2 + 1)))
theorem lk_RX7_62 : LkS RX7 62 yX7_kindOfWord cX7_kindOfWord 8 (some .int) 2 := ⟨wd_508, wd_509, wd_85, wd_510, by decide +kernel, by decide⟩
theorem lk_RX7_45 : LkS RX7 45 yX7_isLetter cX7_isLetter 1 (some .boolean) 1 := ⟨wd_496, wd_497, wd_85, wd_498, by decide +kernel, by decide⟩
def T_X7_scanWord : List (Nat × Instr × Nat) := [(0, .lconst 0, 1), (1, .lstore_n 2, 1), (2, .aload_n 0, 1), (3, .getfield 38, 3), (6, .aload_n 0, 1), (7, .getfield 35, 3), (10, .if_icmp .ge 61, 3), (13, .aload_n 0, 1), (14, .getfield 9, 3), (17, .aload_n 0, 1), (18, .getfield 38, 3), (21, .iaload, 1), (22, .invokestatic 45, 3), (25, .ifCond .eq 46, 3), (28, .aload_n 0, 1), (29, .getfield 38, 3), (32, .aload_n 0, 1), (33, .getfield 18, 3), (36, .iload_n 1, 1), (37, .iaload, 1), (38, .isub, 1), (39, .bipush 8, 2), (41, .if_icmp .ge 17, 3), (44, .lload_n 2, 1), (45, .aload_n 0, 1), (46, .getfield 9, 3), (49, .aload_n 0, 1), (50, .getfield 38, 3), (53, .iaload, 1), (54, .invokestatic 58, 3), (57, .lstore_n 2, 1), (58, .aload_n 0, 1), (59, .dup, 1), (60, .getfield 38, 3), (63, .iconst 1, 1), (64, .iadd, 1), (65, .putfield 38, 3), (68, .goto (-66), 3), (71, .aload_n 0, 1), (72, .getfield 21, 3), (75, .iload_n 1, 1), (76, .lload_n 2, 1), (77, .lastore, 1), (78, .aload_n 0, 1), (79, .getfield 15, 3), (82, .iload_n 1, 1), (83, .lload_n 2, 1), (84, .aload_n 0, 1), (85, .getfield 38, 3), (88, .aload_n 0, 1), (89, .getfield 18, 3), (92, .iload_n 1, 1), (93, .iaload, 1), (94, .isub, 1), (95, .invokestatic 62, 3), (98, .iastore, 1), (99, .return_, 1)]
theorem D_X7_scanWord : dchk cX7_scanWord T_X7_scanWord = true := by decide +kernel
def Tp_scanWord (σ : ST) (a1 : Int32) : Option ST :=
  lk_ (fun kk2 => lp_ (fun rec9 (z8 : ST × Int64) => (if (gF z8.1 653 0) ≤ (gF z8.1 654 0) then kk2 (z8.1, z8.2) else bd_ (ldI z8.1 21 0 (gF z8.1 654 0)) (fun v11 => bd_ (Tp_isLetter z8.1 v11) (fun q12 => (if q12 = 0 then kk2 (z8.1, z8.2) else bd_ (ldI z8.1 23 0 a1) (fun v13 => (if 8 ≤ ((gF z8.1 654 0) - v13) then lt_ (setF z8.1 654 0 ((gF z8.1 654 0) + 1)) (fun s14 => rec9 (s14, z8.2)) else bd_ (ldI z8.1 21 0 (gF z8.1 654 0)) (fun v15 => bd_ (Tp_withLetter z8.1 z8.2 v15) (fun q16 => lt_ (setF z8.1 654 0 ((gF z8.1 654 0) + 1)) (fun s17 => rec9 (s17, q16))))))))))) FU (σ, 0)) (fun (j1 : ST × Int64) => bd_ (stL j1.1 104 0 a1 j1.2) (fun s4 => bd_ (ldI s4 23 0 a1) (fun v5 => bd_ (Tp_kindOfWord s4 j1.2 ((gF s4 654 0) - v5)) (fun q6 => bd_ (stI s4 22 0 a1 q6) (fun s7 => some s7)))))
set_option maxHeartbeats 4000000 in
set_option maxRecDepth 100000 in
theorem c_X7_scanWord {G : GW} (hG : Good G) {l : Launch} (σ : ST) (a1 : Int32) : Ctr G l yX7_scanWord cX7_scanWord 4 none 7 [.ref (ga G 128 0), .int a1] σ oV (Tp_scanWord σ a1) := by
  refine ctr_of hG (by decide) (Nat.le_of_ble_eq_true rfl) ?_
  intro X hXl hR hX
  have hX : Ok G X cX7_scanWord 4 RX7 7 := hX
  unfold Tp_scanWord
  show Sim G X 4 (MQX G X oV) σ 0 [(0, .ref (ga G 128 0)), (1, .int a1)] [] _
  refine s_lconst (v := 0) (n := 1) hX (dec_of D_X7_scanWord (i := 0) rfl) rfl (by decide) ?_
  refine s_lstore_n (lv' := [(0, _), (1, _), (2, _)]) [1, 2, 0] (n := 2) hX (dec_of D_X7_scanWord (i := 1) rfl) rfl rfl (by decide) rfl ?_
  refine s_lk (pcj := 71) (Sf := fun (j1 : ST × Int64) => j1.1) (lvf := fun (j1 : ST × Int64) => [(0, .ref (ga G 128 0)), (1, .int a1), (2, .long j1.2)]) (stf := fun (j1 : ST × Int64) => []) (fun j1 => ?_) (fun kk2 hkk3 => ?_)
  · refine s_aload_n 0 (n := 72) hX (dec_of D_X7_scanWord (i := 38) rfl) rfl rfl rfl ?_
    refine s_getR (c := 7) (p := 3) (k' := 104) (n := 75) hX cls7 (vk128 (by omega)) (dec_of D_X7_scanWord (i := 39) rfl) rfl rfl wd_132 ?_
    refine s_iload_n 1 (n := 76) hX (dec_of D_X7_scanWord (i := 40) rfl) rfl rfl rfl ?_
    refine s_lload_n 2 (n := 77) hX (dec_of D_X7_scanWord (i := 41) rfl) rfl rfl rfl ?_
    refine s_last (n := 78) hX (vk104 (by omega)) (by decide) (dec_of D_X7_scanWord (i := 42) rfl) rfl (fun s4 => ?_)
    refine s_aload_n 0 (n := 79) hX (dec_of D_X7_scanWord (i := 43) rfl) rfl rfl rfl ?_
    refine s_getR (c := 7) (p := 1) (k' := 22) (n := 82) hX cls7 (vk128 (by omega)) (dec_of D_X7_scanWord (i := 44) rfl) rfl rfl wd_128 ?_
    refine s_iload_n 1 (n := 83) hX (dec_of D_X7_scanWord (i := 45) rfl) rfl rfl rfl ?_
    refine s_lload_n 2 (n := 84) hX (dec_of D_X7_scanWord (i := 46) rfl) rfl rfl rfl ?_
    refine s_aload_n 0 (n := 85) hX (dec_of D_X7_scanWord (i := 47) rfl) rfl rfl rfl ?_
    refine s_getI (c := 7) (p := 6) (id := 654) (n := 88) hX cls7 (vk128 (by omega)) (dec_of D_X7_scanWord (i := 48) rfl) rfl rfl wd_137 ?_
    refine s_aload_n 0 (n := 89) hX (dec_of D_X7_scanWord (i := 49) rfl) rfl rfl rfl ?_
    refine s_getR (c := 7) (p := 2) (k' := 23) (n := 92) hX cls7 (vk128 (by omega)) (dec_of D_X7_scanWord (i := 50) rfl) rfl rfl wd_130 ?_
    refine s_iload_n 1 (n := 93) hX (dec_of D_X7_scanWord (i := 51) rfl) rfl rfl rfl ?_
    refine s_iald (n := 94) hX (vk23 (by omega)) (by decide) (dec_of D_X7_scanWord (i := 52) rfl) rfl (fun v5 => ?_)
    refine s_isub (n := 95) hX (dec_of D_X7_scanWord (i := 53) rfl) rfl ?_
    refine s_callSI (n := 98) hX lk_RX7_62 (dec_of D_X7_scanWord (i := 54) rfl) rfl (by decide) (c_X7_kindOfWord (l := _) hG _ _ _) rfl rfl (Nat.le_of_ble_eq_true rfl) (fun q6 => ?_)
    refine s_iast (n := 99) hX (vk22 (by omega)) (by decide) (dec_of D_X7_scanWord (i := 55) rfl) rfl (fun s7 => ?_)
    exact s_vret hX hR (dec_of D_X7_scanWord (i := 56) rfl) rfl
  · refine s_sub [0, 1, 2] rfl (s_lp (pc := 2) (Sf := fun (z8 : ST × Int64) => z8.1) (lvf := fun (z8 : ST × Int64) => [(0, .ref (ga G 128 0)), (1, .int a1), (2, .long z8.2)]) (fun rec9 hre10 z8 => ?_) FU (σ, 0))
    refine s_aload_n 0 (n := 3) hX (dec_of D_X7_scanWord (i := 2) rfl) rfl rfl rfl ?_
    refine s_getI (c := 7) (p := 6) (id := 654) (n := 6) hX cls7 (vk128 (by omega)) (dec_of D_X7_scanWord (i := 3) rfl) rfl rfl wd_137 ?_
    refine s_aload_n 0 (n := 7) hX (dec_of D_X7_scanWord (i := 4) rfl) rfl rfl rfl ?_
    refine s_getI (c := 7) (p := 5) (id := 653) (n := 10) hX cls7 (vk128 (by omega)) (dec_of D_X7_scanWord (i := 5) rfl) rfl rfl wd_136 ?_
    refine s_icmp_ge (tgt := 71) (n := 13) hX (dec_of D_X7_scanWord (i := 6) rfl) rfl rfl ?_ ?_
    · exact s_sub [0, 1, 2] rfl (hkk3 (z8.1, z8.2))
    · refine s_aload_n 0 (n := 14) hX (dec_of D_X7_scanWord (i := 7) rfl) rfl rfl rfl ?_
      refine s_getR (c := 7) (p := 0) (k' := 21) (n := 17) hX cls7 (vk128 (by omega)) (dec_of D_X7_scanWord (i := 8) rfl) rfl rfl wd_127 ?_
      refine s_aload_n 0 (n := 18) hX (dec_of D_X7_scanWord (i := 9) rfl) rfl rfl rfl ?_
      refine s_getI (c := 7) (p := 6) (id := 654) (n := 21) hX cls7 (vk128 (by omega)) (dec_of D_X7_scanWord (i := 10) rfl) rfl rfl wd_137 ?_
      refine s_iald (n := 22) hX (vk21 (by omega)) (by decide) (dec_of D_X7_scanWord (i := 11) rfl) rfl (fun v11 => ?_)
      refine s_callSI (n := 25) hX lk_RX7_45 (dec_of D_X7_scanWord (i := 12) rfl) rfl (by decide) (c_X7_isLetter (l := _) hG _ _) rfl rfl (Nat.le_of_ble_eq_true rfl) (fun q12 => ?_)
      refine s_if_eq (tgt := 71) (n := 28) hX (dec_of D_X7_scanWord (i := 13) rfl) rfl rfl ?_ ?_
      · exact s_sub [0, 1, 2] rfl (hkk3 (z8.1, z8.2))
      · refine s_aload_n 0 (n := 29) hX (dec_of D_X7_scanWord (i := 14) rfl) rfl rfl rfl ?_
        refine s_getI (c := 7) (p := 6) (id := 654) (n := 32) hX cls7 (vk128 (by omega)) (dec_of D_X7_scanWord (i := 15) rfl) rfl rfl wd_137 ?_
        refine s_aload_n 0 (n := 33) hX (dec_of D_X7_scanWord (i := 16) rfl) rfl rfl rfl ?_
        refine s_getR (c := 7) (p := 2) (k' := 23) (n := 36) hX cls7 (vk128 (by omega)) (dec_of D_X7_scanWord (i := 17) rfl) rfl rfl wd_130 ?_
        refine s_iload_n 1 (n := 37) hX (dec_of D_X7_scanWord (i := 18) rfl) rfl rfl rfl ?_
        refine s_iald (n := 38) hX (vk23 (by omega)) (by decide) (dec_of D_X7_scanWord (i := 19) rfl) rfl (fun v13 => ?_)
        refine s_isub (n := 39) hX (dec_of D_X7_scanWord (i := 20) rfl) rfl ?_
        refine s_bipush (v := 8) (n := 41) hX (dec_of D_X7_scanWord (i := 21) rfl) rfl (by decide) ?_
        refine s_icmp_ge (tgt := 58) (n := 44) hX (dec_of D_X7_scanWord (i := 22) rfl) rfl rfl ?_ ?_
        · refine s_aload_n 0 (n := 59) hX (dec_of D_X7_scanWord (i := 31) rfl) rfl rfl rfl ?_
          refine s_dup (n := 60) hX (dec_of D_X7_scanWord (i := 32) rfl) rfl rfl ?_
          refine s_getI (c := 7) (p := 6) (id := 654) (n := 63) hX cls7 (vk128 (by omega)) (dec_of D_X7_scanWord (i := 33) rfl) rfl rfl wd_137 ?_
          refine s_iconst (v := 1) (n := 64) hX (dec_of D_X7_scanWord (i := 34) rfl) rfl (by decide) ?_
          refine s_iadd (n := 65) hX (dec_of D_X7_scanWord (i := 35) rfl) rfl ?_
          refine s_putI (c := 7) (p := 6) (n := 68) hX cls7 (vk128 (by omega)) (dec_of D_X7_scanWord (i := 36) rfl) rfl rfl (by decide) wd_137 rfl rfl rfl (fun s14 => ?_)
          refine s_goto (n := 2) hX (dec_of D_X7_scanWord (i := 37) rfl) rfl ?_
          exact s_sub [0, 1, 2] rfl (hre10 (s14, z8.2))
        · refine s_lload_n 2 (n := 45) hX (dec_of D_X7_scanWord (i := 23) rfl) rfl rfl rfl ?_
          refine s_aload_n 0 (n := 46) hX (dec_of D_X7_scanWord (i := 24) rfl) rfl rfl rfl ?_
          refine s_getR (c := 7) (p := 0) (k' := 21) (n := 49) hX cls7 (vk128 (by omega)) (dec_of D_X7_scanWord (i := 25) rfl) rfl rfl wd_127 ?_
          refine s_aload_n 0 (n := 50) hX (dec_of D_X7_scanWord (i := 26) rfl) rfl rfl rfl ?_
          refine s_getI (c := 7) (p := 6) (id := 654) (n := 53) hX cls7 (vk128 (by omega)) (dec_of D_X7_scanWord (i := 27) rfl) rfl rfl wd_137 ?_
          refine s_iald (n := 54) hX (vk21 (by omega)) (by decide) (dec_of D_X7_scanWord (i := 28) rfl) rfl (fun v15 => ?_)
          refine s_callSJ (n := 57) hX lk_RX7_58 (dec_of D_X7_scanWord (i := 29) rfl) rfl (by decide) (c_X7_withLetter (l := _) hG _ _ _) rfl rfl (Nat.le_of_ble_eq_true rfl) (fun q16 => ?_)
          refine s_lstore_n (lv' := [(0, _), (1, _), (2, _)]) [1, 2, 0] (n := 58) hX (dec_of D_X7_scanWord (i := 30) rfl) rfl rfl (by decide) rfl ?_
          refine s_aload_n 0 (n := 59) hX (dec_of D_X7_scanWord (i := 31) rfl) rfl rfl rfl ?_
          refine s_dup (n := 60) hX (dec_of D_X7_scanWord (i := 32) rfl) rfl rfl ?_
          refine s_getI (c := 7) (p := 6) (id := 654) (n := 63) hX cls7 (vk128 (by omega)) (dec_of D_X7_scanWord (i := 33) rfl) rfl rfl wd_137 ?_
          refine s_iconst (v := 1) (n := 64) hX (dec_of D_X7_scanWord (i := 34) rfl) rfl (by decide) ?_
          refine s_iadd (n := 65) hX (dec_of D_X7_scanWord (i := 35) rfl) rfl ?_
          refine s_putI (c := 7) (p := 6) (n := 68) hX cls7 (vk128 (by omega)) (dec_of D_X7_scanWord (i := 36) rfl) rfl rfl (by decide) wd_137 rfl rfl rfl (fun s17 => ?_)
          refine s_goto (n := 2) hX (dec_of D_X7_scanWord (i := 37) rfl) rfl ?_
          exact s_sub [0, 1, 2] rfl (hre10 (s17, q16))
def T_X7_isDigit : List (Nat × Instr × Nat) := [(0, .iload_n 0, 1), (1, .bipush 48, 2), (3, .if_icmp .lt 13, 3), (6, .iload_n 0, 1), (7, .bipush 57, 2), (9, .if_icmp .gt 7, 3), (12, .iconst 1, 1), (13, .goto 4, 3), (16, .iconst 0, 1), (17, .ireturn, 1)]
theorem D_X7_isDigit : dchk cX7_isDigit T_X7_isDigit = true := by decide +kernel
def Tp_isDigit (σ : ST) (a0 : Int32) : Option Int32 :=
  (if a0 < 48 then some 0 else (if 57 < a0 then some 0 else some 1))
set_option maxHeartbeats 4000000 in
set_option maxRecDepth 100000 in
theorem c_X7_isDigit {G : GW} (hG : Good G) {l : Launch} (σ : ST) (a0 : Int32) : Ctr G l yX7_isDigit cX7_isDigit 1 (some .boolean) 0 [.int a0] σ (oI σ) (Tp_isDigit σ a0) := by
  refine ctr_of hG (by decide) (Nat.le_of_ble_eq_true rfl) ?_
  intro X hXl hR hX
  have hX : Ok G X cX7_isDigit 1 RX7 0 := hX
  unfold Tp_isDigit
  show Sim G X 1 (MQX G X (oI σ)) σ 0 [(0, .int a0)] [] _
  refine s_iload_n 0 (n := 1) hX (dec_of D_X7_isDigit (i := 0) rfl) rfl rfl rfl ?_
  refine s_bipush (v := 48) (n := 3) hX (dec_of D_X7_isDigit (i := 1) rfl) rfl (by decide) ?_
  refine s_icmp_lt (tgt := 16) (n := 6) hX (dec_of D_X7_isDigit (i := 2) rfl) rfl rfl ?_ ?_
  · refine s_iconst (v := 0) (n := 17) hX (dec_of D_X7_isDigit (i := 8) rfl) rfl (by decide) ?_
    exact s_zret hX hR (dec_of D_X7_isDigit (i := 9) rfl) rfl rfl
  · refine s_iload_n 0 (n := 7) hX (dec_of D_X7_isDigit (i := 3) rfl) rfl rfl rfl ?_
    refine s_bipush (v := 57) (n := 9) hX (dec_of D_X7_isDigit (i := 4) rfl) rfl (by decide) ?_
    refine s_icmp_gt (tgt := 16) (n := 12) hX (dec_of D_X7_isDigit (i := 5) rfl) rfl rfl ?_ ?_
    · refine s_iconst (v := 0) (n := 17) hX (dec_of D_X7_isDigit (i := 8) rfl) rfl (by decide) ?_
      exact s_zret hX hR (dec_of D_X7_isDigit (i := 9) rfl) rfl rfl
    · refine s_iconst (v := 1) (n := 13) hX (dec_of D_X7_isDigit (i := 6) rfl) rfl (by decide) ?_
      refine s_goto (n := 17) hX (dec_of D_X7_isDigit (i := 7) rfl) rfl ?_
      exact s_zret hX hR (dec_of D_X7_isDigit (i := 9) rfl) rfl rfl
theorem lk_RX7_52 : LkS RX7 52 yX7_isDigit cX7_isDigit 1 (some .boolean) 1 := ⟨wd_560, wd_561, wd_85, wd_562, by decide +kernel, by decide⟩
def T_X7_scanNumber : List (Nat × Instr × Nat) := [(0, .lconst 0, 1), (1, .lstore_n 2, 1), (2, .aload_n 0, 1), (3, .getfield 38, 3), (6, .aload_n 0, 1), (7, .getfield 35, 3), (10, .if_icmp .ge 60, 3), (13, .aload_n 0, 1), (14, .getfield 9, 3), (17, .aload_n 0, 1), (18, .getfield 38, 3), (21, .iaload, 1), (22, .invokestatic 52, 3), (25, .ifCond .eq 45, 3), (28, .lload_n 2, 1), (29, .ldc2_w 66, 3), (32, .lcmp, 1), (33, .ifCond .ge 24, 3), (36, .lload_n 2, 1), (37, .ldc2_w 68, 3), (40, .lmul, 1), (41, .aload_n 0, 1), (42, .getfield 9, 3), (45, .aload_n 0, 1), (46, .getfield 38, 3), (49, .iaload, 1), (50, .i2l, 1), (51, .ladd, 1), (52, .ldc2_w 70, 3), (55, .lsub, 1), (56, .lstore_n 2, 1), (57, .aload_n 0, 1), (58, .dup, 1), (59, .getfield 38, 3), (62, .iconst 1, 1), (63, .iadd, 1), (64, .putfield 38, 3), (67, .goto (-65), 3), (70, .aload_n 0, 1), (71, .getfield 21, 3), (74, .iload_n 1, 1), (75, .lload_n 2, 1), (76, .lastore, 1), (77, .aload_n 0, 1), (78, .getfield 15, 3), (81, .iload_n 1, 1), (82, .bipush 15, 2), (84, .iastore, 1), (85, .return_, 1)]
theorem D_X7_scanNumber : dchk cX7_scanNumber T_X7_scanNumber = true := by decide +kernel
def Tp_scanNumber (σ : ST) (a1 : Int32) : Option ST :=
  lk_ (fun kk2 => lp_ (fun rec7 (z6 : ST × Int64) => (if (gF z6.1 653 0) ≤ (gF z6.1 654 0) then kk2 (z6.1, z6.2) else bd_ (ldI z6.1 21 0 (gF z6.1 654 0)) (fun v9 => bd_ (Tp_isDigit z6.1 v9) (fun q10 => (if q10 = 0 then kk2 (z6.1, z6.2) else (if 0 ≤ (lg_cmp z6.2 100000) then lt_ (setF z6.1 654 0 ((gF z6.1 654 0) + 1)) (fun s11 => rec7 (s11, z6.2)) else bd_ (ldI z6.1 21 0 (gF z6.1 654 0)) (fun v12 => lt_ ((((z6.2 * 10) + (Int32.toInt64 v12)) - 48)) (fun x13 => lt_ (setF z6.1 654 0 ((gF z6.1 654 0) + 1)) (fun s14 => rec7 (s14, x13)))))))))) FU (σ, 0)) (fun (j1 : ST × Int64) => bd_ (stL j1.1 104 0 a1 j1.2) (fun s4 => bd_ (stI s4 22 0 a1 15) (fun s5 => some s5)))
set_option maxHeartbeats 4000000 in
set_option maxRecDepth 100000 in
theorem c_X7_scanNumber {G : GW} (hG : Good G) {l : Launch} (σ : ST) (a1 : Int32) : Ctr G l yX7_scanNumber cX7_scanNumber 4 none 1 [.ref (ga G 128 0), .int a1] σ oV (Tp_scanNumber σ a1) := by
  refine ctr_of hG (by decide) (Nat.le_of_ble_eq_true rfl) ?_
  intro X hXl hR hX
  have hX : Ok G X cX7_scanNumber 4 RX7 1 := hX
  unfold Tp_scanNumber
  show Sim G X 4 (MQX G X oV) σ 0 [(0, .ref (ga G 128 0)), (1, .int a1)] [] _
  refine s_lconst (v := 0) (n := 1) hX (dec_of D_X7_scanNumber (i := 0) rfl) rfl (by decide) ?_
  refine s_lstore_n (lv' := [(0, _), (1, _), (2, _)]) [1, 2, 0] (n := 2) hX (dec_of D_X7_scanNumber (i := 1) rfl) rfl rfl (by decide) rfl ?_
  refine s_lk (pcj := 70) (Sf := fun (j1 : ST × Int64) => j1.1) (lvf := fun (j1 : ST × Int64) => [(0, .ref (ga G 128 0)), (1, .int a1), (2, .long j1.2)]) (stf := fun (j1 : ST × Int64) => []) (fun j1 => ?_) (fun kk2 hkk3 => ?_)
  · refine s_aload_n 0 (n := 71) hX (dec_of D_X7_scanNumber (i := 38) rfl) rfl rfl rfl ?_
    refine s_getR (c := 7) (p := 3) (k' := 104) (n := 74) hX cls7 (vk128 (by omega)) (dec_of D_X7_scanNumber (i := 39) rfl) rfl rfl wd_132 ?_
    refine s_iload_n 1 (n := 75) hX (dec_of D_X7_scanNumber (i := 40) rfl) rfl rfl rfl ?_
    refine s_lload_n 2 (n := 76) hX (dec_of D_X7_scanNumber (i := 41) rfl) rfl rfl rfl ?_
    refine s_last (n := 77) hX (vk104 (by omega)) (by decide) (dec_of D_X7_scanNumber (i := 42) rfl) rfl (fun s4 => ?_)
    refine s_aload_n 0 (n := 78) hX (dec_of D_X7_scanNumber (i := 43) rfl) rfl rfl rfl ?_
    refine s_getR (c := 7) (p := 1) (k' := 22) (n := 81) hX cls7 (vk128 (by omega)) (dec_of D_X7_scanNumber (i := 44) rfl) rfl rfl wd_128 ?_
    refine s_iload_n 1 (n := 82) hX (dec_of D_X7_scanNumber (i := 45) rfl) rfl rfl rfl ?_
    refine s_bipush (v := 15) (n := 84) hX (dec_of D_X7_scanNumber (i := 46) rfl) rfl (by decide) ?_
    refine s_iast (n := 85) hX (vk22 (by omega)) (by decide) (dec_of D_X7_scanNumber (i := 47) rfl) rfl (fun s5 => ?_)
    exact s_vret hX hR (dec_of D_X7_scanNumber (i := 48) rfl) rfl
  · refine s_sub [0, 1, 2] rfl (s_lp (pc := 2) (Sf := fun (z6 : ST × Int64) => z6.1) (lvf := fun (z6 : ST × Int64) => [(0, .ref (ga G 128 0)), (1, .int a1), (2, .long z6.2)]) (fun rec7 hre8 z6 => ?_) FU (σ, 0))
    refine s_aload_n 0 (n := 3) hX (dec_of D_X7_scanNumber (i := 2) rfl) rfl rfl rfl ?_
    refine s_getI (c := 7) (p := 6) (id := 654) (n := 6) hX cls7 (vk128 (by omega)) (dec_of D_X7_scanNumber (i := 3) rfl) rfl rfl wd_137 ?_
    refine s_aload_n 0 (n := 7) hX (dec_of D_X7_scanNumber (i := 4) rfl) rfl rfl rfl ?_
    refine s_getI (c := 7) (p := 5) (id := 653) (n := 10) hX cls7 (vk128 (by omega)) (dec_of D_X7_scanNumber (i := 5) rfl) rfl rfl wd_136 ?_
    refine s_icmp_ge (tgt := 70) (n := 13) hX (dec_of D_X7_scanNumber (i := 6) rfl) rfl rfl ?_ ?_
    · exact s_sub [0, 1, 2] rfl (hkk3 (z6.1, z6.2))
    · refine s_aload_n 0 (n := 14) hX (dec_of D_X7_scanNumber (i := 7) rfl) rfl rfl rfl ?_
      refine s_getR (c := 7) (p := 0) (k' := 21) (n := 17) hX cls7 (vk128 (by omega)) (dec_of D_X7_scanNumber (i := 8) rfl) rfl rfl wd_127 ?_
      refine s_aload_n 0 (n := 18) hX (dec_of D_X7_scanNumber (i := 9) rfl) rfl rfl rfl ?_
      refine s_getI (c := 7) (p := 6) (id := 654) (n := 21) hX cls7 (vk128 (by omega)) (dec_of D_X7_scanNumber (i := 10) rfl) rfl rfl wd_137 ?_
      refine s_iald (n := 22) hX (vk21 (by omega)) (by decide) (dec_of D_X7_scanNumber (i := 11) rfl) rfl (fun v9 => ?_)
      refine s_callSI (n := 25) hX lk_RX7_52 (dec_of D_X7_scanNumber (i := 12) rfl) rfl (by decide) (c_X7_isDigit (l := _) hG _ _) rfl rfl (Nat.le_of_ble_eq_true rfl) (fun q10 => ?_)
      refine s_if_eq (tgt := 70) (n := 28) hX (dec_of D_X7_scanNumber (i := 13) rfl) rfl rfl ?_ ?_
      · exact s_sub [0, 1, 2] rfl (hkk3 (z6.1, z6.2))
      · refine s_lload_n 2 (n := 29) hX (dec_of D_X7_scanNumber (i := 14) rfl) rfl rfl rfl ?_
        refine s_ldc2 (v := 100000) (n := 32) hX (dec_of D_X7_scanNumber (i := 15) rfl) rfl wd_567 ?_
        refine s_lcmp (n := 33) hX (dec_of D_X7_scanNumber (i := 16) rfl) rfl ?_
        refine s_if_ge (tgt := 57) (n := 36) hX (dec_of D_X7_scanNumber (i := 17) rfl) rfl rfl ?_ ?_
        · refine s_aload_n 0 (n := 58) hX (dec_of D_X7_scanNumber (i := 31) rfl) rfl rfl rfl ?_
          refine s_dup (n := 59) hX (dec_of D_X7_scanNumber (i := 32) rfl) rfl rfl ?_
          refine s_getI (c := 7) (p := 6) (id := 654) (n := 62) hX cls7 (vk128 (by omega)) (dec_of D_X7_scanNumber (i := 33) rfl) rfl rfl wd_137 ?_
          refine s_iconst (v := 1) (n := 63) hX (dec_of D_X7_scanNumber (i := 34) rfl) rfl (by decide) ?_
          refine s_iadd (n := 64) hX (dec_of D_X7_scanNumber (i := 35) rfl) rfl ?_
          refine s_putI (c := 7) (p := 6) (n := 67) hX cls7 (vk128 (by omega)) (dec_of D_X7_scanNumber (i := 36) rfl) rfl rfl (by decide) wd_137 rfl rfl rfl (fun s11 => ?_)
          refine s_goto (n := 2) hX (dec_of D_X7_scanNumber (i := 37) rfl) rfl ?_
          exact s_sub [0, 1, 2] rfl (hre8 (s11, z6.2))
        · refine s_lload_n 2 (n := 37) hX (dec_of D_X7_scanNumber (i := 18) rfl) rfl rfl rfl ?_
          refine s_ldc2 (v := 10) (n := 40) hX (dec_of D_X7_scanNumber (i := 19) rfl) rfl wd_568 ?_
          refine s_lmul (n := 41) hX (dec_of D_X7_scanNumber (i := 20) rfl) rfl ?_
          refine s_aload_n 0 (n := 42) hX (dec_of D_X7_scanNumber (i := 21) rfl) rfl rfl rfl ?_
          refine s_getR (c := 7) (p := 0) (k' := 21) (n := 45) hX cls7 (vk128 (by omega)) (dec_of D_X7_scanNumber (i := 22) rfl) rfl rfl wd_127 ?_
          refine s_aload_n 0 (n := 46) hX (dec_of D_X7_scanNumber (i := 23) rfl) rfl rfl rfl ?_
          refine s_getI (c := 7) (p := 6) (id := 654) (n := 49) hX cls7 (vk128 (by omega)) (dec_of D_X7_scanNumber (i := 24) rfl) rfl rfl wd_137 ?_
          refine s_iald (n := 50) hX (vk21 (by omega)) (by decide) (dec_of D_X7_scanNumber (i := 25) rfl) rfl (fun v12 => ?_)
          refine s_i2l (n := 51) hX (dec_of D_X7_scanNumber (i := 26) rfl) rfl ?_
          refine s_ladd (n := 52) hX (dec_of D_X7_scanNumber (i := 27) rfl) rfl ?_
          refine s_ldc2 (v := 48) (n := 55) hX (dec_of D_X7_scanNumber (i := 28) rfl) rfl wd_569 ?_
          refine s_lsub (n := 56) hX (dec_of D_X7_scanNumber (i := 29) rfl) rfl ?_
          refine s_topl (fun x13 => ?_)
          refine s_lstore_n (lv' := [(0, _), (1, _), (2, _)]) [1, 2, 0] (n := 57) hX (dec_of D_X7_scanNumber (i := 30) rfl) rfl rfl (by decide) rfl ?_
          refine s_aload_n 0 (n := 58) hX (dec_of D_X7_scanNumber (i := 31) rfl) rfl rfl rfl ?_
          refine s_dup (n := 59) hX (dec_of D_X7_scanNumber (i := 32) rfl) rfl rfl ?_
          refine s_getI (c := 7) (p := 6) (id := 654) (n := 62) hX cls7 (vk128 (by omega)) (dec_of D_X7_scanNumber (i := 33) rfl) rfl rfl wd_137 ?_
          refine s_iconst (v := 1) (n := 63) hX (dec_of D_X7_scanNumber (i := 34) rfl) rfl (by decide) ?_
          refine s_iadd (n := 64) hX (dec_of D_X7_scanNumber (i := 35) rfl) rfl ?_
          refine s_putI (c := 7) (p := 6) (n := 67) hX cls7 (vk128 (by omega)) (dec_of D_X7_scanNumber (i := 36) rfl) rfl rfl (by decide) wd_137 rfl rfl rfl (fun s14 => ?_)
          refine s_goto (n := 2) hX (dec_of D_X7_scanNumber (i := 37) rfl) rfl ?_
          exact s_sub [0, 1, 2] rfl (hre8 (s14, x13))
theorem lk_RX7_55 : LkV RX7 55 RX7 yX7_scanNumber cX7_scanNumber 4 none 1 := ⟨wd_563, wd_564, wd_565, wd_85, wd_566, by decide +kernel, by decide⟩
theorem lk_RX7_49 : LkV RX7 49 RX7 yX7_scanWord cX7_scanWord 4 none 1 := ⟨wd_499, wd_500, wd_501, wd_85, wd_502, by decide +kernel, by decide⟩
def T_X7_scanToken : List (Nat × Instr × Nat) := [(0, .aload_n 0, 1), (1, .getfield 38, 3), (4, .aload_n 0, 1), (5, .getfield 35, 3), (8, .if_icmp .lt 14, 3), (11, .aload_n 0, 1), (12, .getfield 15, 3), (15, .iload_n 1, 1), (16, .bipush 17, 2), (18, .iastore, 1), (19, .goto 86, 3), (22, .aload_n 0, 1), (23, .getfield 9, 3), (26, .aload_n 0, 1), (27, .getfield 38, 3), (30, .iaload, 1), (31, .invokestatic 45, 3), (34, .ifCond .eq 11, 3), (37, .aload_n 0, 1), (38, .iload_n 1, 1), (39, .invokevirtual 49, 3), (42, .goto 63, 3), (45, .aload_n 0, 1), (46, .getfield 9, 3), (49, .aload_n 0, 1), (50, .getfield 38, 3), (53, .iaload, 1), (54, .invokestatic 52, 3), (57, .ifCond .eq 11, 3), (60, .aload_n 0, 1), (61, .iload_n 1, 1), (62, .invokevirtual 55, 3), (65, .goto 40, 3), (68, .aload_n 0, 1), (69, .getfield 15, 3), (72, .iload_n 1, 1), (73, .aload_n 0, 1), (74, .getfield 9, 3), (77, .aload_n 0, 1), (78, .getfield 38, 3), (81, .iaload, 1), (82, .bipush 59, 2), (84, .if_icmp .ne 8, 3), (87, .bipush 16, 2), (89, .goto 5, 3), (92, .bipush 18, 2), (94, .iastore, 1), (95, .aload_n 0, 1), (96, .dup, 1), (97, .getfield 38, 3), (100, .iconst 1, 1), (101, .iadd, 1), (102, .putfield 38, 3), (105, .return_, 1)]
theorem D_X7_scanToken : dchk cX7_scanToken T_X7_scanToken = true := by decide +kernel
def Tp_scanToken (σ : ST) (a1 : Int32) : Option ST :=
  (if (gF σ 654 0) < (gF σ 653 0) then bd_ (ldI σ 21 0 (gF σ 654 0)) (fun v1 => bd_ (Tp_isLetter (σ) v1) (fun q2 => (if q2 = 0 then bd_ (ldI σ 21 0 (gF σ 654 0)) (fun v3 => bd_ (Tp_isDigit (σ) v3) (fun q4 => (if q4 = 0 then bd_ (ldI σ 21 0 (gF σ 654 0)) (fun v5 => (if v5 = 59 then bd_ (stI σ 22 0 a1 16) (fun s8 => lt_ (setF s8 654 0 ((gF s8 654 0) + 1)) (fun s9 => some s9)) else bd_ (stI σ 22 0 a1 18) (fun s6 => lt_ (setF s6 654 0 ((gF s6 654 0) + 1)) (fun s7 => some s7)))) else bd_ (Tp_scanNumber (σ) a1) (fun q10 => some q10)))) else bd_ (Tp_scanWord (σ) a1) (fun q11 => some q11)))) else bd_ (stI σ 22 0 a1 17) (fun s12 => some s12))
set_option maxHeartbeats 4000000 in
set_option maxRecDepth 100000 in
theorem c_X7_scanToken {G : GW} (hG : Good G) {l : Launch} (σ : ST) (a1 : Int32) : Ctr G l yX7_scanToken cX7_scanToken 2 none 8 [.ref (ga G 128 0), .int a1] σ oV (Tp_scanToken σ a1) := by
  refine ctr_of hG (by decide) (Nat.le_of_ble_eq_true rfl) ?_
  intro X hXl hR hX
  have hX : Ok G X cX7_scanToken 2 RX7 8 := hX
  unfold Tp_scanToken
  show Sim G X 2 (MQX G X oV) σ 0 [(0, .ref (ga G 128 0)), (1, .int a1)] [] _
  refine s_aload_n 0 (n := 1) hX (dec_of D_X7_scanToken (i := 0) rfl) rfl rfl rfl ?_
  refine s_getI (c := 7) (p := 6) (id := 654) (n := 4) hX cls7 (vk128 (by omega)) (dec_of D_X7_scanToken (i := 1) rfl) rfl rfl wd_137 ?_
  refine s_aload_n 0 (n := 5) hX (dec_of D_X7_scanToken (i := 2) rfl) rfl rfl rfl ?_
  refine s_getI (c := 7) (p := 5) (id := 653) (n := 8) hX cls7 (vk128 (by omega)) (dec_of D_X7_scanToken (i := 3) rfl) rfl rfl wd_136 ?_
  refine s_icmp_lt (tgt := 22) (n := 11) hX (dec_of D_X7_scanToken (i := 4) rfl) rfl rfl ?_ ?_
  · refine s_aload_n 0 (n := 23) hX (dec_of D_X7_scanToken (i := 11) rfl) rfl rfl rfl ?_
    refine s_getR (c := 7) (p := 0) (k' := 21) (n := 26) hX cls7 (vk128 (by omega)) (dec_of D_X7_scanToken (i := 12) rfl) rfl rfl wd_127 ?_
    refine s_aload_n 0 (n := 27) hX (dec_of D_X7_scanToken (i := 13) rfl) rfl rfl rfl ?_
    refine s_getI (c := 7) (p := 6) (id := 654) (n := 30) hX cls7 (vk128 (by omega)) (dec_of D_X7_scanToken (i := 14) rfl) rfl rfl wd_137 ?_
    refine s_iald (n := 31) hX (vk21 (by omega)) (by decide) (dec_of D_X7_scanToken (i := 15) rfl) rfl (fun v1 => ?_)
    refine s_callSI (n := 34) hX lk_RX7_45 (dec_of D_X7_scanToken (i := 16) rfl) rfl (by decide) (c_X7_isLetter (l := _) hG _ _) rfl rfl (Nat.le_of_ble_eq_true rfl) (fun q2 => ?_)
    refine s_if_eq (tgt := 45) (n := 37) hX (dec_of D_X7_scanToken (i := 17) rfl) rfl rfl ?_ ?_
    · refine s_aload_n 0 (n := 46) hX (dec_of D_X7_scanToken (i := 22) rfl) rfl rfl rfl ?_
      refine s_getR (c := 7) (p := 0) (k' := 21) (n := 49) hX cls7 (vk128 (by omega)) (dec_of D_X7_scanToken (i := 23) rfl) rfl rfl wd_127 ?_
      refine s_aload_n 0 (n := 50) hX (dec_of D_X7_scanToken (i := 24) rfl) rfl rfl rfl ?_
      refine s_getI (c := 7) (p := 6) (id := 654) (n := 53) hX cls7 (vk128 (by omega)) (dec_of D_X7_scanToken (i := 25) rfl) rfl rfl wd_137 ?_
      refine s_iald (n := 54) hX (vk21 (by omega)) (by decide) (dec_of D_X7_scanToken (i := 26) rfl) rfl (fun v3 => ?_)
      refine s_callSI (n := 57) hX lk_RX7_52 (dec_of D_X7_scanToken (i := 27) rfl) rfl (by decide) (c_X7_isDigit (l := _) hG _ _) rfl rfl (Nat.le_of_ble_eq_true rfl) (fun q4 => ?_)
      refine s_if_eq (tgt := 68) (n := 60) hX (dec_of D_X7_scanToken (i := 28) rfl) rfl rfl ?_ ?_
      · refine s_aload_n 0 (n := 69) hX (dec_of D_X7_scanToken (i := 33) rfl) rfl rfl rfl ?_
        refine s_getR (c := 7) (p := 1) (k' := 22) (n := 72) hX cls7 (vk128 (by omega)) (dec_of D_X7_scanToken (i := 34) rfl) rfl rfl wd_128 ?_
        refine s_iload_n 1 (n := 73) hX (dec_of D_X7_scanToken (i := 35) rfl) rfl rfl rfl ?_
        refine s_aload_n 0 (n := 74) hX (dec_of D_X7_scanToken (i := 36) rfl) rfl rfl rfl ?_
        refine s_getR (c := 7) (p := 0) (k' := 21) (n := 77) hX cls7 (vk128 (by omega)) (dec_of D_X7_scanToken (i := 37) rfl) rfl rfl wd_127 ?_
        refine s_aload_n 0 (n := 78) hX (dec_of D_X7_scanToken (i := 38) rfl) rfl rfl rfl ?_
        refine s_getI (c := 7) (p := 6) (id := 654) (n := 81) hX cls7 (vk128 (by omega)) (dec_of D_X7_scanToken (i := 39) rfl) rfl rfl wd_137 ?_
        refine s_iald (n := 82) hX (vk21 (by omega)) (by decide) (dec_of D_X7_scanToken (i := 40) rfl) rfl (fun v5 => ?_)
        refine s_bipush (v := 59) (n := 84) hX (dec_of D_X7_scanToken (i := 41) rfl) rfl (by decide) ?_
        refine s_icmp_ne (tgt := 92) (n := 87) hX (dec_of D_X7_scanToken (i := 42) rfl) rfl rfl ?_ ?_
        · refine s_bipush (v := 18) (n := 94) hX (dec_of D_X7_scanToken (i := 45) rfl) rfl (by decide) ?_
          refine s_iast (n := 95) hX (vk22 (by omega)) (by decide) (dec_of D_X7_scanToken (i := 46) rfl) rfl (fun s6 => ?_)
          refine s_aload_n 0 (n := 96) hX (dec_of D_X7_scanToken (i := 47) rfl) rfl rfl rfl ?_
          refine s_dup (n := 97) hX (dec_of D_X7_scanToken (i := 48) rfl) rfl rfl ?_
          refine s_getI (c := 7) (p := 6) (id := 654) (n := 100) hX cls7 (vk128 (by omega)) (dec_of D_X7_scanToken (i := 49) rfl) rfl rfl wd_137 ?_
          refine s_iconst (v := 1) (n := 101) hX (dec_of D_X7_scanToken (i := 50) rfl) rfl (by decide) ?_
          refine s_iadd (n := 102) hX (dec_of D_X7_scanToken (i := 51) rfl) rfl ?_
          refine s_putI (c := 7) (p := 6) (n := 105) hX cls7 (vk128 (by omega)) (dec_of D_X7_scanToken (i := 52) rfl) rfl rfl (by decide) wd_137 rfl rfl rfl (fun s7 => ?_)
          exact s_vret hX hR (dec_of D_X7_scanToken (i := 53) rfl) rfl
        · refine s_bipush (v := 16) (n := 89) hX (dec_of D_X7_scanToken (i := 43) rfl) rfl (by decide) ?_
          refine s_goto (n := 94) hX (dec_of D_X7_scanToken (i := 44) rfl) rfl ?_
          refine s_iast (n := 95) hX (vk22 (by omega)) (by decide) (dec_of D_X7_scanToken (i := 46) rfl) rfl (fun s8 => ?_)
          refine s_aload_n 0 (n := 96) hX (dec_of D_X7_scanToken (i := 47) rfl) rfl rfl rfl ?_
          refine s_dup (n := 97) hX (dec_of D_X7_scanToken (i := 48) rfl) rfl rfl ?_
          refine s_getI (c := 7) (p := 6) (id := 654) (n := 100) hX cls7 (vk128 (by omega)) (dec_of D_X7_scanToken (i := 49) rfl) rfl rfl wd_137 ?_
          refine s_iconst (v := 1) (n := 101) hX (dec_of D_X7_scanToken (i := 50) rfl) rfl (by decide) ?_
          refine s_iadd (n := 102) hX (dec_of D_X7_scanToken (i := 51) rfl) rfl ?_
          refine s_putI (c := 7) (p := 6) (n := 105) hX cls7 (vk128 (by omega)) (dec_of D_X7_scanToken (i := 52) rfl) rfl rfl (by decide) wd_137 rfl rfl rfl (fun s9 => ?_)
          exact s_vret hX hR (dec_of D_X7_scanToken (i := 53) rfl) rfl
      · refine s_aload_n 0 (n := 61) hX (dec_of D_X7_scanToken (i := 29) rfl) rfl rfl rfl ?_
        refine s_iload_n 1 (n := 62) hX (dec_of D_X7_scanToken (i := 30) rfl) rfl rfl rfl ?_
        refine s_callVV (c := 7) (n := 65) hX cls7 (vk128 (by omega)) lk_RX7_55 (dec_of D_X7_scanToken (i := 31) rfl) rfl (by decide) (c_X7_scanNumber (l := _) hG _ _) rfl rfl (Nat.le_of_ble_eq_true rfl) (fun q10 => ?_)
        refine s_goto (n := 105) hX (dec_of D_X7_scanToken (i := 32) rfl) rfl ?_
        exact s_vret hX hR (dec_of D_X7_scanToken (i := 53) rfl) rfl
    · refine s_aload_n 0 (n := 38) hX (dec_of D_X7_scanToken (i := 18) rfl) rfl rfl rfl ?_
      refine s_iload_n 1 (n := 39) hX (dec_of D_X7_scanToken (i := 19) rfl) rfl rfl rfl ?_
      refine s_callVV (c := 7) (n := 42) hX cls7 (vk128 (by omega)) lk_RX7_49 (dec_of D_X7_scanToken (i := 20) rfl) rfl (by decide) (c_X7_scanWord (l := _) hG _ _) rfl rfl (Nat.le_of_ble_eq_true rfl) (fun q11 => ?_)
      refine s_goto (n := 105) hX (dec_of D_X7_scanToken (i := 21) rfl) rfl ?_
      exact s_vret hX hR (dec_of D_X7_scanToken (i := 53) rfl) rfl
  · refine s_aload_n 0 (n := 12) hX (dec_of D_X7_scanToken (i := 5) rfl) rfl rfl rfl ?_
    refine s_getR (c := 7) (p := 1) (k' := 22) (n := 15) hX cls7 (vk128 (by omega)) (dec_of D_X7_scanToken (i := 6) rfl) rfl rfl wd_128 ?_
    refine s_iload_n 1 (n := 16) hX (dec_of D_X7_scanToken (i := 7) rfl) rfl rfl rfl ?_
    refine s_bipush (v := 17) (n := 18) hX (dec_of D_X7_scanToken (i := 8) rfl) rfl (by decide) ?_
    refine s_iast (n := 19) hX (vk22 (by omega)) (by decide) (dec_of D_X7_scanToken (i := 9) rfl) rfl (fun s12 => ?_)
    refine s_goto (n := 105) hX (dec_of D_X7_scanToken (i := 10) rfl) rfl ?_
    exact s_vret hX hR (dec_of D_X7_scanToken (i := 53) rfl) rfl
theorem lk_RX7_41 : LkV RX7 41 RX7 yX7_scanToken cX7_scanToken 2 none 1 := ⟨wd_492, wd_493, wd_494, wd_85, wd_495, by decide +kernel, by decide⟩
def T_X7_takeTokens : List (Nat × Instr × Nat) := [(0, .aload_n 0, 1), (1, .iload_n 1, 1), (2, .aload_n 0, 1), (3, .getfield 25, 3), (6, .invokestatic 29, 3), (9, .putfield 35, 3), (12, .aload_n 0, 1), (13, .iconst 0, 1), (14, .putfield 25, 3), (17, .aload_n 0, 1), (18, .iconst 0, 1), (19, .putfield 38, 3), (22, .iconst 1, 1), (23, .istore_n 2, 1), (24, .iconst 0, 1), (25, .istore_n 3, 1), (26, .iload_n 3, 1), (27, .sipush 900, 3), (30, .if_icmp .gt 97, 3), (33, .iload_n 2, 1), (34, .ifCond .eq 93, 3), (37, .aload_n 0, 1), (38, .getfield 38, 3), (41, .aload_n 0, 1), (42, .getfield 35, 3), (45, .if_icmp .ge 44, 3), (48, .aload_n 0, 1), (49, .getfield 9, 3), (52, .aload_n 0, 1), (53, .getfield 38, 3), (56, .iaload, 1), (57, .bipush 10, 2), (59, .if_icmp .eq 17, 3), (62, .aload_n 0, 1), (63, .getfield 9, 3), (66, .aload_n 0, 1), (67, .getfield 38, 3), (70, .iaload, 1), (71, .bipush 32, 2), (73, .if_icmp .ne 16, 3), (76, .aload_n 0, 1), (77, .dup, 1), (78, .getfield 38, 3), (81, .iconst 1, 1), (82, .iadd, 1), (83, .putfield 38, 3), (86, .goto (-49), 3), (89, .aload_n 0, 1), (90, .getfield 18, 3), (93, .iload_n 3, 1), (94, .aload_n 0, 1), (95, .getfield 38, 3), (98, .iastore, 1), (99, .aload_n 0, 1), (100, .iload_n 3, 1), (101, .invokevirtual 41, 3), (104, .aload_n 0, 1), (105, .getfield 15, 3), (108, .iload_n 3, 1), (109, .iaload, 1), (110, .bipush 17, 2), (112, .if_icmp .eq 7, 3), (115, .iconst 1, 1), (116, .goto 4, 3), (119, .iconst 0, 1), (120, .istore_n 2, 1), (121, .iinc 3 1, 3), (124, .goto (-98), 3), (127, .return_, 1)]
theorem D_X7_takeTokens : dchk cX7_takeTokens T_X7_takeTokens = true := by decide +kernel
def Tp_takeTokens (σ : ST) (a1 : Int32) : Option ST :=
  lt_ (setF σ 653 0 (if (gF σ 652 0) < a1 then (gF σ 652 0) else a1)) (fun s1 => lt_ (setF s1 652 0 0) (fun s2 => lt_ (setF s2 654 0 0) (fun s3 => lp_ (fun rec5 (z4 : ST × Int32 × Int32) => (if 900 < z4.2.2 then some z4.1 else (if z4.2.1 = 0 then some z4.1 else lk_ (fun kk8 => lp_ (fun rec14 (z13 : ST) => (if (gF z13 653 0) ≤ (gF z13 654 0) then kk8 z13 else bd_ (ldI z13 21 0 (gF z13 654 0)) (fun v16 => (if v16 = 10 then lt_ (setF z13 654 0 ((gF z13 654 0) + 1)) (fun s17 => rec14 s17) else bd_ (ldI z13 21 0 (gF z13 654 0)) (fun v18 => (if v18 = 32 then lt_ (setF z13 654 0 ((gF z13 654 0) + 1)) (fun s19 => rec14 s19) else kk8 z13)))))) FU z4.1) (fun (j7 : ST) => bd_ (stI j7 23 0 z4.2.2 (gF j7 654 0)) (fun s10 => bd_ (Tp_scanToken s10 z4.2.2) (fun q11 => bd_ (ldI q11 22 0 z4.2.2) (fun v12 => (if v12 = 17 then rec5 (q11, 0, (z4.2.2 + 1)) else rec5 (q11, 1, (z4.2.2 + 1)))))))))) FU (s3, 1, 0))))
set_option maxHeartbeats 4000000 in
set_option maxRecDepth 100000 in
theorem c_X7_takeTokens {G : GW} (hG : Good G) {l : Launch} (σ : ST) (a1 : Int32) : Ctr G l yX7_takeTokens cX7_takeTokens 4 none 9 [.ref (ga G 128 0), .int a1] σ oV (Tp_takeTokens σ a1) := by
  refine ctr_of hG (by decide) (Nat.le_of_ble_eq_true rfl) ?_
  intro X hXl hR hX
  have hX : Ok G X cX7_takeTokens 4 RX7 9 := hX
  unfold Tp_takeTokens
  show Sim G X 4 (MQX G X oV) σ 0 [(0, .ref (ga G 128 0)), (1, .int a1)] [] _
  refine s_aload_n 0 (n := 1) hX (dec_of D_X7_takeTokens (i := 0) rfl) rfl rfl rfl ?_
  refine s_iload_n 1 (n := 2) hX (dec_of D_X7_takeTokens (i := 1) rfl) rfl rfl rfl ?_
  refine s_aload_n 0 (n := 3) hX (dec_of D_X7_takeTokens (i := 2) rfl) rfl rfl rfl ?_
  refine s_getI (c := 7) (p := 4) (id := 652) (n := 6) hX cls7 (vk128 (by omega)) (dec_of D_X7_takeTokens (i := 3) rfl) rfl rfl wd_135 ?_
  refine s_mmin (n := 9) hX (dec_of D_X7_takeTokens (i := 4) rfl) rfl (by decide) wd_489 wd_490 wd_94 wd_491 (Nat.le_of_ble_eq_true rfl) ?_
  refine s_putI (c := 7) (p := 5) (n := 12) hX cls7 (vk128 (by omega)) (dec_of D_X7_takeTokens (i := 5) rfl) rfl rfl (by decide) wd_136 rfl rfl rfl (fun s1 => ?_)
  refine s_aload_n 0 (n := 13) hX (dec_of D_X7_takeTokens (i := 6) rfl) rfl rfl rfl ?_
  refine s_iconst (v := 0) (n := 14) hX (dec_of D_X7_takeTokens (i := 7) rfl) rfl (by decide) ?_
  refine s_putI (c := 7) (p := 4) (n := 17) hX cls7 (vk128 (by omega)) (dec_of D_X7_takeTokens (i := 8) rfl) rfl rfl (by decide) wd_135 rfl rfl rfl (fun s2 => ?_)
  refine s_aload_n 0 (n := 18) hX (dec_of D_X7_takeTokens (i := 9) rfl) rfl rfl rfl ?_
  refine s_iconst (v := 0) (n := 19) hX (dec_of D_X7_takeTokens (i := 10) rfl) rfl (by decide) ?_
  refine s_putI (c := 7) (p := 6) (n := 22) hX cls7 (vk128 (by omega)) (dec_of D_X7_takeTokens (i := 11) rfl) rfl rfl (by decide) wd_137 rfl rfl rfl (fun s3 => ?_)
  refine s_iconst (v := 1) (n := 23) hX (dec_of D_X7_takeTokens (i := 12) rfl) rfl (by decide) ?_
  refine s_istore_n (lv' := [(0, _), (1, _), (2, _)]) [1, 2, 0] (n := 24) hX (dec_of D_X7_takeTokens (i := 13) rfl) rfl rfl (by decide) rfl ?_
  refine s_iconst (v := 0) (n := 25) hX (dec_of D_X7_takeTokens (i := 14) rfl) rfl (by decide) ?_
  refine s_istore_n (lv' := [(0, _), (1, _), (2, _), (3, _)]) [1, 2, 3, 0] (n := 26) hX (dec_of D_X7_takeTokens (i := 15) rfl) rfl rfl (by decide) rfl ?_
  refine s_sub [0, 2, 3] rfl (s_lp (pc := 26) (Sf := fun (z4 : ST × Int32 × Int32) => z4.1) (lvf := fun (z4 : ST × Int32 × Int32) => [(0, .ref (ga G 128 0)), (2, .int z4.2.1), (3, .int z4.2.2)]) (fun rec5 hre6 z4 => ?_) FU (s3, 1, 0))
  refine s_iload_n 2 (n := 27) hX (dec_of D_X7_takeTokens (i := 16) rfl) rfl rfl rfl ?_
  refine s_sipush (v := 900) (n := 30) hX (dec_of D_X7_takeTokens (i := 17) rfl) rfl (by decide) ?_
  refine s_icmp_gt (tgt := 127) (n := 33) hX (dec_of D_X7_takeTokens (i := 18) rfl) rfl rfl ?_ ?_
  · exact s_vret hX hR (dec_of D_X7_takeTokens (i := 68) rfl) rfl
  · refine s_iload_n 1 (n := 34) hX (dec_of D_X7_takeTokens (i := 19) rfl) rfl rfl rfl ?_
    refine s_if_eq (tgt := 127) (n := 37) hX (dec_of D_X7_takeTokens (i := 20) rfl) rfl rfl ?_ ?_
    · exact s_vret hX hR (dec_of D_X7_takeTokens (i := 68) rfl) rfl
    · refine s_lk (pcj := 89) (Sf := fun (j7 : ST) => j7) (lvf := fun (j7 : ST) => [(0, .ref (ga G 128 0)), (3, .int z4.2.2)]) (stf := fun (j7 : ST) => []) (fun j7 => ?_) (fun kk8 hkk9 => ?_)
      · refine s_aload_n 0 (n := 90) hX (dec_of D_X7_takeTokens (i := 47) rfl) rfl rfl rfl ?_
        refine s_getR (c := 7) (p := 2) (k' := 23) (n := 93) hX cls7 (vk128 (by omega)) (dec_of D_X7_takeTokens (i := 48) rfl) rfl rfl wd_130 ?_
        refine s_iload_n 1 (n := 94) hX (dec_of D_X7_takeTokens (i := 49) rfl) rfl rfl rfl ?_
        refine s_aload_n 0 (n := 95) hX (dec_of D_X7_takeTokens (i := 50) rfl) rfl rfl rfl ?_
        refine s_getI (c := 7) (p := 6) (id := 654) (n := 98) hX cls7 (vk128 (by omega)) (dec_of D_X7_takeTokens (i := 51) rfl) rfl rfl wd_137 ?_
        refine s_iast (n := 99) hX (vk23 (by omega)) (by decide) (dec_of D_X7_takeTokens (i := 52) rfl) rfl (fun s10 => ?_)
        refine s_aload_n 0 (n := 100) hX (dec_of D_X7_takeTokens (i := 53) rfl) rfl rfl rfl ?_
        refine s_iload_n 1 (n := 101) hX (dec_of D_X7_takeTokens (i := 54) rfl) rfl rfl rfl ?_
        refine s_callVV (c := 7) (n := 104) hX cls7 (vk128 (by omega)) lk_RX7_41 (dec_of D_X7_takeTokens (i := 55) rfl) rfl (by decide) (c_X7_scanToken (l := _) hG _ _) rfl rfl (Nat.le_of_ble_eq_true rfl) (fun q11 => ?_)
        refine s_aload_n 0 (n := 105) hX (dec_of D_X7_takeTokens (i := 56) rfl) rfl rfl rfl ?_
        refine s_getR (c := 7) (p := 1) (k' := 22) (n := 108) hX cls7 (vk128 (by omega)) (dec_of D_X7_takeTokens (i := 57) rfl) rfl rfl wd_128 ?_
        refine s_iload_n 1 (n := 109) hX (dec_of D_X7_takeTokens (i := 58) rfl) rfl rfl rfl ?_
        refine s_iald (n := 110) hX (vk22 (by omega)) (by decide) (dec_of D_X7_takeTokens (i := 59) rfl) rfl (fun v12 => ?_)
        refine s_bipush (v := 17) (n := 112) hX (dec_of D_X7_takeTokens (i := 60) rfl) rfl (by decide) ?_
        refine s_icmp_eq (tgt := 119) (n := 115) hX (dec_of D_X7_takeTokens (i := 61) rfl) rfl rfl ?_ ?_
        · refine s_iconst (v := 0) (n := 120) hX (dec_of D_X7_takeTokens (i := 64) rfl) rfl (by decide) ?_
          refine s_istore_n (lv' := [(0, _), (2, _), (3, _)]) [1, 0, 2] (n := 121) hX (dec_of D_X7_takeTokens (i := 65) rfl) rfl rfl (by decide) rfl ?_
          refine s_iinc (v := z4.2.2 + 1) (lv' := [(0, _), (2, _), (3, _)]) 2 [1, 2, 0] (n := 124) hX (dec_of D_X7_takeTokens (i := 66) rfl) rfl rfl rfl (by decide) rfl ?_
          refine s_goto (n := 26) hX (dec_of D_X7_takeTokens (i := 67) rfl) rfl ?_
          exact s_sub [0, 1, 2] rfl (hre6 (q11, 0, (z4.2.2 + 1)))
        · refine s_iconst (v := 1) (n := 116) hX (dec_of D_X7_takeTokens (i := 62) rfl) rfl (by decide) ?_
          refine s_goto (n := 120) hX (dec_of D_X7_takeTokens (i := 63) rfl) rfl ?_
          refine s_istore_n (lv' := [(0, _), (2, _), (3, _)]) [1, 0, 2] (n := 121) hX (dec_of D_X7_takeTokens (i := 65) rfl) rfl rfl (by decide) rfl ?_
          refine s_iinc (v := z4.2.2 + 1) (lv' := [(0, _), (2, _), (3, _)]) 2 [1, 2, 0] (n := 124) hX (dec_of D_X7_takeTokens (i := 66) rfl) rfl rfl rfl (by decide) rfl ?_
          refine s_goto (n := 26) hX (dec_of D_X7_takeTokens (i := 67) rfl) rfl ?_
          exact s_sub [0, 1, 2] rfl (hre6 (q11, 1, (z4.2.2 + 1)))
      · refine s_sub [0, 2] rfl (s_lp (pc := 37) (Sf := fun (z13 : ST) => z13) (lvf := fun (z13 : ST) => [(0, .ref (ga G 128 0)), (3, .int z4.2.2)]) (fun rec14 hre15 z13 => ?_) FU z4.1)
        refine s_aload_n 0 (n := 38) hX (dec_of D_X7_takeTokens (i := 21) rfl) rfl rfl rfl ?_
        refine s_getI (c := 7) (p := 6) (id := 654) (n := 41) hX cls7 (vk128 (by omega)) (dec_of D_X7_takeTokens (i := 22) rfl) rfl rfl wd_137 ?_
        refine s_aload_n 0 (n := 42) hX (dec_of D_X7_takeTokens (i := 23) rfl) rfl rfl rfl ?_
        refine s_getI (c := 7) (p := 5) (id := 653) (n := 45) hX cls7 (vk128 (by omega)) (dec_of D_X7_takeTokens (i := 24) rfl) rfl rfl wd_136 ?_
        refine s_icmp_ge (tgt := 89) (n := 48) hX (dec_of D_X7_takeTokens (i := 25) rfl) rfl rfl ?_ ?_
        · exact s_sub [0, 1] rfl (hkk9 z13)
        · refine s_aload_n 0 (n := 49) hX (dec_of D_X7_takeTokens (i := 26) rfl) rfl rfl rfl ?_
          refine s_getR (c := 7) (p := 0) (k' := 21) (n := 52) hX cls7 (vk128 (by omega)) (dec_of D_X7_takeTokens (i := 27) rfl) rfl rfl wd_127 ?_
          refine s_aload_n 0 (n := 53) hX (dec_of D_X7_takeTokens (i := 28) rfl) rfl rfl rfl ?_
          refine s_getI (c := 7) (p := 6) (id := 654) (n := 56) hX cls7 (vk128 (by omega)) (dec_of D_X7_takeTokens (i := 29) rfl) rfl rfl wd_137 ?_
          refine s_iald (n := 57) hX (vk21 (by omega)) (by decide) (dec_of D_X7_takeTokens (i := 30) rfl) rfl (fun v16 => ?_)
          refine s_bipush (v := 10) (n := 59) hX (dec_of D_X7_takeTokens (i := 31) rfl) rfl (by decide) ?_
          refine s_icmp_eq (tgt := 76) (n := 62) hX (dec_of D_X7_takeTokens (i := 32) rfl) rfl rfl ?_ ?_
          · refine s_aload_n 0 (n := 77) hX (dec_of D_X7_takeTokens (i := 40) rfl) rfl rfl rfl ?_
            refine s_dup (n := 78) hX (dec_of D_X7_takeTokens (i := 41) rfl) rfl rfl ?_
            refine s_getI (c := 7) (p := 6) (id := 654) (n := 81) hX cls7 (vk128 (by omega)) (dec_of D_X7_takeTokens (i := 42) rfl) rfl rfl wd_137 ?_
            refine s_iconst (v := 1) (n := 82) hX (dec_of D_X7_takeTokens (i := 43) rfl) rfl (by decide) ?_
            refine s_iadd (n := 83) hX (dec_of D_X7_takeTokens (i := 44) rfl) rfl ?_
            refine s_putI (c := 7) (p := 6) (n := 86) hX cls7 (vk128 (by omega)) (dec_of D_X7_takeTokens (i := 45) rfl) rfl rfl (by decide) wd_137 rfl rfl rfl (fun s17 => ?_)
            refine s_goto (n := 37) hX (dec_of D_X7_takeTokens (i := 46) rfl) rfl ?_
            exact s_sub [0, 1] rfl (hre15 s17)
          · refine s_aload_n 0 (n := 63) hX (dec_of D_X7_takeTokens (i := 33) rfl) rfl rfl rfl ?_
            refine s_getR (c := 7) (p := 0) (k' := 21) (n := 66) hX cls7 (vk128 (by omega)) (dec_of D_X7_takeTokens (i := 34) rfl) rfl rfl wd_127 ?_
            refine s_aload_n 0 (n := 67) hX (dec_of D_X7_takeTokens (i := 35) rfl) rfl rfl rfl ?_
            refine s_getI (c := 7) (p := 6) (id := 654) (n := 70) hX cls7 (vk128 (by omega)) (dec_of D_X7_takeTokens (i := 36) rfl) rfl rfl wd_137 ?_
            refine s_iald (n := 71) hX (vk21 (by omega)) (by decide) (dec_of D_X7_takeTokens (i := 37) rfl) rfl (fun v18 => ?_)
            refine s_bipush (v := 32) (n := 73) hX (dec_of D_X7_takeTokens (i := 38) rfl) rfl (by decide) ?_
            refine s_icmp_ne (tgt := 89) (n := 76) hX (dec_of D_X7_takeTokens (i := 39) rfl) rfl rfl ?_ ?_
            · exact s_sub [0, 1] rfl (hkk9 z13)
            · refine s_aload_n 0 (n := 77) hX (dec_of D_X7_takeTokens (i := 40) rfl) rfl rfl rfl ?_
              refine s_dup (n := 78) hX (dec_of D_X7_takeTokens (i := 41) rfl) rfl rfl ?_
              refine s_getI (c := 7) (p := 6) (id := 654) (n := 81) hX cls7 (vk128 (by omega)) (dec_of D_X7_takeTokens (i := 42) rfl) rfl rfl wd_137 ?_
              refine s_iconst (v := 1) (n := 82) hX (dec_of D_X7_takeTokens (i := 43) rfl) rfl (by decide) ?_
              refine s_iadd (n := 83) hX (dec_of D_X7_takeTokens (i := 44) rfl) rfl ?_
              refine s_putI (c := 7) (p := 6) (n := 86) hX cls7 (vk128 (by omega)) (dec_of D_X7_takeTokens (i := 45) rfl) rfl rfl (by decide) wd_137 rfl rfl rfl (fun s19 => ?_)
              refine s_goto (n := 37) hX (dec_of D_X7_takeTokens (i := 46) rfl) rfl ?_
              exact s_sub [0, 1] rfl (hre15 s19)
def T_X5_clear : List (Nat × Instr × Nat) := [(0, .aload_n 0, 1), (1, .iconst 0, 1), (2, .putfield 43, 3), (5, .aload_n 0, 1), (6, .iconst 0, 1), (7, .putfield 46, 3), (10, .aload_n 0, 1), (11, .iconst 0, 1), (12, .putfield 49, 3), (15, .aload_n 0, 1), (16, .iconst 0, 1), (17, .putfield 52, 3), (20, .aload_n 0, 1), (21, .bipush 60, 2), (23, .putfield 36, 3), (26, .aload_n 0, 1), (27, .iconst 3, 1), (28, .putfield 40, 3), (31, .return_, 1)]
theorem D_X5_clear : dchk cX5_clear T_X5_clear = true := by decide +kernel
def Rl_clear (σ : ST) (i0 : Nat) : Option ST :=
  lt_ (setF σ 528 i0 0) (fun s1 => lt_ (setF s1 529 i0 0) (fun s2 => lt_ (setF s2 530 i0 0) (fun s3 => lt_ (setF s3 531 i0 0) (fun s4 => lt_ (setF s4 532 i0 60) (fun s5 => lt_ (setF s5 533 i0 3) (fun s6 => some s6))))))
set_option maxHeartbeats 4000000 in
set_option maxRecDepth 100000 in
theorem c_X5_clear {G : GW} (hG : Good G) {l : Launch} (σ : ST) (i0 : Nat) (h0 : i0 < 2) : Ctr G l yX5_clear cX5_clear 1 none 0 [.ref (ga G 126 i0)] σ oV (Rl_clear σ i0) := by
  refine ctr_of hG (by decide) (Nat.le_of_ble_eq_true rfl) ?_
  intro X hXl hR hX
  have hX : Ok G X cX5_clear 1 RX5 0 := hX
  unfold Rl_clear
  show Sim G X 1 (MQX G X oV) σ 0 [(0, .ref (ga G 126 i0))] [] _
  refine s_aload_n 0 (n := 1) hX (dec_of D_X5_clear (i := 0) rfl) rfl rfl rfl ?_
  refine s_iconst (v := 0) (n := 2) hX (dec_of D_X5_clear (i := 1) rfl) rfl (by decide) ?_
  refine s_putI (c := 5) (p := 8) (n := 5) hX cls5 (vk126 (by omega)) (dec_of D_X5_clear (i := 2) rfl) rfl rfl (by decide) wd_384 rfl rfl rfl (fun s1 => ?_)
  refine s_aload_n 0 (n := 6) hX (dec_of D_X5_clear (i := 3) rfl) rfl rfl rfl ?_
  refine s_iconst (v := 0) (n := 7) hX (dec_of D_X5_clear (i := 4) rfl) rfl (by decide) ?_
  refine s_putI (c := 5) (p := 9) (n := 10) hX cls5 (vk126 (by omega)) (dec_of D_X5_clear (i := 5) rfl) rfl rfl (by decide) wd_387 rfl rfl rfl (fun s2 => ?_)
  refine s_aload_n 0 (n := 11) hX (dec_of D_X5_clear (i := 6) rfl) rfl rfl rfl ?_
  refine s_iconst (v := 0) (n := 12) hX (dec_of D_X5_clear (i := 7) rfl) rfl (by decide) ?_
  refine s_putI (c := 5) (p := 10) (n := 15) hX cls5 (vk126 (by omega)) (dec_of D_X5_clear (i := 8) rfl) rfl rfl (by decide) wd_393 rfl rfl rfl (fun s3 => ?_)
  refine s_aload_n 0 (n := 16) hX (dec_of D_X5_clear (i := 9) rfl) rfl rfl rfl ?_
  refine s_iconst (v := 0) (n := 17) hX (dec_of D_X5_clear (i := 10) rfl) rfl (by decide) ?_
  refine s_putI (c := 5) (p := 11) (n := 20) hX cls5 (vk126 (by omega)) (dec_of D_X5_clear (i := 11) rfl) rfl rfl (by decide) wd_399 rfl rfl rfl (fun s4 => ?_)
  refine s_aload_n 0 (n := 21) hX (dec_of D_X5_clear (i := 12) rfl) rfl rfl rfl ?_
  refine s_bipush (v := 60) (n := 23) hX (dec_of D_X5_clear (i := 13) rfl) rfl (by decide) ?_
  refine s_putI (c := 5) (p := 12) (n := 26) hX cls5 (vk126 (by omega)) (dec_of D_X5_clear (i := 14) rfl) rfl rfl (by decide) wd_404 rfl rfl rfl (fun s5 => ?_)
  refine s_aload_n 0 (n := 27) hX (dec_of D_X5_clear (i := 15) rfl) rfl rfl rfl ?_
  refine s_iconst (v := 3) (n := 28) hX (dec_of D_X5_clear (i := 16) rfl) rfl (by decide) ?_
  refine s_putI (c := 5) (p := 13) (n := 31) hX cls5 (vk126 (by omega)) (dec_of D_X5_clear (i := 17) rfl) rfl rfl (by decide) wd_408 rfl rfl rfl (fun s6 => ?_)
  exact s_vret hX hR (dec_of D_X5_clear (i := 18) rfl) rfl
def T_X4_isAt : List (Nat × Instr × Nat) := [(0, .aload_n 0, 1), (1, .getfield 12, 3), (4, .getfield 62, 3), (7, .aload_n 0, 1), (8, .getfield 41, 3), (11, .iaload, 1), (12, .iload_n 1, 1), (13, .if_icmp .ne 7, 3), (16, .iconst 1, 1), (17, .goto 4, 3), (20, .iconst 0, 1), (21, .ireturn, 1)]
theorem D_X4_isAt : dchk cX4_isAt T_X4_isAt = true := by decide +kernel
def Rd_isAt (σ : ST) (a1 : Int32) : Option Int32 :=
  bd_ (ldI σ 22 0 (gF σ 460 0)) (fun v1 => (if v1 = a1 then some 1 else some 0))
set_option maxHeartbeats 4000000 in
set_option maxRecDepth 100000 in
theorem c_X4_isAt {G : GW} (hG : Good G) {l : Launch} (σ : ST) (a1 : Int32) : Ctr G l yX4_isAt cX4_isAt 2 (some .boolean) 0 [.ref (ga G 125 0), .int a1] σ (oI σ) (Rd_isAt σ a1) := by
  refine ctr_of hG (by decide) (Nat.le_of_ble_eq_true rfl) ?_
  intro X hXl hR hX
  have hX : Ok G X cX4_isAt 2 RX4 0 := hX
  unfold Rd_isAt
  show Sim G X 2 (MQX G X (oI σ)) σ 0 [(0, .ref (ga G 125 0)), (1, .int a1)] [] _
  refine s_aload_n 0 (n := 1) hX (dec_of D_X4_isAt (i := 0) rfl) rfl rfl rfl ?_
  refine s_getR (c := 4) (p := 0) (k' := 128) (n := 4) hX cls4 (vk125 (by omega)) (dec_of D_X4_isAt (i := 1) rfl) rfl rfl wd_155 ?_
  refine s_getR (c := 7) (p := 1) (k' := 22) (n := 7) hX cls7 (vk128 (by omega)) (dec_of D_X4_isAt (i := 2) rfl) rfl rfl wd_129 ?_
  refine s_aload_n 0 (n := 8) hX (dec_of D_X4_isAt (i := 3) rfl) rfl rfl rfl ?_
  refine s_getI (c := 4) (p := 4) (id := 460) (n := 11) hX cls4 (vk125 (by omega)) (dec_of D_X4_isAt (i := 4) rfl) rfl rfl wd_160 ?_
  refine s_iald (n := 12) hX (vk22 (by omega)) (by decide) (dec_of D_X4_isAt (i := 5) rfl) rfl (fun v1 => ?_)
  refine s_iload_n 1 (n := 13) hX (dec_of D_X4_isAt (i := 6) rfl) rfl rfl rfl ?_
  refine s_icmp_ne (tgt := 20) (n := 16) hX (dec_of D_X4_isAt (i := 7) rfl) rfl rfl ?_ ?_
  · refine s_iconst (v := 0) (n := 21) hX (dec_of D_X4_isAt (i := 10) rfl) rfl (by decide) ?_
    exact s_zret hX hR (dec_of D_X4_isAt (i := 11) rfl) rfl rfl
  · refine s_iconst (v := 1) (n := 17) hX (dec_of D_X4_isAt (i := 8) rfl) rfl (by decide) ?_
    refine s_goto (n := 21) hX (dec_of D_X4_isAt (i := 9) rfl) rfl ?_
    exact s_zret hX hR (dec_of D_X4_isAt (i := 11) rfl) rfl rfl
def T_X4_blame : List (Nat × Instr × Nat) := [(0, .aload_n 0, 1), (1, .getfield 51, 3), (4, .ifCond .ne 24, 3), (7, .aload_n 0, 1), (8, .iload_n 1, 1), (9, .putfield 51, 3), (12, .aload_n 0, 1), (13, .aload_n 0, 1), (14, .getfield 12, 3), (17, .getfield 155, 3), (20, .aload_n 0, 1), (21, .getfield 41, 3), (24, .iaload, 1), (25, .putfield 28, 3), (28, .return_, 1)]
theorem D_X4_blame : dchk cX4_blame T_X4_blame = true := by decide +kernel
def Rd_blame (σ : ST) (a1 : Int32) : Option ST :=
  (if (gF σ 463 0) = 0 then lt_ (setF σ 463 0 a1) (fun s1 => bd_ (ldI s1 23 0 (gF s1 460 0)) (fun v2 => lt_ (setF s1 464 0 v2) (fun s3 => some s3))) else some σ)
set_option maxHeartbeats 4000000 in
set_option maxRecDepth 100000 in
theorem c_X4_blame {G : GW} (hG : Good G) {l : Launch} (σ : ST) (a1 : Int32) : Ctr G l yX4_blame cX4_blame 2 none 0 [.ref (ga G 125 0), .int a1] σ oV (Rd_blame σ a1) := by
  refine ctr_of hG (by decide) (Nat.le_of_ble_eq_true rfl) ?_
  intro X hXl hR hX
  have hX : Ok G X cX4_blame 2 RX4 0 := hX
  unfold Rd_blame
  show Sim G X 2 (MQX G X oV) σ 0 [(0, .ref (ga G 125 0)), (1, .int a1)] [] _
  refine s_aload_n 0 (n := 1) hX (dec_of D_X4_blame (i := 0) rfl) rfl rfl rfl ?_
  refine s_getI (c := 4) (p := 7) (id := 463) (n := 4) hX cls4 (vk125 (by omega)) (dec_of D_X4_blame (i := 1) rfl) rfl rfl wd_163 ?_
  refine s_if_ne (tgt := 28) (n := 7) hX (dec_of D_X4_blame (i := 2) rfl) rfl rfl ?_ ?_
  · exact s_vret hX hR (dec_of D_X4_blame (i := 14) rfl) rfl
  · refine s_aload_n 0 (n := 8) hX (dec_of D_X4_blame (i := 3) rfl) rfl rfl rfl ?_
    refine s_iload_n 1 (n := 9) hX (dec_of D_X4_blame (i := 4) rfl) rfl rfl rfl ?_
    refine s_putI (c := 4) (p := 7) (n := 12) hX cls4 (vk125 (by omega)) (dec_of D_X4_blame (i := 5) rfl) rfl rfl (by decide) wd_163 rfl rfl rfl (fun s1 => ?_)
    refine s_aload_n 0 (n := 13) hX (dec_of D_X4_blame (i := 6) rfl) rfl rfl rfl ?_
    refine s_aload_n 0 (n := 14) hX (dec_of D_X4_blame (i := 7) rfl) rfl rfl rfl ?_
    refine s_getR (c := 4) (p := 0) (k' := 128) (n := 17) hX cls4 (vk125 (by omega)) (dec_of D_X4_blame (i := 8) rfl) rfl rfl wd_155 ?_
    refine s_getR (c := 7) (p := 2) (k' := 23) (n := 20) hX cls7 (vk128 (by omega)) (dec_of D_X4_blame (i := 9) rfl) rfl rfl wd_131 ?_
    refine s_aload_n 0 (n := 21) hX (dec_of D_X4_blame (i := 10) rfl) rfl rfl rfl ?_
    refine s_getI (c := 4) (p := 4) (id := 460) (n := 24) hX cls4 (vk125 (by omega)) (dec_of D_X4_blame (i := 11) rfl) rfl rfl wd_160 ?_
    refine s_iald (n := 25) hX (vk23 (by omega)) (by decide) (dec_of D_X4_blame (i := 12) rfl) rfl (fun v2 => ?_)
    refine s_putI (c := 4) (p := 8) (n := 28) hX cls4 (vk125 (by omega)) (dec_of D_X4_blame (i := 13) rfl) rfl rfl (by decide) wd_165 rfl rfl rfl (fun s3 => ?_)
    exact s_vret hX hR (dec_of D_X4_blame (i := 14) rfl) rfl
def T_X4_advance : List (Nat × Instr × Nat) := [(0, .aload_n 0, 1), (1, .getfield 51, 3), (4, .ifCond .ne 23, 3), (7, .aload_n 0, 1), (8, .getfield 41, 3), (11, .sipush 900, 3), (14, .if_icmp .ge 13, 3), (17, .aload_n 0, 1), (18, .dup, 1), (19, .getfield 41, 3), (22, .iconst 1, 1), (23, .iadd, 1), (24, .putfield 41, 3), (27, .return_, 1)]
theorem D_X4_advance : dchk cX4_advance T_X4_advance = true := by decide +kernel
def Rd_advance (σ : ST)  : Option ST :=
  (if (gF σ 463 0) = 0 then (if 900 ≤ (gF σ 460 0) then some σ else lt_ (setF σ 460 0 ((gF σ 460 0) + 1)) (fun s1 => some s1)) else some σ)
set_option maxHeartbeats 4000000 in
set_option maxRecDepth 100000 in
theorem c_X4_advance {G : GW} (hG : Good G) {l : Launch} (σ : ST)  : Ctr G l yX4_advance cX4_advance 1 none 0 [.ref (ga G 125 0)] σ oV (Rd_advance σ ) := by
  refine ctr_of hG (by decide) (Nat.le_of_ble_eq_true rfl) ?_
  intro X hXl hR hX
  have hX : Ok G X cX4_advance 1 RX4 0 := hX
  unfold Rd_advance
  show Sim G X 1 (MQX G X oV) σ 0 [(0, .ref (ga G 125 0))] [] _
  refine s_aload_n 0 (n := 1) hX (dec_of D_X4_advance (i := 0) rfl) rfl rfl rfl ?_
  refine s_getI (c := 4) (p := 7) (id := 463) (n := 4) hX cls4 (vk125 (by omega)) (dec_of D_X4_advance (i := 1) rfl) rfl rfl wd_163 ?_
  refine s_if_ne (tgt := 27) (n := 7) hX (dec_of D_X4_advance (i := 2) rfl) rfl rfl ?_ ?_
  · exact s_vret hX hR (dec_of D_X4_advance (i := 13) rfl) rfl
  · refine s_aload_n 0 (n := 8) hX (dec_of D_X4_advance (i := 3) rfl) rfl rfl rfl ?_
    refine s_getI (c := 4) (p := 4) (id := 460) (n := 11) hX cls4 (vk125 (by omega)) (dec_of D_X4_advance (i := 4) rfl) rfl rfl wd_160 ?_
    refine s_sipush (v := 900) (n := 14) hX (dec_of D_X4_advance (i := 5) rfl) rfl (by decide) ?_
    refine s_icmp_ge (tgt := 27) (n := 17) hX (dec_of D_X4_advance (i := 6) rfl) rfl rfl ?_ ?_
    · exact s_vret hX hR (dec_of D_X4_advance (i := 13) rfl) rfl
    · refine s_aload_n 0 (n := 18) hX (dec_of D_X4_advance (i := 7) rfl) rfl rfl rfl ?_
      refine s_dup (n := 19) hX (dec_of D_X4_advance (i := 8) rfl) rfl rfl ?_
      refine s_getI (c := 4) (p := 4) (id := 460) (n := 22) hX cls4 (vk125 (by omega)) (dec_of D_X4_advance (i := 9) rfl) rfl rfl wd_160 ?_
      refine s_iconst (v := 1) (n := 23) hX (dec_of D_X4_advance (i := 10) rfl) rfl (by decide) ?_
      refine s_iadd (n := 24) hX (dec_of D_X4_advance (i := 11) rfl) rfl ?_
      refine s_putI (c := 4) (p := 4) (n := 27) hX cls4 (vk125 (by omega)) (dec_of D_X4_advance (i := 12) rfl) rfl rfl (by decide) wd_160 rfl rfl rfl (fun s1 => ?_)
      exact s_vret hX hR (dec_of D_X4_advance (i := 13) rfl) rfl
def T_X4_find : List (Nat × Instr × Nat) := [(0, .iconst 0, 1), (1, .istore_n 3, 1), (2, .iload_n 3, 1), (3, .iload_n 2, 1), (4, .if_icmp .ge 30, 3), (7, .aload_n 1, 1), (8, .iload_n 3, 1), (9, .laload, 1), (10, .aload_n 0, 1), (11, .getfield 12, 3), (14, .getfield 158, 3), (17, .aload_n 0, 1), (18, .getfield 41, 3), (21, .laload, 1), (22, .lcmp, 1), (23, .ifCond .ne 5, 3), (26, .iload_n 3, 1), (27, .ireturn, 1), (28, .iinc 3 1, 3), (31, .goto (-29), 3), (34, .iconst (-1), 1), (35, .ireturn, 1)]
theorem D_X4_find : dchk cX4_find T_X4_find = true := by decide +kernel
def Rd_find (σ : ST) (k1 i1 : Nat) (a2 : Int32) : Option Int32 :=
  lp_ (fun rec2 (z1 : Int32) => (if a2 ≤ z1 then some (-1) else bd_ (ldL σ k1 i1 z1) (fun v4 => bd_ (ldL σ 104 0 (gF σ 460 0)) (fun v5 => (if (lg_cmp v4 v5) = 0 then some z1 else rec2 (z1 + 1)))))) FU 0
set_option maxHeartbeats 4000000 in
set_option maxRecDepth 100000 in
theorem c_X4_find {G : GW} (hG : Good G) {l : Launch} (σ : ST) (k1 i1 : Nat) (hk1 : vld k1 i1) (hk1k : 100 ≤ k1 ∧ k1 < 120) (a2 : Int32) : Ctr G l yX4_find cX4_find 4 (some .int) 0 [.ref (ga G 125 0), .ref (ga G k1 i1), .int a2] σ (oI σ) (Rd_find σ k1 i1 a2) := by
  refine ctr_of hG (by decide) (Nat.le_of_ble_eq_true rfl) ?_
  intro X hXl hR hX
  have hX : Ok G X cX4_find 4 RX4 0 := hX
  unfold Rd_find
  show Sim G X 4 (MQX G X (oI σ)) σ 0 [(0, .ref (ga G 125 0)), (1, .ref (ga G k1 i1)), (2, .int a2)] [] _
  refine s_iconst (v := 0) (n := 1) hX (dec_of D_X4_find (i := 0) rfl) rfl (by decide) ?_
  refine s_istore_n (lv' := [(0, _), (1, _), (2, _), (3, _)]) [1, 2, 3, 0] (n := 2) hX (dec_of D_X4_find (i := 1) rfl) rfl rfl (by decide) rfl ?_
  refine s_sub [0, 1, 2, 3] rfl (s_lp (pc := 2) (Sf := fun (z1 : Int32) => σ) (lvf := fun (z1 : Int32) => [(0, .ref (ga G 125 0)), (1, .ref (ga G k1 i1)), (2, .int a2), (3, .int z1)]) (fun rec2 hre3 z1 => ?_) FU 0)
  refine s_iload_n 3 (n := 3) hX (dec_of D_X4_find (i := 2) rfl) rfl rfl rfl ?_
  refine s_iload_n 2 (n := 4) hX (dec_of D_X4_find (i := 3) rfl) rfl rfl rfl ?_
  refine s_icmp_ge (tgt := 34) (n := 7) hX (dec_of D_X4_find (i := 4) rfl) rfl rfl ?_ ?_
  · refine s_iconst (v := (-1)) (n := 35) hX (dec_of D_X4_find (i := 20) rfl) rfl (by decide) ?_
    exact s_iret hX hR (dec_of D_X4_find (i := 21) rfl) rfl
  · refine s_aload_n 1 (n := 8) hX (dec_of D_X4_find (i := 5) rfl) rfl rfl rfl ?_
    refine s_iload_n 3 (n := 9) hX (dec_of D_X4_find (i := 6) rfl) rfl rfl rfl ?_
    refine s_lald (n := 10) hX hk1 hk1k (dec_of D_X4_find (i := 7) rfl) rfl (fun v4 => ?_)
    refine s_aload_n 0 (n := 11) hX (dec_of D_X4_find (i := 8) rfl) rfl rfl rfl ?_
    refine s_getR (c := 4) (p := 0) (k' := 128) (n := 14) hX cls4 (vk125 (by omega)) (dec_of D_X4_find (i := 9) rfl) rfl rfl wd_155 ?_
    refine s_getR (c := 7) (p := 3) (k' := 104) (n := 17) hX cls7 (vk128 (by omega)) (dec_of D_X4_find (i := 10) rfl) rfl rfl wd_133 ?_
    refine s_aload_n 0 (n := 18) hX (dec_of D_X4_find (i := 11) rfl) rfl rfl rfl ?_
    refine s_getI (c := 4) (p := 4) (id := 460) (n := 21) hX cls4 (vk125 (by omega)) (dec_of D_X4_find (i := 12) rfl) rfl rfl wd_160 ?_
    refine s_lald (n := 22) hX (vk104 (by omega)) (by decide) (dec_of D_X4_find (i := 13) rfl) rfl (fun v5 => ?_)
    refine s_lcmp (n := 23) hX (dec_of D_X4_find (i := 14) rfl) rfl ?_
    refine s_if_ne (tgt := 28) (n := 26) hX (dec_of D_X4_find (i := 15) rfl) rfl rfl ?_ ?_
    · refine s_iinc (v := z1 + 1) (lv' := [(0, _), (1, _), (2, _), (3, _)]) 3 [1, 2, 3, 0] (n := 31) hX (dec_of D_X4_find (i := 18) rfl) rfl rfl rfl (by decide) rfl ?_
      refine s_goto (n := 2) hX (dec_of D_X4_find (i := 19) rfl) rfl ?_
      exact s_sub [0, 1, 2, 3] rfl (hre3 (z1 + 1))
    · refine s_iload_n 3 (n := 27) hX (dec_of D_X4_find (i := 16) rfl) rfl rfl rfl ?_
      exact s_iret hX hR (dec_of D_X4_find (i := 17) rfl) rfl
theorem lk_RX4_165 : LkV RX4 165 RX4 yX4_find cX4_find 4 (some .int) 2 := ⟨wd_602, wd_603, wd_604, wd_84, wd_605, by decide +kernel, by decide⟩
def T_X4_isTold : List (Nat × Instr × Nat) := [(0, .aload_n 0, 1), (1, .aload_n 0, 1), (2, .getfield 18, 3), (5, .aload_n 1, 1), (6, .getfield 91, 3), (9, .invokevirtual 165, 3), (12, .ifCond .ge 33, 3), (15, .aload_n 0, 1), (16, .aload_n 0, 1), (17, .getfield 22, 3), (20, .aload_n 1, 1), (21, .getfield 113, 3), (24, .invokevirtual 165, 3), (27, .ifCond .ge 18, 3), (30, .aload_n 0, 1), (31, .aload_n 0, 1), (32, .getfield 25, 3), (35, .aload_n 1, 1), (36, .getfield 123, 3), (39, .invokevirtual 165, 3), (42, .ifCond .lt 7, 3), (45, .iconst 1, 1), (46, .goto 4, 3), (49, .iconst 0, 1), (50, .ireturn, 1)]
theorem D_X4_isTold : dchk cX4_isTold T_X4_isTold = true := by decide +kernel
def Rd_isTold (σ : ST) (i1 : Nat) : Option Int32 :=
  bd_ (Rd_find (σ) 101 0 (gF σ 529 i1)) (fun q1 => (if 0 ≤ q1 then some 1 else bd_ (Rd_find (σ) 102 0 (gF σ 530 i1)) (fun q2 => (if 0 ≤ q2 then some 1 else bd_ (Rd_find (σ) 103 0 (gF σ 531 i1)) (fun q3 => (if q3 < 0 then some 0 else some 1))))))
set_option maxHeartbeats 4000000 in
set_option maxRecDepth 100000 in
theorem c_X4_isTold {G : GW} (hG : Good G) {l : Launch} (σ : ST) (i1 : Nat) (h1 : i1 < 2) : Ctr G l yX4_isTold cX4_isTold 2 (some .boolean) 1 [.ref (ga G 125 0), .ref (ga G 126 i1)] σ (oI σ) (Rd_isTold σ i1) := by
  refine ctr_of hG (by decide) (Nat.le_of_ble_eq_true rfl) ?_
  intro X hXl hR hX
  have hX : Ok G X cX4_isTold 2 RX4 1 := hX
  unfold Rd_isTold
  show Sim G X 2 (MQX G X (oI σ)) σ 0 [(0, .ref (ga G 125 0)), (1, .ref (ga G 126 i1))] [] _
  refine s_aload_n 0 (n := 1) hX (dec_of D_X4_isTold (i := 0) rfl) rfl rfl rfl ?_
  refine s_aload_n 0 (n := 2) hX (dec_of D_X4_isTold (i := 1) rfl) rfl rfl rfl ?_
  refine s_getR (c := 4) (p := 1) (k' := 101) (n := 5) hX cls4 (vk125 (by omega)) (dec_of D_X4_isTold (i := 2) rfl) rfl rfl wd_157 ?_
  refine s_aload_n 1 (n := 6) hX (dec_of D_X4_isTold (i := 3) rfl) rfl rfl rfl ?_
  refine s_getI (c := 5) (p := 9) (id := 529) (n := 9) hX cls5 (vk126 (by omega)) (dec_of D_X4_isTold (i := 4) rfl) rfl rfl wd_389 ?_
  refine s_callVI (c := 4) (n := 12) hX cls4 (vk125 (by omega)) lk_RX4_165 (dec_of D_X4_isTold (i := 5) rfl) rfl (by decide) (c_X4_find (l := _) hG _ _ _ (vk101 (by omega)) (by decide) _) rfl rfl (Nat.le_of_ble_eq_true rfl) (fun q1 => ?_)
  refine s_if_ge (tgt := 45) (n := 15) hX (dec_of D_X4_isTold (i := 6) rfl) rfl rfl ?_ ?_
  · refine s_iconst (v := 1) (n := 46) hX (dec_of D_X4_isTold (i := 21) rfl) rfl (by decide) ?_
    refine s_goto (n := 50) hX (dec_of D_X4_isTold (i := 22) rfl) rfl ?_
    exact s_zret hX hR (dec_of D_X4_isTold (i := 24) rfl) rfl rfl
  · refine s_aload_n 0 (n := 16) hX (dec_of D_X4_isTold (i := 7) rfl) rfl rfl rfl ?_
    refine s_aload_n 0 (n := 17) hX (dec_of D_X4_isTold (i := 8) rfl) rfl rfl rfl ?_
    refine s_getR (c := 4) (p := 2) (k' := 102) (n := 20) hX cls4 (vk125 (by omega)) (dec_of D_X4_isTold (i := 9) rfl) rfl rfl wd_158 ?_
    refine s_aload_n 1 (n := 21) hX (dec_of D_X4_isTold (i := 10) rfl) rfl rfl rfl ?_
    refine s_getI (c := 5) (p := 10) (id := 530) (n := 24) hX cls5 (vk126 (by omega)) (dec_of D_X4_isTold (i := 11) rfl) rfl rfl wd_395 ?_
    refine s_callVI (c := 4) (n := 27) hX cls4 (vk125 (by omega)) lk_RX4_165 (dec_of D_X4_isTold (i := 12) rfl) rfl (by decide) (c_X4_find (l := _) hG _ _ _ (vk102 (by omega)) (by decide) _) rfl rfl (Nat.le_of_ble_eq_true rfl) (fun q2 => ?_)
    refine s_if_ge (tgt := 45) (n := 30) hX (dec_of D_X4_isTold (i := 13) rfl) rfl rfl ?_ ?_
    · refine s_iconst (v := 1) (n := 46) hX (dec_of D_X4_isTold (i := 21) rfl) rfl (by decide) ?_
      refine s_goto (n := 50) hX (dec_of D_X4_isTold (i := 22) rfl) rfl ?_
      exact s_zret hX hR (dec_of D_X4_isTold (i := 24) rfl) rfl rfl
    · refine s_aload_n 0 (n := 31) hX (dec_of D_X4_isTold (i := 14) rfl) rfl rfl rfl ?_
      refine s_aload_n 0 (n := 32) hX (dec_of D_X4_isTold (i := 15) rfl) rfl rfl rfl ?_
      refine s_getR (c := 4) (p := 3) (k' := 103) (n := 35) hX cls4 (vk125 (by omega)) (dec_of D_X4_isTold (i := 16) rfl) rfl rfl wd_159 ?_
      refine s_aload_n 1 (n := 36) hX (dec_of D_X4_isTold (i := 17) rfl) rfl rfl rfl ?_
      refine s_getI (c := 5) (p := 11) (id := 531) (n := 39) hX cls5 (vk126 (by omega)) (dec_of D_X4_isTold (i := 18) rfl) rfl rfl wd_401 ?_
      refine s_callVI (c := 4) (n := 42) hX cls4 (vk125 (by omega)) lk_RX4_165 (dec_of D_X4_isTold (i := 19) rfl) rfl (by decide) (c_X4_find (l := _) hG _ _ _ (vk103 (by omega)) (by decide) _) rfl rfl (Nat.le_of_ble_eq_true rfl) (fun q3 => ?_)
      refine s_if_lt (tgt := 49) (n := 45) hX (dec_of D_X4_isTold (i := 20) rfl) rfl rfl ?_ ?_
      · refine s_iconst (v := 0) (n := 50) hX (dec_of D_X4_isTold (i := 23) rfl) rfl (by decide) ?_
        exact s_zret hX hR (dec_of D_X4_isTold (i := 24) rfl) rfl rfl
      · refine s_iconst (v := 1) (n := 46) hX (dec_of D_X4_isTold (i := 21) rfl) rfl (by decide) ?_
        refine s_goto (n := 50) hX (dec_of D_X4_isTold (i := 22) rfl) rfl ?_
        exact s_zret hX hR (dec_of D_X4_isTold (i := 24) rfl) rfl rfl
theorem lk_RX4_54 : LkV RX4 54 RX4 yX4_isAt cX4_isAt 2 (some .boolean) 1 := ⟨wd_574, wd_575, wd_576, wd_84, wd_577, by decide +kernel, by decide⟩
theorem lk_RX4_94 : LkV RX4 94 RX4 yX4_advance cX4_advance 1 none 0 := ⟨wd_590, wd_591, wd_592, wd_84, wd_593, by decide +kernel, by decide⟩
theorem lk_RX4_161 : LkV RX4 161 RX4 yX4_isTold cX4_isTold 2 (some .boolean) 1 := ⟨wd_598, wd_599, wd_600, wd_84, wd_601, by decide +kernel, by decide⟩
theorem lk_RX4_81 : LkV RX4 81 RX4 yX4_blame cX4_blame 2 none 1 := ⟨wd_586, wd_587, wd_588, wd_84, wd_589, by decide +kernel, by decide⟩
def T_X4_newName : List (Nat × Instr × Nat) := [(0, .aload_n 0, 1), (1, .getfield 12, 3), (4, .getfield 158, 3), (7, .aload_n 0, 1), (8, .getfield 41, 3), (11, .laload, 1), (12, .lstore_n 2, 1), (13, .aload_n 0, 1), (14, .bipush 14, 2), (16, .invokevirtual 54, 3), (19, .ifCond .ne 11, 3), (22, .aload_n 0, 1), (23, .iconst 1, 1), (24, .invokevirtual 81, 3), (27, .goto 16, 3), (30, .aload_n 0, 1), (31, .aload_n 1, 1), (32, .invokevirtual 161, 3), (35, .ifCond .eq 8, 3), (38, .aload_n 0, 1), (39, .iconst 3, 1), (40, .invokevirtual 81, 3), (43, .aload_n 0, 1), (44, .invokevirtual 94, 3), (47, .lload_n 2, 1), (48, .lreturn, 1)]
theorem D_X4_newName : dchk cX4_newName T_X4_newName = true := by decide +kernel
def Rd_newName (σ : ST) (i1 : Nat) : Option (Int64 × ST) :=
  bd_ (ldL σ 104 0 (gF σ 460 0)) (fun v1 => bd_ (Rd_isAt (σ) 14) (fun q2 => lk_ (fun kk4 => (if q2 = 0 then bd_ (Rd_blame (σ) 1) (fun q9 => kk4 q9) else bd_ (Rd_isTold (σ) i1) (fun q7 => (if q7 = 0 then kk4 (σ) else bd_ (Rd_blame (σ) 3) (fun q8 => kk4 q8))))) (fun (j3 : ST) => bd_ (Rd_advance j3) (fun q6 => some (v1, q6)))))
set_option maxHeartbeats 4000000 in
set_option maxRecDepth 100000 in
theorem c_X4_newName {G : GW} (hG : Good G) {l : Launch} (σ : ST) (i1 : Nat) (h1 : i1 < 2) : Ctr G l yX4_newName cX4_newName 4 (some .long) 2 [.ref (ga G 125 0), .ref (ga G 126 i1)] σ oK (Rd_newName σ i1) := by
  refine ctr_of hG (by decide) (Nat.le_of_ble_eq_true rfl) ?_
  intro X hXl hR hX
  have hX : Ok G X cX4_newName 4 RX4 2 := hX
  unfold Rd_newName
  show Sim G X 4 (MQX G X oK) σ 0 [(0, .ref (ga G 125 0)), (1, .ref (ga G 126 i1))] [] _
  refine s_aload_n 0 (n := 1) hX (dec_of D_X4_newName (i := 0) rfl) rfl rfl rfl ?_
  refine s_getR (c := 4) (p := 0) (k' := 128) (n := 4) hX cls4 (vk125 (by omega)) (dec_of D_X4_newName (i := 1) rfl) rfl rfl wd_155 ?_
  refine s_getR (c := 7) (p := 3) (k' := 104) (n := 7) hX cls7 (vk128 (by omega)) (dec_of D_X4_newName (i := 2) rfl) rfl rfl wd_133 ?_
  refine s_aload_n 0 (n := 8) hX (dec_of D_X4_newName (i := 3) rfl) rfl rfl rfl ?_
  refine s_getI (c := 4) (p := 4) (id := 460) (n := 11) hX cls4 (vk125 (by omega)) (dec_of D_X4_newName (i := 4) rfl) rfl rfl wd_160 ?_
  refine s_lald (n := 12) hX (vk104 (by omega)) (by decide) (dec_of D_X4_newName (i := 5) rfl) rfl (fun v1 => ?_)
  refine s_lstore_n (lv' := [(0, _), (1, _), (2, _)]) [1, 2, 0] (n := 13) hX (dec_of D_X4_newName (i := 6) rfl) rfl rfl (by decide) rfl ?_
  refine s_aload_n 0 (n := 14) hX (dec_of D_X4_newName (i := 7) rfl) rfl rfl rfl ?_
  refine s_bipush (v := 14) (n := 16) hX (dec_of D_X4_newName (i := 8) rfl) rfl (by decide) ?_
  refine s_callVI (c := 4) (n := 19) hX cls4 (vk125 (by omega)) lk_RX4_54 (dec_of D_X4_newName (i := 9) rfl) rfl (by decide) (c_X4_isAt (l := _) hG _ _) rfl rfl (Nat.le_of_ble_eq_true rfl) (fun q2 => ?_)
  refine s_lk (pcj := 43) (Sf := fun (j3 : ST) => j3) (lvf := fun (j3 : ST) => [(0, .ref (ga G 125 0)), (2, .long v1)]) (stf := fun (j3 : ST) => []) (fun j3 => ?_) (fun kk4 hkk5 => ?_)
  · refine s_aload_n 0 (n := 44) hX (dec_of D_X4_newName (i := 22) rfl) rfl rfl rfl ?_
    refine s_callVV (c := 4) (n := 47) hX cls4 (vk125 (by omega)) lk_RX4_94 (dec_of D_X4_newName (i := 23) rfl) rfl (by decide) (c_X4_advance (l := _) hG _) rfl rfl (Nat.le_of_ble_eq_true rfl) (fun q6 => ?_)
    refine s_lload_n 1 (n := 48) hX (dec_of D_X4_newName (i := 24) rfl) rfl rfl rfl ?_
    exact s_lret hX hR (dec_of D_X4_newName (i := 25) rfl) rfl
  · refine s_if_ne (tgt := 30) (n := 22) hX (dec_of D_X4_newName (i := 10) rfl) rfl rfl ?_ ?_
    · refine s_aload_n 0 (n := 31) hX (dec_of D_X4_newName (i := 15) rfl) rfl rfl rfl ?_
      refine s_aload_n 1 (n := 32) hX (dec_of D_X4_newName (i := 16) rfl) rfl rfl rfl ?_
      refine s_callVI (c := 4) (n := 35) hX cls4 (vk125 (by omega)) lk_RX4_161 (dec_of D_X4_newName (i := 17) rfl) rfl (by decide) (c_X4_isTold (l := _) hG _ _ (by omega)) rfl rfl (Nat.le_of_ble_eq_true rfl) (fun q7 => ?_)
      refine s_if_eq (tgt := 43) (n := 38) hX (dec_of D_X4_newName (i := 18) rfl) rfl rfl ?_ ?_
      · exact s_sub [0, 2] rfl (hkk5 (σ))
      · refine s_aload_n 0 (n := 39) hX (dec_of D_X4_newName (i := 19) rfl) rfl rfl rfl ?_
        refine s_iconst (v := 3) (n := 40) hX (dec_of D_X4_newName (i := 20) rfl) rfl (by decide) ?_
        refine s_callVV (c := 4) (n := 43) hX cls4 (vk125 (by omega)) lk_RX4_81 (dec_of D_X4_newName (i := 21) rfl) rfl (by decide) (c_X4_blame (l := _) hG _ _) rfl rfl (Nat.le_of_ble_eq_true rfl) (fun q8 => ?_)
        exact s_sub [0, 2] rfl (hkk5 q8)
    · refine s_aload_n 0 (n := 23) hX (dec_of D_X4_newName (i := 11) rfl) rfl rfl rfl ?_
      refine s_iconst (v := 1) (n := 24) hX (dec_of D_X4_newName (i := 12) rfl) rfl (by decide) ?_
      refine s_callVV (c := 4) (n := 27) hX cls4 (vk125 (by omega)) lk_RX4_81 (dec_of D_X4_newName (i := 13) rfl) rfl (by decide) (c_X4_blame (l := _) hG _ _) rfl rfl (Nat.le_of_ble_eq_true rfl) (fun q9 => ?_)
      refine s_goto (n := 43) hX (dec_of D_X4_newName (i := 14) rfl) rfl ?_
      exact s_sub [0, 2] rfl (hkk5 q9)
def T_X4_oneOf : List (Nat × Instr × Nat) := [(0, .aload_n 0, 1), (1, .getfield 12, 3), (4, .getfield 62, 3), (7, .aload_n 0, 1), (8, .getfield 41, 3), (11, .iaload, 1), (12, .istore_n 3, 1), (13, .iload_n 3, 1), (14, .iload_n 1, 1), (15, .if_icmp .lt 8, 3), (18, .iload_n 3, 1), (19, .iload_n 2, 1), (20, .if_icmp .le 8, 3), (23, .aload_n 0, 1), (24, .iconst 1, 1), (25, .invokevirtual 81, 3), (28, .aload_n 0, 1), (29, .invokevirtual 94, 3), (32, .iload_n 3, 1), (33, .iload_n 1, 1), (34, .isub, 1), (35, .ireturn, 1)]
theorem D_X4_oneOf : dchk cX4_oneOf T_X4_oneOf = true := by decide +kernel
def Rd_oneOf (σ : ST) (a1 : Int32) (a2 : Int32) : Option (Int32 × ST) :=
  bd_ (ldI σ 22 0 (gF σ 460 0)) (fun v1 => lk_ (fun kk3 => lk_ (fun kk7 => (if v1 < a1 then kk7 () else (if v1 ≤ a2 then kk3 (σ) else kk7 ()))) (fun (j6 : Unit) => bd_ (Rd_blame (σ) 1) (fun q9 => kk3 q9))) (fun (j2 : ST) => bd_ (Rd_advance j2) (fun q5 => some ((v1 - a1), q5))))
set_option maxHeartbeats 4000000 in
set_option maxRecDepth 100000 in
theorem c_X4_oneOf {G : GW} (hG : Good G) {l : Launch} (σ : ST) (a1 : Int32) (a2 : Int32) : Ctr G l yX4_oneOf cX4_oneOf 4 (some .int) 1 [.ref (ga G 125 0), .int a1, .int a2] σ oP (Rd_oneOf σ a1 a2) := by
  refine ctr_of hG (by decide) (Nat.le_of_ble_eq_true rfl) ?_
  intro X hXl hR hX
  have hX : Ok G X cX4_oneOf 4 RX4 1 := hX
  unfold Rd_oneOf
  show Sim G X 4 (MQX G X oP) σ 0 [(0, .ref (ga G 125 0)), (1, .int a1), (2, .int a2)] [] _
  refine s_aload_n 0 (n := 1) hX (dec_of D_X4_oneOf (i := 0) rfl) rfl rfl rfl ?_
  refine s_getR (c := 4) (p := 0) (k' := 128) (n := 4) hX cls4 (vk125 (by omega)) (dec_of D_X4_oneOf (i := 1) rfl) rfl rfl wd_155 ?_
  refine s_getR (c := 7) (p := 1) (k' := 22) (n := 7) hX cls7 (vk128 (by omega)) (dec_of D_X4_oneOf (i := 2) rfl) rfl rfl wd_129 ?_
  refine s_aload_n 0 (n := 8) hX (dec_of D_X4_oneOf (i := 3) rfl) rfl rfl rfl ?_
  refine s_getI (c := 4) (p := 4) (id := 460) (n := 11) hX cls4 (vk125 (by omega)) (dec_of D_X4_oneOf (i := 4) rfl) rfl rfl wd_160 ?_
  refine s_iald (n := 12) hX (vk22 (by omega)) (by decide) (dec_of D_X4_oneOf (i := 5) rfl) rfl (fun v1 => ?_)
  refine s_istore_n (lv' := [(0, _), (1, _), (2, _), (3, _)]) [1, 2, 3, 0] (n := 13) hX (dec_of D_X4_oneOf (i := 6) rfl) rfl rfl (by decide) rfl ?_
  refine s_iload_n 3 (n := 14) hX (dec_of D_X4_oneOf (i := 7) rfl) rfl rfl rfl ?_
  refine s_iload_n 1 (n := 15) hX (dec_of D_X4_oneOf (i := 8) rfl) rfl rfl rfl ?_
  refine s_lk (pcj := 28) (Sf := fun (j2 : ST) => j2) (lvf := fun (j2 : ST) => [(0, .ref (ga G 125 0)), (1, .int a1), (3, .int v1)]) (stf := fun (j2 : ST) => []) (fun j2 => ?_) (fun kk3 hkk4 => ?_)
  · refine s_aload_n 0 (n := 29) hX (dec_of D_X4_oneOf (i := 16) rfl) rfl rfl rfl ?_
    refine s_callVV (c := 4) (n := 32) hX cls4 (vk125 (by omega)) lk_RX4_94 (dec_of D_X4_oneOf (i := 17) rfl) rfl (by decide) (c_X4_advance (l := _) hG _) rfl rfl (Nat.le_of_ble_eq_true rfl) (fun q5 => ?_)
    refine s_iload_n 2 (n := 33) hX (dec_of D_X4_oneOf (i := 18) rfl) rfl rfl rfl ?_
    refine s_iload_n 1 (n := 34) hX (dec_of D_X4_oneOf (i := 19) rfl) rfl rfl rfl ?_
    refine s_isub (n := 35) hX (dec_of D_X4_oneOf (i := 20) rfl) rfl ?_
    exact s_iret hX hR (dec_of D_X4_oneOf (i := 21) rfl) rfl
  · refine s_lk (pcj := 23) (Sf := fun (j6 : Unit) => σ) (lvf := fun (j6 : Unit) => [(0, .ref (ga G 125 0)), (1, .int a1), (3, .int v1)]) (stf := fun (j6 : Unit) => []) (fun j6 => ?_) (fun kk7 hkk8 => ?_)
    · refine s_aload_n 0 (n := 24) hX (dec_of D_X4_oneOf (i := 13) rfl) rfl rfl rfl ?_
      refine s_iconst (v := 1) (n := 25) hX (dec_of D_X4_oneOf (i := 14) rfl) rfl (by decide) ?_
      refine s_callVV (c := 4) (n := 28) hX cls4 (vk125 (by omega)) lk_RX4_81 (dec_of D_X4_oneOf (i := 15) rfl) rfl (by decide) (c_X4_blame (l := _) hG _ _) rfl rfl (Nat.le_of_ble_eq_true rfl) (fun q9 => ?_)
      exact s_sub [0, 1, 2] rfl (hkk4 q9)
    · refine s_icmp_lt (tgt := 23) (n := 18) hX (dec_of D_X4_oneOf (i := 9) rfl) rfl rfl ?_ ?_
      · exact s_sub [0, 1, 3] rfl (hkk8 ())
      · refine s_iload_n 3 (n := 19) hX (dec_of D_X4_oneOf (i := 10) rfl) rfl rfl rfl ?_
        refine s_iload_n 2 (n := 20) hX (dec_of D_X4_oneOf (i := 11) rfl) rfl rfl rfl ?_
        refine s_icmp_le (tgt := 28) (n := 23) hX (dec_of D_X4_oneOf (i := 12) rfl) rfl rfl ?_ ?_
        · exact s_sub [0, 1, 3] rfl (hkk4 (σ))
        · exact s_sub [0, 1, 3] rfl (hkk8 ())
def T_X4_numberIn : List (Nat × Instr × Nat) := [(0, .aload_n 0, 1), (1, .getfield 12, 3), (4, .getfield 158, 3), (7, .aload_n 0, 1), (8, .getfield 41, 3), (11, .laload, 1), (12, .lstore_n 3, 1), (13, .aload_n 0, 1), (14, .bipush 15, 2), (16, .invokevirtual 54, 3), (19, .ifCond .ne 11, 3), (22, .aload_n 0, 1), (23, .iconst 1, 1), (24, .invokevirtual 81, 3), (27, .goto 22, 3), (30, .lload_n 3, 1), (31, .iload_n 1, 1), (32, .i2l, 1), (33, .lcmp, 1), (34, .ifCond .lt 10, 3), (37, .lload_n 3, 1), (38, .iload_n 2, 1), (39, .i2l, 1), (40, .lcmp, 1), (41, .ifCond .le 8, 3), (44, .aload_n 0, 1), (45, .iconst 2, 1), (46, .invokevirtual 81, 3), (49, .aload_n 0, 1), (50, .invokevirtual 94, 3), (53, .lload_n 3, 1), (54, .l2i, 1), (55, .ireturn, 1)]
theorem D_X4_numberIn : dchk cX4_numberIn T_X4_numberIn = true := by decide +kernel
def Rd_numberIn (σ : ST) (a1 : Int32) (a2 : Int32) : Option (Int32 × ST) :=
  bd_ (ldL σ 104 0 (gF σ 460 0)) (fun v1 => bd_ (Rd_isAt (σ) 15) (fun q2 => lk_ (fun kk4 => (if q2 = 0 then bd_ (Rd_blame (σ) 1) (fun q11 => kk4 q11) else lk_ (fun kk8 => (if (lg_cmp v1 (Int32.toInt64 a1)) < 0 then kk8 () else (if (lg_cmp v1 (Int32.toInt64 a2)) ≤ 0 then kk4 (σ) else kk8 ()))) (fun (j7 : Unit) => bd_ (Rd_blame (σ) 2) (fun q10 => kk4 q10)))) (fun (j3 : ST) => bd_ (Rd_advance j3) (fun q6 => some ((Int64.toInt32 v1), q6)))))
set_option maxHeartbeats 4000000 in
set_option maxRecDepth 100000 in
theorem c_X4_numberIn {G : GW} (hG : Good G) {l : Launch} (σ : ST) (a1 : Int32) (a2 : Int32) : Ctr G l yX4_numberIn cX4_numberIn 5 (some .int) 1 [.ref (ga G 125 0), .int a1, .int a2] σ oP (Rd_numberIn σ a1 a2) := by
  refine ctr_of hG (by decide) (Nat.le_of_ble_eq_true rfl) ?_
  intro X hXl hR hX
  have hX : Ok G X cX4_numberIn 5 RX4 1 := hX
  unfold Rd_numberIn
  show Sim G X 5 (MQX G X oP) σ 0 [(0, .ref (ga G 125 0)), (1, .int a1), (2, .int a2)] [] _
  refine s_aload_n 0 (n := 1) hX (dec_of D_X4_numberIn (i := 0) rfl) rfl rfl rfl ?_
  refine s_getR (c := 4) (p := 0) (k' := 128) (n := 4) hX cls4 (vk125 (by omega)) (dec_of D_X4_numberIn (i := 1) rfl) rfl rfl wd_155 ?_
  refine s_getR (c := 7) (p := 3) (k' := 104) (n := 7) hX cls7 (vk128 (by omega)) (dec_of D_X4_numberIn (i := 2) rfl) rfl rfl wd_133 ?_
  refine s_aload_n 0 (n := 8) hX (dec_of D_X4_numberIn (i := 3) rfl) rfl rfl rfl ?_
  refine s_getI (c := 4) (p := 4) (id := 460) (n := 11) hX cls4 (vk125 (by omega)) (dec_of D_X4_numberIn (i := 4) rfl) rfl rfl wd_160 ?_
  refine s_lald (n := 12) hX (vk104 (by omega)) (by decide) (dec_of D_X4_numberIn (i := 5) rfl) rfl (fun v1 => ?_)
  refine s_lstore_n (lv' := [(0, _), (1, _), (2, _), (3, _)]) [1, 2, 3, 0] (n := 13) hX (dec_of D_X4_numberIn (i := 6) rfl) rfl rfl (by decide) rfl ?_
  refine s_aload_n 0 (n := 14) hX (dec_of D_X4_numberIn (i := 7) rfl) rfl rfl rfl ?_
  refine s_bipush (v := 15) (n := 16) hX (dec_of D_X4_numberIn (i := 8) rfl) rfl (by decide) ?_
  refine s_callVI (c := 4) (n := 19) hX cls4 (vk125 (by omega)) lk_RX4_54 (dec_of D_X4_numberIn (i := 9) rfl) rfl (by decide) (c_X4_isAt (l := _) hG _ _) rfl rfl (Nat.le_of_ble_eq_true rfl) (fun q2 => ?_)
  refine s_lk (pcj := 49) (Sf := fun (j3 : ST) => j3) (lvf := fun (j3 : ST) => [(0, .ref (ga G 125 0)), (3, .long v1)]) (stf := fun (j3 : ST) => []) (fun j3 => ?_) (fun kk4 hkk5 => ?_)
  · refine s_aload_n 0 (n := 50) hX (dec_of D_X4_numberIn (i := 28) rfl) rfl rfl rfl ?_
    refine s_callVV (c := 4) (n := 53) hX cls4 (vk125 (by omega)) lk_RX4_94 (dec_of D_X4_numberIn (i := 29) rfl) rfl (by decide) (c_X4_advance (l := _) hG _) rfl rfl (Nat.le_of_ble_eq_true rfl) (fun q6 => ?_)
    refine s_lload_n 1 (n := 54) hX (dec_of D_X4_numberIn (i := 30) rfl) rfl rfl rfl ?_
    refine s_l2i (n := 55) hX (dec_of D_X4_numberIn (i := 31) rfl) rfl ?_
    exact s_iret hX hR (dec_of D_X4_numberIn (i := 32) rfl) rfl
  · refine s_if_ne (tgt := 30) (n := 22) hX (dec_of D_X4_numberIn (i := 10) rfl) rfl rfl ?_ ?_
    · refine s_lload_n 3 (n := 31) hX (dec_of D_X4_numberIn (i := 15) rfl) rfl rfl rfl ?_
      refine s_iload_n 1 (n := 32) hX (dec_of D_X4_numberIn (i := 16) rfl) rfl rfl rfl ?_
      refine s_i2l (n := 33) hX (dec_of D_X4_numberIn (i := 17) rfl) rfl ?_
      refine s_lcmp (n := 34) hX (dec_of D_X4_numberIn (i := 18) rfl) rfl ?_
      refine s_lk (pcj := 44) (Sf := fun (j7 : Unit) => σ) (lvf := fun (j7 : Unit) => [(0, .ref (ga G 125 0)), (3, .long v1)]) (stf := fun (j7 : Unit) => []) (fun j7 => ?_) (fun kk8 hkk9 => ?_)
      · refine s_aload_n 0 (n := 45) hX (dec_of D_X4_numberIn (i := 25) rfl) rfl rfl rfl ?_
        refine s_iconst (v := 2) (n := 46) hX (dec_of D_X4_numberIn (i := 26) rfl) rfl (by decide) ?_
        refine s_callVV (c := 4) (n := 49) hX cls4 (vk125 (by omega)) lk_RX4_81 (dec_of D_X4_numberIn (i := 27) rfl) rfl (by decide) (c_X4_blame (l := _) hG _ _) rfl rfl (Nat.le_of_ble_eq_true rfl) (fun q10 => ?_)
        exact s_sub [0, 1] rfl (hkk5 q10)
      · refine s_if_lt (tgt := 44) (n := 37) hX (dec_of D_X4_numberIn (i := 19) rfl) rfl rfl ?_ ?_
        · exact s_sub [0, 3] rfl (hkk9 ())
        · refine s_lload_n 3 (n := 38) hX (dec_of D_X4_numberIn (i := 20) rfl) rfl rfl rfl ?_
          refine s_iload_n 2 (n := 39) hX (dec_of D_X4_numberIn (i := 21) rfl) rfl rfl rfl ?_
          refine s_i2l (n := 40) hX (dec_of D_X4_numberIn (i := 22) rfl) rfl ?_
          refine s_lcmp (n := 41) hX (dec_of D_X4_numberIn (i := 23) rfl) rfl ?_
          refine s_if_le (tgt := 49) (n := 44) hX (dec_of D_X4_numberIn (i := 24) rfl) rfl rfl ?_ ?_
          · exact s_sub [0, 3] rfl (hkk5 (σ))
          · exact s_sub [0, 3] rfl (hkk9 ())
    · refine s_aload_n 0 (n := 23) hX (dec_of D_X4_numberIn (i := 11) rfl) rfl rfl rfl ?_
      refine s_iconst (v := 1) (n := 24) hX (dec_of D_X4_numberIn (i := 12) rfl) rfl (by decide) ?_
      refine s_callVV (c := 4) (n := 27) hX cls4 (vk125 (by omega)) lk_RX4_81 (dec_of D_X4_numberIn (i := 13) rfl) rfl (by decide) (c_X4_blame (l := _) hG _ _) rfl rfl (Nat.le_of_ble_eq_true rfl) (fun q11 => ?_)
      refine s_goto (n := 49) hX (dec_of D_X4_numberIn (i := 14) rfl) rfl ?_
      exact s_sub [0, 3] rfl (hkk5 q11)
theorem lk_RX4_97 : LkV RX4 97 RX4 yX4_newName cX4_newName 4 (some .long) 1 := ⟨wd_594, wd_595, wd_596, wd_84, wd_597, by decide +kernel, by decide⟩
theorem lk_RX4_84 : LkV RX4 84 RX4 yX4_oneOf cX4_oneOf 4 (some .int) 2 := ⟨wd_606, wd_607, wd_608, wd_84, wd_609, by decide +kernel, by decide⟩
theorem lk_RX4_110 : LkV RX4 110 RX4 yX4_numberIn cX4_numberIn 5 (some .int) 2 := ⟨wd_610, wd_611, wd_612, wd_84, wd_613, by decide +kernel, by decide⟩
def T_X4_readLand : List (Nat × Instr × Nat) := [(0, .aload_n 1, 1), (1, .getfield 91, 3), (4, .istore_n 2, 1), (5, .iload_n 2, 1), (6, .bipush 6, 2), (8, .if_icmp .lt 9, 3), (11, .aload_n 0, 1), (12, .iconst 2, 1), (13, .invokevirtual 81, 3), (16, .return_, 1), (17, .aload_n 0, 1), (18, .invokevirtual 94, 3), (21, .aload_n 0, 1), (22, .getfield 18, 3), (25, .iload_n 2, 1), (26, .aload_n 0, 1), (27, .aload_n 1, 1), (28, .invokevirtual 97, 3), (31, .lastore, 1), (32, .aload_n 1, 1), (33, .getfield 101, 3), (36, .iload_n 2, 1), (37, .aload_n 0, 1), (38, .bipush 6, 2), (40, .bipush 8, 2), (42, .invokevirtual 84, 3), (45, .iastore, 1), (46, .aload_n 0, 1), (47, .bipush 9, 2), (49, .bipush 11, 2), (51, .invokevirtual 84, 3), (54, .istore_n 3, 1), (55, .aload_n 1, 1), (56, .getfield 104, 3), (59, .iload_n 2, 1), (60, .iload_n 3, 1), (61, .ifCond .ne 7, 3), (64, .iconst 3, 1), (65, .goto 4, 3), (68, .iload_n 3, 1), (69, .iastore, 1), (70, .aload_n 1, 1), (71, .getfield 107, 3), (74, .iload_n 2, 1), (75, .aload_n 0, 1), (76, .iconst 1, 1), (77, .sipush 999, 3), (80, .invokevirtual 110, 3), (83, .iastore, 1), (84, .aload_n 1, 1), (85, .dup, 1), (86, .getfield 91, 3), (89, .iconst 1, 1), (90, .iadd, 1), (91, .putfield 91, 3), (94, .return_, 1)]
theorem D_X4_readLand : dchk cX4_readLand T_X4_readLand = true := by decide +kernel
def Rd_readLand (σ : ST) (i1 : Nat) : Option ST :=
  lt_ ((gF σ 529 i1)) (fun x1 => (if x1 < 6 then bd_ (Rd_advance (σ)) (fun q2 => bd_ (Rd_newName q2 i1) (fun q3 => bd_ (stL q3.2 101 0 x1 q3.1) (fun s4 => bd_ (Rd_oneOf s4 6 8) (fun q5 => bd_ (stI q5.2 14 i1 x1 q5.1) (fun s6 => bd_ (Rd_oneOf s6 9 11) (fun q7 => lk_ (fun kk9 => (if q7.1 = 0 then kk9 3 else kk9 q7.1)) (fun (j8 : Int32) => bd_ (stI q7.2 15 i1 x1 j8) (fun s11 => bd_ (Rd_numberIn s11 1 999) (fun q12 => bd_ (stI q12.2 13 i1 x1 q12.1) (fun s13 => lt_ (setF s13 529 i1 ((gF s13 529 i1) + 1)) (fun s14 => some s14))))))))))) else bd_ (Rd_blame (σ) 2) (fun q15 => some q15)))
set_option maxHeartbeats 4000000 in
set_option maxRecDepth 100000 in
theorem c_X4_readLand {G : GW} (hG : Good G) {l : Launch} (σ : ST) (i1 : Nat) (h1 : i1 < 2) : Ctr G l yX4_readLand cX4_readLand 4 none 3 [.ref (ga G 125 0), .ref (ga G 126 i1)] σ oV (Rd_readLand σ i1) := by
  refine ctr_of hG (by decide) (Nat.le_of_ble_eq_true rfl) ?_
  intro X hXl hR hX
  have hX : Ok G X cX4_readLand 4 RX4 3 := hX
  unfold Rd_readLand
  show Sim G X 4 (MQX G X oV) σ 0 [(0, .ref (ga G 125 0)), (1, .ref (ga G 126 i1))] [] _
  refine s_aload_n 1 (n := 1) hX (dec_of D_X4_readLand (i := 0) rfl) rfl rfl rfl ?_
  refine s_getI (c := 5) (p := 9) (id := 529) (n := 4) hX cls5 (vk126 (by omega)) (dec_of D_X4_readLand (i := 1) rfl) rfl rfl wd_389 ?_
  refine s_topi (fun x1 => ?_)
  refine s_istore_n (lv' := [(0, _), (1, _), (2, _)]) [1, 2, 0] (n := 5) hX (dec_of D_X4_readLand (i := 2) rfl) rfl rfl (by decide) rfl ?_
  refine s_iload_n 2 (n := 6) hX (dec_of D_X4_readLand (i := 3) rfl) rfl rfl rfl ?_
  refine s_bipush (v := 6) (n := 8) hX (dec_of D_X4_readLand (i := 4) rfl) rfl (by decide) ?_
  refine s_icmp_lt (tgt := 17) (n := 11) hX (dec_of D_X4_readLand (i := 5) rfl) rfl rfl ?_ ?_
  · refine s_aload_n 0 (n := 18) hX (dec_of D_X4_readLand (i := 10) rfl) rfl rfl rfl ?_
    refine s_callVV (c := 4) (n := 21) hX cls4 (vk125 (by omega)) lk_RX4_94 (dec_of D_X4_readLand (i := 11) rfl) rfl (by decide) (c_X4_advance (l := _) hG _) rfl rfl (Nat.le_of_ble_eq_true rfl) (fun q2 => ?_)
    refine s_aload_n 0 (n := 22) hX (dec_of D_X4_readLand (i := 12) rfl) rfl rfl rfl ?_
    refine s_getR (c := 4) (p := 1) (k' := 101) (n := 25) hX cls4 (vk125 (by omega)) (dec_of D_X4_readLand (i := 13) rfl) rfl rfl wd_157 ?_
    refine s_iload_n 2 (n := 26) hX (dec_of D_X4_readLand (i := 14) rfl) rfl rfl rfl ?_
    refine s_aload_n 0 (n := 27) hX (dec_of D_X4_readLand (i := 15) rfl) rfl rfl rfl ?_
    refine s_aload_n 1 (n := 28) hX (dec_of D_X4_readLand (i := 16) rfl) rfl rfl rfl ?_
    refine s_callVK (c := 4) (n := 31) hX cls4 (vk125 (by omega)) lk_RX4_97 (dec_of D_X4_readLand (i := 17) rfl) rfl (by decide) (c_X4_newName (l := _) hG _ _ (by omega)) rfl rfl (Nat.le_of_ble_eq_true rfl) (fun q3 => ?_)
    refine s_last (n := 32) hX (vk101 (by omega)) (by decide) (dec_of D_X4_readLand (i := 18) rfl) rfl (fun s4 => ?_)
    refine s_aload_n 1 (n := 33) hX (dec_of D_X4_readLand (i := 19) rfl) rfl rfl rfl ?_
    refine s_getR (c := 5) (p := 1) (k' := 14) (n := 36) hX cls5 (vk126 (by omega)) (dec_of D_X4_readLand (i := 20) rfl) rfl rfl wd_360 ?_
    refine s_iload_n 2 (n := 37) hX (dec_of D_X4_readLand (i := 21) rfl) rfl rfl rfl ?_
    refine s_aload_n 0 (n := 38) hX (dec_of D_X4_readLand (i := 22) rfl) rfl rfl rfl ?_
    refine s_bipush (v := 6) (n := 40) hX (dec_of D_X4_readLand (i := 23) rfl) rfl (by decide) ?_
    refine s_bipush (v := 8) (n := 42) hX (dec_of D_X4_readLand (i := 24) rfl) rfl (by decide) ?_
    refine s_callVP (c := 4) (n := 45) hX cls4 (vk125 (by omega)) lk_RX4_84 (dec_of D_X4_readLand (i := 25) rfl) rfl (by decide) (c_X4_oneOf (l := _) hG _ _ _) rfl rfl (Nat.le_of_ble_eq_true rfl) (fun q5 => ?_)
    refine s_iast (n := 46) hX (vk14 (by omega)) (by decide) (dec_of D_X4_readLand (i := 26) rfl) rfl (fun s6 => ?_)
    refine s_aload_n 0 (n := 47) hX (dec_of D_X4_readLand (i := 27) rfl) rfl rfl rfl ?_
    refine s_bipush (v := 9) (n := 49) hX (dec_of D_X4_readLand (i := 28) rfl) rfl (by decide) ?_
    refine s_bipush (v := 11) (n := 51) hX (dec_of D_X4_readLand (i := 29) rfl) rfl (by decide) ?_
    refine s_callVP (c := 4) (n := 54) hX cls4 (vk125 (by omega)) lk_RX4_84 (dec_of D_X4_readLand (i := 30) rfl) rfl (by decide) (c_X4_oneOf (l := _) hG _ _ _) rfl rfl (Nat.le_of_ble_eq_true rfl) (fun q7 => ?_)
    refine s_istore_n (lv' := [(0, _), (1, _), (2, _), (3, _)]) [1, 2, 3, 0] (n := 55) hX (dec_of D_X4_readLand (i := 31) rfl) rfl rfl (by decide) rfl ?_
    refine s_aload_n 1 (n := 56) hX (dec_of D_X4_readLand (i := 32) rfl) rfl rfl rfl ?_
    refine s_getR (c := 5) (p := 2) (k' := 15) (n := 59) hX cls5 (vk126 (by omega)) (dec_of D_X4_readLand (i := 33) rfl) rfl rfl wd_363 ?_
    refine s_iload_n 2 (n := 60) hX (dec_of D_X4_readLand (i := 34) rfl) rfl rfl rfl ?_
    refine s_iload_n 3 (n := 61) hX (dec_of D_X4_readLand (i := 35) rfl) rfl rfl rfl ?_
    refine s_lk (pcj := 69) (Sf := fun (j8 : Int32) => q7.2) (lvf := fun (j8 : Int32) => [(0, .ref (ga G 125 0)), (1, .ref (ga G 126 i1)), (2, .int x1)]) (stf := fun (j8 : Int32) => [.int j8, .int x1, .ref (ga G 15 i1)]) (fun j8 => ?_) (fun kk9 hkk10 => ?_)
    · refine s_iast (n := 70) hX (vk15 (by omega)) (by decide) (dec_of D_X4_readLand (i := 40) rfl) rfl (fun s11 => ?_)
      refine s_aload_n 1 (n := 71) hX (dec_of D_X4_readLand (i := 41) rfl) rfl rfl rfl ?_
      refine s_getR (c := 5) (p := 0) (k' := 13) (n := 74) hX cls5 (vk126 (by omega)) (dec_of D_X4_readLand (i := 42) rfl) rfl rfl wd_355 ?_
      refine s_iload_n 2 (n := 75) hX (dec_of D_X4_readLand (i := 43) rfl) rfl rfl rfl ?_
      refine s_aload_n 0 (n := 76) hX (dec_of D_X4_readLand (i := 44) rfl) rfl rfl rfl ?_
      refine s_iconst (v := 1) (n := 77) hX (dec_of D_X4_readLand (i := 45) rfl) rfl (by decide) ?_
      refine s_sipush (v := 999) (n := 80) hX (dec_of D_X4_readLand (i := 46) rfl) rfl (by decide) ?_
      refine s_callVP (c := 4) (n := 83) hX cls4 (vk125 (by omega)) lk_RX4_110 (dec_of D_X4_readLand (i := 47) rfl) rfl (by decide) (c_X4_numberIn (l := _) hG _ _ _) rfl rfl (Nat.le_of_ble_eq_true rfl) (fun q12 => ?_)
      refine s_iast (n := 84) hX (vk13 (by omega)) (by decide) (dec_of D_X4_readLand (i := 48) rfl) rfl (fun s13 => ?_)
      refine s_aload_n 1 (n := 85) hX (dec_of D_X4_readLand (i := 49) rfl) rfl rfl rfl ?_
      refine s_dup (n := 86) hX (dec_of D_X4_readLand (i := 50) rfl) rfl rfl ?_
      refine s_getI (c := 5) (p := 9) (id := 529) (n := 89) hX cls5 (vk126 (by omega)) (dec_of D_X4_readLand (i := 51) rfl) rfl rfl wd_389 ?_
      refine s_iconst (v := 1) (n := 90) hX (dec_of D_X4_readLand (i := 52) rfl) rfl (by decide) ?_
      refine s_iadd (n := 91) hX (dec_of D_X4_readLand (i := 53) rfl) rfl ?_
      refine s_putI (c := 5) (p := 9) (n := 94) hX cls5 (vk126 (by omega)) (dec_of D_X4_readLand (i := 54) rfl) rfl rfl (by decide) wd_389 rfl rfl rfl (fun s14 => ?_)
      exact s_vret hX hR (dec_of D_X4_readLand (i := 55) rfl) rfl
    · refine s_if_ne (tgt := 68) (n := 64) hX (dec_of D_X4_readLand (i := 36) rfl) rfl rfl ?_ ?_
      · refine s_iload_n 3 (n := 69) hX (dec_of D_X4_readLand (i := 39) rfl) rfl rfl rfl ?_
        exact s_sub [0, 1, 2] rfl (hkk10 q7.1)
      · refine s_iconst (v := 3) (n := 65) hX (dec_of D_X4_readLand (i := 37) rfl) rfl (by decide) ?_
        refine s_goto (n := 69) hX (dec_of D_X4_readLand (i := 38) rfl) rfl ?_
        exact s_sub [0, 1, 2] rfl (hkk10 3)
  · refine s_aload_n 0 (n := 12) hX (dec_of D_X4_readLand (i := 6) rfl) rfl rfl rfl ?_
    refine s_iconst (v := 2) (n := 13) hX (dec_of D_X4_readLand (i := 7) rfl) rfl (by decide) ?_
    refine s_callVV (c := 4) (n := 16) hX cls4 (vk125 (by omega)) lk_RX4_81 (dec_of D_X4_readLand (i := 8) rfl) rfl (by decide) (c_X4_blame (l := _) hG _ _) rfl rfl (Nat.le_of_ble_eq_true rfl) (fun q15 => ?_)
    exact s_vret hX hR (dec_of D_X4_readLand (i := 9) rfl) rfl
def T_X4_oldName : List (Nat × Instr × Nat) := [(0, .aload_n 0, 1), (1, .bipush 14, 2), (3, .invokevirtual 54, 3), (6, .ifCond .eq 12, 3), (9, .aload_n 0, 1), (10, .aload_n 1, 1), (11, .iload_n 2, 1), (12, .invokevirtual 165, 3), (15, .goto 4, 3), (18, .iconst (-1), 1), (19, .istore_n 3, 1), (20, .iload_n 3, 1), (21, .ifCond .ge 8, 3), (24, .aload_n 0, 1), (25, .iconst 1, 1), (26, .invokevirtual 81, 3), (29, .iload_n 3, 1), (30, .ireturn, 1)]
theorem D_X4_oldName : dchk cX4_oldName T_X4_oldName = true := by decide +kernel
def Rd_oldName (σ : ST) (k1 i1 : Nat) (a2 : Int32) : Option (Int32 × ST) :=
  bd_ (Rd_isAt (σ) 14) (fun q1 => lk_ (fun kk3 => (if q1 = 0 then kk3 (-1) else bd_ (Rd_find (σ) k1 i1 a2) (fun q6 => kk3 q6))) (fun (j2 : Int32) => (if 0 ≤ j2 then some (j2, σ) else bd_ (Rd_blame (σ) 1) (fun q5 => some (j2, q5)))))
set_option maxHeartbeats 4000000 in
set_option maxRecDepth 100000 in
theorem c_X4_oldName {G : GW} (hG : Good G) {l : Launch} (σ : ST) (k1 i1 : Nat) (hk1 : vld k1 i1) (hk1k : 100 ≤ k1 ∧ k1 < 120) (a2 : Int32) : Ctr G l yX4_oldName cX4_oldName 4 (some .int) 1 [.ref (ga G 125 0), .ref (ga G k1 i1), .int a2] σ oP (Rd_oldName σ k1 i1 a2) := by
  refine ctr_of hG (by decide) (Nat.le_of_ble_eq_true rfl) ?_
  intro X hXl hR hX
  have hX : Ok G X cX4_oldName 4 RX4 1 := hX
  unfold Rd_oldName
  show Sim G X 4 (MQX G X oP) σ 0 [(0, .ref (ga G 125 0)), (1, .ref (ga G k1 i1)), (2, .int a2)] [] _
  refine s_aload_n 0 (n := 1) hX (dec_of D_X4_oldName (i := 0) rfl) rfl rfl rfl ?_
  refine s_bipush (v := 14) (n := 3) hX (dec_of D_X4_oldName (i := 1) rfl) rfl (by decide) ?_
  refine s_callVI (c := 4) (n := 6) hX cls4 (vk125 (by omega)) lk_RX4_54 (dec_of D_X4_oldName (i := 2) rfl) rfl (by decide) (c_X4_isAt (l := _) hG _ _) rfl rfl (Nat.le_of_ble_eq_true rfl) (fun q1 => ?_)
  refine s_lk (pcj := 19) (Sf := fun (j2 : Int32) => σ) (lvf := fun (j2 : Int32) => [(0, .ref (ga G 125 0))]) (stf := fun (j2 : Int32) => [.int j2]) (fun j2 => ?_) (fun kk3 hkk4 => ?_)
  · refine s_istore_n (lv' := [(0, _), (3, _)]) [1, 0] (n := 20) hX (dec_of D_X4_oldName (i := 10) rfl) rfl rfl (by decide) rfl ?_
    refine s_iload_n 1 (n := 21) hX (dec_of D_X4_oldName (i := 11) rfl) rfl rfl rfl ?_
    refine s_if_ge (tgt := 29) (n := 24) hX (dec_of D_X4_oldName (i := 12) rfl) rfl rfl ?_ ?_
    · refine s_iload_n 1 (n := 30) hX (dec_of D_X4_oldName (i := 16) rfl) rfl rfl rfl ?_
      exact s_iret hX hR (dec_of D_X4_oldName (i := 17) rfl) rfl
    · refine s_aload_n 0 (n := 25) hX (dec_of D_X4_oldName (i := 13) rfl) rfl rfl rfl ?_
      refine s_iconst (v := 1) (n := 26) hX (dec_of D_X4_oldName (i := 14) rfl) rfl (by decide) ?_
      refine s_callVV (c := 4) (n := 29) hX cls4 (vk125 (by omega)) lk_RX4_81 (dec_of D_X4_oldName (i := 15) rfl) rfl (by decide) (c_X4_blame (l := _) hG _ _) rfl rfl (Nat.le_of_ble_eq_true rfl) (fun q5 => ?_)
      refine s_iload_n 1 (n := 30) hX (dec_of D_X4_oldName (i := 16) rfl) rfl rfl rfl ?_
      exact s_iret hX hR (dec_of D_X4_oldName (i := 17) rfl) rfl
  · refine s_if_eq (tgt := 18) (n := 9) hX (dec_of D_X4_oldName (i := 3) rfl) rfl rfl ?_ ?_
    · refine s_iconst (v := (-1)) (n := 19) hX (dec_of D_X4_oldName (i := 9) rfl) rfl (by decide) ?_
      exact s_sub [0] rfl (hkk4 (-1))
    · refine s_aload_n 0 (n := 10) hX (dec_of D_X4_oldName (i := 4) rfl) rfl rfl rfl ?_
      refine s_aload_n 1 (n := 11) hX (dec_of D_X4_oldName (i := 5) rfl) rfl rfl rfl ?_
      refine s_iload_n 2 (n := 12) hX (dec_of D_X4_oldName (i := 6) rfl) rfl rfl rfl ?_
      refine s_callVI (c := 4) (n := 15) hX cls4 (vk125 (by omega)) lk_RX4_165 (dec_of D_X4_oldName (i := 7) rfl) rfl (by decide) (c_X4_find (l := _) hG _ _ _ hk1 hk1k _) rfl rfl (Nat.le_of_ble_eq_true rfl) (fun q6 => ?_)
      refine s_goto (n := 19) hX (dec_of D_X4_oldName (i := 8) rfl) rfl ?_
      exact s_sub [0] rfl (hkk4 q6)
theorem lk_RX4_119 : LkV RX4 119 RX4 yX4_oldName cX4_oldName 4 (some .int) 2 := ⟨wd_618, wd_619, wd_620, wd_84, wd_621, by decide +kernel, by decide⟩
def T_X4_readPlayer : List (Nat × Instr × Nat) := [(0, .aload_n 1, 1), (1, .getfield 113, 3), (4, .istore_n 2, 1), (5, .iload_n 2, 1), (6, .bipush 16, 2), (8, .if_icmp .lt 9, 3), (11, .aload_n 0, 1), (12, .iconst 2, 1), (13, .invokevirtual 81, 3), (16, .return_, 1), (17, .aload_n 0, 1), (18, .invokevirtual 94, 3), (21, .aload_n 0, 1), (22, .getfield 22, 3), (25, .iload_n 2, 1), (26, .aload_n 0, 1), (27, .aload_n 1, 1), (28, .invokevirtual 97, 3), (31, .lastore, 1), (32, .aload_n 1, 1), (33, .getfield 116, 3), (36, .iload_n 2, 1), (37, .aload_n 0, 1), (38, .aload_n 0, 1), (39, .getfield 18, 3), (42, .aload_n 1, 1), (43, .getfield 91, 3), (46, .invokevirtual 119, 3), (49, .iastore, 1), (50, .aload_n 0, 1), (51, .invokevirtual 94, 3), (54, .aload_n 1, 1), (55, .dup, 1), (56, .getfield 113, 3), (59, .iconst 1, 1), (60, .iadd, 1), (61, .putfield 113, 3), (64, .return_, 1)]
theorem D_X4_readPlayer : dchk cX4_readPlayer T_X4_readPlayer = true := by decide +kernel
def Rd_readPlayer (σ : ST) (i1 : Nat) : Option ST :=
  lt_ ((gF σ 530 i1)) (fun x1 => (if x1 < 16 then bd_ (Rd_advance (σ)) (fun q2 => bd_ (Rd_newName q2 i1) (fun q3 => bd_ (stL q3.2 102 0 x1 q3.1) (fun s4 => bd_ (Rd_oldName s4 101 0 (gF s4 529 i1)) (fun q5 => bd_ (stI q5.2 16 i1 x1 q5.1) (fun s6 => bd_ (Rd_advance s6) (fun q7 => lt_ (setF q7 530 i1 ((gF q7 530 i1) + 1)) (fun s8 => some s8))))))) else bd_ (Rd_blame (σ) 2) (fun q9 => some q9)))
set_option maxHeartbeats 4000000 in
set_option maxRecDepth 100000 in
theorem c_X4_readPlayer {G : GW} (hG : Good G) {l : Launch} (σ : ST) (i1 : Nat) (h1 : i1 < 2) : Ctr G l yX4_readPlayer cX4_readPlayer 3 none 3 [.ref (ga G 125 0), .ref (ga G 126 i1)] σ oV (Rd_readPlayer σ i1) := by
  refine ctr_of hG (by decide) (Nat.le_of_ble_eq_true rfl) ?_
  intro X hXl hR hX
  have hX : Ok G X cX4_readPlayer 3 RX4 3 := hX
  unfold Rd_readPlayer
  show Sim G X 3 (MQX G X oV) σ 0 [(0, .ref (ga G 125 0)), (1, .ref (ga G 126 i1))] [] _
  refine s_aload_n 1 (n := 1) hX (dec_of D_X4_readPlayer (i := 0) rfl) rfl rfl rfl ?_
  refine s_getI (c := 5) (p := 10) (id := 530) (n := 4) hX cls5 (vk126 (by omega)) (dec_of D_X4_readPlayer (i := 1) rfl) rfl rfl wd_395 ?_
  refine s_topi (fun x1 => ?_)
  refine s_istore_n (lv' := [(0, _), (1, _), (2, _)]) [1, 2, 0] (n := 5) hX (dec_of D_X4_readPlayer (i := 2) rfl) rfl rfl (by decide) rfl ?_
  refine s_iload_n 2 (n := 6) hX (dec_of D_X4_readPlayer (i := 3) rfl) rfl rfl rfl ?_
  refine s_bipush (v := 16) (n := 8) hX (dec_of D_X4_readPlayer (i := 4) rfl) rfl (by decide) ?_
  refine s_icmp_lt (tgt := 17) (n := 11) hX (dec_of D_X4_readPlayer (i := 5) rfl) rfl rfl ?_ ?_
  · refine s_aload_n 0 (n := 18) hX (dec_of D_X4_readPlayer (i := 10) rfl) rfl rfl rfl ?_
    refine s_callVV (c := 4) (n := 21) hX cls4 (vk125 (by omega)) lk_RX4_94 (dec_of D_X4_readPlayer (i := 11) rfl) rfl (by decide) (c_X4_advance (l := _) hG _) rfl rfl (Nat.le_of_ble_eq_true rfl) (fun q2 => ?_)
    refine s_aload_n 0 (n := 22) hX (dec_of D_X4_readPlayer (i := 12) rfl) rfl rfl rfl ?_
    refine s_getR (c := 4) (p := 2) (k' := 102) (n := 25) hX cls4 (vk125 (by omega)) (dec_of D_X4_readPlayer (i := 13) rfl) rfl rfl wd_158 ?_
    refine s_iload_n 2 (n := 26) hX (dec_of D_X4_readPlayer (i := 14) rfl) rfl rfl rfl ?_
    refine s_aload_n 0 (n := 27) hX (dec_of D_X4_readPlayer (i := 15) rfl) rfl rfl rfl ?_
    refine s_aload_n 1 (n := 28) hX (dec_of D_X4_readPlayer (i := 16) rfl) rfl rfl rfl ?_
    refine s_callVK (c := 4) (n := 31) hX cls4 (vk125 (by omega)) lk_RX4_97 (dec_of D_X4_readPlayer (i := 17) rfl) rfl (by decide) (c_X4_newName (l := _) hG _ _ (by omega)) rfl rfl (Nat.le_of_ble_eq_true rfl) (fun q3 => ?_)
    refine s_last (n := 32) hX (vk102 (by omega)) (by decide) (dec_of D_X4_readPlayer (i := 18) rfl) rfl (fun s4 => ?_)
    refine s_aload_n 1 (n := 33) hX (dec_of D_X4_readPlayer (i := 19) rfl) rfl rfl rfl ?_
    refine s_getR (c := 5) (p := 3) (k' := 16) (n := 36) hX cls5 (vk126 (by omega)) (dec_of D_X4_readPlayer (i := 20) rfl) rfl rfl wd_366 ?_
    refine s_iload_n 2 (n := 37) hX (dec_of D_X4_readPlayer (i := 21) rfl) rfl rfl rfl ?_
    refine s_aload_n 0 (n := 38) hX (dec_of D_X4_readPlayer (i := 22) rfl) rfl rfl rfl ?_
    refine s_aload_n 0 (n := 39) hX (dec_of D_X4_readPlayer (i := 23) rfl) rfl rfl rfl ?_
    refine s_getR (c := 4) (p := 1) (k' := 101) (n := 42) hX cls4 (vk125 (by omega)) (dec_of D_X4_readPlayer (i := 24) rfl) rfl rfl wd_157 ?_
    refine s_aload_n 1 (n := 43) hX (dec_of D_X4_readPlayer (i := 25) rfl) rfl rfl rfl ?_
    refine s_getI (c := 5) (p := 9) (id := 529) (n := 46) hX cls5 (vk126 (by omega)) (dec_of D_X4_readPlayer (i := 26) rfl) rfl rfl wd_389 ?_
    refine s_callVP (c := 4) (n := 49) hX cls4 (vk125 (by omega)) lk_RX4_119 (dec_of D_X4_readPlayer (i := 27) rfl) rfl (by decide) (c_X4_oldName (l := _) hG _ _ _ (vk101 (by omega)) (by decide) _) rfl rfl (Nat.le_of_ble_eq_true rfl) (fun q5 => ?_)
    refine s_iast (n := 50) hX (vk16 (by omega)) (by decide) (dec_of D_X4_readPlayer (i := 28) rfl) rfl (fun s6 => ?_)
    refine s_aload_n 0 (n := 51) hX (dec_of D_X4_readPlayer (i := 29) rfl) rfl rfl rfl ?_
    refine s_callVV (c := 4) (n := 54) hX cls4 (vk125 (by omega)) lk_RX4_94 (dec_of D_X4_readPlayer (i := 30) rfl) rfl (by decide) (c_X4_advance (l := _) hG _) rfl rfl (Nat.le_of_ble_eq_true rfl) (fun q7 => ?_)
    refine s_aload_n 1 (n := 55) hX (dec_of D_X4_readPlayer (i := 31) rfl) rfl rfl rfl ?_
    refine s_dup (n := 56) hX (dec_of D_X4_readPlayer (i := 32) rfl) rfl rfl ?_
    refine s_getI (c := 5) (p := 10) (id := 530) (n := 59) hX cls5 (vk126 (by omega)) (dec_of D_X4_readPlayer (i := 33) rfl) rfl rfl wd_395 ?_
    refine s_iconst (v := 1) (n := 60) hX (dec_of D_X4_readPlayer (i := 34) rfl) rfl (by decide) ?_
    refine s_iadd (n := 61) hX (dec_of D_X4_readPlayer (i := 35) rfl) rfl ?_
    refine s_putI (c := 5) (p := 10) (n := 64) hX cls5 (vk126 (by omega)) (dec_of D_X4_readPlayer (i := 36) rfl) rfl rfl (by decide) wd_395 rfl rfl rfl (fun s8 => ?_)
    exact s_vret hX hR (dec_of D_X4_readPlayer (i := 37) rfl) rfl
  · refine s_aload_n 0 (n := 12) hX (dec_of D_X4_readPlayer (i := 6) rfl) rfl rfl rfl ?_
    refine s_iconst (v := 2) (n := 13) hX (dec_of D_X4_readPlayer (i := 7) rfl) rfl (by decide) ?_
    refine s_callVV (c := 4) (n := 16) hX cls4 (vk125 (by omega)) lk_RX4_81 (dec_of D_X4_readPlayer (i := 8) rfl) rfl (by decide) (c_X4_blame (l := _) hG _ _) rfl rfl (Nat.le_of_ble_eq_true rfl) (fun q9 => ?_)
    exact s_vret hX hR (dec_of D_X4_readPlayer (i := 9) rfl) rfl
def T_X5_roleTold : List (Nat × Instr × Nat) := [(0, .iconst 0, 1), (1, .istore_n 3, 1), (2, .iload_n 3, 1), (3, .aload_n 0, 1), (4, .getfield 24, 3), (7, .iload_n 2, 1), (8, .iaload, 1), (9, .if_icmp .ge 36, 3), (12, .aload_n 0, 1), (13, .getfield 30, 3), (16, .iload_n 2, 1), (17, .bipush 8, 2), (19, .imul, 1), (20, .iload_n 3, 1), (21, .iadd, 1), (22, .iaload, 1), (23, .iload_n 1, 1), (24, .if_icmp .ne 15, 3), (27, .aload_n 0, 1), (28, .getfield 33, 3), (31, .iload_n 2, 1), (32, .bipush 8, 2), (34, .imul, 1), (35, .iload_n 3, 1), (36, .iadd, 1), (37, .iaload, 1), (38, .ireturn, 1), (39, .iinc 3 1, 3), (42, .goto (-40), 3), (45, .bipush (-2), 2), (47, .ireturn, 1)]
theorem D_X5_roleTold : dchk cX5_roleTold T_X5_roleTold = true := by decide +kernel
def Rl_roleTold (σ : ST) (i0 : Nat) (a1 : Int32) (a2 : Int32) : Option Int32 :=
  lp_ (fun rec2 (z1 : Int32) => bd_ (ldI σ 17 i0 a2) (fun v4 => (if v4 ≤ z1 then some (-2) else bd_ (ldI σ 19 i0 ((a2 * 8) + z1)) (fun v5 => (if v5 = a1 then bd_ (ldI σ 20 i0 ((a2 * 8) + z1)) (fun v6 => some v6) else rec2 (z1 + 1)))))) FU 0
set_option maxHeartbeats 4000000 in
set_option maxRecDepth 100000 in
theorem c_X5_roleTold {G : GW} (hG : Good G) {l : Launch} (σ : ST) (i0 : Nat) (h0 : i0 < 2) (a1 : Int32) (a2 : Int32) : Ctr G l yX5_roleTold cX5_roleTold 4 (some .int) 0 [.ref (ga G 126 i0), .int a1, .int a2] σ (oI σ) (Rl_roleTold σ i0 a1 a2) := by
  refine ctr_of hG (by decide) (Nat.le_of_ble_eq_true rfl) ?_
  intro X hXl hR hX
  have hX : Ok G X cX5_roleTold 4 RX5 0 := hX
  unfold Rl_roleTold
  show Sim G X 4 (MQX G X (oI σ)) σ 0 [(0, .ref (ga G 126 i0)), (1, .int a1), (2, .int a2)] [] _
  refine s_iconst (v := 0) (n := 1) hX (dec_of D_X5_roleTold (i := 0) rfl) rfl (by decide) ?_
  refine s_istore_n (lv' := [(0, _), (1, _), (2, _), (3, _)]) [1, 2, 3, 0] (n := 2) hX (dec_of D_X5_roleTold (i := 1) rfl) rfl rfl (by decide) rfl ?_
  refine s_sub [0, 1, 2, 3] rfl (s_lp (pc := 2) (Sf := fun (z1 : Int32) => σ) (lvf := fun (z1 : Int32) => [(0, .ref (ga G 126 i0)), (1, .int a1), (2, .int a2), (3, .int z1)]) (fun rec2 hre3 z1 => ?_) FU 0)
  refine s_iload_n 3 (n := 3) hX (dec_of D_X5_roleTold (i := 2) rfl) rfl rfl rfl ?_
  refine s_aload_n 0 (n := 4) hX (dec_of D_X5_roleTold (i := 3) rfl) rfl rfl rfl ?_
  refine s_getR (c := 5) (p := 4) (k' := 17) (n := 7) hX cls5 (vk126 (by omega)) (dec_of D_X5_roleTold (i := 4) rfl) rfl rfl wd_367 ?_
  refine s_iload_n 2 (n := 8) hX (dec_of D_X5_roleTold (i := 5) rfl) rfl rfl rfl ?_
  refine s_iald (n := 9) hX (vk17 (by omega)) (by decide) (dec_of D_X5_roleTold (i := 6) rfl) rfl (fun v4 => ?_)
  refine s_icmp_ge (tgt := 45) (n := 12) hX (dec_of D_X5_roleTold (i := 7) rfl) rfl rfl ?_ ?_
  · refine s_bipush (v := (-2)) (n := 47) hX (dec_of D_X5_roleTold (i := 29) rfl) rfl (by decide) ?_
    exact s_iret hX hR (dec_of D_X5_roleTold (i := 30) rfl) rfl
  · refine s_aload_n 0 (n := 13) hX (dec_of D_X5_roleTold (i := 8) rfl) rfl rfl rfl ?_
    refine s_getR (c := 5) (p := 6) (k' := 19) (n := 16) hX cls5 (vk126 (by omega)) (dec_of D_X5_roleTold (i := 9) rfl) rfl rfl wd_377 ?_
    refine s_iload_n 2 (n := 17) hX (dec_of D_X5_roleTold (i := 10) rfl) rfl rfl rfl ?_
    refine s_bipush (v := 8) (n := 19) hX (dec_of D_X5_roleTold (i := 11) rfl) rfl (by decide) ?_
    refine s_imul (n := 20) hX (dec_of D_X5_roleTold (i := 12) rfl) rfl ?_
    refine s_iload_n 3 (n := 21) hX (dec_of D_X5_roleTold (i := 13) rfl) rfl rfl rfl ?_
    refine s_iadd (n := 22) hX (dec_of D_X5_roleTold (i := 14) rfl) rfl ?_
    refine s_iald (n := 23) hX (vk19 (by omega)) (by decide) (dec_of D_X5_roleTold (i := 15) rfl) rfl (fun v5 => ?_)
    refine s_iload_n 1 (n := 24) hX (dec_of D_X5_roleTold (i := 16) rfl) rfl rfl rfl ?_
    refine s_icmp_ne (tgt := 39) (n := 27) hX (dec_of D_X5_roleTold (i := 17) rfl) rfl rfl ?_ ?_
    · refine s_iinc (v := z1 + 1) (lv' := [(0, _), (1, _), (2, _), (3, _)]) 3 [1, 2, 3, 0] (n := 42) hX (dec_of D_X5_roleTold (i := 27) rfl) rfl rfl rfl (by decide) rfl ?_
      refine s_goto (n := 2) hX (dec_of D_X5_roleTold (i := 28) rfl) rfl ?_
      exact s_sub [0, 1, 2, 3] rfl (hre3 (z1 + 1))
    · refine s_aload_n 0 (n := 28) hX (dec_of D_X5_roleTold (i := 18) rfl) rfl rfl rfl ?_
      refine s_getR (c := 5) (p := 7) (k' := 20) (n := 31) hX cls5 (vk126 (by omega)) (dec_of D_X5_roleTold (i := 19) rfl) rfl rfl wd_381 ?_
      refine s_iload_n 2 (n := 32) hX (dec_of D_X5_roleTold (i := 20) rfl) rfl rfl rfl ?_
      refine s_bipush (v := 8) (n := 34) hX (dec_of D_X5_roleTold (i := 21) rfl) rfl (by decide) ?_
      refine s_imul (n := 35) hX (dec_of D_X5_roleTold (i := 22) rfl) rfl ?_
      refine s_iload_n 3 (n := 36) hX (dec_of D_X5_roleTold (i := 23) rfl) rfl rfl rfl ?_
      refine s_iadd (n := 37) hX (dec_of D_X5_roleTold (i := 24) rfl) rfl ?_
      refine s_iald (n := 38) hX (vk20 (by omega)) (by decide) (dec_of D_X5_roleTold (i := 25) rfl) rfl (fun v6 => ?_)
      exact s_iret hX hR (dec_of D_X5_roleTold (i := 26) rfl) rfl
theorem lk_RX4_140 : LkV RX4 140 RX5 yX5_roleTold cX5_roleTold 4 (some .int) 2 := ⟨wd_630, wd_631, wd_632, wd_92, wd_633, by decide +kernel, by decide⟩
def T_X4_readMember : List (Nat × Instr × Nat) := [(0, .aload_n 0, 1), (1, .aload_n 0, 1), (2, .getfield 22, 3), (5, .aload_n 1, 1), (6, .getfield 113, 3), (9, .invokevirtual 119, 3), (12, .istore_n 3, 1), (13, .aload_n 1, 1), (14, .getfield 126, 3), (17, .iload_n 2, 1), (18, .iaload, 1), (19, .istore 4, 2), (21, .iload 4, 2), (23, .bipush 8, 2), (25, .if_icmp .lt 9, 3), (28, .aload_n 0, 1), (29, .iconst 2, 1), (30, .invokevirtual 81, 3), (33, .return_, 1), (34, .aload_n 1, 1), (35, .iload_n 3, 1), (36, .iload_n 2, 1), (37, .invokevirtual 140, 3), (40, .ifCond .lt 8, 3), (43, .aload_n 0, 1), (44, .iconst 3, 1), (45, .invokevirtual 81, 3), (48, .aload_n 0, 1), (49, .invokevirtual 94, 3), (52, .aload_n 1, 1), (53, .getfield 143, 3), (56, .iload_n 2, 1), (57, .bipush 8, 2), (59, .imul, 1), (60, .iload 4, 2), (62, .iadd, 1), (63, .iload_n 3, 1), (64, .iastore, 1), (65, .aload_n 1, 1), (66, .getfield 146, 3), (69, .iload_n 2, 1), (70, .bipush 8, 2), (72, .imul, 1), (73, .iload 4, 2), (75, .iadd, 1), (76, .aload_n 0, 1), (77, .bipush 12, 2), (79, .bipush 13, 2), (81, .invokevirtual 84, 3), (84, .iastore, 1), (85, .aload_n 1, 1), (86, .getfield 126, 3), (89, .iload_n 2, 1), (90, .dup2, 1), (91, .iaload, 1), (92, .iconst 1, 1), (93, .iadd, 1), (94, .iastore, 1), (95, .return_, 1)]
theorem D_X4_readMember : dchk cX4_readMember T_X4_readMember = true := by decide +kernel
def Rd_readMember (σ : ST) (i1 : Nat) (a2 : Int32) : Option ST :=
  bd_ (Rd_oldName (σ) 102 0 (gF σ 530 i1)) (fun q1 => bd_ (ldI q1.2 17 i1 a2) (fun v2 => (if v2 < 8 then bd_ (Rl_roleTold q1.2 i1 q1.1 a2) (fun q3 => lk_ (fun kk5 => (if q3 < 0 then kk5 q1.2 else bd_ (Rd_blame q1.2 3) (fun q13 => kk5 q13))) (fun (j4 : ST) => bd_ (Rd_advance j4) (fun q7 => bd_ (stI q7 19 i1 ((a2 * 8) + v2) q1.1) (fun s8 => bd_ (Rd_oneOf s8 12 13) (fun q9 => bd_ (stI q9.2 20 i1 ((a2 * 8) + v2) q9.1) (fun s10 => bd_ (ldI s10 17 i1 a2) (fun v11 => bd_ (stI s10 17 i1 a2 (v11 + 1)) (fun s12 => some s12)))))))) else bd_ (Rd_blame q1.2 2) (fun q14 => some q14))))
set_option maxHeartbeats 4000000 in
set_option maxRecDepth 100000 in
theorem c_X4_readMember {G : GW} (hG : Good G) {l : Launch} (σ : ST) (i1 : Nat) (h1 : i1 < 2) (a2 : Int32) : Ctr G l yX4_readMember cX4_readMember 5 none 2 [.ref (ga G 125 0), .ref (ga G 126 i1), .int a2] σ oV (Rd_readMember σ i1 a2) := by
  refine ctr_of hG (by decide) (Nat.le_of_ble_eq_true rfl) ?_
  intro X hXl hR hX
  have hX : Ok G X cX4_readMember 5 RX4 2 := hX
  unfold Rd_readMember
  show Sim G X 5 (MQX G X oV) σ 0 [(0, .ref (ga G 125 0)), (1, .ref (ga G 126 i1)), (2, .int a2)] [] _
  refine s_aload_n 0 (n := 1) hX (dec_of D_X4_readMember (i := 0) rfl) rfl rfl rfl ?_
  refine s_aload_n 0 (n := 2) hX (dec_of D_X4_readMember (i := 1) rfl) rfl rfl rfl ?_
  refine s_getR (c := 4) (p := 2) (k' := 102) (n := 5) hX cls4 (vk125 (by omega)) (dec_of D_X4_readMember (i := 2) rfl) rfl rfl wd_158 ?_
  refine s_aload_n 1 (n := 6) hX (dec_of D_X4_readMember (i := 3) rfl) rfl rfl rfl ?_
  refine s_getI (c := 5) (p := 10) (id := 530) (n := 9) hX cls5 (vk126 (by omega)) (dec_of D_X4_readMember (i := 4) rfl) rfl rfl wd_395 ?_
  refine s_callVP (c := 4) (n := 12) hX cls4 (vk125 (by omega)) lk_RX4_119 (dec_of D_X4_readMember (i := 5) rfl) rfl (by decide) (c_X4_oldName (l := _) hG _ _ _ (vk102 (by omega)) (by decide) _) rfl rfl (Nat.le_of_ble_eq_true rfl) (fun q1 => ?_)
  refine s_istore_n (lv' := [(0, _), (1, _), (2, _), (3, _)]) [1, 2, 3, 0] (n := 13) hX (dec_of D_X4_readMember (i := 6) rfl) rfl rfl (by decide) rfl ?_
  refine s_aload_n 1 (n := 14) hX (dec_of D_X4_readMember (i := 7) rfl) rfl rfl rfl ?_
  refine s_getR (c := 5) (p := 4) (k' := 17) (n := 17) hX cls5 (vk126 (by omega)) (dec_of D_X4_readMember (i := 8) rfl) rfl rfl wd_369 ?_
  refine s_iload_n 2 (n := 18) hX (dec_of D_X4_readMember (i := 9) rfl) rfl rfl rfl ?_
  refine s_iald (n := 19) hX (vk17 (by omega)) (by decide) (dec_of D_X4_readMember (i := 10) rfl) rfl (fun v2 => ?_)
  refine s_istore (lv' := [(0, _), (1, _), (2, _), (3, _), (4, _)]) [1, 2, 3, 4, 0] (n := 21) hX (dec_of D_X4_readMember (i := 11) rfl) rfl (by decide) rfl ?_
  refine s_iload 4 (n := 23) hX (dec_of D_X4_readMember (i := 12) rfl) rfl rfl ?_
  refine s_bipush (v := 8) (n := 25) hX (dec_of D_X4_readMember (i := 13) rfl) rfl (by decide) ?_
  refine s_icmp_lt (tgt := 34) (n := 28) hX (dec_of D_X4_readMember (i := 14) rfl) rfl rfl ?_ ?_
  · refine s_aload_n 1 (n := 35) hX (dec_of D_X4_readMember (i := 19) rfl) rfl rfl rfl ?_
    refine s_iload_n 3 (n := 36) hX (dec_of D_X4_readMember (i := 20) rfl) rfl rfl rfl ?_
    refine s_iload_n 2 (n := 37) hX (dec_of D_X4_readMember (i := 21) rfl) rfl rfl rfl ?_
    refine s_callVI (c := 5) (n := 40) hX cls5 (vk126 (by omega)) lk_RX4_140 (dec_of D_X4_readMember (i := 22) rfl) rfl (by decide) (c_X5_roleTold (l := _) hG _ _ (by omega) _ _) rfl rfl (Nat.le_of_ble_eq_true rfl) (fun q3 => ?_)
    refine s_lk (pcj := 48) (Sf := fun (j4 : ST) => j4) (lvf := fun (j4 : ST) => [(0, .ref (ga G 125 0)), (1, .ref (ga G 126 i1)), (2, .int a2), (3, .int q1.1), (4, .int v2)]) (stf := fun (j4 : ST) => []) (fun j4 => ?_) (fun kk5 hkk6 => ?_)
    · refine s_aload_n 0 (n := 49) hX (dec_of D_X4_readMember (i := 27) rfl) rfl rfl rfl ?_
      refine s_callVV (c := 4) (n := 52) hX cls4 (vk125 (by omega)) lk_RX4_94 (dec_of D_X4_readMember (i := 28) rfl) rfl (by decide) (c_X4_advance (l := _) hG _) rfl rfl (Nat.le_of_ble_eq_true rfl) (fun q7 => ?_)
      refine s_aload_n 1 (n := 53) hX (dec_of D_X4_readMember (i := 29) rfl) rfl rfl rfl ?_
      refine s_getR (c := 5) (p := 6) (k' := 19) (n := 56) hX cls5 (vk126 (by omega)) (dec_of D_X4_readMember (i := 30) rfl) rfl rfl wd_378 ?_
      refine s_iload_n 2 (n := 57) hX (dec_of D_X4_readMember (i := 31) rfl) rfl rfl rfl ?_
      refine s_bipush (v := 8) (n := 59) hX (dec_of D_X4_readMember (i := 32) rfl) rfl (by decide) ?_
      refine s_imul (n := 60) hX (dec_of D_X4_readMember (i := 33) rfl) rfl ?_
      refine s_iload 4 (n := 62) hX (dec_of D_X4_readMember (i := 34) rfl) rfl rfl ?_
      refine s_iadd (n := 63) hX (dec_of D_X4_readMember (i := 35) rfl) rfl ?_
      refine s_iload_n 3 (n := 64) hX (dec_of D_X4_readMember (i := 36) rfl) rfl rfl rfl ?_
      refine s_iast (n := 65) hX (vk19 (by omega)) (by decide) (dec_of D_X4_readMember (i := 37) rfl) rfl (fun s8 => ?_)
      refine s_aload_n 1 (n := 66) hX (dec_of D_X4_readMember (i := 38) rfl) rfl rfl rfl ?_
      refine s_getR (c := 5) (p := 7) (k' := 20) (n := 69) hX cls5 (vk126 (by omega)) (dec_of D_X4_readMember (i := 39) rfl) rfl rfl wd_382 ?_
      refine s_iload_n 2 (n := 70) hX (dec_of D_X4_readMember (i := 40) rfl) rfl rfl rfl ?_
      refine s_bipush (v := 8) (n := 72) hX (dec_of D_X4_readMember (i := 41) rfl) rfl (by decide) ?_
      refine s_imul (n := 73) hX (dec_of D_X4_readMember (i := 42) rfl) rfl ?_
      refine s_iload 4 (n := 75) hX (dec_of D_X4_readMember (i := 43) rfl) rfl rfl ?_
      refine s_iadd (n := 76) hX (dec_of D_X4_readMember (i := 44) rfl) rfl ?_
      refine s_aload_n 0 (n := 77) hX (dec_of D_X4_readMember (i := 45) rfl) rfl rfl rfl ?_
      refine s_bipush (v := 12) (n := 79) hX (dec_of D_X4_readMember (i := 46) rfl) rfl (by decide) ?_
      refine s_bipush (v := 13) (n := 81) hX (dec_of D_X4_readMember (i := 47) rfl) rfl (by decide) ?_
      refine s_callVP (c := 4) (n := 84) hX cls4 (vk125 (by omega)) lk_RX4_84 (dec_of D_X4_readMember (i := 48) rfl) rfl (by decide) (c_X4_oneOf (l := _) hG _ _ _) rfl rfl (Nat.le_of_ble_eq_true rfl) (fun q9 => ?_)
      refine s_iast (n := 85) hX (vk20 (by omega)) (by decide) (dec_of D_X4_readMember (i := 49) rfl) rfl (fun s10 => ?_)
      refine s_aload_n 1 (n := 86) hX (dec_of D_X4_readMember (i := 50) rfl) rfl rfl rfl ?_
      refine s_getR (c := 5) (p := 4) (k' := 17) (n := 89) hX cls5 (vk126 (by omega)) (dec_of D_X4_readMember (i := 51) rfl) rfl rfl wd_369 ?_
      refine s_iload_n 2 (n := 90) hX (dec_of D_X4_readMember (i := 52) rfl) rfl rfl rfl ?_
      refine s_dup2 (n := 91) hX (dec_of D_X4_readMember (i := 53) rfl) rfl rfl rfl ?_
      refine s_iald (n := 92) hX (vk17 (by omega)) (by decide) (dec_of D_X4_readMember (i := 54) rfl) rfl (fun v11 => ?_)
      refine s_iconst (v := 1) (n := 93) hX (dec_of D_X4_readMember (i := 55) rfl) rfl (by decide) ?_
      refine s_iadd (n := 94) hX (dec_of D_X4_readMember (i := 56) rfl) rfl ?_
      refine s_iast (n := 95) hX (vk17 (by omega)) (by decide) (dec_of D_X4_readMember (i := 57) rfl) rfl (fun s12 => ?_)
      exact s_vret hX hR (dec_of D_X4_readMember (i := 58) rfl) rfl
    · refine s_if_lt (tgt := 48) (n := 43) hX (dec_of D_X4_readMember (i := 23) rfl) rfl rfl ?_ ?_
      · exact s_sub [0, 1, 2, 3, 4] rfl (hkk6 q1.2)
      · refine s_aload_n 0 (n := 44) hX (dec_of D_X4_readMember (i := 24) rfl) rfl rfl rfl ?_
        refine s_iconst (v := 3) (n := 45) hX (dec_of D_X4_readMember (i := 25) rfl) rfl (by decide) ?_
        refine s_callVV (c := 4) (n := 48) hX cls4 (vk125 (by omega)) lk_RX4_81 (dec_of D_X4_readMember (i := 26) rfl) rfl (by decide) (c_X4_blame (l := _) hG _ _) rfl rfl (Nat.le_of_ble_eq_true rfl) (fun q13 => ?_)
        exact s_sub [0, 1, 2, 3, 4] rfl (hkk6 q13)
  · refine s_aload_n 0 (n := 29) hX (dec_of D_X4_readMember (i := 15) rfl) rfl rfl rfl ?_
    refine s_iconst (v := 2) (n := 30) hX (dec_of D_X4_readMember (i := 16) rfl) rfl (by decide) ?_
    refine s_callVV (c := 4) (n := 33) hX cls4 (vk125 (by omega)) lk_RX4_81 (dec_of D_X4_readMember (i := 17) rfl) rfl (by decide) (c_X4_blame (l := _) hG _ _) rfl rfl (Nat.le_of_ble_eq_true rfl) (fun q14 => ?_)
    exact s_vret hX hR (dec_of D_X4_readMember (i := 18) rfl) rfl
theorem lk_RX4_136 : LkV RX4 136 RX5 yX5_headsIn cX5_headsIn 2 (some .int) 1 := ⟨wd_634, wd_635, wd_636, wd_92, wd_637, by decide +kernel, by decide⟩
theorem lk_RX4_132 : LkV RX4 132 RX4 yX4_readMember cX4_readMember 5 none 2 := ⟨wd_626, wd_627, wd_628, wd_84, wd_629, by decide +kernel, by decide⟩
def T_X4_readSession : List (Nat × Instr × Nat) := [(0, .aload_n 1, 1), (1, .getfield 123, 3), (4, .istore_n 2, 1), (5, .iload_n 2, 1), (6, .bipush 8, 2), (8, .if_icmp .lt 9, 3), (11, .aload_n 0, 1), (12, .iconst 2, 1), (13, .invokevirtual 81, 3), (16, .return_, 1), (17, .aload_n 0, 1), (18, .invokevirtual 94, 3), (21, .aload_n 0, 1), (22, .getfield 25, 3), (25, .iload_n 2, 1), (26, .aload_n 0, 1), (27, .aload_n 1, 1), (28, .invokevirtual 97, 3), (31, .lastore, 1), (32, .aload_n 1, 1), (33, .getfield 126, 3), (36, .iload_n 2, 1), (37, .iconst 0, 1), (38, .iastore, 1), (39, .aload_n 1, 1), (40, .getfield 129, 3), (43, .iload_n 2, 1), (44, .iconst 0, 1), (45, .iastore, 1), (46, .iconst 0, 1), (47, .istore_n 3, 1), (48, .iload_n 3, 1), (49, .bipush 8, 2), (51, .if_icmp .gt 31, 3), (54, .aload_n 0, 1), (55, .getfield 51, 3), (58, .ifCond .ne 24, 3), (61, .aload_n 0, 1), (62, .bipush 14, 2), (64, .invokevirtual 54, 3), (67, .ifCond .eq 15, 3), (70, .aload_n 0, 1), (71, .aload_n 1, 1), (72, .iload_n 2, 1), (73, .invokevirtual 132, 3), (76, .iinc 3 1, 3), (79, .goto (-31), 3), (82, .aload_n 0, 1), (83, .iconst 3, 1), (84, .invokevirtual 54, 3), (87, .ifCond .eq 19, 3), (90, .aload_n 0, 1), (91, .invokevirtual 94, 3), (94, .aload_n 1, 1), (95, .getfield 129, 3), (98, .iload_n 2, 1), (99, .aload_n 0, 1), (100, .iconst 1, 1), (101, .iconst 5, 1), (102, .invokevirtual 110, 3), (105, .iastore, 1), (106, .aload_n 0, 1), (107, .bipush 16, 2), (109, .invokevirtual 54, 3), (112, .ifCond .eq 16, 3), (115, .aload_n 1, 1), (116, .iload_n 2, 1), (117, .invokevirtual 136, 3), (120, .ifCond .ne 8, 3), (123, .aload_n 0, 1), (124, .iconst 4, 1), (125, .invokevirtual 81, 3), (128, .aload_n 1, 1), (129, .dup, 1), (130, .getfield 123, 3), (133, .iconst 1, 1), (134, .iadd, 1), (135, .putfield 123, 3), (138, .return_, 1)]
theorem D_X4_readSession : dchk cX4_readSession T_X4_readSession = true := by decide +kernel
def Rd_readSession (σ : ST) (i1 : Nat) : Option ST :=
  lt_ ((gF σ 531 i1)) (fun x1 => (if x1 < 8 then bd_ (Rd_advance (σ)) (fun q2 => bd_ (Rd_newName q2 i1) (fun q3 => bd_ (stL q3.2 103 0 x1 q3.1) (fun s4 => bd_ (stI s4 17 i1 x1 0) (fun s5 => bd_ (stI s5 18 i1 x1 0) (fun s6 => lk_ (fun kk8 => lp_ (fun rec24 (z23 : ST × Int32) => (if 8 < z23.2 then kk8 z23.1 else (if (gF z23.1 463 0) = 0 then bd_ (Rd_isAt z23.1 14) (fun q26 => (if q26 = 0 then kk8 z23.1 else bd_ (Rd_readMember z23.1 i1 x1) (fun q27 => rec24 (q27, (z23.2 + 1))))) else kk8 z23.1))) FU (s6, 0)) (fun (j7 : ST) => bd_ (Rd_isAt j7 3) (fun q10 => lk_ (fun kk12 => (if q10 = 0 then kk12 j7 else bd_ (Rd_advance j7) (fun q20 => bd_ (Rd_numberIn q20 1 5) (fun q21 => bd_ (stI q21.2 18 i1 x1 q21.1) (fun s22 => kk12 s22))))) (fun (j11 : ST) => bd_ (Rd_isAt j11 16) (fun q14 => (if q14 = 0 then lt_ (setF j11 531 i1 ((gF j11 531 i1) + 1)) (fun s15 => some s15) else bd_ (Rl_headsIn j11 i1 x1) (fun q16 => (if q16 = 0 then bd_ (Rd_blame j11 4) (fun q18 => lt_ (setF q18 531 i1 ((gF q18 531 i1) + 1)) (fun s19 => some s19)) else lt_ (setF j11 531 i1 ((gF j11 531 i1) + 1)) (fun s17 => some s17))))))))))))) else bd_ (Rd_blame (σ) 2) (fun q28 => some q28)))
set_option maxHeartbeats 4000000 in
set_option maxRecDepth 100000 in
theorem c_X4_readSession {G : GW} (hG : Good G) {l : Launch} (σ : ST) (i1 : Nat) (h1 : i1 < 2) : Ctr G l yX4_readSession cX4_readSession 4 none 3 [.ref (ga G 125 0), .ref (ga G 126 i1)] σ oV (Rd_readSession σ i1) := by
  refine ctr_of hG (by decide) (Nat.le_of_ble_eq_true rfl) ?_
  intro X hXl hR hX
  have hX : Ok G X cX4_readSession 4 RX4 3 := hX
  unfold Rd_readSession
  show Sim G X 4 (MQX G X oV) σ 0 [(0, .ref (ga G 125 0)), (1, .ref (ga G 126 i1))] [] _
  refine s_aload_n 1 (n := 1) hX (dec_of D_X4_readSession (i := 0) rfl) rfl rfl rfl ?_
  refine s_getI (c := 5) (p := 11) (id := 531) (n := 4) hX cls5 (vk126 (by omega)) (dec_of D_X4_readSession (i := 1) rfl) rfl rfl wd_401 ?_
  refine s_topi (fun x1 => ?_)
  refine s_istore_n (lv' := [(0, _), (1, _), (2, _)]) [1, 2, 0] (n := 5) hX (dec_of D_X4_readSession (i := 2) rfl) rfl rfl (by decide) rfl ?_
  refine s_iload_n 2 (n := 6) hX (dec_of D_X4_readSession (i := 3) rfl) rfl rfl rfl ?_
  refine s_bipush (v := 8) (n := 8) hX (dec_of D_X4_readSession (i := 4) rfl) rfl (by decide) ?_
  refine s_icmp_lt (tgt := 17) (n := 11) hX (dec_of D_X4_readSession (i := 5) rfl) rfl rfl ?_ ?_
  · refine s_aload_n 0 (n := 18) hX (dec_of D_X4_readSession (i := 10) rfl) rfl rfl rfl ?_
    refine s_callVV (c := 4) (n := 21) hX cls4 (vk125 (by omega)) lk_RX4_94 (dec_of D_X4_readSession (i := 11) rfl) rfl (by decide) (c_X4_advance (l := _) hG _) rfl rfl (Nat.le_of_ble_eq_true rfl) (fun q2 => ?_)
    refine s_aload_n 0 (n := 22) hX (dec_of D_X4_readSession (i := 12) rfl) rfl rfl rfl ?_
    refine s_getR (c := 4) (p := 3) (k' := 103) (n := 25) hX cls4 (vk125 (by omega)) (dec_of D_X4_readSession (i := 13) rfl) rfl rfl wd_159 ?_
    refine s_iload_n 2 (n := 26) hX (dec_of D_X4_readSession (i := 14) rfl) rfl rfl rfl ?_
    refine s_aload_n 0 (n := 27) hX (dec_of D_X4_readSession (i := 15) rfl) rfl rfl rfl ?_
    refine s_aload_n 1 (n := 28) hX (dec_of D_X4_readSession (i := 16) rfl) rfl rfl rfl ?_
    refine s_callVK (c := 4) (n := 31) hX cls4 (vk125 (by omega)) lk_RX4_97 (dec_of D_X4_readSession (i := 17) rfl) rfl (by decide) (c_X4_newName (l := _) hG _ _ (by omega)) rfl rfl (Nat.le_of_ble_eq_true rfl) (fun q3 => ?_)
    refine s_last (n := 32) hX (vk103 (by omega)) (by decide) (dec_of D_X4_readSession (i := 18) rfl) rfl (fun s4 => ?_)
    refine s_aload_n 1 (n := 33) hX (dec_of D_X4_readSession (i := 19) rfl) rfl rfl rfl ?_
    refine s_getR (c := 5) (p := 4) (k' := 17) (n := 36) hX cls5 (vk126 (by omega)) (dec_of D_X4_readSession (i := 20) rfl) rfl rfl wd_369 ?_
    refine s_iload_n 2 (n := 37) hX (dec_of D_X4_readSession (i := 21) rfl) rfl rfl rfl ?_
    refine s_iconst (v := 0) (n := 38) hX (dec_of D_X4_readSession (i := 22) rfl) rfl (by decide) ?_
    refine s_iast (n := 39) hX (vk17 (by omega)) (by decide) (dec_of D_X4_readSession (i := 23) rfl) rfl (fun s5 => ?_)
    refine s_aload_n 1 (n := 40) hX (dec_of D_X4_readSession (i := 24) rfl) rfl rfl rfl ?_
    refine s_getR (c := 5) (p := 5) (k' := 18) (n := 43) hX cls5 (vk126 (by omega)) (dec_of D_X4_readSession (i := 25) rfl) rfl rfl wd_373 ?_
    refine s_iload_n 2 (n := 44) hX (dec_of D_X4_readSession (i := 26) rfl) rfl rfl rfl ?_
    refine s_iconst (v := 0) (n := 45) hX (dec_of D_X4_readSession (i := 27) rfl) rfl (by decide) ?_
    refine s_iast (n := 46) hX (vk18 (by omega)) (by decide) (dec_of D_X4_readSession (i := 28) rfl) rfl (fun s6 => ?_)
    refine s_iconst (v := 0) (n := 47) hX (dec_of D_X4_readSession (i := 29) rfl) rfl (by decide) ?_
    refine s_istore_n (lv' := [(0, _), (1, _), (2, _), (3, _)]) [1, 2, 3, 0] (n := 48) hX (dec_of D_X4_readSession (i := 30) rfl) rfl rfl (by decide) rfl ?_
    refine s_lk (pcj := 82) (Sf := fun (j7 : ST) => j7) (lvf := fun (j7 : ST) => [(0, .ref (ga G 125 0)), (1, .ref (ga G 126 i1)), (2, .int x1)]) (stf := fun (j7 : ST) => []) (fun j7 => ?_) (fun kk8 hkk9 => ?_)
    · refine s_aload_n 0 (n := 83) hX (dec_of D_X4_readSession (i := 47) rfl) rfl rfl rfl ?_
      refine s_iconst (v := 3) (n := 84) hX (dec_of D_X4_readSession (i := 48) rfl) rfl (by decide) ?_
      refine s_callVI (c := 4) (n := 87) hX cls4 (vk125 (by omega)) lk_RX4_54 (dec_of D_X4_readSession (i := 49) rfl) rfl (by decide) (c_X4_isAt (l := _) hG _ _) rfl rfl (Nat.le_of_ble_eq_true rfl) (fun q10 => ?_)
      refine s_lk (pcj := 106) (Sf := fun (j11 : ST) => j11) (lvf := fun (j11 : ST) => [(0, .ref (ga G 125 0)), (1, .ref (ga G 126 i1)), (2, .int x1)]) (stf := fun (j11 : ST) => []) (fun j11 => ?_) (fun kk12 hkk13 => ?_)
      · refine s_aload_n 0 (n := 107) hX (dec_of D_X4_readSession (i := 61) rfl) rfl rfl rfl ?_
        refine s_bipush (v := 16) (n := 109) hX (dec_of D_X4_readSession (i := 62) rfl) rfl (by decide) ?_
        refine s_callVI (c := 4) (n := 112) hX cls4 (vk125 (by omega)) lk_RX4_54 (dec_of D_X4_readSession (i := 63) rfl) rfl (by decide) (c_X4_isAt (l := _) hG _ _) rfl rfl (Nat.le_of_ble_eq_true rfl) (fun q14 => ?_)
        refine s_if_eq (tgt := 128) (n := 115) hX (dec_of D_X4_readSession (i := 64) rfl) rfl rfl ?_ ?_
        · refine s_aload_n 1 (n := 129) hX (dec_of D_X4_readSession (i := 72) rfl) rfl rfl rfl ?_
          refine s_dup (n := 130) hX (dec_of D_X4_readSession (i := 73) rfl) rfl rfl ?_
          refine s_getI (c := 5) (p := 11) (id := 531) (n := 133) hX cls5 (vk126 (by omega)) (dec_of D_X4_readSession (i := 74) rfl) rfl rfl wd_401 ?_
          refine s_iconst (v := 1) (n := 134) hX (dec_of D_X4_readSession (i := 75) rfl) rfl (by decide) ?_
          refine s_iadd (n := 135) hX (dec_of D_X4_readSession (i := 76) rfl) rfl ?_
          refine s_putI (c := 5) (p := 11) (n := 138) hX cls5 (vk126 (by omega)) (dec_of D_X4_readSession (i := 77) rfl) rfl rfl (by decide) wd_401 rfl rfl rfl (fun s15 => ?_)
          exact s_vret hX hR (dec_of D_X4_readSession (i := 78) rfl) rfl
        · refine s_aload_n 1 (n := 116) hX (dec_of D_X4_readSession (i := 65) rfl) rfl rfl rfl ?_
          refine s_iload_n 2 (n := 117) hX (dec_of D_X4_readSession (i := 66) rfl) rfl rfl rfl ?_
          refine s_callVI (c := 5) (n := 120) hX cls5 (vk126 (by omega)) lk_RX4_136 (dec_of D_X4_readSession (i := 67) rfl) rfl (by decide) (c_X5_headsIn (l := _) hG _ _ (by omega) _) rfl rfl (Nat.le_of_ble_eq_true rfl) (fun q16 => ?_)
          refine s_if_ne (tgt := 128) (n := 123) hX (dec_of D_X4_readSession (i := 68) rfl) rfl rfl ?_ ?_
          · refine s_aload_n 1 (n := 129) hX (dec_of D_X4_readSession (i := 72) rfl) rfl rfl rfl ?_
            refine s_dup (n := 130) hX (dec_of D_X4_readSession (i := 73) rfl) rfl rfl ?_
            refine s_getI (c := 5) (p := 11) (id := 531) (n := 133) hX cls5 (vk126 (by omega)) (dec_of D_X4_readSession (i := 74) rfl) rfl rfl wd_401 ?_
            refine s_iconst (v := 1) (n := 134) hX (dec_of D_X4_readSession (i := 75) rfl) rfl (by decide) ?_
            refine s_iadd (n := 135) hX (dec_of D_X4_readSession (i := 76) rfl) rfl ?_
            refine s_putI (c := 5) (p := 11) (n := 138) hX cls5 (vk126 (by omega)) (dec_of D_X4_readSession (i := 77) rfl) rfl rfl (by decide) wd_401 rfl rfl rfl (fun s17 => ?_)
            exact s_vret hX hR (dec_of D_X4_readSession (i := 78) rfl) rfl
          · refine s_aload_n 0 (n := 124) hX (dec_of D_X4_readSession (i := 69) rfl) rfl rfl rfl ?_
            refine s_iconst (v := 4) (n := 125) hX (dec_of D_X4_readSession (i := 70) rfl) rfl (by decide) ?_
            refine s_callVV (c := 4) (n := 128) hX cls4 (vk125 (by omega)) lk_RX4_81 (dec_of D_X4_readSession (i := 71) rfl) rfl (by decide) (c_X4_blame (l := _) hG _ _) rfl rfl (Nat.le_of_ble_eq_true rfl) (fun q18 => ?_)
            refine s_aload_n 1 (n := 129) hX (dec_of D_X4_readSession (i := 72) rfl) rfl rfl rfl ?_
            refine s_dup (n := 130) hX (dec_of D_X4_readSession (i := 73) rfl) rfl rfl ?_
            refine s_getI (c := 5) (p := 11) (id := 531) (n := 133) hX cls5 (vk126 (by omega)) (dec_of D_X4_readSession (i := 74) rfl) rfl rfl wd_401 ?_
            refine s_iconst (v := 1) (n := 134) hX (dec_of D_X4_readSession (i := 75) rfl) rfl (by decide) ?_
            refine s_iadd (n := 135) hX (dec_of D_X4_readSession (i := 76) rfl) rfl ?_
            refine s_putI (c := 5) (p := 11) (n := 138) hX cls5 (vk126 (by omega)) (dec_of D_X4_readSession (i := 77) rfl) rfl rfl (by decide) wd_401 rfl rfl rfl (fun s19 => ?_)
            exact s_vret hX hR (dec_of D_X4_readSession (i := 78) rfl) rfl
      · refine s_if_eq (tgt := 106) (n := 90) hX (dec_of D_X4_readSession (i := 50) rfl) rfl rfl ?_ ?_
        · exact s_sub [0, 1, 2] rfl (hkk13 j7)
        · refine s_aload_n 0 (n := 91) hX (dec_of D_X4_readSession (i := 51) rfl) rfl rfl rfl ?_
          refine s_callVV (c := 4) (n := 94) hX cls4 (vk125 (by omega)) lk_RX4_94 (dec_of D_X4_readSession (i := 52) rfl) rfl (by decide) (c_X4_advance (l := _) hG _) rfl rfl (Nat.le_of_ble_eq_true rfl) (fun q20 => ?_)
          refine s_aload_n 1 (n := 95) hX (dec_of D_X4_readSession (i := 53) rfl) rfl rfl rfl ?_
          refine s_getR (c := 5) (p := 5) (k' := 18) (n := 98) hX cls5 (vk126 (by omega)) (dec_of D_X4_readSession (i := 54) rfl) rfl rfl wd_373 ?_
          refine s_iload_n 2 (n := 99) hX (dec_of D_X4_readSession (i := 55) rfl) rfl rfl rfl ?_
          refine s_aload_n 0 (n := 100) hX (dec_of D_X4_readSession (i := 56) rfl) rfl rfl rfl ?_
          refine s_iconst (v := 1) (n := 101) hX (dec_of D_X4_readSession (i := 57) rfl) rfl (by decide) ?_
          refine s_iconst (v := 5) (n := 102) hX (dec_of D_X4_readSession (i := 58) rfl) rfl (by decide) ?_
          refine s_callVP (c := 4) (n := 105) hX cls4 (vk125 (by omega)) lk_RX4_110 (dec_of D_X4_readSession (i := 59) rfl) rfl (by decide) (c_X4_numberIn (l := _) hG _ _ _) rfl rfl (Nat.le_of_ble_eq_true rfl) (fun q21 => ?_)
          refine s_iast (n := 106) hX (vk18 (by omega)) (by decide) (dec_of D_X4_readSession (i := 60) rfl) rfl (fun s22 => ?_)
          exact s_sub [0, 1, 2] rfl (hkk13 s22)
    · refine s_sub [0, 1, 2, 3] rfl (s_lp (pc := 48) (Sf := fun (z23 : ST × Int32) => z23.1) (lvf := fun (z23 : ST × Int32) => [(0, .ref (ga G 125 0)), (1, .ref (ga G 126 i1)), (2, .int x1), (3, .int z23.2)]) (fun rec24 hre25 z23 => ?_) FU (s6, 0))
      refine s_iload_n 3 (n := 49) hX (dec_of D_X4_readSession (i := 31) rfl) rfl rfl rfl ?_
      refine s_bipush (v := 8) (n := 51) hX (dec_of D_X4_readSession (i := 32) rfl) rfl (by decide) ?_
      refine s_icmp_gt (tgt := 82) (n := 54) hX (dec_of D_X4_readSession (i := 33) rfl) rfl rfl ?_ ?_
      · exact s_sub [0, 1, 2] rfl (hkk9 z23.1)
      · refine s_aload_n 0 (n := 55) hX (dec_of D_X4_readSession (i := 34) rfl) rfl rfl rfl ?_
        refine s_getI (c := 4) (p := 7) (id := 463) (n := 58) hX cls4 (vk125 (by omega)) (dec_of D_X4_readSession (i := 35) rfl) rfl rfl wd_163 ?_
        refine s_if_ne (tgt := 82) (n := 61) hX (dec_of D_X4_readSession (i := 36) rfl) rfl rfl ?_ ?_
        · exact s_sub [0, 1, 2] rfl (hkk9 z23.1)
        · refine s_aload_n 0 (n := 62) hX (dec_of D_X4_readSession (i := 37) rfl) rfl rfl rfl ?_
          refine s_bipush (v := 14) (n := 64) hX (dec_of D_X4_readSession (i := 38) rfl) rfl (by decide) ?_
          refine s_callVI (c := 4) (n := 67) hX cls4 (vk125 (by omega)) lk_RX4_54 (dec_of D_X4_readSession (i := 39) rfl) rfl (by decide) (c_X4_isAt (l := _) hG _ _) rfl rfl (Nat.le_of_ble_eq_true rfl) (fun q26 => ?_)
          refine s_if_eq (tgt := 82) (n := 70) hX (dec_of D_X4_readSession (i := 40) rfl) rfl rfl ?_ ?_
          · exact s_sub [0, 1, 2] rfl (hkk9 z23.1)
          · refine s_aload_n 0 (n := 71) hX (dec_of D_X4_readSession (i := 41) rfl) rfl rfl rfl ?_
            refine s_aload_n 1 (n := 72) hX (dec_of D_X4_readSession (i := 42) rfl) rfl rfl rfl ?_
            refine s_iload_n 2 (n := 73) hX (dec_of D_X4_readSession (i := 43) rfl) rfl rfl rfl ?_
            refine s_callVV (c := 4) (n := 76) hX cls4 (vk125 (by omega)) lk_RX4_132 (dec_of D_X4_readSession (i := 44) rfl) rfl (by decide) (c_X4_readMember (l := _) hG _ _ (by omega) _) rfl rfl (Nat.le_of_ble_eq_true rfl) (fun q27 => ?_)
            refine s_iinc (v := z23.2 + 1) (lv' := [(0, _), (1, _), (2, _), (3, _)]) 3 [1, 2, 3, 0] (n := 79) hX (dec_of D_X4_readSession (i := 45) rfl) rfl rfl rfl (by decide) rfl ?_
            refine s_goto (n := 48) hX (dec_of D_X4_readSession (i := 46) rfl) rfl ?_
            exact s_sub [0, 1, 2, 3] rfl (hre25 (q27, (z23.2 + 1)))
  · refine s_aload_n 0 (n := 12) hX (dec_of D_X4_readSession (i := 6) rfl) rfl rfl rfl ?_
    refine s_iconst (v := 2) (n := 13) hX (dec_of D_X4_readSession (i := 7) rfl) rfl (by decide) ?_
    refine s_callVV (c := 4) (n := 16) hX cls4 (vk125 (by omega)) lk_RX4_81 (dec_of D_X4_readSession (i := 8) rfl) rfl (by decide) (c_X4_blame (l := _) hG _ _) rfl rfl (Nat.le_of_ble_eq_true rfl) (fun q28 => ?_)
    exact s_vret hX hR (dec_of D_X4_readSession (i := 9) rfl) rfl
def T_X4_readLead : List (Nat × Instr × Nat) := [(0, .aload_n 0, 1), (1, .getfield 44, 3), (4, .ifCond .eq 9, 3), (7, .aload_n 0, 1), (8, .iconst 3, 1), (9, .invokevirtual 81, 3), (12, .return_, 1), (13, .aload_n 0, 1), (14, .iconst 1, 1), (15, .putfield 44, 3), (18, .aload_n 0, 1), (19, .invokevirtual 94, 3), (22, .aload_n 1, 1), (23, .aload_n 0, 1), (24, .iconst 0, 1), (25, .bipush 100, 2), (27, .invokevirtual 110, 3), (30, .putfield 149, 3), (33, .return_, 1)]
theorem D_X4_readLead : dchk cX4_readLead T_X4_readLead = true := by decide +kernel
def Rd_readLead (σ : ST) (i1 : Nat) : Option ST :=
  (if (gF σ 461 0) = 0 then lt_ (setF σ 461 0 1) (fun s1 => bd_ (Rd_advance s1) (fun q2 => bd_ (Rd_numberIn q2 0 100) (fun q3 => lt_ (setF q3.2 532 i1 q3.1) (fun s4 => some s4)))) else bd_ (Rd_blame (σ) 3) (fun q5 => some q5))
set_option maxHeartbeats 4000000 in
set_option maxRecDepth 100000 in
theorem c_X4_readLead {G : GW} (hG : Good G) {l : Launch} (σ : ST) (i1 : Nat) (h1 : i1 < 2) : Ctr G l yX4_readLead cX4_readLead 2 none 2 [.ref (ga G 125 0), .ref (ga G 126 i1)] σ oV (Rd_readLead σ i1) := by
  refine ctr_of hG (by decide) (Nat.le_of_ble_eq_true rfl) ?_
  intro X hXl hR hX
  have hX : Ok G X cX4_readLead 2 RX4 2 := hX
  unfold Rd_readLead
  show Sim G X 2 (MQX G X oV) σ 0 [(0, .ref (ga G 125 0)), (1, .ref (ga G 126 i1))] [] _
  refine s_aload_n 0 (n := 1) hX (dec_of D_X4_readLead (i := 0) rfl) rfl rfl rfl ?_
  refine s_getI (c := 4) (p := 5) (id := 461) (n := 4) hX cls4 (vk125 (by omega)) (dec_of D_X4_readLead (i := 1) rfl) rfl rfl wd_161 ?_
  refine s_if_eq (tgt := 13) (n := 7) hX (dec_of D_X4_readLead (i := 2) rfl) rfl rfl ?_ ?_
  · refine s_aload_n 0 (n := 14) hX (dec_of D_X4_readLead (i := 7) rfl) rfl rfl rfl ?_
    refine s_iconst (v := 1) (n := 15) hX (dec_of D_X4_readLead (i := 8) rfl) rfl (by decide) ?_
    refine s_putI (c := 4) (p := 5) (n := 18) hX cls4 (vk125 (by omega)) (dec_of D_X4_readLead (i := 9) rfl) rfl rfl (by decide) wd_161 rfl rfl rfl (fun s1 => ?_)
    refine s_aload_n 0 (n := 19) hX (dec_of D_X4_readLead (i := 10) rfl) rfl rfl rfl ?_
    refine s_callVV (c := 4) (n := 22) hX cls4 (vk125 (by omega)) lk_RX4_94 (dec_of D_X4_readLead (i := 11) rfl) rfl (by decide) (c_X4_advance (l := _) hG _) rfl rfl (Nat.le_of_ble_eq_true rfl) (fun q2 => ?_)
    refine s_aload_n 1 (n := 23) hX (dec_of D_X4_readLead (i := 12) rfl) rfl rfl rfl ?_
    refine s_aload_n 0 (n := 24) hX (dec_of D_X4_readLead (i := 13) rfl) rfl rfl rfl ?_
    refine s_iconst (v := 0) (n := 25) hX (dec_of D_X4_readLead (i := 14) rfl) rfl (by decide) ?_
    refine s_bipush (v := 100) (n := 27) hX (dec_of D_X4_readLead (i := 15) rfl) rfl (by decide) ?_
    refine s_callVP (c := 4) (n := 30) hX cls4 (vk125 (by omega)) lk_RX4_110 (dec_of D_X4_readLead (i := 16) rfl) rfl (by decide) (c_X4_numberIn (l := _) hG _ _ _) rfl rfl (Nat.le_of_ble_eq_true rfl) (fun q3 => ?_)
    refine s_putI (c := 5) (p := 12) (n := 33) hX cls5 (vk126 (by omega)) (dec_of D_X4_readLead (i := 17) rfl) rfl rfl (by decide) wd_406 rfl rfl rfl (fun s4 => ?_)
    exact s_vret hX hR (dec_of D_X4_readLead (i := 18) rfl) rfl
  · refine s_aload_n 0 (n := 8) hX (dec_of D_X4_readLead (i := 3) rfl) rfl rfl rfl ?_
    refine s_iconst (v := 3) (n := 9) hX (dec_of D_X4_readLead (i := 4) rfl) rfl (by decide) ?_
    refine s_callVV (c := 4) (n := 12) hX cls4 (vk125 (by omega)) lk_RX4_81 (dec_of D_X4_readLead (i := 5) rfl) rfl (by decide) (c_X4_blame (l := _) hG _ _) rfl rfl (Nat.le_of_ble_eq_true rfl) (fun q5 => ?_)
    exact s_vret hX hR (dec_of D_X4_readLead (i := 6) rfl) rfl
def T_X4_readKeep : List (Nat × Instr × Nat) := [(0, .aload_n 0, 1), (1, .getfield 48, 3), (4, .ifCond .eq 9, 3), (7, .aload_n 0, 1), (8, .iconst 3, 1), (9, .invokevirtual 81, 3), (12, .return_, 1), (13, .aload_n 0, 1), (14, .iconst 1, 1), (15, .putfield 48, 3), (18, .aload_n 0, 1), (19, .invokevirtual 94, 3), (22, .aload_n 1, 1), (23, .aload_n 0, 1), (24, .iconst 1, 1), (25, .bipush 9, 2), (27, .invokevirtual 110, 3), (30, .putfield 152, 3), (33, .return_, 1)]
theorem D_X4_readKeep : dchk cX4_readKeep T_X4_readKeep = true := by decide +kernel
def Rd_readKeep (σ : ST) (i1 : Nat) : Option ST :=
  (if (gF σ 462 0) = 0 then lt_ (setF σ 462 0 1) (fun s1 => bd_ (Rd_advance s1) (fun q2 => bd_ (Rd_numberIn q2 1 9) (fun q3 => lt_ (setF q3.2 533 i1 q3.1) (fun s4 => some s4)))) else bd_ (Rd_blame (σ) 3) (fun q5 => some q5))
set_option maxHeartbeats 4000000 in
set_option maxRecDepth 100000 in
theorem c_X4_readKeep {G : GW} (hG : Good G) {l : Launch} (σ : ST) (i1 : Nat) (h1 : i1 < 2) : Ctr G l yX4_readKeep cX4_readKeep 2 none 2 [.ref (ga G 125 0), .ref (ga G 126 i1)] σ oV (Rd_readKeep σ i1) := by
  refine ctr_of hG (by decide) (Nat.le_of_ble_eq_true rfl) ?_
  intro X hXl hR hX
  have hX : Ok G X cX4_readKeep 2 RX4 2 := hX
  unfold Rd_readKeep
  show Sim G X 2 (MQX G X oV) σ 0 [(0, .ref (ga G 125 0)), (1, .ref (ga G 126 i1))] [] _
  refine s_aload_n 0 (n := 1) hX (dec_of D_X4_readKeep (i := 0) rfl) rfl rfl rfl ?_
  refine s_getI (c := 4) (p := 6) (id := 462) (n := 4) hX cls4 (vk125 (by omega)) (dec_of D_X4_readKeep (i := 1) rfl) rfl rfl wd_162 ?_
  refine s_if_eq (tgt := 13) (n := 7) hX (dec_of D_X4_readKeep (i := 2) rfl) rfl rfl ?_ ?_
  · refine s_aload_n 0 (n := 14) hX (dec_of D_X4_readKeep (i := 7) rfl) rfl rfl rfl ?_
    refine s_iconst (v := 1) (n := 15) hX (dec_of D_X4_readKeep (i := 8) rfl) rfl (by decide) ?_
    refine s_putI (c := 4) (p := 6) (n := 18) hX cls4 (vk125 (by omega)) (dec_of D_X4_readKeep (i := 9) rfl) rfl rfl (by decide) wd_162 rfl rfl rfl (fun s1 => ?_)
    refine s_aload_n 0 (n := 19) hX (dec_of D_X4_readKeep (i := 10) rfl) rfl rfl rfl ?_
    refine s_callVV (c := 4) (n := 22) hX cls4 (vk125 (by omega)) lk_RX4_94 (dec_of D_X4_readKeep (i := 11) rfl) rfl (by decide) (c_X4_advance (l := _) hG _) rfl rfl (Nat.le_of_ble_eq_true rfl) (fun q2 => ?_)
    refine s_aload_n 1 (n := 23) hX (dec_of D_X4_readKeep (i := 12) rfl) rfl rfl rfl ?_
    refine s_aload_n 0 (n := 24) hX (dec_of D_X4_readKeep (i := 13) rfl) rfl rfl rfl ?_
    refine s_iconst (v := 1) (n := 25) hX (dec_of D_X4_readKeep (i := 14) rfl) rfl (by decide) ?_
    refine s_bipush (v := 9) (n := 27) hX (dec_of D_X4_readKeep (i := 15) rfl) rfl (by decide) ?_
    refine s_callVP (c := 4) (n := 30) hX cls4 (vk125 (by omega)) lk_RX4_110 (dec_of D_X4_readKeep (i := 16) rfl) rfl (by decide) (c_X4_numberIn (l := _) hG _ _ _) rfl rfl (Nat.le_of_ble_eq_true rfl) (fun q3 => ?_)
    refine s_putI (c := 5) (p := 13) (n := 33) hX cls5 (vk126 (by omega)) (dec_of D_X4_readKeep (i := 17) rfl) rfl rfl (by decide) wd_410 rfl rfl rfl (fun s4 => ?_)
    exact s_vret hX hR (dec_of D_X4_readKeep (i := 18) rfl) rfl
  · refine s_aload_n 0 (n := 8) hX (dec_of D_X4_readKeep (i := 3) rfl) rfl rfl rfl ?_
    refine s_iconst (v := 3) (n := 9) hX (dec_of D_X4_readKeep (i := 4) rfl) rfl (by decide) ?_
    refine s_callVV (c := 4) (n := 12) hX cls4 (vk125 (by omega)) lk_RX4_81 (dec_of D_X4_readKeep (i := 5) rfl) rfl (by decide) (c_X4_blame (l := _) hG _ _) rfl rfl (Nat.le_of_ble_eq_true rfl) (fun q5 => ?_)
    exact s_vret hX hR (dec_of D_X4_readKeep (i := 6) rfl) rfl
theorem lk_RX4_66 : LkV RX4 66 RX4 yX4_readLand cX4_readLand 4 none 1 := ⟨wd_582, wd_583, wd_584, wd_84, wd_585, by decide +kernel, by decide⟩
theorem lk_RX4_69 : LkV RX4 69 RX4 yX4_readPlayer cX4_readPlayer 3 none 1 := ⟨wd_614, wd_615, wd_616, wd_84, wd_617, by decide +kernel, by decide⟩
theorem lk_RX4_72 : LkV RX4 72 RX4 yX4_readSession cX4_readSession 4 none 1 := ⟨wd_622, wd_623, wd_624, wd_84, wd_625, by decide +kernel, by decide⟩
theorem lk_RX4_75 : LkV RX4 75 RX4 yX4_readLead cX4_readLead 2 none 1 := ⟨wd_638, wd_639, wd_640, wd_84, wd_641, by decide +kernel, by decide⟩
theorem lk_RX4_78 : LkV RX4 78 RX4 yX4_readKeep cX4_readKeep 2 none 1 := ⟨wd_642, wd_643, wd_644, wd_84, wd_645, by decide +kernel, by decide⟩
def T_X4_readLine : List (Nat × Instr × Nat) := [(0, .aload_n 0, 1), (1, .getfield 12, 3), (4, .getfield 62, 3), (7, .aload_n 0, 1), (8, .getfield 41, 3), (11, .iaload, 1), (12, .tableswitch 80 0 5 #[40, 48, 56, 80, 64, 72], 40), (52, .aload_n 0, 1), (53, .aload_n 1, 1), (54, .invokevirtual 66, 3), (57, .goto 40, 3), (60, .aload_n 0, 1), (61, .aload_n 1, 1), (62, .invokevirtual 69, 3), (65, .goto 32, 3), (68, .aload_n 0, 1), (69, .aload_n 1, 1), (70, .invokevirtual 72, 3), (73, .goto 24, 3), (76, .aload_n 0, 1), (77, .aload_n 1, 1), (78, .invokevirtual 75, 3), (81, .goto 16, 3), (84, .aload_n 0, 1), (85, .aload_n 1, 1), (86, .invokevirtual 78, 3), (89, .goto 8, 3), (92, .aload_n 0, 1), (93, .iconst 1, 1), (94, .invokevirtual 81, 3), (97, .aload_n 0, 1), (98, .bipush 16, 2), (100, .bipush 16, 2), (102, .invokevirtual 84, 3), (105, .pop, 1), (106, .aload_n 0, 1), (107, .getfield 51, 3), (110, .ifCond .ne 13, 3), (113, .aload_n 1, 1), (114, .dup, 1), (115, .getfield 88, 3), (118, .iconst 1, 1), (119, .iadd, 1), (120, .putfield 88, 3), (123, .return_, 1)]
theorem D_X4_readLine : dchk cX4_readLine T_X4_readLine = true := by decide +kernel
def Rd_readLine (σ : ST) (i1 : Nat) : Option ST :=
  bd_ (ldI σ 22 0 (gF σ 460 0)) (fun v1 => lk_ (fun kk3 => lk_ (fun kk8 => sw_ v1 0 [bd_ (Rd_readLand (σ) i1) (fun q11 => kk3 q11), bd_ (Rd_readPlayer (σ) i1) (fun q12 => kk3 q12), bd_ (Rd_readSession (σ) i1) (fun q13 => kk3 q13), kk8 (), bd_ (Rd_readLead (σ) i1) (fun q14 => kk3 q14), bd_ (Rd_readKeep (σ) i1) (fun q15 => kk3 q15)] (kk8 ())) (fun (j7 : Unit) => bd_ (Rd_blame (σ) 1) (fun q10 => kk3 q10))) (fun (j2 : ST) => bd_ (Rd_oneOf j2 16 16) (fun q5 => (if (gF q5.2 463 0) = 0 then lt_ (setF q5.2 528 i1 ((gF q5.2 528 i1) + 1)) (fun s6 => some s6) else some q5.2))))
set_option maxHeartbeats 4000000 in
set_option maxRecDepth 100000 in
theorem c_X4_readLine {G : GW} (hG : Good G) {l : Launch} (σ : ST) (i1 : Nat) (h1 : i1 < 2) : Ctr G l yX4_readLine cX4_readLine 2 none 4 [.ref (ga G 125 0), .ref (ga G 126 i1)] σ oV (Rd_readLine σ i1) := by
  refine ctr_of hG (by decide) (Nat.le_of_ble_eq_true rfl) ?_
  intro X hXl hR hX
  have hX : Ok G X cX4_readLine 2 RX4 4 := hX
  unfold Rd_readLine
  show Sim G X 2 (MQX G X oV) σ 0 [(0, .ref (ga G 125 0)), (1, .ref (ga G 126 i1))] [] _
  refine s_aload_n 0 (n := 1) hX (dec_of D_X4_readLine (i := 0) rfl) rfl rfl rfl ?_
  refine s_getR (c := 4) (p := 0) (k' := 128) (n := 4) hX cls4 (vk125 (by omega)) (dec_of D_X4_readLine (i := 1) rfl) rfl rfl wd_155 ?_
  refine s_getR (c := 7) (p := 1) (k' := 22) (n := 7) hX cls7 (vk128 (by omega)) (dec_of D_X4_readLine (i := 2) rfl) rfl rfl wd_129 ?_
  refine s_aload_n 0 (n := 8) hX (dec_of D_X4_readLine (i := 3) rfl) rfl rfl rfl ?_
  refine s_getI (c := 4) (p := 4) (id := 460) (n := 11) hX cls4 (vk125 (by omega)) (dec_of D_X4_readLine (i := 4) rfl) rfl rfl wd_160 ?_
  refine s_iald (n := 12) hX (vk22 (by omega)) (by decide) (dec_of D_X4_readLine (i := 5) rfl) rfl (fun v1 => ?_)
  refine s_lk (pcj := 97) (Sf := fun (j2 : ST) => j2) (lvf := fun (j2 : ST) => [(0, .ref (ga G 125 0)), (1, .ref (ga G 126 i1))]) (stf := fun (j2 : ST) => []) (fun j2 => ?_) (fun kk3 hkk4 => ?_)
  · refine s_aload_n 0 (n := 98) hX (dec_of D_X4_readLine (i := 30) rfl) rfl rfl rfl ?_
    refine s_bipush (v := 16) (n := 100) hX (dec_of D_X4_readLine (i := 31) rfl) rfl (by decide) ?_
    refine s_bipush (v := 16) (n := 102) hX (dec_of D_X4_readLine (i := 32) rfl) rfl (by decide) ?_
    refine s_callVP (c := 4) (n := 105) hX cls4 (vk125 (by omega)) lk_RX4_84 (dec_of D_X4_readLine (i := 33) rfl) rfl (by decide) (c_X4_oneOf (l := _) hG _ _ _) rfl rfl (Nat.le_of_ble_eq_true rfl) (fun q5 => ?_)
    refine s_pop (n := 106) hX (dec_of D_X4_readLine (i := 34) rfl) rfl rfl ?_
    refine s_aload_n 0 (n := 107) hX (dec_of D_X4_readLine (i := 35) rfl) rfl rfl rfl ?_
    refine s_getI (c := 4) (p := 7) (id := 463) (n := 110) hX cls4 (vk125 (by omega)) (dec_of D_X4_readLine (i := 36) rfl) rfl rfl wd_163 ?_
    refine s_if_ne (tgt := 123) (n := 113) hX (dec_of D_X4_readLine (i := 37) rfl) rfl rfl ?_ ?_
    · exact s_vret hX hR (dec_of D_X4_readLine (i := 44) rfl) rfl
    · refine s_aload_n 1 (n := 114) hX (dec_of D_X4_readLine (i := 38) rfl) rfl rfl rfl ?_
      refine s_dup (n := 115) hX (dec_of D_X4_readLine (i := 39) rfl) rfl rfl ?_
      refine s_getI (c := 5) (p := 8) (id := 528) (n := 118) hX cls5 (vk126 (by omega)) (dec_of D_X4_readLine (i := 40) rfl) rfl rfl wd_386 ?_
      refine s_iconst (v := 1) (n := 119) hX (dec_of D_X4_readLine (i := 41) rfl) rfl (by decide) ?_
      refine s_iadd (n := 120) hX (dec_of D_X4_readLine (i := 42) rfl) rfl ?_
      refine s_putI (c := 5) (p := 8) (n := 123) hX cls5 (vk126 (by omega)) (dec_of D_X4_readLine (i := 43) rfl) rfl rfl (by decide) wd_386 rfl rfl rfl (fun s6 => ?_)
      exact s_vret hX hR (dec_of D_X4_readLine (i := 44) rfl) rfl
  · refine s_lk (pcj := 92) (Sf := fun (j7 : Unit) => σ) (lvf := fun (j7 : Unit) => [(0, .ref (ga G 125 0)), (1, .ref (ga G 126 i1))]) (stf := fun (j7 : Unit) => []) (fun j7 => ?_) (fun kk8 hkk9 => ?_)
    · refine s_aload_n 0 (n := 93) hX (dec_of D_X4_readLine (i := 27) rfl) rfl rfl rfl ?_
      refine s_iconst (v := 1) (n := 94) hX (dec_of D_X4_readLine (i := 28) rfl) rfl (by decide) ?_
      refine s_callVV (c := 4) (n := 97) hX cls4 (vk125 (by omega)) lk_RX4_81 (dec_of D_X4_readLine (i := 29) rfl) rfl (by decide) (c_X4_blame (l := _) hG _ _) rfl rfl (Nat.le_of_ble_eq_true rfl) (fun q10 => ?_)
      exact s_sub [0, 1] rfl (hkk4 q10)
    · refine s_tsw (lo' := 0) (Ps := [_, _, _, _, _, _]) hX (dec_of D_X4_readLine (i := 6) rfl) rfl 6 rfl (by decide) (by decide) [52, 60, 68, 92, 76, 84] 92 rfl rfl (by decide +kernel) ?_ ?_
      · skip
        refine swS_cons ?_ ?_
        · refine s_aload_n 0 (n := 53) hX (dec_of D_X4_readLine (i := 7) rfl) rfl rfl rfl ?_
          refine s_aload_n 1 (n := 54) hX (dec_of D_X4_readLine (i := 8) rfl) rfl rfl rfl ?_
          refine s_callVV (c := 4) (n := 57) hX cls4 (vk125 (by omega)) lk_RX4_66 (dec_of D_X4_readLine (i := 9) rfl) rfl (by decide) (c_X4_readLand (l := _) hG _ _ (by omega)) rfl rfl (Nat.le_of_ble_eq_true rfl) (fun q11 => ?_)
          refine s_goto (n := 97) hX (dec_of D_X4_readLine (i := 10) rfl) rfl ?_
          exact s_sub [0, 1] rfl (hkk4 q11)
        refine swS_cons ?_ ?_
        · refine s_aload_n 0 (n := 61) hX (dec_of D_X4_readLine (i := 11) rfl) rfl rfl rfl ?_
          refine s_aload_n 1 (n := 62) hX (dec_of D_X4_readLine (i := 12) rfl) rfl rfl rfl ?_
          refine s_callVV (c := 4) (n := 65) hX cls4 (vk125 (by omega)) lk_RX4_69 (dec_of D_X4_readLine (i := 13) rfl) rfl (by decide) (c_X4_readPlayer (l := _) hG _ _ (by omega)) rfl rfl (Nat.le_of_ble_eq_true rfl) (fun q12 => ?_)
          refine s_goto (n := 97) hX (dec_of D_X4_readLine (i := 14) rfl) rfl ?_
          exact s_sub [0, 1] rfl (hkk4 q12)
        refine swS_cons ?_ ?_
        · refine s_aload_n 0 (n := 69) hX (dec_of D_X4_readLine (i := 15) rfl) rfl rfl rfl ?_
          refine s_aload_n 1 (n := 70) hX (dec_of D_X4_readLine (i := 16) rfl) rfl rfl rfl ?_
          refine s_callVV (c := 4) (n := 73) hX cls4 (vk125 (by omega)) lk_RX4_72 (dec_of D_X4_readLine (i := 17) rfl) rfl (by decide) (c_X4_readSession (l := _) hG _ _ (by omega)) rfl rfl (Nat.le_of_ble_eq_true rfl) (fun q13 => ?_)
          refine s_goto (n := 97) hX (dec_of D_X4_readLine (i := 18) rfl) rfl ?_
          exact s_sub [0, 1] rfl (hkk4 q13)
        refine swS_cons ?_ ?_
        · exact s_sub [0, 1] rfl (hkk9 ())
        refine swS_cons ?_ ?_
        · refine s_aload_n 0 (n := 77) hX (dec_of D_X4_readLine (i := 19) rfl) rfl rfl rfl ?_
          refine s_aload_n 1 (n := 78) hX (dec_of D_X4_readLine (i := 20) rfl) rfl rfl rfl ?_
          refine s_callVV (c := 4) (n := 81) hX cls4 (vk125 (by omega)) lk_RX4_75 (dec_of D_X4_readLine (i := 21) rfl) rfl (by decide) (c_X4_readLead (l := _) hG _ _ (by omega)) rfl rfl (Nat.le_of_ble_eq_true rfl) (fun q14 => ?_)
          refine s_goto (n := 97) hX (dec_of D_X4_readLine (i := 22) rfl) rfl ?_
          exact s_sub [0, 1] rfl (hkk4 q14)
        refine swS_cons ?_ ?_
        · refine s_aload_n 0 (n := 85) hX (dec_of D_X4_readLine (i := 23) rfl) rfl rfl rfl ?_
          refine s_aload_n 1 (n := 86) hX (dec_of D_X4_readLine (i := 24) rfl) rfl rfl rfl ?_
          refine s_callVV (c := 4) (n := 89) hX cls4 (vk125 (by omega)) lk_RX4_78 (dec_of D_X4_readLine (i := 25) rfl) rfl (by decide) (c_X4_readKeep (l := _) hG _ _ (by omega)) rfl rfl (Nat.le_of_ble_eq_true rfl) (fun q15 => ?_)
          refine s_goto (n := 97) hX (dec_of D_X4_readLine (i := 26) rfl) rfl ?_
          exact s_sub [0, 1] rfl (hkk4 q15)
        exact swS_nil
      · exact s_sub [0, 1] rfl (hkk9 ())
theorem lk_RX4_32 : LkV RX4 32 RX7 yX7_takeTokens cX7_takeTokens 4 none 1 := ⟨wd_485, wd_486, wd_487, wd_85, wd_488, by decide +kernel, by decide⟩
theorem lk_RX4_36 : LkV RX4 36 RX5 yX5_clear cX5_clear 1 none 0 := ⟨wd_570, wd_571, wd_572, wd_92, wd_573, by decide +kernel, by decide⟩
theorem lk_RX4_58 : LkV RX4 58 RX4 yX4_readLine cX4_readLine 2 none 1 := ⟨wd_578, wd_579, wd_580, wd_84, wd_581, by decide +kernel, by decide⟩
def T_X4_readText : List (Nat × Instr × Nat) := [(0, .aload_n 0, 1), (1, .getfield 12, 3), (4, .iload_n 2, 1), (5, .invokevirtual 32, 3), (8, .aload_n 1, 1), (9, .invokevirtual 36, 3), (12, .aload_n 0, 1), (13, .iconst 0, 1), (14, .putfield 41, 3), (17, .aload_n 0, 1), (18, .iconst 0, 1), (19, .putfield 44, 3), (22, .aload_n 0, 1), (23, .iconst 0, 1), (24, .putfield 48, 3), (27, .aload_n 0, 1), (28, .iconst 0, 1), (29, .putfield 51, 3), (32, .aload_n 0, 1), (33, .iconst (-1), 1), (34, .putfield 28, 3), (37, .iconst 0, 1), (38, .istore_n 3, 1), (39, .iload_n 3, 1), (40, .sipush 900, 3), (43, .if_icmp .ge 30, 3), (46, .aload_n 0, 1), (47, .getfield 51, 3), (50, .ifCond .ne 23, 3), (53, .aload_n 0, 1), (54, .bipush 17, 2), (56, .invokevirtual 54, 3), (59, .ifCond .ne 14, 3), (62, .aload_n 0, 1), (63, .aload_n 1, 1), (64, .invokevirtual 58, 3), (67, .iinc 3 1, 3), (70, .goto (-31), 3), (73, .aload_n 0, 1), (74, .getfield 51, 3), (77, .ifCond .ne 7, 3), (80, .iconst 1, 1), (81, .goto 4, 3), (84, .iconst 0, 1), (85, .ireturn, 1)]
theorem D_X4_readText : dchk cX4_readText T_X4_readText = true := by decide +kernel
def Rd_readText (σ : ST) (i1 : Nat) (a2 : Int32) : Option (Int32 × ST) :=
  bd_ (Tp_takeTokens (σ) a2) (fun q1 => bd_ (Rl_clear q1 i1) (fun q2 => lt_ (setF q2 460 0 0) (fun s3 => lt_ (setF s3 461 0 0) (fun s4 => lt_ (setF s4 462 0 0) (fun s5 => lt_ (setF s5 463 0 0) (fun s6 => lt_ (setF s6 464 0 (-1)) (fun s7 => lk_ (fun kk9 => lp_ (fun rec12 (z11 : ST × Int32) => (if 900 ≤ z11.2 then kk9 z11.1 else (if (gF z11.1 463 0) = 0 then bd_ (Rd_isAt z11.1 17) (fun q14 => (if q14 = 0 then bd_ (Rd_readLine z11.1 i1) (fun q15 => rec12 (q15, (z11.2 + 1))) else kk9 z11.1)) else kk9 z11.1))) FU (s7, 0)) (fun (j8 : ST) => (if (gF j8 463 0) = 0 then some (1, j8) else some (0, j8))))))))))
set_option maxHeartbeats 4000000 in
set_option maxRecDepth 100000 in
theorem c_X4_readText {G : GW} (hG : Good G) {l : Launch} (σ : ST) (i1 : Nat) (h1 : i1 < 2) (a2 : Int32) : Ctr G l yX4_readText cX4_readText 4 (some .boolean) 10 [.ref (ga G 125 0), .ref (ga G 126 i1), .int a2] σ oP (Rd_readText σ i1 a2) := by
  refine ctr_of hG (by decide) (Nat.le_of_ble_eq_true rfl) ?_
  intro X hXl hR hX
  have hX : Ok G X cX4_readText 4 RX4 10 := hX
  unfold Rd_readText
  show Sim G X 4 (MQX G X oP) σ 0 [(0, .ref (ga G 125 0)), (1, .ref (ga G 126 i1)), (2, .int a2)] [] _
  refine s_aload_n 0 (n := 1) hX (dec_of D_X4_readText (i := 0) rfl) rfl rfl rfl ?_
  refine s_getR (c := 4) (p := 0) (k' := 128) (n := 4) hX cls4 (vk125 (by omega)) (dec_of D_X4_readText (i := 1) rfl) rfl rfl wd_155 ?_
  refine s_iload_n 2 (n := 5) hX (dec_of D_X4_readText (i := 2) rfl) rfl rfl rfl ?_
  refine s_callVV (c := 7) (n := 8) hX cls7 (vk128 (by omega)) lk_RX4_32 (dec_of D_X4_readText (i := 3) rfl) rfl (by decide) (c_X7_takeTokens (l := _) hG _ _) rfl rfl (Nat.le_of_ble_eq_true rfl) (fun q1 => ?_)
  refine s_aload_n 1 (n := 9) hX (dec_of D_X4_readText (i := 4) rfl) rfl rfl rfl ?_
  refine s_callVV (c := 5) (n := 12) hX cls5 (vk126 (by omega)) lk_RX4_36 (dec_of D_X4_readText (i := 5) rfl) rfl (by decide) (c_X5_clear (l := _) hG _ _ (by omega)) rfl rfl (Nat.le_of_ble_eq_true rfl) (fun q2 => ?_)
  refine s_aload_n 0 (n := 13) hX (dec_of D_X4_readText (i := 6) rfl) rfl rfl rfl ?_
  refine s_iconst (v := 0) (n := 14) hX (dec_of D_X4_readText (i := 7) rfl) rfl (by decide) ?_
  refine s_putI (c := 4) (p := 4) (n := 17) hX cls4 (vk125 (by omega)) (dec_of D_X4_readText (i := 8) rfl) rfl rfl (by decide) wd_160 rfl rfl rfl (fun s3 => ?_)
  refine s_aload_n 0 (n := 18) hX (dec_of D_X4_readText (i := 9) rfl) rfl rfl rfl ?_
  refine s_iconst (v := 0) (n := 19) hX (dec_of D_X4_readText (i := 10) rfl) rfl (by decide) ?_
  refine s_putI (c := 4) (p := 5) (n := 22) hX cls4 (vk125 (by omega)) (dec_of D_X4_readText (i := 11) rfl) rfl rfl (by decide) wd_161 rfl rfl rfl (fun s4 => ?_)
  refine s_aload_n 0 (n := 23) hX (dec_of D_X4_readText (i := 12) rfl) rfl rfl rfl ?_
  refine s_iconst (v := 0) (n := 24) hX (dec_of D_X4_readText (i := 13) rfl) rfl (by decide) ?_
  refine s_putI (c := 4) (p := 6) (n := 27) hX cls4 (vk125 (by omega)) (dec_of D_X4_readText (i := 14) rfl) rfl rfl (by decide) wd_162 rfl rfl rfl (fun s5 => ?_)
  refine s_aload_n 0 (n := 28) hX (dec_of D_X4_readText (i := 15) rfl) rfl rfl rfl ?_
  refine s_iconst (v := 0) (n := 29) hX (dec_of D_X4_readText (i := 16) rfl) rfl (by decide) ?_
  refine s_putI (c := 4) (p := 7) (n := 32) hX cls4 (vk125 (by omega)) (dec_of D_X4_readText (i := 17) rfl) rfl rfl (by decide) wd_163 rfl rfl rfl (fun s6 => ?_)
  refine s_aload_n 0 (n := 33) hX (dec_of D_X4_readText (i := 18) rfl) rfl rfl rfl ?_
  refine s_iconst (v := (-1)) (n := 34) hX (dec_of D_X4_readText (i := 19) rfl) rfl (by decide) ?_
  refine s_putI (c := 4) (p := 8) (n := 37) hX cls4 (vk125 (by omega)) (dec_of D_X4_readText (i := 20) rfl) rfl rfl (by decide) wd_165 rfl rfl rfl (fun s7 => ?_)
  refine s_iconst (v := 0) (n := 38) hX (dec_of D_X4_readText (i := 21) rfl) rfl (by decide) ?_
  refine s_istore_n (lv' := [(0, _), (1, _), (2, _), (3, _)]) [1, 2, 3, 0] (n := 39) hX (dec_of D_X4_readText (i := 22) rfl) rfl rfl (by decide) rfl ?_
  refine s_lk (pcj := 73) (Sf := fun (j8 : ST) => j8) (lvf := fun (j8 : ST) => [(0, .ref (ga G 125 0))]) (stf := fun (j8 : ST) => []) (fun j8 => ?_) (fun kk9 hkk10 => ?_)
  · refine s_aload_n 0 (n := 74) hX (dec_of D_X4_readText (i := 38) rfl) rfl rfl rfl ?_
    refine s_getI (c := 4) (p := 7) (id := 463) (n := 77) hX cls4 (vk125 (by omega)) (dec_of D_X4_readText (i := 39) rfl) rfl rfl wd_163 ?_
    refine s_if_ne (tgt := 84) (n := 80) hX (dec_of D_X4_readText (i := 40) rfl) rfl rfl ?_ ?_
    · refine s_iconst (v := 0) (n := 85) hX (dec_of D_X4_readText (i := 43) rfl) rfl (by decide) ?_
      exact s_zret hX hR (dec_of D_X4_readText (i := 44) rfl) rfl rfl
    · refine s_iconst (v := 1) (n := 81) hX (dec_of D_X4_readText (i := 41) rfl) rfl (by decide) ?_
      refine s_goto (n := 85) hX (dec_of D_X4_readText (i := 42) rfl) rfl ?_
      exact s_zret hX hR (dec_of D_X4_readText (i := 44) rfl) rfl rfl
  · refine s_sub [0, 1, 3] rfl (s_lp (pc := 39) (Sf := fun (z11 : ST × Int32) => z11.1) (lvf := fun (z11 : ST × Int32) => [(0, .ref (ga G 125 0)), (1, .ref (ga G 126 i1)), (3, .int z11.2)]) (fun rec12 hre13 z11 => ?_) FU (s7, 0))
    refine s_iload_n 2 (n := 40) hX (dec_of D_X4_readText (i := 23) rfl) rfl rfl rfl ?_
    refine s_sipush (v := 900) (n := 43) hX (dec_of D_X4_readText (i := 24) rfl) rfl (by decide) ?_
    refine s_icmp_ge (tgt := 73) (n := 46) hX (dec_of D_X4_readText (i := 25) rfl) rfl rfl ?_ ?_
    · exact s_sub [0] rfl (hkk10 z11.1)
    · refine s_aload_n 0 (n := 47) hX (dec_of D_X4_readText (i := 26) rfl) rfl rfl rfl ?_
      refine s_getI (c := 4) (p := 7) (id := 463) (n := 50) hX cls4 (vk125 (by omega)) (dec_of D_X4_readText (i := 27) rfl) rfl rfl wd_163 ?_
      refine s_if_ne (tgt := 73) (n := 53) hX (dec_of D_X4_readText (i := 28) rfl) rfl rfl ?_ ?_
      · exact s_sub [0] rfl (hkk10 z11.1)
      · refine s_aload_n 0 (n := 54) hX (dec_of D_X4_readText (i := 29) rfl) rfl rfl rfl ?_
        refine s_bipush (v := 17) (n := 56) hX (dec_of D_X4_readText (i := 30) rfl) rfl (by decide) ?_
        refine s_callVI (c := 4) (n := 59) hX cls4 (vk125 (by omega)) lk_RX4_54 (dec_of D_X4_readText (i := 31) rfl) rfl (by decide) (c_X4_isAt (l := _) hG _ _) rfl rfl (Nat.le_of_ble_eq_true rfl) (fun q14 => ?_)
        refine s_if_ne (tgt := 73) (n := 62) hX (dec_of D_X4_readText (i := 32) rfl) rfl rfl ?_ ?_
        · exact s_sub [0] rfl (hkk10 z11.1)
        · refine s_aload_n 0 (n := 63) hX (dec_of D_X4_readText (i := 33) rfl) rfl rfl rfl ?_
          refine s_aload_n 1 (n := 64) hX (dec_of D_X4_readText (i := 34) rfl) rfl rfl rfl ?_
          refine s_callVV (c := 4) (n := 67) hX cls4 (vk125 (by omega)) lk_RX4_58 (dec_of D_X4_readText (i := 35) rfl) rfl (by decide) (c_X4_readLine (l := _) hG _ _ (by omega)) rfl rfl (Nat.le_of_ble_eq_true rfl) (fun q15 => ?_)
          refine s_iinc (v := z11.2 + 1) (lv' := [(0, _), (1, _), (3, _)]) 2 [1, 2, 0] (n := 70) hX (dec_of D_X4_readText (i := 36) rfl) rfl rfl rfl (by decide) rfl ?_
          refine s_goto (n := 39) hX (dec_of D_X4_readText (i := 37) rfl) rfl ?_
          exact s_sub [0, 1, 2] rfl (hre13 (q15, (z11.2 + 1)))
theorem lk_RX6_27 : LkV RX6 27 RX3 yX3_think cX3_think 7 none 5 := ⟨wd_1170, wd_825, wd_826, wd_89, wd_827, by decide +kernel, by decide⟩
theorem lk_RX6_31 : LkV RX6 31 RX3 yX3_paidToHome cX3_paidToHome 5 (some .int) 2 := ⟨wd_1171, wd_1172, wd_1173, wd_89, wd_1174, by decide +kernel, by decide⟩
def T_X6_toPlayersOf : List (Nat × Instr × Nat) := [(0, .iconst 0, 1), (1, .istore 4, 2), (3, .iconst 0, 1), (4, .istore 5, 2), (6, .iload 5, 2), (8, .aload_n 1, 1), (9, .getfield 18, 3), (12, .if_icmp .ge 57, 3), (15, .iconst 0, 1), (16, .istore 6, 2), (18, .iload 6, 2), (20, .aload_n 1, 1), (21, .getfield 24, 3), (24, .if_icmp .ge 39, 3), (27, .aload_n 0, 1), (28, .getfield 12, 3), (31, .aload_n 1, 1), (32, .aload_n 2, 1), (33, .iload 5, 2), (35, .iload 6, 2), (37, .sipush 1000, 3), (40, .invokevirtual 27, 3), (43, .iload 4, 2), (45, .aload_n 0, 1), (46, .getfield 12, 3), (49, .aload_n 2, 1), (50, .iload_n 3, 1), (51, .invokevirtual 31, 3), (54, .iadd, 1), (55, .istore 4, 2), (57, .iinc 6 1, 3), (60, .goto (-42), 3), (63, .iinc 5 1, 3), (66, .goto (-60), 3), (69, .iload 4, 2), (71, .ireturn, 1)]
theorem D_X6_toPlayersOf : dchk cX6_toPlayersOf T_X6_toPlayersOf = true := by decide +kernel
def Rn_toPlayersOf (σ : ST) (i1 : Nat) (i2 : Nat) (a3 : Int32) : Option (Int32 × ST) :=
  lp_ (fun rec2 (z1 : ST × Int32 × Int32) => (if (gF z1.1 529 i1) ≤ z1.2.2 then some (z1.2.1, z1.1) else lp_ (fun rec5 (z4 : ST × Int32 × Int32) => (if (gF z4.1 531 i1) ≤ z4.2.2 then rec2 (z4.1, z4.2.1, (z1.2.2 + 1)) else bd_ (Oc_think z4.1 1 i1 i2 z1.2.2 z4.2.2 1000) (fun q7 => bd_ (Oc_paidToHome q7 1 i2 a3) (fun q8 => lt_ ((z4.2.1 + q8)) (fun x9 => rec5 (q7, x9, (z4.2.2 + 1))))))) FU (z1.1, z1.2.1, 0))) FU (σ, 0, 0)
set_option maxHeartbeats 4000000 in
set_option maxRecDepth 100000 in
theorem c_X6_toPlayersOf {G : GW} (hG : Good G) {l : Launch} (σ : ST) (i1 : Nat) (h1 : i1 < 2) (i2 : Nat) (h2 : i2 < 14) (a3 : Int32) : Ctr G l yX6_toPlayersOf cX6_toPlayersOf 7 (some .int) 4 [.ref (ga G 127 0), .ref (ga G 126 i1), .ref (ga G 129 i2), .int a3] σ oP (Rn_toPlayersOf σ i1 i2 a3) := by
  refine ctr_of hG (by decide) (Nat.le_of_ble_eq_true rfl) ?_
  intro X hXl hR hX
  have hX : Ok G X cX6_toPlayersOf 7 RX6 4 := hX
  unfold Rn_toPlayersOf
  show Sim G X 7 (MQX G X oP) σ 0 [(0, .ref (ga G 127 0)), (1, .ref (ga G 126 i1)), (2, .ref (ga G 129 i2)), (3, .int a3)] [] _
  refine s_iconst (v := 0) (n := 1) hX (dec_of D_X6_toPlayersOf (i := 0) rfl) rfl (by decide) ?_
  refine s_istore (lv' := [(0, _), (1, _), (2, _), (3, _), (4, _)]) [1, 2, 3, 4, 0] (n := 3) hX (dec_of D_X6_toPlayersOf (i := 1) rfl) rfl (by decide) rfl ?_
  refine s_iconst (v := 0) (n := 4) hX (dec_of D_X6_toPlayersOf (i := 2) rfl) rfl (by decide) ?_
  refine s_istore (lv' := [(0, _), (1, _), (2, _), (3, _), (4, _), (5, _)]) [1, 2, 3, 4, 5, 0] (n := 6) hX (dec_of D_X6_toPlayersOf (i := 3) rfl) rfl (by decide) rfl ?_
  refine s_sub [0, 1, 2, 3, 4, 5] rfl (s_lp (pc := 6) (Sf := fun (z1 : ST × Int32 × Int32) => z1.1) (lvf := fun (z1 : ST × Int32 × Int32) => [(0, .ref (ga G 127 0)), (1, .ref (ga G 126 i1)), (2, .ref (ga G 129 i2)), (3, .int a3), (4, .int z1.2.1), (5, .int z1.2.2)]) (fun rec2 hre3 z1 => ?_) FU (σ, 0, 0))
  refine s_iload 5 (n := 8) hX (dec_of D_X6_toPlayersOf (i := 4) rfl) rfl rfl ?_
  refine s_aload_n 1 (n := 9) hX (dec_of D_X6_toPlayersOf (i := 5) rfl) rfl rfl rfl ?_
  refine s_getI (c := 5) (p := 9) (id := 529) (n := 12) hX cls5 (vk126 (by omega)) (dec_of D_X6_toPlayersOf (i := 6) rfl) rfl rfl wd_388 ?_
  refine s_icmp_ge (tgt := 69) (n := 15) hX (dec_of D_X6_toPlayersOf (i := 7) rfl) rfl rfl ?_ ?_
  · refine s_iload 4 (n := 71) hX (dec_of D_X6_toPlayersOf (i := 34) rfl) rfl rfl ?_
    exact s_iret hX hR (dec_of D_X6_toPlayersOf (i := 35) rfl) rfl
  · refine s_iconst (v := 0) (n := 16) hX (dec_of D_X6_toPlayersOf (i := 8) rfl) rfl (by decide) ?_
    refine s_istore (lv' := [(0, _), (1, _), (2, _), (3, _), (4, _), (5, _), (6, _)]) [1, 2, 3, 4, 5, 6, 0] (n := 18) hX (dec_of D_X6_toPlayersOf (i := 9) rfl) rfl (by decide) rfl ?_
    refine s_sub [0, 1, 2, 3, 4, 5, 6] rfl (s_lp (pc := 18) (Sf := fun (z4 : ST × Int32 × Int32) => z4.1) (lvf := fun (z4 : ST × Int32 × Int32) => [(0, .ref (ga G 127 0)), (1, .ref (ga G 126 i1)), (2, .ref (ga G 129 i2)), (3, .int a3), (4, .int z4.2.1), (5, .int z1.2.2), (6, .int z4.2.2)]) (fun rec5 hre6 z4 => ?_) FU (z1.1, z1.2.1, 0))
    refine s_iload 6 (n := 20) hX (dec_of D_X6_toPlayersOf (i := 10) rfl) rfl rfl ?_
    refine s_aload_n 1 (n := 21) hX (dec_of D_X6_toPlayersOf (i := 11) rfl) rfl rfl rfl ?_
    refine s_getI (c := 5) (p := 11) (id := 531) (n := 24) hX cls5 (vk126 (by omega)) (dec_of D_X6_toPlayersOf (i := 12) rfl) rfl rfl wd_400 ?_
    refine s_icmp_ge (tgt := 63) (n := 27) hX (dec_of D_X6_toPlayersOf (i := 13) rfl) rfl rfl ?_ ?_
    · refine s_iinc (v := z1.2.2 + 1) (lv' := [(0, _), (1, _), (2, _), (3, _), (4, _), (5, _), (6, _)]) 5 [1, 2, 3, 4, 5, 0, 6] (n := 66) hX (dec_of D_X6_toPlayersOf (i := 32) rfl) rfl rfl rfl (by decide) rfl ?_
      refine s_goto (n := 6) hX (dec_of D_X6_toPlayersOf (i := 33) rfl) rfl ?_
      exact s_sub [0, 1, 2, 3, 4, 5] rfl (hre3 (z4.1, z4.2.1, (z1.2.2 + 1)))
    · refine s_aload_n 0 (n := 28) hX (dec_of D_X6_toPlayersOf (i := 14) rfl) rfl rfl rfl ?_
      refine s_getC (c := 6) (p := 0) (n := 31) 124 1 hX cls6 (vk127 (by omega)) (dec_of D_X6_toPlayersOf (i := 15) rfl) rfl rfl (by decide) wd_328 ?_
      refine s_aload_n 1 (n := 32) hX (dec_of D_X6_toPlayersOf (i := 16) rfl) rfl rfl rfl ?_
      refine s_aload_n 2 (n := 33) hX (dec_of D_X6_toPlayersOf (i := 17) rfl) rfl rfl rfl ?_
      refine s_iload 5 (n := 35) hX (dec_of D_X6_toPlayersOf (i := 18) rfl) rfl rfl ?_
      refine s_iload 6 (n := 37) hX (dec_of D_X6_toPlayersOf (i := 19) rfl) rfl rfl ?_
      refine s_sipush (v := 1000) (n := 40) hX (dec_of D_X6_toPlayersOf (i := 20) rfl) rfl (by decide) ?_
      refine s_callVV (c := 3) (n := 43) hX cls3 (vk124 (by omega)) lk_RX6_27 (dec_of D_X6_toPlayersOf (i := 21) rfl) rfl (by decide) (c_X3_think (l := _) hG _ _ (by omega) _ (by omega) _ (by omega) _ _ _) rfl rfl (Nat.le_of_ble_eq_true rfl) (fun q7 => ?_)
      refine s_iload 4 (n := 45) hX (dec_of D_X6_toPlayersOf (i := 22) rfl) rfl rfl ?_
      refine s_aload_n 0 (n := 46) hX (dec_of D_X6_toPlayersOf (i := 23) rfl) rfl rfl rfl ?_
      refine s_getC (c := 6) (p := 0) (n := 49) 124 1 hX cls6 (vk127 (by omega)) (dec_of D_X6_toPlayersOf (i := 24) rfl) rfl rfl (by decide) wd_328 ?_
      refine s_aload_n 2 (n := 50) hX (dec_of D_X6_toPlayersOf (i := 25) rfl) rfl rfl rfl ?_
      refine s_iload_n 3 (n := 51) hX (dec_of D_X6_toPlayersOf (i := 26) rfl) rfl rfl rfl ?_
      refine s_callVI (c := 3) (n := 54) hX cls3 (vk124 (by omega)) lk_RX6_31 (dec_of D_X6_toPlayersOf (i := 27) rfl) rfl (by decide) (c_X3_paidToHome (l := _) hG _ _ (by omega) _ (by omega) _) rfl rfl (Nat.le_of_ble_eq_true rfl) (fun q8 => ?_)
      refine s_iadd (n := 55) hX (dec_of D_X6_toPlayersOf (i := 28) rfl) rfl ?_
      refine s_topi (fun x9 => ?_)
      refine s_istore (lv' := [(0, _), (1, _), (2, _), (3, _), (4, _), (5, _), (6, _)]) [1, 2, 3, 4, 0, 5, 6] (n := 57) hX (dec_of D_X6_toPlayersOf (i := 29) rfl) rfl (by decide) rfl ?_
      refine s_iinc (v := z4.2.2 + 1) (lv' := [(0, _), (1, _), (2, _), (3, _), (4, _), (5, _), (6, _)]) 6 [1, 2, 3, 4, 5, 6, 0] (n := 60) hX (dec_of D_X6_toPlayersOf (i := 30) rfl) rfl rfl rfl (by decide) rfl ?_
      refine s_goto (n := 18) hX (dec_of D_X6_toPlayersOf (i := 31) rfl) rfl ?_
      exact s_sub [0, 1, 2, 3, 4, 5, 6] rfl (hre6 (q7, x9, (z4.2.2 + 1)))
theorem lk_RX6_35 : LkV RX6 35 RX3 yX3_paidToOne cX3_paidToOne 4 (some .int) 1 := ⟨wd_1204, wd_1155, wd_1156, wd_89, wd_1157, by decide +kernel, by decide⟩
def T_X6_toPlayer : List (Nat × Instr × Nat) := [(0, .iconst 0, 1), (1, .istore 4, 2), (3, .iconst 0, 1), (4, .istore 5, 2), (6, .iload 5, 2), (8, .aload_n 1, 1), (9, .getfield 18, 3), (12, .if_icmp .ge 56, 3), (15, .iconst 0, 1), (16, .istore 6, 2), (18, .iload 6, 2), (20, .aload_n 1, 1), (21, .getfield 24, 3), (24, .if_icmp .ge 38, 3), (27, .aload_n 0, 1), (28, .getfield 12, 3), (31, .aload_n 1, 1), (32, .aload_n 2, 1), (33, .iload 5, 2), (35, .iload 6, 2), (37, .sipush 1000, 3), (40, .invokevirtual 27, 3), (43, .iload 4, 2), (45, .aload_n 0, 1), (46, .getfield 12, 3), (49, .iload_n 3, 1), (50, .invokevirtual 35, 3), (53, .iadd, 1), (54, .istore 4, 2), (56, .iinc 6 1, 3), (59, .goto (-41), 3), (62, .iinc 5 1, 3), (65, .goto (-59), 3), (68, .iload 4, 2), (70, .ireturn, 1)]
theorem D_X6_toPlayer : dchk cX6_toPlayer T_X6_toPlayer = true := by decide +kernel
def Rn_toPlayer (σ : ST) (i1 : Nat) (i2 : Nat) (a3 : Int32) : Option (Int32 × ST) :=
  lp_ (fun rec2 (z1 : ST × Int32 × Int32) => (if (gF z1.1 529 i1) ≤ z1.2.2 then some (z1.2.1, z1.1) else lp_ (fun rec5 (z4 : ST × Int32 × Int32) => (if (gF z4.1 531 i1) ≤ z4.2.2 then rec2 (z4.1, z4.2.1, (z1.2.2 + 1)) else bd_ (Oc_think z4.1 1 i1 i2 z1.2.2 z4.2.2 1000) (fun q7 => bd_ (Oc_paidToOne q7 1 a3) (fun q8 => lt_ ((z4.2.1 + q8)) (fun x9 => rec5 (q7, x9, (z4.2.2 + 1))))))) FU (z1.1, z1.2.1, 0))) FU (σ, 0, 0)
set_option maxHeartbeats 4000000 in
set_option maxRecDepth 100000 in
theorem c_X6_toPlayer {G : GW} (hG : Good G) {l : Launch} (σ : ST) (i1 : Nat) (h1 : i1 < 2) (i2 : Nat) (h2 : i2 < 14) (a3 : Int32) : Ctr G l yX6_toPlayer cX6_toPlayer 7 (some .int) 4 [.ref (ga G 127 0), .ref (ga G 126 i1), .ref (ga G 129 i2), .int a3] σ oP (Rn_toPlayer σ i1 i2 a3) := by
  refine ctr_of hG (by decide) (Nat.le_of_ble_eq_true rfl) ?_
  intro X hXl hR hX
  have hX : Ok G X cX6_toPlayer 7 RX6 4 := hX
  unfold Rn_toPlayer
  show Sim G X 7 (MQX G X oP) σ 0 [(0, .ref (ga G 127 0)), (1, .ref (ga G 126 i1)), (2, .ref (ga G 129 i2)), (3, .int a3)] [] _
  refine s_iconst (v := 0) (n := 1) hX (dec_of D_X6_toPlayer (i := 0) rfl) rfl (by decide) ?_
  refine s_istore (lv' := [(0, _), (1, _), (2, _), (3, _), (4, _)]) [1, 2, 3, 4, 0] (n := 3) hX (dec_of D_X6_toPlayer (i := 1) rfl) rfl (by decide) rfl ?_
  refine s_iconst (v := 0) (n := 4) hX (dec_of D_X6_toPlayer (i := 2) rfl) rfl (by decide) ?_
  refine s_istore (lv' := [(0, _), (1, _), (2, _), (3, _), (4, _), (5, _)]) [1, 2, 3, 4, 5, 0] (n := 6) hX (dec_of D_X6_toPlayer (i := 3) rfl) rfl (by decide) rfl ?_
  refine s_sub [0, 1, 2, 3, 4, 5] rfl (s_lp (pc := 6) (Sf := fun (z1 : ST × Int32 × Int32) => z1.1) (lvf := fun (z1 : ST × Int32 × Int32) => [(0, .ref (ga G 127 0)), (1, .ref (ga G 126 i1)), (2, .ref (ga G 129 i2)), (3, .int a3), (4, .int z1.2.1), (5, .int z1.2.2)]) (fun rec2 hre3 z1 => ?_) FU (σ, 0, 0))
  refine s_iload 5 (n := 8) hX (dec_of D_X6_toPlayer (i := 4) rfl) rfl rfl ?_
  refine s_aload_n 1 (n := 9) hX (dec_of D_X6_toPlayer (i := 5) rfl) rfl rfl rfl ?_
  refine s_getI (c := 5) (p := 9) (id := 529) (n := 12) hX cls5 (vk126 (by omega)) (dec_of D_X6_toPlayer (i := 6) rfl) rfl rfl wd_388 ?_
  refine s_icmp_ge (tgt := 68) (n := 15) hX (dec_of D_X6_toPlayer (i := 7) rfl) rfl rfl ?_ ?_
  · refine s_iload 4 (n := 70) hX (dec_of D_X6_toPlayer (i := 33) rfl) rfl rfl ?_
    exact s_iret hX hR (dec_of D_X6_toPlayer (i := 34) rfl) rfl
  · refine s_iconst (v := 0) (n := 16) hX (dec_of D_X6_toPlayer (i := 8) rfl) rfl (by decide) ?_
    refine s_istore (lv' := [(0, _), (1, _), (2, _), (3, _), (4, _), (5, _), (6, _)]) [1, 2, 3, 4, 5, 6, 0] (n := 18) hX (dec_of D_X6_toPlayer (i := 9) rfl) rfl (by decide) rfl ?_
    refine s_sub [0, 1, 2, 3, 4, 5, 6] rfl (s_lp (pc := 18) (Sf := fun (z4 : ST × Int32 × Int32) => z4.1) (lvf := fun (z4 : ST × Int32 × Int32) => [(0, .ref (ga G 127 0)), (1, .ref (ga G 126 i1)), (2, .ref (ga G 129 i2)), (3, .int a3), (4, .int z4.2.1), (5, .int z1.2.2), (6, .int z4.2.2)]) (fun rec5 hre6 z4 => ?_) FU (z1.1, z1.2.1, 0))
    refine s_iload 6 (n := 20) hX (dec_of D_X6_toPlayer (i := 10) rfl) rfl rfl ?_
    refine s_aload_n 1 (n := 21) hX (dec_of D_X6_toPlayer (i := 11) rfl) rfl rfl rfl ?_
    refine s_getI (c := 5) (p := 11) (id := 531) (n := 24) hX cls5 (vk126 (by omega)) (dec_of D_X6_toPlayer (i := 12) rfl) rfl rfl wd_400 ?_
    refine s_icmp_ge (tgt := 62) (n := 27) hX (dec_of D_X6_toPlayer (i := 13) rfl) rfl rfl ?_ ?_
    · refine s_iinc (v := z1.2.2 + 1) (lv' := [(0, _), (1, _), (2, _), (3, _), (4, _), (5, _), (6, _)]) 5 [1, 2, 3, 4, 5, 0, 6] (n := 65) hX (dec_of D_X6_toPlayer (i := 31) rfl) rfl rfl rfl (by decide) rfl ?_
      refine s_goto (n := 6) hX (dec_of D_X6_toPlayer (i := 32) rfl) rfl ?_
      exact s_sub [0, 1, 2, 3, 4, 5] rfl (hre3 (z4.1, z4.2.1, (z1.2.2 + 1)))
    · refine s_aload_n 0 (n := 28) hX (dec_of D_X6_toPlayer (i := 14) rfl) rfl rfl rfl ?_
      refine s_getC (c := 6) (p := 0) (n := 31) 124 1 hX cls6 (vk127 (by omega)) (dec_of D_X6_toPlayer (i := 15) rfl) rfl rfl (by decide) wd_328 ?_
      refine s_aload_n 1 (n := 32) hX (dec_of D_X6_toPlayer (i := 16) rfl) rfl rfl rfl ?_
      refine s_aload_n 2 (n := 33) hX (dec_of D_X6_toPlayer (i := 17) rfl) rfl rfl rfl ?_
      refine s_iload 5 (n := 35) hX (dec_of D_X6_toPlayer (i := 18) rfl) rfl rfl ?_
      refine s_iload 6 (n := 37) hX (dec_of D_X6_toPlayer (i := 19) rfl) rfl rfl ?_
      refine s_sipush (v := 1000) (n := 40) hX (dec_of D_X6_toPlayer (i := 20) rfl) rfl (by decide) ?_
      refine s_callVV (c := 3) (n := 43) hX cls3 (vk124 (by omega)) lk_RX6_27 (dec_of D_X6_toPlayer (i := 21) rfl) rfl (by decide) (c_X3_think (l := _) hG _ _ (by omega) _ (by omega) _ (by omega) _ _ _) rfl rfl (Nat.le_of_ble_eq_true rfl) (fun q7 => ?_)
      refine s_iload 4 (n := 45) hX (dec_of D_X6_toPlayer (i := 22) rfl) rfl rfl ?_
      refine s_aload_n 0 (n := 46) hX (dec_of D_X6_toPlayer (i := 23) rfl) rfl rfl rfl ?_
      refine s_getC (c := 6) (p := 0) (n := 49) 124 1 hX cls6 (vk127 (by omega)) (dec_of D_X6_toPlayer (i := 24) rfl) rfl rfl (by decide) wd_328 ?_
      refine s_iload_n 3 (n := 50) hX (dec_of D_X6_toPlayer (i := 25) rfl) rfl rfl rfl ?_
      refine s_callVI (c := 3) (n := 53) hX cls3 (vk124 (by omega)) lk_RX6_35 (dec_of D_X6_toPlayer (i := 26) rfl) rfl (by decide) (c_X3_paidToOne (l := _) hG _ _ (by omega) _) rfl rfl (Nat.le_of_ble_eq_true rfl) (fun q8 => ?_)
      refine s_iadd (n := 54) hX (dec_of D_X6_toPlayer (i := 27) rfl) rfl ?_
      refine s_topi (fun x9 => ?_)
      refine s_istore (lv' := [(0, _), (1, _), (2, _), (3, _), (4, _), (5, _), (6, _)]) [1, 2, 3, 4, 0, 5, 6] (n := 56) hX (dec_of D_X6_toPlayer (i := 28) rfl) rfl (by decide) rfl ?_
      refine s_iinc (v := z4.2.2 + 1) (lv' := [(0, _), (1, _), (2, _), (3, _), (4, _), (5, _), (6, _)]) 6 [1, 2, 3, 4, 5, 6, 0] (n := 59) hX (dec_of D_X6_toPlayer (i := 29) rfl) rfl rfl rfl (by decide) rfl ?_
      refine s_goto (n := 18) hX (dec_of D_X6_toPlayer (i := 30) rfl) rfl ?_
      exact s_sub [0, 1, 2, 3, 4, 5, 6] rfl (hre6 (q7, x9, (z4.2.2 + 1)))
def T_X6_inLand : List (Nat × Instr × Nat) := [(0, .iconst 0, 1), (1, .istore 5, 2), (3, .iconst 0, 1), (4, .istore 6, 2), (6, .iload 6, 2), (8, .aload_n 1, 1), (9, .getfield 24, 3), (12, .if_icmp .ge 39, 3), (15, .aload_n 0, 1), (16, .getfield 12, 3), (19, .aload_n 1, 1), (20, .aload_n 2, 1), (21, .iload_n 3, 1), (22, .iload 6, 2), (24, .sipush 1000, 3), (27, .invokevirtual 27, 3), (30, .iload 5, 2), (32, .aload_n 0, 1), (33, .getfield 12, 3), (36, .getfield 39, 3), (39, .iload 4, 2), (41, .iaload, 1), (42, .iadd, 1), (43, .istore 5, 2), (45, .iinc 6 1, 3), (48, .goto (-42), 3), (51, .iload 5, 2), (53, .ireturn, 1)]
theorem D_X6_inLand : dchk cX6_inLand T_X6_inLand = true := by decide +kernel
def Rn_inLand (σ : ST) (i1 : Nat) (i2 : Nat) (a3 : Int32) (a4 : Int32) : Option (Int32 × ST) :=
  lp_ (fun rec2 (z1 : ST × Int32 × Int32) => (if (gF z1.1 531 i1) ≤ z1.2.2 then some (z1.2.1, z1.1) else bd_ (Oc_think z1.1 1 i1 i2 a3 z1.2.2 1000) (fun q4 => bd_ (ldI q4 12 1 a4) (fun v5 => lt_ ((z1.2.1 + v5)) (fun x6 => rec2 (q4, x6, (z1.2.2 + 1))))))) FU (σ, 0, 0)
set_option maxHeartbeats 4000000 in
set_option maxRecDepth 100000 in
theorem c_X6_inLand {G : GW} (hG : Good G) {l : Launch} (σ : ST) (i1 : Nat) (h1 : i1 < 2) (i2 : Nat) (h2 : i2 < 14) (a3 : Int32) (a4 : Int32) : Ctr G l yX6_inLand cX6_inLand 7 (some .int) 4 [.ref (ga G 127 0), .ref (ga G 126 i1), .ref (ga G 129 i2), .int a3, .int a4] σ oP (Rn_inLand σ i1 i2 a3 a4) := by
  refine ctr_of hG (by decide) (Nat.le_of_ble_eq_true rfl) ?_
  intro X hXl hR hX
  have hX : Ok G X cX6_inLand 7 RX6 4 := hX
  unfold Rn_inLand
  show Sim G X 7 (MQX G X oP) σ 0 [(0, .ref (ga G 127 0)), (1, .ref (ga G 126 i1)), (2, .ref (ga G 129 i2)), (3, .int a3), (4, .int a4)] [] _
  refine s_iconst (v := 0) (n := 1) hX (dec_of D_X6_inLand (i := 0) rfl) rfl (by decide) ?_
  refine s_istore (lv' := [(0, _), (1, _), (2, _), (3, _), (4, _), (5, _)]) [1, 2, 3, 4, 5, 0] (n := 3) hX (dec_of D_X6_inLand (i := 1) rfl) rfl (by decide) rfl ?_
  refine s_iconst (v := 0) (n := 4) hX (dec_of D_X6_inLand (i := 2) rfl) rfl (by decide) ?_
  refine s_istore (lv' := [(0, _), (1, _), (2, _), (3, _), (4, _), (5, _), (6, _)]) [1, 2, 3, 4, 5, 6, 0] (n := 6) hX (dec_of D_X6_inLand (i := 3) rfl) rfl (by decide) rfl ?_
  refine s_sub [0, 1, 2, 3, 4, 5, 6] rfl (s_lp (pc := 6) (Sf := fun (z1 : ST × Int32 × Int32) => z1.1) (lvf := fun (z1 : ST × Int32 × Int32) => [(0, .ref (ga G 127 0)), (1, .ref (ga G 126 i1)), (2, .ref (ga G 129 i2)), (3, .int a3), (4, .int a4), (5, .int z1.2.1), (6, .int z1.2.2)]) (fun rec2 hre3 z1 => ?_) FU (σ, 0, 0))
  refine s_iload 6 (n := 8) hX (dec_of D_X6_inLand (i := 4) rfl) rfl rfl ?_
  refine s_aload_n 1 (n := 9) hX (dec_of D_X6_inLand (i := 5) rfl) rfl rfl rfl ?_
  refine s_getI (c := 5) (p := 11) (id := 531) (n := 12) hX cls5 (vk126 (by omega)) (dec_of D_X6_inLand (i := 6) rfl) rfl rfl wd_400 ?_
  refine s_icmp_ge (tgt := 51) (n := 15) hX (dec_of D_X6_inLand (i := 7) rfl) rfl rfl ?_ ?_
  · refine s_iload 5 (n := 53) hX (dec_of D_X6_inLand (i := 26) rfl) rfl rfl ?_
    exact s_iret hX hR (dec_of D_X6_inLand (i := 27) rfl) rfl
  · refine s_aload_n 0 (n := 16) hX (dec_of D_X6_inLand (i := 8) rfl) rfl rfl rfl ?_
    refine s_getC (c := 6) (p := 0) (n := 19) 124 1 hX cls6 (vk127 (by omega)) (dec_of D_X6_inLand (i := 9) rfl) rfl rfl (by decide) wd_328 ?_
    refine s_aload_n 1 (n := 20) hX (dec_of D_X6_inLand (i := 10) rfl) rfl rfl rfl ?_
    refine s_aload_n 2 (n := 21) hX (dec_of D_X6_inLand (i := 11) rfl) rfl rfl rfl ?_
    refine s_iload_n 3 (n := 22) hX (dec_of D_X6_inLand (i := 12) rfl) rfl rfl rfl ?_
    refine s_iload 6 (n := 24) hX (dec_of D_X6_inLand (i := 13) rfl) rfl rfl ?_
    refine s_sipush (v := 1000) (n := 27) hX (dec_of D_X6_inLand (i := 14) rfl) rfl (by decide) ?_
    refine s_callVV (c := 3) (n := 30) hX cls3 (vk124 (by omega)) lk_RX6_27 (dec_of D_X6_inLand (i := 15) rfl) rfl (by decide) (c_X3_think (l := _) hG _ _ (by omega) _ (by omega) _ (by omega) _ _ _) rfl rfl (Nat.le_of_ble_eq_true rfl) (fun q4 => ?_)
    refine s_iload 5 (n := 32) hX (dec_of D_X6_inLand (i := 16) rfl) rfl rfl ?_
    refine s_aload_n 0 (n := 33) hX (dec_of D_X6_inLand (i := 17) rfl) rfl rfl rfl ?_
    refine s_getC (c := 6) (p := 0) (n := 36) 124 1 hX cls6 (vk127 (by omega)) (dec_of D_X6_inLand (i := 18) rfl) rfl rfl (by decide) wd_328 ?_
    refine s_getR (c := 3) (p := 3) (k' := 12) (n := 39) hX cls3 (vk124 (by omega)) (dec_of D_X6_inLand (i := 19) rfl) rfl rfl wd_297 ?_
    refine s_iload 4 (n := 41) hX (dec_of D_X6_inLand (i := 20) rfl) rfl rfl ?_
    refine s_iald (n := 42) hX (vk12 (by omega)) (by decide) (dec_of D_X6_inLand (i := 21) rfl) rfl (fun v5 => ?_)
    refine s_iadd (n := 43) hX (dec_of D_X6_inLand (i := 22) rfl) rfl ?_
    refine s_topi (fun x6 => ?_)
    refine s_istore (lv' := [(0, _), (1, _), (2, _), (3, _), (4, _), (5, _), (6, _)]) [1, 2, 3, 4, 5, 0, 6] (n := 45) hX (dec_of D_X6_inLand (i := 23) rfl) rfl (by decide) rfl ?_
    refine s_iinc (v := z1.2.2 + 1) (lv' := [(0, _), (1, _), (2, _), (3, _), (4, _), (5, _), (6, _)]) 6 [1, 2, 3, 4, 5, 6, 0] (n := 48) hX (dec_of D_X6_inLand (i := 24) rfl) rfl rfl rfl (by decide) rfl ?_
    refine s_goto (n := 6) hX (dec_of D_X6_inLand (i := 25) rfl) rfl ?_
    exact s_sub [0, 1, 2, 3, 4, 5, 6] rfl (hre3 (q4, x6, (z1.2.2 + 1)))
theorem lk_RX6_43 : LkV RX6 43 RX3 yX3_openMoney cX3_openMoney 4 (some .int) 1 := ⟨wd_1191, wd_1122, wd_1123, wd_89, wd_1124, by decide +kernel, by decide⟩
def T_X6_ofOpenSeats : List (Nat × Instr × Nat) := [(0, .iconst 0, 1), (1, .istore 4, 2), (3, .iconst 0, 1), (4, .istore 5, 2), (6, .iload 5, 2), (8, .aload_n 1, 1), (9, .getfield 18, 3), (12, .if_icmp .ge 56, 3), (15, .iconst 0, 1), (16, .istore 6, 2), (18, .iload 6, 2), (20, .aload_n 1, 1), (21, .getfield 24, 3), (24, .if_icmp .ge 38, 3), (27, .aload_n 0, 1), (28, .getfield 12, 3), (31, .aload_n 1, 1), (32, .aload_n 2, 1), (33, .iload 5, 2), (35, .iload 6, 2), (37, .sipush 1000, 3), (40, .invokevirtual 27, 3), (43, .iload 4, 2), (45, .aload_n 0, 1), (46, .getfield 12, 3), (49, .iload_n 3, 1), (50, .invokevirtual 43, 3), (53, .iadd, 1), (54, .istore 4, 2), (56, .iinc 6 1, 3), (59, .goto (-41), 3), (62, .iinc 5 1, 3), (65, .goto (-59), 3), (68, .iload 4, 2), (70, .ireturn, 1)]
theorem D_X6_ofOpenSeats : dchk cX6_ofOpenSeats T_X6_ofOpenSeats = true := by decide +kernel
def Rn_ofOpenSeats (σ : ST) (i1 : Nat) (i2 : Nat) (a3 : Int32) : Option (Int32 × ST) :=
  lp_ (fun rec2 (z1 : ST × Int32 × Int32) => (if (gF z1.1 529 i1) ≤ z1.2.2 then some (z1.2.1, z1.1) else lp_ (fun rec5 (z4 : ST × Int32 × Int32) => (if (gF z4.1 531 i1) ≤ z4.2.2 then rec2 (z4.1, z4.2.1, (z1.2.2 + 1)) else bd_ (Oc_think z4.1 1 i1 i2 z1.2.2 z4.2.2 1000) (fun q7 => bd_ (Oc_openMoney q7 1 a3) (fun q8 => lt_ ((z4.2.1 + q8)) (fun x9 => rec5 (q7, x9, (z4.2.2 + 1))))))) FU (z1.1, z1.2.1, 0))) FU (σ, 0, 0)
set_option maxHeartbeats 4000000 in
set_option maxRecDepth 100000 in
theorem c_X6_ofOpenSeats {G : GW} (hG : Good G) {l : Launch} (σ : ST) (i1 : Nat) (h1 : i1 < 2) (i2 : Nat) (h2 : i2 < 14) (a3 : Int32) : Ctr G l yX6_ofOpenSeats cX6_ofOpenSeats 7 (some .int) 4 [.ref (ga G 127 0), .ref (ga G 126 i1), .ref (ga G 129 i2), .int a3] σ oP (Rn_ofOpenSeats σ i1 i2 a3) := by
  refine ctr_of hG (by decide) (Nat.le_of_ble_eq_true rfl) ?_
  intro X hXl hR hX
  have hX : Ok G X cX6_ofOpenSeats 7 RX6 4 := hX
  unfold Rn_ofOpenSeats
  show Sim G X 7 (MQX G X oP) σ 0 [(0, .ref (ga G 127 0)), (1, .ref (ga G 126 i1)), (2, .ref (ga G 129 i2)), (3, .int a3)] [] _
  refine s_iconst (v := 0) (n := 1) hX (dec_of D_X6_ofOpenSeats (i := 0) rfl) rfl (by decide) ?_
  refine s_istore (lv' := [(0, _), (1, _), (2, _), (3, _), (4, _)]) [1, 2, 3, 4, 0] (n := 3) hX (dec_of D_X6_ofOpenSeats (i := 1) rfl) rfl (by decide) rfl ?_
  refine s_iconst (v := 0) (n := 4) hX (dec_of D_X6_ofOpenSeats (i := 2) rfl) rfl (by decide) ?_
  refine s_istore (lv' := [(0, _), (1, _), (2, _), (3, _), (4, _), (5, _)]) [1, 2, 3, 4, 5, 0] (n := 6) hX (dec_of D_X6_ofOpenSeats (i := 3) rfl) rfl (by decide) rfl ?_
  refine s_sub [0, 1, 2, 3, 4, 5] rfl (s_lp (pc := 6) (Sf := fun (z1 : ST × Int32 × Int32) => z1.1) (lvf := fun (z1 : ST × Int32 × Int32) => [(0, .ref (ga G 127 0)), (1, .ref (ga G 126 i1)), (2, .ref (ga G 129 i2)), (3, .int a3), (4, .int z1.2.1), (5, .int z1.2.2)]) (fun rec2 hre3 z1 => ?_) FU (σ, 0, 0))
  refine s_iload 5 (n := 8) hX (dec_of D_X6_ofOpenSeats (i := 4) rfl) rfl rfl ?_
  refine s_aload_n 1 (n := 9) hX (dec_of D_X6_ofOpenSeats (i := 5) rfl) rfl rfl rfl ?_
  refine s_getI (c := 5) (p := 9) (id := 529) (n := 12) hX cls5 (vk126 (by omega)) (dec_of D_X6_ofOpenSeats (i := 6) rfl) rfl rfl wd_388 ?_
  refine s_icmp_ge (tgt := 68) (n := 15) hX (dec_of D_X6_ofOpenSeats (i := 7) rfl) rfl rfl ?_ ?_
  · refine s_iload 4 (n := 70) hX (dec_of D_X6_ofOpenSeats (i := 33) rfl) rfl rfl ?_
    exact s_iret hX hR (dec_of D_X6_ofOpenSeats (i := 34) rfl) rfl
  · refine s_iconst (v := 0) (n := 16) hX (dec_of D_X6_ofOpenSeats (i := 8) rfl) rfl (by decide) ?_
    refine s_istore (lv' := [(0, _), (1, _), (2, _), (3, _), (4, _), (5, _), (6, _)]) [1, 2, 3, 4, 5, 6, 0] (n := 18) hX (dec_of D_X6_ofOpenSeats (i := 9) rfl) rfl (by decide) rfl ?_
    refine s_sub [0, 1, 2, 3, 4, 5, 6] rfl (s_lp (pc := 18) (Sf := fun (z4 : ST × Int32 × Int32) => z4.1) (lvf := fun (z4 : ST × Int32 × Int32) => [(0, .ref (ga G 127 0)), (1, .ref (ga G 126 i1)), (2, .ref (ga G 129 i2)), (3, .int a3), (4, .int z4.2.1), (5, .int z1.2.2), (6, .int z4.2.2)]) (fun rec5 hre6 z4 => ?_) FU (z1.1, z1.2.1, 0))
    refine s_iload 6 (n := 20) hX (dec_of D_X6_ofOpenSeats (i := 10) rfl) rfl rfl ?_
    refine s_aload_n 1 (n := 21) hX (dec_of D_X6_ofOpenSeats (i := 11) rfl) rfl rfl rfl ?_
    refine s_getI (c := 5) (p := 11) (id := 531) (n := 24) hX cls5 (vk126 (by omega)) (dec_of D_X6_ofOpenSeats (i := 12) rfl) rfl rfl wd_400 ?_
    refine s_icmp_ge (tgt := 62) (n := 27) hX (dec_of D_X6_ofOpenSeats (i := 13) rfl) rfl rfl ?_ ?_
    · refine s_iinc (v := z1.2.2 + 1) (lv' := [(0, _), (1, _), (2, _), (3, _), (4, _), (5, _), (6, _)]) 5 [1, 2, 3, 4, 5, 0, 6] (n := 65) hX (dec_of D_X6_ofOpenSeats (i := 31) rfl) rfl rfl rfl (by decide) rfl ?_
      refine s_goto (n := 6) hX (dec_of D_X6_ofOpenSeats (i := 32) rfl) rfl ?_
      exact s_sub [0, 1, 2, 3, 4, 5] rfl (hre3 (z4.1, z4.2.1, (z1.2.2 + 1)))
    · refine s_aload_n 0 (n := 28) hX (dec_of D_X6_ofOpenSeats (i := 14) rfl) rfl rfl rfl ?_
      refine s_getC (c := 6) (p := 0) (n := 31) 124 1 hX cls6 (vk127 (by omega)) (dec_of D_X6_ofOpenSeats (i := 15) rfl) rfl rfl (by decide) wd_328 ?_
      refine s_aload_n 1 (n := 32) hX (dec_of D_X6_ofOpenSeats (i := 16) rfl) rfl rfl rfl ?_
      refine s_aload_n 2 (n := 33) hX (dec_of D_X6_ofOpenSeats (i := 17) rfl) rfl rfl rfl ?_
      refine s_iload 5 (n := 35) hX (dec_of D_X6_ofOpenSeats (i := 18) rfl) rfl rfl ?_
      refine s_iload 6 (n := 37) hX (dec_of D_X6_ofOpenSeats (i := 19) rfl) rfl rfl ?_
      refine s_sipush (v := 1000) (n := 40) hX (dec_of D_X6_ofOpenSeats (i := 20) rfl) rfl (by decide) ?_
      refine s_callVV (c := 3) (n := 43) hX cls3 (vk124 (by omega)) lk_RX6_27 (dec_of D_X6_ofOpenSeats (i := 21) rfl) rfl (by decide) (c_X3_think (l := _) hG _ _ (by omega) _ (by omega) _ (by omega) _ _ _) rfl rfl (Nat.le_of_ble_eq_true rfl) (fun q7 => ?_)
      refine s_iload 4 (n := 45) hX (dec_of D_X6_ofOpenSeats (i := 22) rfl) rfl rfl ?_
      refine s_aload_n 0 (n := 46) hX (dec_of D_X6_ofOpenSeats (i := 23) rfl) rfl rfl rfl ?_
      refine s_getC (c := 6) (p := 0) (n := 49) 124 1 hX cls6 (vk127 (by omega)) (dec_of D_X6_ofOpenSeats (i := 24) rfl) rfl rfl (by decide) wd_328 ?_
      refine s_iload_n 3 (n := 50) hX (dec_of D_X6_ofOpenSeats (i := 25) rfl) rfl rfl rfl ?_
      refine s_callVI (c := 3) (n := 53) hX cls3 (vk124 (by omega)) lk_RX6_43 (dec_of D_X6_ofOpenSeats (i := 26) rfl) rfl (by decide) (c_X3_openMoney (l := _) hG _ _ (by omega) _) rfl rfl (Nat.le_of_ble_eq_true rfl) (fun q8 => ?_)
      refine s_iadd (n := 54) hX (dec_of D_X6_ofOpenSeats (i := 27) rfl) rfl ?_
      refine s_topi (fun x9 => ?_)
      refine s_istore (lv' := [(0, _), (1, _), (2, _), (3, _), (4, _), (5, _), (6, _)]) [1, 2, 3, 4, 0, 5, 6] (n := 56) hX (dec_of D_X6_ofOpenSeats (i := 28) rfl) rfl (by decide) rfl ?_
      refine s_iinc (v := z4.2.2 + 1) (lv' := [(0, _), (1, _), (2, _), (3, _), (4, _), (5, _), (6, _)]) 6 [1, 2, 3, 4, 5, 6, 0] (n := 59) hX (dec_of D_X6_ofOpenSeats (i := 29) rfl) rfl rfl rfl (by decide) rfl ?_
      refine s_goto (n := 18) hX (dec_of D_X6_ofOpenSeats (i := 30) rfl) rfl ?_
      exact s_sub [0, 1, 2, 3, 4, 5, 6] rfl (hre6 (q7, x9, (z4.2.2 + 1)))

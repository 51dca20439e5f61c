def T_X9_rankOf : List (Nat × Instr × Nat) := [(0, .iconst 0, 1), (1, .istore_n 2, 1), (2, .aload_n 0, 1), (3, .getfield 19, 3), (6, .aload_n 0, 1), (7, .getfield 61, 3), (10, .iload_n 1, 1), (11, .invokevirtual 156, 3), (14, .istore_n 3, 1), (15, .iconst 0, 1), (16, .istore 4, 2), (18, .iload 4, 2), (20, .aload_n 0, 1), (21, .getfield 61, 3), (24, .getfield 226, 3), (27, .if_icmp .ge 45, 3), (30, .aload_n 0, 1), (31, .getfield 19, 3), (34, .aload_n 0, 1), (35, .getfield 61, 3), (38, .iload 4, 2), (40, .invokevirtual 156, 3), (43, .istore 5, 2), (45, .iload 5, 2), (47, .iload_n 3, 1), (48, .if_icmp .gt 15, 3), (51, .iload 5, 2), (53, .iload_n 3, 1), (54, .if_icmp .ne 12, 3), (57, .iload 4, 2), (59, .iload_n 1, 1), (60, .if_icmp .ge 6, 3), (63, .iinc 2 1, 3), (66, .iinc 4 1, 3), (69, .goto (-51), 3), (72, .iload_n 2, 1), (73, .ireturn, 1)]
theorem D_X9_rankOf : dchk cX9_rankOf T_X9_rankOf = true := by decide +kernel
def Rp_rankOf (σ : ST) (a1 : Int32) : Option Int32 :=
  bd_ (ldQ σ 0) (fun rr1 => bd_ (Bk_paidTo (σ) 0 rr1 a1) (fun q2 => lp_ (fun rec4 (z3 : Int32 × Int32) => bd_ (ldQ σ 0) (fun rr6 => (if (gF σ 530 rr6) ≤ z3.2 then some z3.1 else bd_ (ldQ σ 0) (fun rr7 => bd_ (Bk_paidTo (σ) 0 rr7 z3.2) (fun q8 => (if q2 < q8 then rec4 ((z3.1 + 1), (z3.2 + 1)) else (if q8 = q2 then (if a1 ≤ z3.2 then rec4 (z3.1, (z3.2 + 1)) else rec4 ((z3.1 + 1), (z3.2 + 1))) else rec4 (z3.1, (z3.2 + 1))))))))) FU (0, 0)))
set_option maxHeartbeats 4000000 in
set_option maxRecDepth 100000 in
theorem c_X9_rankOf {G : GW} (hG : Good G) {l : Launch} (σ : ST) (a1 : Int32) : Ctr G l yX9_rankOf cX9_rankOf 6 (some .int) 2 [.ref (ga G 130 0), .int a1] σ (oI σ) (Rp_rankOf σ a1) := by
  refine ctr_of hG (by decide) (Nat.le_of_ble_eq_true rfl) ?_
  intro X hXl hR hX
  have hX : Ok G X cX9_rankOf 6 RX9 2 := hX
  unfold Rp_rankOf
  show Sim G X 6 (MQX G X (oI σ)) σ 0 [(0, .ref (ga G 130 0)), (1, .int a1)] [] _
  refine s_iconst (v := 0) (n := 1) hX (dec_of D_X9_rankOf (i := 0) rfl) rfl (by decide) ?_
  refine s_istore_n (lv' := [(0, _), (1, _), (2, _)]) [1, 2, 0] (n := 2) hX (dec_of D_X9_rankOf (i := 1) rfl) rfl rfl (by decide) rfl ?_
  refine s_aload_n 0 (n := 3) hX (dec_of D_X9_rankOf (i := 2) rfl) rfl rfl rfl ?_
  refine s_getC (c := 9) (p := 1) (n := 6) 121 0 hX cls9 (vk130 (by omega)) (dec_of D_X9_rankOf (i := 3) rfl) rfl rfl (by decide) wd_442 ?_
  refine s_aload_n 0 (n := 7) hX (dec_of D_X9_rankOf (i := 4) rfl) rfl rfl rfl ?_
  refine s_getQ (c := 9) (p := 7) (j := 0) (n := 10) hX cls9 (vk130 (by omega)) (dec_of D_X9_rankOf (i := 5) rfl) rfl rfl wd_448 (fun rr1 hrr1 => ?_)
  refine s_iload_n 1 (n := 11) hX (dec_of D_X9_rankOf (i := 6) rfl) rfl rfl rfl ?_
  refine s_callVI (c := 0) (n := 14) hX cls0 (vk121 (by omega)) lk_RX9_156 (dec_of D_X9_rankOf (i := 7) rfl) rfl (by decide) (c_X0_paidTo (l := _) hG _ _ (by omega) _ (by omega) _) rfl rfl (Nat.le_of_ble_eq_true rfl) (fun q2 => ?_)
  refine s_istore_n (lv' := [(0, _), (1, _), (2, _), (3, _)]) [1, 2, 3, 0] (n := 15) hX (dec_of D_X9_rankOf (i := 8) rfl) rfl rfl (by decide) rfl ?_
  refine s_iconst (v := 0) (n := 16) hX (dec_of D_X9_rankOf (i := 9) rfl) rfl (by decide) ?_
  refine s_istore (lv' := [(0, _), (1, _), (2, _), (3, _), (4, _)]) [1, 2, 3, 4, 0] (n := 18) hX (dec_of D_X9_rankOf (i := 10) rfl) rfl (by decide) rfl ?_
  refine s_sub [0, 1, 2, 3, 4] rfl (s_lp (pc := 18) (Sf := fun (z3 : Int32 × Int32) => σ) (lvf := fun (z3 : Int32 × Int32) => [(0, .ref (ga G 130 0)), (1, .int a1), (2, .int z3.1), (3, .int q2), (4, .int z3.2)]) (fun rec4 hre5 z3 => ?_) FU (0, 0))
  refine s_iload 4 (n := 20) hX (dec_of D_X9_rankOf (i := 11) rfl) rfl rfl ?_
  refine s_aload_n 0 (n := 21) hX (dec_of D_X9_rankOf (i := 12) rfl) rfl rfl rfl ?_
  refine s_getQ (c := 9) (p := 7) (j := 0) (n := 24) hX cls9 (vk130 (by omega)) (dec_of D_X9_rankOf (i := 13) rfl) rfl rfl wd_448 (fun rr6 hrr6 => ?_)
  refine s_getI (c := 5) (p := 10) (id := 530) (n := 27) hX cls5 (vk126 (by omega)) (dec_of D_X9_rankOf (i := 14) rfl) rfl rfl wd_397 ?_
  refine s_icmp_ge (tgt := 72) (n := 30) hX (dec_of D_X9_rankOf (i := 15) rfl) rfl rfl ?_ ?_
  · refine s_iload_n 2 (n := 73) hX (dec_of D_X9_rankOf (i := 35) rfl) rfl rfl rfl ?_
    exact s_iret hX hR (dec_of D_X9_rankOf (i := 36) rfl) rfl
  · refine s_aload_n 0 (n := 31) hX (dec_of D_X9_rankOf (i := 16) rfl) rfl rfl rfl ?_
    refine s_getC (c := 9) (p := 1) (n := 34) 121 0 hX cls9 (vk130 (by omega)) (dec_of D_X9_rankOf (i := 17) rfl) rfl rfl (by decide) wd_442 ?_
    refine s_aload_n 0 (n := 35) hX (dec_of D_X9_rankOf (i := 18) rfl) rfl rfl rfl ?_
    refine s_getQ (c := 9) (p := 7) (j := 0) (n := 38) hX cls9 (vk130 (by omega)) (dec_of D_X9_rankOf (i := 19) rfl) rfl rfl wd_448 (fun rr7 hrr7 => ?_)
    refine s_iload 4 (n := 40) hX (dec_of D_X9_rankOf (i := 20) rfl) rfl rfl ?_
    refine s_callVI (c := 0) (n := 43) hX cls0 (vk121 (by omega)) lk_RX9_156 (dec_of D_X9_rankOf (i := 21) rfl) rfl (by decide) (c_X0_paidTo (l := _) hG _ _ (by omega) _ (by omega) _) rfl rfl (Nat.le_of_ble_eq_true rfl) (fun q8 => ?_)
    refine s_istore (lv' := [(0, _), (1, _), (2, _), (3, _), (4, _), (5, _)]) [1, 2, 3, 4, 5, 0] (n := 45) hX (dec_of D_X9_rankOf (i := 22) rfl) rfl (by decide) rfl ?_
    refine s_iload 5 (n := 47) hX (dec_of D_X9_rankOf (i := 23) rfl) rfl rfl ?_
    refine s_iload_n 3 (n := 48) hX (dec_of D_X9_rankOf (i := 24) rfl) rfl rfl rfl ?_
    refine s_icmp_gt (tgt := 63) (n := 51) hX (dec_of D_X9_rankOf (i := 25) rfl) rfl rfl ?_ ?_
    · refine s_iinc (v := z3.1 + 1) (lv' := [(0, _), (1, _), (2, _), (3, _), (4, _), (5, _)]) 2 [1, 2, 0, 3, 4, 5] (n := 66) hX (dec_of D_X9_rankOf (i := 32) rfl) rfl rfl rfl (by decide) rfl ?_
      refine s_iinc (v := z3.2 + 1) (lv' := [(0, _), (1, _), (2, _), (3, _), (4, _), (5, _)]) 4 [1, 2, 3, 4, 0, 5] (n := 69) hX (dec_of D_X9_rankOf (i := 33) rfl) rfl rfl rfl (by decide) rfl ?_
      refine s_goto (n := 18) hX (dec_of D_X9_rankOf (i := 34) rfl) rfl ?_
      exact s_sub [0, 1, 2, 3, 4] rfl (hre5 ((z3.1 + 1), (z3.2 + 1)))
    · refine s_iload 5 (n := 53) hX (dec_of D_X9_rankOf (i := 26) rfl) rfl rfl ?_
      refine s_iload_n 3 (n := 54) hX (dec_of D_X9_rankOf (i := 27) rfl) rfl rfl rfl ?_
      refine s_icmp_ne (tgt := 66) (n := 57) hX (dec_of D_X9_rankOf (i := 28) rfl) rfl rfl ?_ ?_
      · refine s_iinc (v := z3.2 + 1) (lv' := [(0, _), (1, _), (2, _), (3, _), (4, _), (5, _)]) 4 [1, 2, 3, 4, 0, 5] (n := 69) hX (dec_of D_X9_rankOf (i := 33) rfl) rfl rfl rfl (by decide) rfl ?_
        refine s_goto (n := 18) hX (dec_of D_X9_rankOf (i := 34) rfl) rfl ?_
        exact s_sub [0, 1, 2, 3, 4] rfl (hre5 (z3.1, (z3.2 + 1)))
      · refine s_iload 4 (n := 59) hX (dec_of D_X9_rankOf (i := 29) rfl) rfl rfl ?_
        refine s_iload_n 1 (n := 60) hX (dec_of D_X9_rankOf (i := 30) rfl) rfl rfl rfl ?_
        refine s_icmp_ge (tgt := 66) (n := 63) hX (dec_of D_X9_rankOf (i := 31) rfl) rfl rfl ?_ ?_
        · refine s_iinc (v := z3.2 + 1) (lv' := [(0, _), (1, _), (2, _), (3, _), (4, _), (5, _)]) 4 [1, 2, 3, 4, 0, 5] (n := 69) hX (dec_of D_X9_rankOf (i := 33) rfl) rfl rfl rfl (by decide) rfl ?_
          refine s_goto (n := 18) hX (dec_of D_X9_rankOf (i := 34) rfl) rfl ?_
          exact s_sub [0, 1, 2, 3, 4] rfl (hre5 (z3.1, (z3.2 + 1)))
        · refine s_iinc (v := z3.1 + 1) (lv' := [(0, _), (1, _), (2, _), (3, _), (4, _), (5, _)]) 2 [1, 2, 0, 3, 4, 5] (n := 66) hX (dec_of D_X9_rankOf (i := 32) rfl) rfl rfl rfl (by decide) rfl ?_
          refine s_iinc (v := z3.2 + 1) (lv' := [(0, _), (1, _), (2, _), (3, _), (4, _), (5, _)]) 4 [1, 2, 3, 4, 0, 5] (n := 69) hX (dec_of D_X9_rankOf (i := 33) rfl) rfl rfl rfl (by decide) rfl ?_
          refine s_goto (n := 18) hX (dec_of D_X9_rankOf (i := 34) rfl) rfl ?_
          exact s_sub [0, 1, 2, 3, 4] rfl (hre5 ((z3.1 + 1), (z3.2 + 1)))
theorem lk_RX9_361 : LkV RX9 361 RX9 yX9_rankOf cX9_rankOf 6 (some .int) 1 := ⟨wd_1045, wd_1047, wd_10, wd_83, wd_1048, by decide +kernel, by decide⟩
def T_X9_ranked : List (Nat × Instr × Nat) := [(0, .iload_n 1, 1), (1, .ifCond .ge 5, 3), (4, .iconst (-1), 1), (5, .ireturn, 1), (6, .iconst 0, 1), (7, .istore_n 2, 1), (8, .iload_n 2, 1), (9, .aload_n 0, 1), (10, .getfield 61, 3), (13, .getfield 226, 3), (16, .if_icmp .ge 20, 3), (19, .aload_n 0, 1), (20, .iload_n 2, 1), (21, .invokevirtual 361, 3), (24, .iload_n 1, 1), (25, .if_icmp .ne 5, 3), (28, .iload_n 2, 1), (29, .ireturn, 1), (30, .iinc 2 1, 3), (33, .goto (-25), 3), (36, .bipush (-2), 2), (38, .ireturn, 1)]
theorem D_X9_ranked : dchk cX9_ranked T_X9_ranked = true := by decide +kernel
def Rp_ranked (σ : ST) (a1 : Int32) : Option Int32 :=
  (if 0 ≤ a1 then lp_ (fun rec2 (z1 : Int32) => bd_ (ldQ σ 0) (fun rr4 => (if (gF σ 530 rr4) ≤ z1 then some (-2) else bd_ (Rp_rankOf (σ) z1) (fun q5 => (if q5 = a1 then some z1 else rec2 (z1 + 1)))))) FU 0 else some (-1))
set_option maxHeartbeats 4000000 in
set_option maxRecDepth 100000 in
theorem c_X9_ranked {G : GW} (hG : Good G) {l : Launch} (σ : ST) (a1 : Int32) : Ctr G l yX9_ranked cX9_ranked 3 (some .int) 3 [.ref (ga G 130 0), .int a1] σ (oI σ) (Rp_ranked σ a1) := by
  refine ctr_of hG (by decide) (Nat.le_of_ble_eq_true rfl) ?_
  intro X hXl hR hX
  have hX : Ok G X cX9_ranked 3 RX9 3 := hX
  unfold Rp_ranked
  show Sim G X 3 (MQX G X (oI σ)) σ 0 [(0, .ref (ga G 130 0)), (1, .int a1)] [] _
  refine s_iload_n 1 (n := 1) hX (dec_of D_X9_ranked (i := 0) rfl) rfl rfl rfl ?_
  refine s_if_ge (tgt := 6) (n := 4) hX (dec_of D_X9_ranked (i := 1) rfl) rfl rfl ?_ ?_
  · refine s_iconst (v := 0) (n := 7) hX (dec_of D_X9_ranked (i := 4) rfl) rfl (by decide) ?_
    refine s_istore_n (lv' := [(0, _), (1, _), (2, _)]) [1, 2, 0] (n := 8) hX (dec_of D_X9_ranked (i := 5) rfl) rfl rfl (by decide) rfl ?_
    refine s_sub [0, 1, 2] rfl (s_lp (pc := 8) (Sf := fun (z1 : Int32) => σ) (lvf := fun (z1 : Int32) => [(0, .ref (ga G 130 0)), (1, .int a1), (2, .int z1)]) (fun rec2 hre3 z1 => ?_) FU 0)
    refine s_iload_n 2 (n := 9) hX (dec_of D_X9_ranked (i := 6) rfl) rfl rfl rfl ?_
    refine s_aload_n 0 (n := 10) hX (dec_of D_X9_ranked (i := 7) rfl) rfl rfl rfl ?_
    refine s_getQ (c := 9) (p := 7) (j := 0) (n := 13) hX cls9 (vk130 (by omega)) (dec_of D_X9_ranked (i := 8) rfl) rfl rfl wd_448 (fun rr4 hrr4 => ?_)
    refine s_getI (c := 5) (p := 10) (id := 530) (n := 16) hX cls5 (vk126 (by omega)) (dec_of D_X9_ranked (i := 9) rfl) rfl rfl wd_397 ?_
    refine s_icmp_ge (tgt := 36) (n := 19) hX (dec_of D_X9_ranked (i := 10) rfl) rfl rfl ?_ ?_
    · refine s_bipush (v := (-2)) (n := 38) hX (dec_of D_X9_ranked (i := 20) rfl) rfl (by decide) ?_
      exact s_iret hX hR (dec_of D_X9_ranked (i := 21) rfl) rfl
    · refine s_aload_n 0 (n := 20) hX (dec_of D_X9_ranked (i := 11) rfl) rfl rfl rfl ?_
      refine s_iload_n 2 (n := 21) hX (dec_of D_X9_ranked (i := 12) rfl) rfl rfl rfl ?_
      refine s_callVI (c := 9) (n := 24) hX cls9 (vk130 (by omega)) lk_RX9_361 (dec_of D_X9_ranked (i := 13) rfl) rfl (by decide) (c_X9_rankOf (l := _) hG _ _) rfl rfl (Nat.le_of_ble_eq_true rfl) (fun q5 => ?_)
      refine s_iload_n 1 (n := 25) hX (dec_of D_X9_ranked (i := 14) rfl) rfl rfl rfl ?_
      refine s_icmp_ne (tgt := 30) (n := 28) hX (dec_of D_X9_ranked (i := 15) rfl) rfl rfl ?_ ?_
      · refine s_iinc (v := z1 + 1) (lv' := [(0, _), (1, _), (2, _)]) 2 [1, 2, 0] (n := 33) hX (dec_of D_X9_ranked (i := 18) rfl) rfl rfl rfl (by decide) rfl ?_
        refine s_goto (n := 8) hX (dec_of D_X9_ranked (i := 19) rfl) rfl ?_
        exact s_sub [0, 1, 2] rfl (hre3 (z1 + 1))
      · refine s_iload_n 2 (n := 29) hX (dec_of D_X9_ranked (i := 16) rfl) rfl rfl rfl ?_
        exact s_iret hX hR (dec_of D_X9_ranked (i := 17) rfl) rfl
  · refine s_iconst (v := (-1)) (n := 5) hX (dec_of D_X9_ranked (i := 2) rfl) rfl (by decide) ?_
    exact s_iret hX hR (dec_of D_X9_ranked (i := 3) rfl) rfl
def T_X9_poorest : List (Nat × Instr × Nat) := [(0, .aload_n 0, 1), (1, .iload_n 1, 1), (2, .invokevirtual 102, 3), (5, .ifCond .eq 11, 3), (8, .iload_n 2, 1), (9, .iconst 2, 1), (10, .invokestatic 207, 3), (13, .ifCond .ne 5, 3), (16, .iconst (-1), 1), (17, .ireturn, 1), (18, .bipush (-2), 2), (20, .istore_n 3, 1), (21, .bipush (-2), 2), (23, .istore 4, 2), (25, .iconst 0, 1), (26, .istore 5, 2), (28, .iload 5, 2), (30, .aload_n 0, 1), (31, .getfield 61, 3), (34, .getfield 226, 3), (37, .if_icmp .ge 66, 3), (40, .aload_n 0, 1), (41, .getfield 19, 3), (44, .getfield 113, 3), (47, .getfield 153, 3), (50, .iload 5, 2), (52, .iaload, 1), (53, .iload_n 1, 1), (54, .if_icmp .ne 43, 3), (57, .iload_n 3, 1), (58, .ifCond .lt 21, 3), (61, .aload_n 0, 1), (62, .getfield 19, 3), (65, .aload_n 0, 1), (66, .getfield 61, 3), (69, .iload 5, 2), (71, .invokevirtual 156, 3), (74, .iload 4, 2), (76, .if_icmp .ge 21, 3), (79, .iload 5, 2), (81, .istore_n 3, 1), (82, .aload_n 0, 1), (83, .getfield 19, 3), (86, .aload_n 0, 1), (87, .getfield 61, 3), (90, .iload 5, 2), (92, .invokevirtual 156, 3), (95, .istore 4, 2), (97, .iinc 5 1, 3), (100, .goto (-72), 3), (103, .iload_n 2, 1), (104, .ifCond .ne 7, 3), (107, .iload_n 3, 1), (108, .goto 5, 3), (111, .iload 4, 2), (113, .ireturn, 1)]
theorem D_X9_poorest : dchk cX9_poorest T_X9_poorest = true := by decide +kernel
def Rp_poorest (σ : ST) (a1 : Int32) (a2 : Int32) : Option Int32 :=
  bd_ (Rp_isLand (σ) a1) (fun q1 => (if q1 = 0 then some (-1) else bd_ (Rp_isChoice (σ) a2 2) (fun q2 => (if q2 = 0 then some (-1) else lp_ (fun rec4 (z3 : Int32 × Int32 × Int32) => bd_ (ldQ σ 0) (fun rr6 => (if (gF σ 530 rr6) ≤ z3.2.2 then (if a2 = 0 then some z3.1 else some z3.2.1) else bd_ (ldI σ 26 0 z3.2.2) (fun v7 => (if v7 = a1 then (if z3.1 < 0 then bd_ (ldQ σ 0) (fun rr8 => bd_ (Bk_paidTo (σ) 0 rr8 z3.2.2) (fun q9 => rec4 (z3.2.2, q9, (z3.2.2 + 1)))) else bd_ (ldQ σ 0) (fun rr10 => bd_ (Bk_paidTo (σ) 0 rr10 z3.2.2) (fun q11 => (if z3.2.1 ≤ q11 then rec4 (z3.1, z3.2.1, (z3.2.2 + 1)) else bd_ (ldQ σ 0) (fun rr12 => bd_ (Bk_paidTo (σ) 0 rr12 z3.2.2) (fun q13 => rec4 (z3.2.2, q13, (z3.2.2 + 1)))))))) else rec4 (z3.1, z3.2.1, (z3.2.2 + 1))))))) FU ((-2), (-2), 0)))))
set_option maxHeartbeats 4000000 in
set_option maxRecDepth 100000 in
theorem c_X9_poorest {G : GW} (hG : Good G) {l : Launch} (σ : ST) (a1 : Int32) (a2 : Int32) : Ctr G l yX9_poorest cX9_poorest 6 (some .int) 2 [.ref (ga G 130 0), .int a1, .int a2] σ (oI σ) (Rp_poorest σ a1 a2) := by
  refine ctr_of hG (by decide) (Nat.le_of_ble_eq_true rfl) ?_
  intro X hXl hR hX
  have hX : Ok G X cX9_poorest 6 RX9 2 := hX
  unfold Rp_poorest
  show Sim G X 6 (MQX G X (oI σ)) σ 0 [(0, .ref (ga G 130 0)), (1, .int a1), (2, .int a2)] [] _
  refine s_aload_n 0 (n := 1) hX (dec_of D_X9_poorest (i := 0) rfl) rfl rfl rfl ?_
  refine s_iload_n 1 (n := 2) hX (dec_of D_X9_poorest (i := 1) rfl) rfl rfl rfl ?_
  refine s_callVI (c := 9) (n := 5) hX cls9 (vk130 (by omega)) lk_RX9_102 (dec_of D_X9_poorest (i := 2) rfl) rfl (by decide) (c_X9_isLand (l := _) hG _ _) rfl rfl (Nat.le_of_ble_eq_true rfl) (fun q1 => ?_)
  refine s_if_eq (tgt := 16) (n := 8) hX (dec_of D_X9_poorest (i := 3) rfl) rfl rfl ?_ ?_
  · refine s_iconst (v := (-1)) (n := 17) hX (dec_of D_X9_poorest (i := 8) rfl) rfl (by decide) ?_
    exact s_iret hX hR (dec_of D_X9_poorest (i := 9) rfl) rfl
  · refine s_iload_n 2 (n := 9) hX (dec_of D_X9_poorest (i := 4) rfl) rfl rfl rfl ?_
    refine s_iconst (v := 2) (n := 10) hX (dec_of D_X9_poorest (i := 5) rfl) rfl (by decide) ?_
    refine s_callSI (n := 13) hX lk_RX9_207 (dec_of D_X9_poorest (i := 6) rfl) rfl (by decide) (c_X9_isChoice (l := _) hG _ _ _) rfl rfl (Nat.le_of_ble_eq_true rfl) (fun q2 => ?_)
    refine s_if_ne (tgt := 18) (n := 16) hX (dec_of D_X9_poorest (i := 7) rfl) rfl rfl ?_ ?_
    · refine s_bipush (v := (-2)) (n := 20) hX (dec_of D_X9_poorest (i := 10) rfl) rfl (by decide) ?_
      refine s_istore_n (lv' := [(0, _), (1, _), (2, _), (3, _)]) [1, 2, 3, 0] (n := 21) hX (dec_of D_X9_poorest (i := 11) rfl) rfl rfl (by decide) rfl ?_
      refine s_bipush (v := (-2)) (n := 23) hX (dec_of D_X9_poorest (i := 12) rfl) rfl (by decide) ?_
      refine s_istore (lv' := [(0, _), (1, _), (2, _), (3, _), (4, _)]) [1, 2, 3, 4, 0] (n := 25) hX (dec_of D_X9_poorest (i := 13) rfl) rfl (by decide) rfl ?_
      refine s_iconst (v := 0) (n := 26) hX (dec_of D_X9_poorest (i := 14) rfl) rfl (by decide) ?_
      refine s_istore (lv' := [(0, _), (1, _), (2, _), (3, _), (4, _), (5, _)]) [1, 2, 3, 4, 5, 0] (n := 28) hX (dec_of D_X9_poorest (i := 15) rfl) rfl (by decide) rfl ?_
      refine s_sub [0, 1, 2, 3, 4, 5] rfl (s_lp (pc := 28) (Sf := fun (z3 : Int32 × Int32 × Int32) => σ) (lvf := fun (z3 : Int32 × Int32 × Int32) => [(0, .ref (ga G 130 0)), (1, .int a1), (2, .int a2), (3, .int z3.1), (4, .int z3.2.1), (5, .int z3.2.2)]) (fun rec4 hre5 z3 => ?_) FU ((-2), (-2), 0))
      refine s_iload 5 (n := 30) hX (dec_of D_X9_poorest (i := 16) rfl) rfl rfl ?_
      refine s_aload_n 0 (n := 31) hX (dec_of D_X9_poorest (i := 17) rfl) rfl rfl rfl ?_
      refine s_getQ (c := 9) (p := 7) (j := 0) (n := 34) hX cls9 (vk130 (by omega)) (dec_of D_X9_poorest (i := 18) rfl) rfl rfl wd_448 (fun rr6 hrr6 => ?_)
      refine s_getI (c := 5) (p := 10) (id := 530) (n := 37) hX cls5 (vk126 (by omega)) (dec_of D_X9_poorest (i := 19) rfl) rfl rfl wd_397 ?_
      refine s_icmp_ge (tgt := 103) (n := 40) hX (dec_of D_X9_poorest (i := 20) rfl) rfl rfl ?_ ?_
      · refine s_iload_n 2 (n := 104) hX (dec_of D_X9_poorest (i := 50) rfl) rfl rfl rfl ?_
        refine s_if_ne (tgt := 111) (n := 107) hX (dec_of D_X9_poorest (i := 51) rfl) rfl rfl ?_ ?_
        · refine s_iload 4 (n := 113) hX (dec_of D_X9_poorest (i := 54) rfl) rfl rfl ?_
          exact s_iret hX hR (dec_of D_X9_poorest (i := 55) rfl) rfl
        · refine s_iload_n 3 (n := 108) hX (dec_of D_X9_poorest (i := 52) rfl) rfl rfl rfl ?_
          refine s_goto (n := 113) hX (dec_of D_X9_poorest (i := 53) rfl) rfl ?_
          exact s_iret hX hR (dec_of D_X9_poorest (i := 55) rfl) rfl
      · refine s_aload_n 0 (n := 41) hX (dec_of D_X9_poorest (i := 21) rfl) rfl rfl rfl ?_
        refine s_getC (c := 9) (p := 1) (n := 44) 121 0 hX cls9 (vk130 (by omega)) (dec_of D_X9_poorest (i := 22) rfl) rfl rfl (by decide) wd_442 ?_
        refine s_getR (c := 0) (p := 0) (k' := 129) (n := 47) hX cls0 (vk121 (by omega)) (dec_of D_X9_poorest (i := 23) rfl) rfl rfl wd_219 ?_
        refine s_getR (c := 8) (p := 2) (k' := 26) (n := 50) hX cls8 (vk129 (by omega)) (dec_of D_X9_poorest (i := 24) rfl) rfl rfl wd_203 ?_
        refine s_iload 5 (n := 52) hX (dec_of D_X9_poorest (i := 25) rfl) rfl rfl ?_
        refine s_iald (n := 53) hX (vk26 (by omega)) (by decide) (dec_of D_X9_poorest (i := 26) rfl) rfl (fun v7 => ?_)
        refine s_iload_n 1 (n := 54) hX (dec_of D_X9_poorest (i := 27) rfl) rfl rfl rfl ?_
        refine s_icmp_ne (tgt := 97) (n := 57) hX (dec_of D_X9_poorest (i := 28) rfl) rfl rfl ?_ ?_
        · refine s_iinc (v := z3.2.2 + 1) (lv' := [(0, _), (1, _), (2, _), (3, _), (4, _), (5, _)]) 5 [1, 2, 3, 4, 5, 0] (n := 100) hX (dec_of D_X9_poorest (i := 48) rfl) rfl rfl rfl (by decide) rfl ?_
          refine s_goto (n := 28) hX (dec_of D_X9_poorest (i := 49) rfl) rfl ?_
          exact s_sub [0, 1, 2, 3, 4, 5] rfl (hre5 (z3.1, z3.2.1, (z3.2.2 + 1)))
        · refine s_iload_n 3 (n := 58) hX (dec_of D_X9_poorest (i := 29) rfl) rfl rfl rfl ?_
          refine s_if_lt (tgt := 79) (n := 61) hX (dec_of D_X9_poorest (i := 30) rfl) rfl rfl ?_ ?_
          · refine s_iload 5 (n := 81) hX (dec_of D_X9_poorest (i := 39) rfl) rfl rfl ?_
            refine s_istore_n (lv' := [(0, _), (1, _), (2, _), (3, _), (4, _), (5, _)]) [1, 2, 3, 0, 4, 5] (n := 82) hX (dec_of D_X9_poorest (i := 40) rfl) rfl rfl (by decide) rfl ?_
            refine s_aload_n 0 (n := 83) hX (dec_of D_X9_poorest (i := 41) rfl) rfl rfl rfl ?_
            refine s_getC (c := 9) (p := 1) (n := 86) 121 0 hX cls9 (vk130 (by omega)) (dec_of D_X9_poorest (i := 42) rfl) rfl rfl (by decide) wd_442 ?_
            refine s_aload_n 0 (n := 87) hX (dec_of D_X9_poorest (i := 43) rfl) rfl rfl rfl ?_
            refine s_getQ (c := 9) (p := 7) (j := 0) (n := 90) hX cls9 (vk130 (by omega)) (dec_of D_X9_poorest (i := 44) rfl) rfl rfl wd_448 (fun rr8 hrr8 => ?_)
            refine s_iload 5 (n := 92) hX (dec_of D_X9_poorest (i := 45) rfl) rfl rfl ?_
            refine s_callVI (c := 0) (n := 95) hX cls0 (vk121 (by omega)) lk_RX9_156 (dec_of D_X9_poorest (i := 46) rfl) rfl (by decide) (c_X0_paidTo (l := _) hG _ _ (by omega) _ (by omega) _) rfl rfl (Nat.le_of_ble_eq_true rfl) (fun q9 => ?_)
            refine s_istore (lv' := [(0, _), (1, _), (2, _), (3, _), (4, _), (5, _)]) [1, 2, 3, 4, 0, 5] (n := 97) hX (dec_of D_X9_poorest (i := 47) rfl) rfl (by decide) rfl ?_
            refine s_iinc (v := z3.2.2 + 1) (lv' := [(0, _), (1, _), (2, _), (3, _), (4, _), (5, _)]) 5 [1, 2, 3, 4, 5, 0] (n := 100) hX (dec_of D_X9_poorest (i := 48) rfl) rfl rfl rfl (by decide) rfl ?_
            refine s_goto (n := 28) hX (dec_of D_X9_poorest (i := 49) rfl) rfl ?_
            exact s_sub [0, 1, 2, 3, 4, 5] rfl (hre5 (z3.2.2, q9, (z3.2.2 + 1)))
          · refine s_aload_n 0 (n := 62) hX (dec_of D_X9_poorest (i := 31) rfl) rfl rfl rfl ?_
            refine s_getC (c := 9) (p := 1) (n := 65) 121 0 hX cls9 (vk130 (by omega)) (dec_of D_X9_poorest (i := 32) rfl) rfl rfl (by decide) wd_442 ?_
            refine s_aload_n 0 (n := 66) hX (dec_of D_X9_poorest (i := 33) rfl) rfl rfl rfl ?_
            refine s_getQ (c := 9) (p := 7) (j := 0) (n := 69) hX cls9 (vk130 (by omega)) (dec_of D_X9_poorest (i := 34) rfl) rfl rfl wd_448 (fun rr10 hrr10 => ?_)
            refine s_iload 5 (n := 71) hX (dec_of D_X9_poorest (i := 35) rfl) rfl rfl ?_
            refine s_callVI (c := 0) (n := 74) hX cls0 (vk121 (by omega)) lk_RX9_156 (dec_of D_X9_poorest (i := 36) rfl) rfl (by decide) (c_X0_paidTo (l := _) hG _ _ (by omega) _ (by omega) _) rfl rfl (Nat.le_of_ble_eq_true rfl) (fun q11 => ?_)
            refine s_iload 4 (n := 76) hX (dec_of D_X9_poorest (i := 37) rfl) rfl rfl ?_
            refine s_icmp_ge (tgt := 97) (n := 79) hX (dec_of D_X9_poorest (i := 38) rfl) rfl rfl ?_ ?_
            · refine s_iinc (v := z3.2.2 + 1) (lv' := [(0, _), (1, _), (2, _), (3, _), (4, _), (5, _)]) 5 [1, 2, 3, 4, 5, 0] (n := 100) hX (dec_of D_X9_poorest (i := 48) rfl) rfl rfl rfl (by decide) rfl ?_
              refine s_goto (n := 28) hX (dec_of D_X9_poorest (i := 49) rfl) rfl ?_
              exact s_sub [0, 1, 2, 3, 4, 5] rfl (hre5 (z3.1, z3.2.1, (z3.2.2 + 1)))
            · refine s_iload 5 (n := 81) hX (dec_of D_X9_poorest (i := 39) rfl) rfl rfl ?_
              refine s_istore_n (lv' := [(0, _), (1, _), (2, _), (3, _), (4, _), (5, _)]) [1, 2, 3, 0, 4, 5] (n := 82) hX (dec_of D_X9_poorest (i := 40) rfl) rfl rfl (by decide) rfl ?_
              refine s_aload_n 0 (n := 83) hX (dec_of D_X9_poorest (i := 41) rfl) rfl rfl rfl ?_
              refine s_getC (c := 9) (p := 1) (n := 86) 121 0 hX cls9 (vk130 (by omega)) (dec_of D_X9_poorest (i := 42) rfl) rfl rfl (by decide) wd_442 ?_
              refine s_aload_n 0 (n := 87) hX (dec_of D_X9_poorest (i := 43) rfl) rfl rfl rfl ?_
              refine s_getQ (c := 9) (p := 7) (j := 0) (n := 90) hX cls9 (vk130 (by omega)) (dec_of D_X9_poorest (i := 44) rfl) rfl rfl wd_448 (fun rr12 hrr12 => ?_)
              refine s_iload 5 (n := 92) hX (dec_of D_X9_poorest (i := 45) rfl) rfl rfl ?_
              refine s_callVI (c := 0) (n := 95) hX cls0 (vk121 (by omega)) lk_RX9_156 (dec_of D_X9_poorest (i := 46) rfl) rfl (by decide) (c_X0_paidTo (l := _) hG _ _ (by omega) _ (by omega) _) rfl rfl (Nat.le_of_ble_eq_true rfl) (fun q13 => ?_)
              refine s_istore (lv' := [(0, _), (1, _), (2, _), (3, _), (4, _), (5, _)]) [1, 2, 3, 4, 0, 5] (n := 97) hX (dec_of D_X9_poorest (i := 47) rfl) rfl (by decide) rfl ?_
              refine s_iinc (v := z3.2.2 + 1) (lv' := [(0, _), (1, _), (2, _), (3, _), (4, _), (5, _)]) 5 [1, 2, 3, 4, 5, 0] (n := 100) hX (dec_of D_X9_poorest (i := 48) rfl) rfl rfl rfl (by decide) rfl ?_
              refine s_goto (n := 28) hX (dec_of D_X9_poorest (i := 49) rfl) rfl ?_
              exact s_sub [0, 1, 2, 3, 4, 5] rfl (hre5 (z3.2.2, q13, (z3.2.2 + 1)))
    · refine s_iconst (v := (-1)) (n := 17) hX (dec_of D_X9_poorest (i := 8) rfl) rfl (by decide) ?_
      exact s_iret hX hR (dec_of D_X9_poorest (i := 9) rfl) rfl
def T_X9_statement : List (Nat × Instr × Nat) := [(0, .aload_n 0, 1), (1, .iload_n 1, 1), (2, .invokevirtual 148, 3), (5, .ifCond .eq 15, 3), (8, .iload_n 2, 1), (9, .ifCond .lt 11, 3), (12, .iload_n 3, 1), (13, .iconst 2, 1), (14, .invokestatic 207, 3), (17, .ifCond .ne 5, 3), (20, .iconst (-1), 1), (21, .ireturn, 1), (22, .iconst 0, 1), (23, .istore 4, 2), (25, .iconst 0, 1), (26, .istore 5, 2), (28, .iload 5, 2), (30, .aload_n 0, 1), (31, .getfield 61, 3), (34, .getfield 229, 3), (37, .if_icmp .ge 52, 3), (40, .aload_n 0, 1), (41, .getfield 19, 3), (44, .iload_n 1, 1), (45, .iload 5, 2), (47, .invokevirtual 330, 3), (50, .istore 6, 2), (52, .iload 6, 2), (54, .ifCond .le 21, 3), (57, .iload 4, 2), (59, .iload_n 2, 1), (60, .if_icmp .ne 15, 3), (63, .iload_n 3, 1), (64, .ifCond .ne 8, 3), (67, .iload 5, 2), (69, .goto 5, 3), (72, .iload 6, 2), (74, .ireturn, 1), (75, .iload 6, 2), (77, .ifCond .le 6, 3), (80, .iinc 4 1, 3), (83, .iinc 5 1, 3), (86, .goto (-58), 3), (89, .bipush (-2), 2), (91, .ireturn, 1)]
theorem D_X9_statement : dchk cX9_statement T_X9_statement = true := by decide +kernel
def Rp_statement (σ : ST) (a1 : Int32) (a2 : Int32) (a3 : Int32) : Option Int32 :=
  bd_ (Rp_isPlayer (σ) a1) (fun q1 => (if q1 = 0 then some (-1) else (if a2 < 0 then some (-1) else bd_ (Rp_isChoice (σ) a3 2) (fun q2 => (if q2 = 0 then some (-1) else lp_ (fun rec4 (z3 : Int32 × Int32) => bd_ (ldQ σ 0) (fun rr6 => (if (gF σ 529 rr6) ≤ z3.2 then some (-2) else bd_ (Bk_paidBoth (σ) 0 a1 z3.2) (fun q7 => (if q7 ≤ 0 then (if q7 ≤ 0 then rec4 (z3.1, (z3.2 + 1)) else rec4 ((z3.1 + 1), (z3.2 + 1))) else (if z3.1 = a2 then (if a3 = 0 then some z3.2 else some q7) else (if q7 ≤ 0 then rec4 (z3.1, (z3.2 + 1)) else rec4 ((z3.1 + 1), (z3.2 + 1))))))))) FU (0, 0))))))
set_option maxHeartbeats 4000000 in
set_option maxRecDepth 100000 in
theorem c_X9_statement {G : GW} (hG : Good G) {l : Launch} (σ : ST) (a1 : Int32) (a2 : Int32) (a3 : Int32) : Ctr G l yX9_statement cX9_statement 7 (some .int) 1 [.ref (ga G 130 0), .int a1, .int a2, .int a3] σ (oI σ) (Rp_statement σ a1 a2 a3) := by
  refine ctr_of hG (by decide) (Nat.le_of_ble_eq_true rfl) ?_
  intro X hXl hR hX
  have hX : Ok G X cX9_statement 7 RX9 1 := hX
  unfold Rp_statement
  show Sim G X 7 (MQX G X (oI σ)) σ 0 [(0, .ref (ga G 130 0)), (1, .int a1), (2, .int a2), (3, .int a3)] [] _
  refine s_aload_n 0 (n := 1) hX (dec_of D_X9_statement (i := 0) rfl) rfl rfl rfl ?_
  refine s_iload_n 1 (n := 2) hX (dec_of D_X9_statement (i := 1) rfl) rfl rfl rfl ?_
  refine s_callVI (c := 9) (n := 5) hX cls9 (vk130 (by omega)) lk_RX9_148 (dec_of D_X9_statement (i := 2) rfl) rfl (by decide) (c_X9_isPlayer (l := _) hG _ _) rfl rfl (Nat.le_of_ble_eq_true rfl) (fun q1 => ?_)
  refine s_if_eq (tgt := 20) (n := 8) hX (dec_of D_X9_statement (i := 3) rfl) rfl rfl ?_ ?_
  · refine s_iconst (v := (-1)) (n := 21) hX (dec_of D_X9_statement (i := 10) rfl) rfl (by decide) ?_
    exact s_iret hX hR (dec_of D_X9_statement (i := 11) rfl) rfl
  · refine s_iload_n 2 (n := 9) hX (dec_of D_X9_statement (i := 4) rfl) rfl rfl rfl ?_
    refine s_if_lt (tgt := 20) (n := 12) hX (dec_of D_X9_statement (i := 5) rfl) rfl rfl ?_ ?_
    · refine s_iconst (v := (-1)) (n := 21) hX (dec_of D_X9_statement (i := 10) rfl) rfl (by decide) ?_
      exact s_iret hX hR (dec_of D_X9_statement (i := 11) rfl) rfl
    · refine s_iload_n 3 (n := 13) hX (dec_of D_X9_statement (i := 6) rfl) rfl rfl rfl ?_
      refine s_iconst (v := 2) (n := 14) hX (dec_of D_X9_statement (i := 7) rfl) rfl (by decide) ?_
      refine s_callSI (n := 17) hX lk_RX9_207 (dec_of D_X9_statement (i := 8) rfl) rfl (by decide) (c_X9_isChoice (l := _) hG _ _ _) rfl rfl (Nat.le_of_ble_eq_true rfl) (fun q2 => ?_)
      refine s_if_ne (tgt := 22) (n := 20) hX (dec_of D_X9_statement (i := 9) rfl) rfl rfl ?_ ?_
      · refine s_iconst (v := 0) (n := 23) hX (dec_of D_X9_statement (i := 12) rfl) rfl (by decide) ?_
        refine s_istore (lv' := [(0, _), (1, _), (2, _), (3, _), (4, _)]) [1, 2, 3, 4, 0] (n := 25) hX (dec_of D_X9_statement (i := 13) rfl) rfl (by decide) rfl ?_
        refine s_iconst (v := 0) (n := 26) hX (dec_of D_X9_statement (i := 14) rfl) rfl (by decide) ?_
        refine s_istore (lv' := [(0, _), (1, _), (2, _), (3, _), (4, _), (5, _)]) [1, 2, 3, 4, 5, 0] (n := 28) hX (dec_of D_X9_statement (i := 15) rfl) rfl (by decide) rfl ?_
        refine s_sub [0, 1, 2, 3, 4, 5] rfl (s_lp (pc := 28) (Sf := fun (z3 : Int32 × Int32) => σ) (lvf := fun (z3 : Int32 × Int32) => [(0, .ref (ga G 130 0)), (1, .int a1), (2, .int a2), (3, .int a3), (4, .int z3.1), (5, .int z3.2)]) (fun rec4 hre5 z3 => ?_) FU (0, 0))
        refine s_iload 5 (n := 30) hX (dec_of D_X9_statement (i := 16) rfl) rfl rfl ?_
        refine s_aload_n 0 (n := 31) hX (dec_of D_X9_statement (i := 17) rfl) rfl rfl rfl ?_
        refine s_getQ (c := 9) (p := 7) (j := 0) (n := 34) hX cls9 (vk130 (by omega)) (dec_of D_X9_statement (i := 18) rfl) rfl rfl wd_448 (fun rr6 hrr6 => ?_)
        refine s_getI (c := 5) (p := 9) (id := 529) (n := 37) hX cls5 (vk126 (by omega)) (dec_of D_X9_statement (i := 19) rfl) rfl rfl wd_392 ?_
        refine s_icmp_ge (tgt := 89) (n := 40) hX (dec_of D_X9_statement (i := 20) rfl) rfl rfl ?_ ?_
        · refine s_bipush (v := (-2)) (n := 91) hX (dec_of D_X9_statement (i := 43) rfl) rfl (by decide) ?_
          exact s_iret hX hR (dec_of D_X9_statement (i := 44) rfl) rfl
        · refine s_aload_n 0 (n := 41) hX (dec_of D_X9_statement (i := 21) rfl) rfl rfl rfl ?_
          refine s_getC (c := 9) (p := 1) (n := 44) 121 0 hX cls9 (vk130 (by omega)) (dec_of D_X9_statement (i := 22) rfl) rfl rfl (by decide) wd_442 ?_
          refine s_iload_n 1 (n := 45) hX (dec_of D_X9_statement (i := 23) rfl) rfl rfl rfl ?_
          refine s_iload 5 (n := 47) hX (dec_of D_X9_statement (i := 24) rfl) rfl rfl ?_
          refine s_callVI (c := 0) (n := 50) hX cls0 (vk121 (by omega)) lk_RX9_330 (dec_of D_X9_statement (i := 25) rfl) rfl (by decide) (c_X0_paidBoth (l := _) hG _ _ (by omega) _ _) rfl rfl (Nat.le_of_ble_eq_true rfl) (fun q7 => ?_)
          refine s_istore (lv' := [(0, _), (1, _), (2, _), (3, _), (4, _), (5, _), (6, _)]) [1, 2, 3, 4, 5, 6, 0] (n := 52) hX (dec_of D_X9_statement (i := 26) rfl) rfl (by decide) rfl ?_
          refine s_iload 6 (n := 54) hX (dec_of D_X9_statement (i := 27) rfl) rfl rfl ?_
          refine s_if_le (tgt := 75) (n := 57) hX (dec_of D_X9_statement (i := 28) rfl) rfl rfl ?_ ?_
          · refine s_iload 6 (n := 77) hX (dec_of D_X9_statement (i := 38) rfl) rfl rfl ?_
            refine s_if_le (tgt := 83) (n := 80) hX (dec_of D_X9_statement (i := 39) rfl) rfl rfl ?_ ?_
            · refine s_iinc (v := z3.2 + 1) (lv' := [(0, _), (1, _), (2, _), (3, _), (4, _), (5, _), (6, _)]) 5 [1, 2, 3, 4, 5, 0, 6] (n := 86) hX (dec_of D_X9_statement (i := 41) rfl) rfl rfl rfl (by decide) rfl ?_
              refine s_goto (n := 28) hX (dec_of D_X9_statement (i := 42) rfl) rfl ?_
              exact s_sub [0, 1, 2, 3, 4, 5] rfl (hre5 (z3.1, (z3.2 + 1)))
            · refine s_iinc (v := z3.1 + 1) (lv' := [(0, _), (1, _), (2, _), (3, _), (4, _), (5, _), (6, _)]) 4 [1, 2, 3, 4, 0, 5, 6] (n := 83) hX (dec_of D_X9_statement (i := 40) rfl) rfl rfl rfl (by decide) rfl ?_
              refine s_iinc (v := z3.2 + 1) (lv' := [(0, _), (1, _), (2, _), (3, _), (4, _), (5, _), (6, _)]) 5 [1, 2, 3, 4, 5, 0, 6] (n := 86) hX (dec_of D_X9_statement (i := 41) rfl) rfl rfl rfl (by decide) rfl ?_
              refine s_goto (n := 28) hX (dec_of D_X9_statement (i := 42) rfl) rfl ?_
              exact s_sub [0, 1, 2, 3, 4, 5] rfl (hre5 ((z3.1 + 1), (z3.2 + 1)))
          · refine s_iload 4 (n := 59) hX (dec_of D_X9_statement (i := 29) rfl) rfl rfl ?_
            refine s_iload_n 2 (n := 60) hX (dec_of D_X9_statement (i := 30) rfl) rfl rfl rfl ?_
            refine s_icmp_ne (tgt := 75) (n := 63) hX (dec_of D_X9_statement (i := 31) rfl) rfl rfl ?_ ?_
            · refine s_iload 6 (n := 77) hX (dec_of D_X9_statement (i := 38) rfl) rfl rfl ?_
              refine s_if_le (tgt := 83) (n := 80) hX (dec_of D_X9_statement (i := 39) rfl) rfl rfl ?_ ?_
              · refine s_iinc (v := z3.2 + 1) (lv' := [(0, _), (1, _), (2, _), (3, _), (4, _), (5, _), (6, _)]) 5 [1, 2, 3, 4, 5, 0, 6] (n := 86) hX (dec_of D_X9_statement (i := 41) rfl) rfl rfl rfl (by decide) rfl ?_
                refine s_goto (n := 28) hX (dec_of D_X9_statement (i := 42) rfl) rfl ?_
                exact s_sub [0, 1, 2, 3, 4, 5] rfl (hre5 (z3.1, (z3.2 + 1)))
              · refine s_iinc (v := z3.1 + 1) (lv' := [(0, _), (1, _), (2, _), (3, _), (4, _), (5, _), (6, _)]) 4 [1, 2, 3, 4, 0, 5, 6] (n := 83) hX (dec_of D_X9_statement (i := 40) rfl) rfl rfl rfl (by decide) rfl ?_
                refine s_iinc (v := z3.2 + 1) (lv' := [(0, _), (1, _), (2, _), (3, _), (4, _), (5, _), (6, _)]) 5 [1, 2, 3, 4, 5, 0, 6] (n := 86) hX (dec_of D_X9_statement (i := 41) rfl) rfl rfl rfl (by decide) rfl ?_
                refine s_goto (n := 28) hX (dec_of D_X9_statement (i := 42) rfl) rfl ?_
                exact s_sub [0, 1, 2, 3, 4, 5] rfl (hre5 ((z3.1 + 1), (z3.2 + 1)))
            · refine s_iload_n 3 (n := 64) hX (dec_of D_X9_statement (i := 32) rfl) rfl rfl rfl ?_
              refine s_if_ne (tgt := 72) (n := 67) hX (dec_of D_X9_statement (i := 33) rfl) rfl rfl ?_ ?_
              · refine s_iload 6 (n := 74) hX (dec_of D_X9_statement (i := 36) rfl) rfl rfl ?_
                exact s_iret hX hR (dec_of D_X9_statement (i := 37) rfl) rfl
              · refine s_iload 5 (n := 69) hX (dec_of D_X9_statement (i := 34) rfl) rfl rfl ?_
                refine s_goto (n := 74) hX (dec_of D_X9_statement (i := 35) rfl) rfl ?_
                exact s_iret hX hR (dec_of D_X9_statement (i := 37) rfl) rfl
      · refine s_iconst (v := (-1)) (n := 21) hX (dec_of D_X9_statement (i := 10) rfl) rfl (by decide) ?_
        exact s_iret hX hR (dec_of D_X9_statement (i := 11) rfl) rfl
theorem lk_RX9_365 : LkV RX9 365 RX0 yX0_paidAcross cX0_paidAcross 6 (some .int) 3 := ⟨wd_1062, wd_1063, wd_1064, wd_86, wd_1065, by decide +kernel, by decide⟩
def T_X9_across : List (Nat × Instr × Nat) := [(0, .aload_n 0, 1), (1, .iload_n 1, 1), (2, .invokevirtual 102, 3), (5, .ifCond .eq 11, 3), (8, .aload_n 0, 1), (9, .iload_n 2, 1), (10, .invokevirtual 102, 3), (13, .ifCond .ne 7, 3), (16, .ldc_w 364, 3), (19, .ireturn, 1), (20, .aload_n 0, 1), (21, .getfield 19, 3), (24, .aload_n 0, 1), (25, .getfield 61, 3), (28, .iload_n 1, 1), (29, .iload_n 2, 1), (30, .invokevirtual 365, 3), (33, .istore 4, 2), (35, .iload_n 3, 1), (36, .ifCond .eq 22, 3), (39, .iload 4, 2), (41, .aload_n 0, 1), (42, .getfield 19, 3), (45, .aload_n 0, 1), (46, .getfield 61, 3), (49, .iload_n 2, 1), (50, .iload_n 1, 1), (51, .invokevirtual 365, 3), (54, .isub, 1), (55, .goto 5, 3), (58, .iload 4, 2), (60, .ireturn, 1)]
theorem D_X9_across : dchk cX9_across T_X9_across = true := by decide +kernel
def Rp_across (σ : ST) (a1 : Int32) (a2 : Int32) (a3 : Int32) : Option Int32 :=
  bd_ (Rp_isLand (σ) a1) (fun q1 => (if q1 = 0 then some (-1000000000) else bd_ (Rp_isLand (σ) a2) (fun q2 => (if q2 = 0 then some (-1000000000) else bd_ (ldQ σ 0) (fun rr3 => bd_ (Bk_paidAcross (σ) 0 rr3 a1 a2) (fun q4 => (if a3 = 0 then some q4 else bd_ (ldQ σ 0) (fun rr5 => bd_ (Bk_paidAcross (σ) 0 rr5 a2 a1) (fun q6 => some (q4 - q6))))))))))
set_option maxHeartbeats 4000000 in
set_option maxRecDepth 100000 in
theorem c_X9_across {G : GW} (hG : Good G) {l : Launch} (σ : ST) (a1 : Int32) (a2 : Int32) (a3 : Int32) : Ctr G l yX9_across cX9_across 5 (some .int) 2 [.ref (ga G 130 0), .int a1, .int a2, .int a3] σ (oI σ) (Rp_across σ a1 a2 a3) := by
  refine ctr_of hG (by decide) (Nat.le_of_ble_eq_true rfl) ?_
  intro X hXl hR hX
  have hX : Ok G X cX9_across 5 RX9 2 := hX
  unfold Rp_across
  show Sim G X 5 (MQX G X (oI σ)) σ 0 [(0, .ref (ga G 130 0)), (1, .int a1), (2, .int a2), (3, .int a3)] [] _
  refine s_aload_n 0 (n := 1) hX (dec_of D_X9_across (i := 0) rfl) rfl rfl rfl ?_
  refine s_iload_n 1 (n := 2) hX (dec_of D_X9_across (i := 1) rfl) rfl rfl rfl ?_
  refine s_callVI (c := 9) (n := 5) hX cls9 (vk130 (by omega)) lk_RX9_102 (dec_of D_X9_across (i := 2) rfl) rfl (by decide) (c_X9_isLand (l := _) hG _ _) rfl rfl (Nat.le_of_ble_eq_true rfl) (fun q1 => ?_)
  refine s_if_eq (tgt := 16) (n := 8) hX (dec_of D_X9_across (i := 3) rfl) rfl rfl ?_ ?_
  · refine s_ldcw (v := (-1000000000)) (n := 19) hX (dec_of D_X9_across (i := 8) rfl) rfl wd_1061 ?_
    exact s_iret hX hR (dec_of D_X9_across (i := 9) rfl) rfl
  · refine s_aload_n 0 (n := 9) hX (dec_of D_X9_across (i := 4) rfl) rfl rfl rfl ?_
    refine s_iload_n 2 (n := 10) hX (dec_of D_X9_across (i := 5) rfl) rfl rfl rfl ?_
    refine s_callVI (c := 9) (n := 13) hX cls9 (vk130 (by omega)) lk_RX9_102 (dec_of D_X9_across (i := 6) rfl) rfl (by decide) (c_X9_isLand (l := _) hG _ _) rfl rfl (Nat.le_of_ble_eq_true rfl) (fun q2 => ?_)
    refine s_if_ne (tgt := 20) (n := 16) hX (dec_of D_X9_across (i := 7) rfl) rfl rfl ?_ ?_
    · refine s_aload_n 0 (n := 21) hX (dec_of D_X9_across (i := 10) rfl) rfl rfl rfl ?_
      refine s_getC (c := 9) (p := 1) (n := 24) 121 0 hX cls9 (vk130 (by omega)) (dec_of D_X9_across (i := 11) rfl) rfl rfl (by decide) wd_442 ?_
      refine s_aload_n 0 (n := 25) hX (dec_of D_X9_across (i := 12) rfl) rfl rfl rfl ?_
      refine s_getQ (c := 9) (p := 7) (j := 0) (n := 28) hX cls9 (vk130 (by omega)) (dec_of D_X9_across (i := 13) rfl) rfl rfl wd_448 (fun rr3 hrr3 => ?_)
      refine s_iload_n 1 (n := 29) hX (dec_of D_X9_across (i := 14) rfl) rfl rfl rfl ?_
      refine s_iload_n 2 (n := 30) hX (dec_of D_X9_across (i := 15) rfl) rfl rfl rfl ?_
      refine s_callVI (c := 0) (n := 33) hX cls0 (vk121 (by omega)) lk_RX9_365 (dec_of D_X9_across (i := 16) rfl) rfl (by decide) (c_X0_paidAcross (l := _) hG _ _ (by omega) _ (by omega) _ _) rfl rfl (Nat.le_of_ble_eq_true rfl) (fun q4 => ?_)
      refine s_istore (lv' := [(0, _), (1, _), (2, _), (3, _), (4, _)]) [1, 2, 3, 4, 0] (n := 35) hX (dec_of D_X9_across (i := 17) rfl) rfl (by decide) rfl ?_
      refine s_iload_n 3 (n := 36) hX (dec_of D_X9_across (i := 18) rfl) rfl rfl rfl ?_
      refine s_if_eq (tgt := 58) (n := 39) hX (dec_of D_X9_across (i := 19) rfl) rfl rfl ?_ ?_
      · refine s_iload 4 (n := 60) hX (dec_of D_X9_across (i := 30) rfl) rfl rfl ?_
        exact s_iret hX hR (dec_of D_X9_across (i := 31) rfl) rfl
      · refine s_iload 4 (n := 41) hX (dec_of D_X9_across (i := 20) rfl) rfl rfl ?_
        refine s_aload_n 0 (n := 42) hX (dec_of D_X9_across (i := 21) rfl) rfl rfl rfl ?_
        refine s_getC (c := 9) (p := 1) (n := 45) 121 0 hX cls9 (vk130 (by omega)) (dec_of D_X9_across (i := 22) rfl) rfl rfl (by decide) wd_442 ?_
        refine s_aload_n 0 (n := 46) hX (dec_of D_X9_across (i := 23) rfl) rfl rfl rfl ?_
        refine s_getQ (c := 9) (p := 7) (j := 0) (n := 49) hX cls9 (vk130 (by omega)) (dec_of D_X9_across (i := 24) rfl) rfl rfl wd_448 (fun rr5 hrr5 => ?_)
        refine s_iload_n 2 (n := 50) hX (dec_of D_X9_across (i := 25) rfl) rfl rfl rfl ?_
        refine s_iload_n 1 (n := 51) hX (dec_of D_X9_across (i := 26) rfl) rfl rfl rfl ?_
        refine s_callVI (c := 0) (n := 54) hX cls0 (vk121 (by omega)) lk_RX9_365 (dec_of D_X9_across (i := 27) rfl) rfl (by decide) (c_X0_paidAcross (l := _) hG _ _ (by omega) _ (by omega) _ _) rfl rfl (Nat.le_of_ble_eq_true rfl) (fun q6 => ?_)
        refine s_isub (n := 55) hX (dec_of D_X9_across (i := 28) rfl) rfl ?_
        refine s_goto (n := 60) hX (dec_of D_X9_across (i := 29) rfl) rfl ?_
        exact s_iret hX hR (dec_of D_X9_across (i := 31) rfl) rfl
    · refine s_ldcw (v := (-1000000000)) (n := 19) hX (dec_of D_X9_across (i := 8) rfl) rfl wd_1061 ?_
      exact s_iret hX hR (dec_of D_X9_across (i := 9) rfl) rfl
theorem lk_RX9_368 : LkV RX9 368 RX0 yX0_netOf cX0_netOf 5 (some .int) 2 := ⟨wd_1070, wd_1071, wd_1072, wd_86, wd_1073, by decide +kernel, by decide⟩
def T_X9_net : List (Nat × Instr × Nat) := [(0, .aload_n 0, 1), (1, .iload_n 1, 1), (2, .invokevirtual 102, 3), (5, .ifCond .eq 18, 3), (8, .aload_n 0, 1), (9, .getfield 19, 3), (12, .aload_n 0, 1), (13, .getfield 61, 3), (16, .iload_n 1, 1), (17, .invokevirtual 368, 3), (20, .goto 6, 3), (23, .ldc_w 364, 3), (26, .ireturn, 1)]
theorem D_X9_net : dchk cX9_net T_X9_net = true := by decide +kernel
def Rp_net (σ : ST) (a1 : Int32) : Option Int32 :=
  bd_ (Rp_isLand (σ) a1) (fun q1 => (if q1 = 0 then some (-1000000000) else bd_ (ldQ σ 0) (fun rr2 => bd_ (Bk_netOf (σ) 0 rr2 a1) (fun q3 => some q3))))
set_option maxHeartbeats 4000000 in
set_option maxRecDepth 100000 in
theorem c_X9_net {G : GW} (hG : Good G) {l : Launch} (σ : ST) (a1 : Int32) : Ctr G l yX9_net cX9_net 2 (some .int) 3 [.ref (ga G 130 0), .int a1] σ (oI σ) (Rp_net σ a1) := by
  refine ctr_of hG (by decide) (Nat.le_of_ble_eq_true rfl) ?_
  intro X hXl hR hX
  have hX : Ok G X cX9_net 2 RX9 3 := hX
  unfold Rp_net
  show Sim G X 2 (MQX G X (oI σ)) σ 0 [(0, .ref (ga G 130 0)), (1, .int a1)] [] _
  refine s_aload_n 0 (n := 1) hX (dec_of D_X9_net (i := 0) rfl) rfl rfl rfl ?_
  refine s_iload_n 1 (n := 2) hX (dec_of D_X9_net (i := 1) rfl) rfl rfl rfl ?_
  refine s_callVI (c := 9) (n := 5) hX cls9 (vk130 (by omega)) lk_RX9_102 (dec_of D_X9_net (i := 2) rfl) rfl (by decide) (c_X9_isLand (l := _) hG _ _) rfl rfl (Nat.le_of_ble_eq_true rfl) (fun q1 => ?_)
  refine s_if_eq (tgt := 23) (n := 8) hX (dec_of D_X9_net (i := 3) rfl) rfl rfl ?_ ?_
  · refine s_ldcw (v := (-1000000000)) (n := 26) hX (dec_of D_X9_net (i := 11) rfl) rfl wd_1061 ?_
    exact s_iret hX hR (dec_of D_X9_net (i := 12) rfl) rfl
  · refine s_aload_n 0 (n := 9) hX (dec_of D_X9_net (i := 4) rfl) rfl rfl rfl ?_
    refine s_getC (c := 9) (p := 1) (n := 12) 121 0 hX cls9 (vk130 (by omega)) (dec_of D_X9_net (i := 5) rfl) rfl rfl (by decide) wd_442 ?_
    refine s_aload_n 0 (n := 13) hX (dec_of D_X9_net (i := 6) rfl) rfl rfl rfl ?_
    refine s_getQ (c := 9) (p := 7) (j := 0) (n := 16) hX cls9 (vk130 (by omega)) (dec_of D_X9_net (i := 7) rfl) rfl rfl wd_448 (fun rr2 hrr2 => ?_)
    refine s_iload_n 1 (n := 17) hX (dec_of D_X9_net (i := 8) rfl) rfl rfl rfl ?_
    refine s_callVI (c := 0) (n := 20) hX cls0 (vk121 (by omega)) lk_RX9_368 (dec_of D_X9_net (i := 9) rfl) rfl (by decide) (c_X0_netOf (l := _) hG _ _ (by omega) _ (by omega) _) rfl rfl (Nat.le_of_ble_eq_true rfl) (fun q3 => ?_)
    refine s_goto (n := 26) hX (dec_of D_X9_net (i := 10) rfl) rfl ?_
    exact s_iret hX hR (dec_of D_X9_net (i := 12) rfl) rfl
def T_J6_compare_7cf53 : List (Nat × Instr × Nat) := [(0, .iload_n 0, 1), (1, .iload_n 1, 1), (2, .if_icmp .ge 7, 3), (5, .iconst (-1), 1), (6, .goto 13, 3), (9, .iload_n 0, 1), (10, .iload_n 1, 1), (11, .if_icmp .ne 7, 3), (14, .iconst 0, 1), (15, .goto 4, 3), (18, .iconst 1, 1), (19, .ireturn, 1)]
theorem D_J6_compare_7cf53 : dchk cJ6_compare_7cf53 T_J6_compare_7cf53 = true := by decide +kernel
def Jk_compare (σ : ST) (a0 : Int32) (a1 : Int32) : Option Int32 :=
  (if a1 ≤ a0 then (if a0 = a1 then some 0 else some 1) else some (-1))
set_option maxHeartbeats 4000000 in
set_option maxRecDepth 100000 in
theorem c_J6_compare_7cf53 {G : GW} (hG : Good G) {l : Launch} (σ : ST) (a0 : Int32) (a1 : Int32) : Ctr G l yJ6_compare_7cf53 cJ6_compare_7cf53 2 (some .int) 0 [.int a0, .int a1] σ (oI σ) (Jk_compare σ a0 a1) := by
  refine ctr_of hG (by decide) (Nat.le_of_ble_eq_true rfl) ?_
  intro X hXl hR hX
  have hX : Ok G X cJ6_compare_7cf53 2 RJ6 0 := hX
  unfold Jk_compare
  show Sim G X 2 (MQX G X (oI σ)) σ 0 [(0, .int a0), (1, .int a1)] [] _
  refine s_iload_n 0 (n := 1) hX (dec_of D_J6_compare_7cf53 (i := 0) rfl) rfl rfl rfl ?_
  refine s_iload_n 1 (n := 2) hX (dec_of D_J6_compare_7cf53 (i := 1) rfl) rfl rfl rfl ?_
  refine s_icmp_ge (tgt := 9) (n := 5) hX (dec_of D_J6_compare_7cf53 (i := 2) rfl) rfl rfl ?_ ?_
  · refine s_iload_n 0 (n := 10) hX (dec_of D_J6_compare_7cf53 (i := 5) rfl) rfl rfl rfl ?_
    refine s_iload_n 1 (n := 11) hX (dec_of D_J6_compare_7cf53 (i := 6) rfl) rfl rfl rfl ?_
    refine s_icmp_ne (tgt := 18) (n := 14) hX (dec_of D_J6_compare_7cf53 (i := 7) rfl) rfl rfl ?_ ?_
    · refine s_iconst (v := 1) (n := 19) hX (dec_of D_J6_compare_7cf53 (i := 10) rfl) rfl (by decide) ?_
      exact s_iret hX hR (dec_of D_J6_compare_7cf53 (i := 11) rfl) rfl
    · refine s_iconst (v := 0) (n := 15) hX (dec_of D_J6_compare_7cf53 (i := 8) rfl) rfl (by decide) ?_
      refine s_goto (n := 19) hX (dec_of D_J6_compare_7cf53 (i := 9) rfl) rfl ?_
      exact s_iret hX hR (dec_of D_J6_compare_7cf53 (i := 11) rfl) rfl
  · refine s_iconst (v := (-1)) (n := 6) hX (dec_of D_J6_compare_7cf53 (i := 3) rfl) rfl (by decide) ?_
    refine s_goto (n := 19) hX (dec_of D_J6_compare_7cf53 (i := 4) rfl) rfl ?_
    exact s_iret hX hR (dec_of D_J6_compare_7cf53 (i := 11) rfl) rfl
theorem lk_RX9_371 : LkS RX9 371 yJ6_compare_7cf53 cJ6_compare_7cf53 2 (some .int) 2 := ⟨wd_1079, wd_1080, wd_106, wd_1081, by decide +kernel, by decide⟩
def T_X9_extreme : List (Nat × Instr × Nat) := [(0, .iload_n 1, 1), (1, .iconst 2, 1), (2, .invokestatic 207, 3), (5, .ifCond .ne 5, 3), (8, .iconst (-1), 1), (9, .ireturn, 1), (10, .aload_n 0, 1), (11, .getfield 61, 3), (14, .getfield 229, 3), (17, .ifCond .ne 6, 3), (20, .bipush (-2), 2), (22, .ireturn, 1), (23, .iconst 0, 1), (24, .istore_n 2, 1), (25, .iconst 1, 1), (26, .istore_n 3, 1), (27, .iload_n 3, 1), (28, .aload_n 0, 1), (29, .getfield 61, 3), (32, .getfield 229, 3), (35, .if_icmp .ge 57, 3), (38, .aload_n 0, 1), (39, .getfield 19, 3), (42, .aload_n 0, 1), (43, .getfield 61, 3), (46, .iload_n 3, 1), (47, .invokevirtual 368, 3), (50, .aload_n 0, 1), (51, .getfield 19, 3), (54, .aload_n 0, 1), (55, .getfield 61, 3), (58, .iload_n 2, 1), (59, .invokevirtual 368, 3), (62, .invokestatic 371, 3), (65, .istore 4, 2), (67, .iload_n 1, 1), (68, .ifCond .ne 11, 3), (71, .iload 4, 2), (73, .ifCond .le 13, 3), (76, .goto 8, 3), (79, .iload 4, 2), (81, .ifCond .ge 5, 3), (84, .iload_n 3, 1), (85, .istore_n 2, 1), (86, .iinc 3 1, 3), (89, .goto (-62), 3), (92, .iload_n 2, 1), (93, .ireturn, 1)]
theorem D_X9_extreme : dchk cX9_extreme T_X9_extreme = true := by decide +kernel
def Rp_extreme (σ : ST) (a1 : Int32) : Option Int32 :=
  bd_ (Rp_isChoice (σ) a1 2) (fun q1 => (if q1 = 0 then some (-1) else bd_ (ldQ σ 0) (fun rr2 => (if (gF σ 529 rr2) = 0 then some (-2) else lp_ (fun rec4 (z3 : Int32 × Int32) => bd_ (ldQ σ 0) (fun rr6 => (if (gF σ 529 rr6) ≤ z3.2 then some z3.1 else bd_ (ldQ σ 0) (fun rr7 => bd_ (Bk_netOf (σ) 0 rr7 z3.2) (fun q8 => bd_ (ldQ σ 0) (fun rr9 => bd_ (Bk_netOf (σ) 0 rr9 z3.1) (fun q10 => bd_ (Jk_compare (σ) q8 q10) (fun q11 => (if a1 = 0 then (if q11 ≤ 0 then rec4 (z3.1, (z3.2 + 1)) else rec4 (z3.2, (z3.2 + 1))) else (if 0 ≤ q11 then rec4 (z3.1, (z3.2 + 1)) else rec4 (z3.2, (z3.2 + 1)))))))))))) FU (0, 1)))))
set_option maxHeartbeats 4000000 in
set_option maxRecDepth 100000 in
theorem c_X9_extreme {G : GW} (hG : Good G) {l : Launch} (σ : ST) (a1 : Int32) : Ctr G l yX9_extreme cX9_extreme 5 (some .int) 3 [.ref (ga G 130 0), .int a1] σ (oI σ) (Rp_extreme σ a1) := by
  refine ctr_of hG (by decide) (Nat.le_of_ble_eq_true rfl) ?_
  intro X hXl hR hX
  have hX : Ok G X cX9_extreme 5 RX9 3 := hX
  unfold Rp_extreme
  show Sim G X 5 (MQX G X (oI σ)) σ 0 [(0, .ref (ga G 130 0)), (1, .int a1)] [] _
  refine s_iload_n 1 (n := 1) hX (dec_of D_X9_extreme (i := 0) rfl) rfl rfl rfl ?_
  refine s_iconst (v := 2) (n := 2) hX (dec_of D_X9_extreme (i := 1) rfl) rfl (by decide) ?_
  refine s_callSI (n := 5) hX lk_RX9_207 (dec_of D_X9_extreme (i := 2) rfl) rfl (by decide) (c_X9_isChoice (l := _) hG _ _ _) rfl rfl (Nat.le_of_ble_eq_true rfl) (fun q1 => ?_)
  refine s_if_ne (tgt := 10) (n := 8) hX (dec_of D_X9_extreme (i := 3) rfl) rfl rfl ?_ ?_
  · refine s_aload_n 0 (n := 11) hX (dec_of D_X9_extreme (i := 6) rfl) rfl rfl rfl ?_
    refine s_getQ (c := 9) (p := 7) (j := 0) (n := 14) hX cls9 (vk130 (by omega)) (dec_of D_X9_extreme (i := 7) rfl) rfl rfl wd_448 (fun rr2 hrr2 => ?_)
    refine s_getI (c := 5) (p := 9) (id := 529) (n := 17) hX cls5 (vk126 (by omega)) (dec_of D_X9_extreme (i := 8) rfl) rfl rfl wd_392 ?_
    refine s_if_ne (tgt := 23) (n := 20) hX (dec_of D_X9_extreme (i := 9) rfl) rfl rfl ?_ ?_
    · refine s_iconst (v := 0) (n := 24) hX (dec_of D_X9_extreme (i := 12) rfl) rfl (by decide) ?_
      refine s_istore_n (lv' := [(0, _), (1, _), (2, _)]) [1, 2, 0] (n := 25) hX (dec_of D_X9_extreme (i := 13) rfl) rfl rfl (by decide) rfl ?_
      refine s_iconst (v := 1) (n := 26) hX (dec_of D_X9_extreme (i := 14) rfl) rfl (by decide) ?_
      refine s_istore_n (lv' := [(0, _), (1, _), (2, _), (3, _)]) [1, 2, 3, 0] (n := 27) hX (dec_of D_X9_extreme (i := 15) rfl) rfl rfl (by decide) rfl ?_
      refine s_sub [0, 1, 2, 3] rfl (s_lp (pc := 27) (Sf := fun (z3 : Int32 × Int32) => σ) (lvf := fun (z3 : Int32 × Int32) => [(0, .ref (ga G 130 0)), (1, .int a1), (2, .int z3.1), (3, .int z3.2)]) (fun rec4 hre5 z3 => ?_) FU (0, 1))
      refine s_iload_n 3 (n := 28) hX (dec_of D_X9_extreme (i := 16) rfl) rfl rfl rfl ?_
      refine s_aload_n 0 (n := 29) hX (dec_of D_X9_extreme (i := 17) rfl) rfl rfl rfl ?_
      refine s_getQ (c := 9) (p := 7) (j := 0) (n := 32) hX cls9 (vk130 (by omega)) (dec_of D_X9_extreme (i := 18) rfl) rfl rfl wd_448 (fun rr6 hrr6 => ?_)
      refine s_getI (c := 5) (p := 9) (id := 529) (n := 35) hX cls5 (vk126 (by omega)) (dec_of D_X9_extreme (i := 19) rfl) rfl rfl wd_392 ?_
      refine s_icmp_ge (tgt := 92) (n := 38) hX (dec_of D_X9_extreme (i := 20) rfl) rfl rfl ?_ ?_
      · refine s_iload_n 2 (n := 93) hX (dec_of D_X9_extreme (i := 46) rfl) rfl rfl rfl ?_
        exact s_iret hX hR (dec_of D_X9_extreme (i := 47) rfl) rfl
      · refine s_aload_n 0 (n := 39) hX (dec_of D_X9_extreme (i := 21) rfl) rfl rfl rfl ?_
        refine s_getC (c := 9) (p := 1) (n := 42) 121 0 hX cls9 (vk130 (by omega)) (dec_of D_X9_extreme (i := 22) rfl) rfl rfl (by decide) wd_442 ?_
        refine s_aload_n 0 (n := 43) hX (dec_of D_X9_extreme (i := 23) rfl) rfl rfl rfl ?_
        refine s_getQ (c := 9) (p := 7) (j := 0) (n := 46) hX cls9 (vk130 (by omega)) (dec_of D_X9_extreme (i := 24) rfl) rfl rfl wd_448 (fun rr7 hrr7 => ?_)
        refine s_iload_n 3 (n := 47) hX (dec_of D_X9_extreme (i := 25) rfl) rfl rfl rfl ?_
        refine s_callVI (c := 0) (n := 50) hX cls0 (vk121 (by omega)) lk_RX9_368 (dec_of D_X9_extreme (i := 26) rfl) rfl (by decide) (c_X0_netOf (l := _) hG _ _ (by omega) _ (by omega) _) rfl rfl (Nat.le_of_ble_eq_true rfl) (fun q8 => ?_)
        refine s_aload_n 0 (n := 51) hX (dec_of D_X9_extreme (i := 27) rfl) rfl rfl rfl ?_
        refine s_getC (c := 9) (p := 1) (n := 54) 121 0 hX cls9 (vk130 (by omega)) (dec_of D_X9_extreme (i := 28) rfl) rfl rfl (by decide) wd_442 ?_
        refine s_aload_n 0 (n := 55) hX (dec_of D_X9_extreme (i := 29) rfl) rfl rfl rfl ?_
        refine s_getQ (c := 9) (p := 7) (j := 0) (n := 58) hX cls9 (vk130 (by omega)) (dec_of D_X9_extreme (i := 30) rfl) rfl rfl wd_448 (fun rr9 hrr9 => ?_)
        refine s_iload_n 2 (n := 59) hX (dec_of D_X9_extreme (i := 31) rfl) rfl rfl rfl ?_
        refine s_callVI (c := 0) (n := 62) hX cls0 (vk121 (by omega)) lk_RX9_368 (dec_of D_X9_extreme (i := 32) rfl) rfl (by decide) (c_X0_netOf (l := _) hG _ _ (by omega) _ (by omega) _) rfl rfl (Nat.le_of_ble_eq_true rfl) (fun q10 => ?_)
        refine s_callSI (n := 65) hX lk_RX9_371 (dec_of D_X9_extreme (i := 33) rfl) rfl (by decide) (c_J6_compare_7cf53 (l := _) hG _ _ _) rfl rfl (Nat.le_of_ble_eq_true rfl) (fun q11 => ?_)
        refine s_istore (lv' := [(0, _), (1, _), (2, _), (3, _), (4, _)]) [1, 2, 3, 4, 0] (n := 67) hX (dec_of D_X9_extreme (i := 34) rfl) rfl (by decide) rfl ?_
        refine s_iload_n 1 (n := 68) hX (dec_of D_X9_extreme (i := 35) rfl) rfl rfl rfl ?_
        refine s_if_ne (tgt := 79) (n := 71) hX (dec_of D_X9_extreme (i := 36) rfl) rfl rfl ?_ ?_
        · refine s_iload 4 (n := 81) hX (dec_of D_X9_extreme (i := 40) rfl) rfl rfl ?_
          refine s_if_ge (tgt := 86) (n := 84) hX (dec_of D_X9_extreme (i := 41) rfl) rfl rfl ?_ ?_
          · refine s_iinc (v := z3.2 + 1) (lv' := [(0, _), (1, _), (2, _), (3, _), (4, _)]) 3 [1, 2, 3, 0, 4] (n := 89) hX (dec_of D_X9_extreme (i := 44) rfl) rfl rfl rfl (by decide) rfl ?_
            refine s_goto (n := 27) hX (dec_of D_X9_extreme (i := 45) rfl) rfl ?_
            exact s_sub [0, 1, 2, 3] rfl (hre5 (z3.1, (z3.2 + 1)))
          · refine s_iload_n 3 (n := 85) hX (dec_of D_X9_extreme (i := 42) rfl) rfl rfl rfl ?_
            refine s_istore_n (lv' := [(0, _), (1, _), (2, _), (3, _), (4, _)]) [1, 2, 0, 3, 4] (n := 86) hX (dec_of D_X9_extreme (i := 43) rfl) rfl rfl (by decide) rfl ?_
            refine s_iinc (v := z3.2 + 1) (lv' := [(0, _), (1, _), (2, _), (3, _), (4, _)]) 3 [1, 2, 3, 0, 4] (n := 89) hX (dec_of D_X9_extreme (i := 44) rfl) rfl rfl rfl (by decide) rfl ?_
            refine s_goto (n := 27) hX (dec_of D_X9_extreme (i := 45) rfl) rfl ?_
            exact s_sub [0, 1, 2, 3] rfl (hre5 (z3.2, (z3.2 + 1)))
        · refine s_iload 4 (n := 73) hX (dec_of D_X9_extreme (i := 37) rfl) rfl rfl ?_
          refine s_if_le (tgt := 86) (n := 76) hX (dec_of D_X9_extreme (i := 38) rfl) rfl rfl ?_ ?_
          · refine s_iinc (v := z3.2 + 1) (lv' := [(0, _), (1, _), (2, _), (3, _), (4, _)]) 3 [1, 2, 3, 0, 4] (n := 89) hX (dec_of D_X9_extreme (i := 44) rfl) rfl rfl rfl (by decide) rfl ?_
            refine s_goto (n := 27) hX (dec_of D_X9_extreme (i := 45) rfl) rfl ?_
            exact s_sub [0, 1, 2, 3] rfl (hre5 (z3.1, (z3.2 + 1)))
          · refine s_goto (n := 84) hX (dec_of D_X9_extreme (i := 39) rfl) rfl ?_
            refine s_iload_n 3 (n := 85) hX (dec_of D_X9_extreme (i := 42) rfl) rfl rfl rfl ?_
            refine s_istore_n (lv' := [(0, _), (1, _), (2, _), (3, _), (4, _)]) [1, 2, 0, 3, 4] (n := 86) hX (dec_of D_X9_extreme (i := 43) rfl) rfl rfl (by decide) rfl ?_
            refine s_iinc (v := z3.2 + 1) (lv' := [(0, _), (1, _), (2, _), (3, _), (4, _)]) 3 [1, 2, 3, 0, 4] (n := 89) hX (dec_of D_X9_extreme (i := 44) rfl) rfl rfl rfl (by decide) rfl ?_
            refine s_goto (n := 27) hX (dec_of D_X9_extreme (i := 45) rfl) rfl ?_
            exact s_sub [0, 1, 2, 3] rfl (hre5 (z3.2, (z3.2 + 1)))
    · refine s_bipush (v := (-2)) (n := 22) hX (dec_of D_X9_extreme (i := 10) rfl) rfl (by decide) ?_
      exact s_iret hX hR (dec_of D_X9_extreme (i := 11) rfl) rfl
  · refine s_iconst (v := (-1)) (n := 9) hX (dec_of D_X9_extreme (i := 4) rfl) rfl (by decide) ?_
    exact s_iret hX hR (dec_of D_X9_extreme (i := 5) rfl) rfl
def T_X9_dearest : List (Nat × Instr × Nat) := [(0, .iload_n 1, 1), (1, .iconst 2, 1), (2, .invokestatic 207, 3), (5, .ifCond .ne 5, 3), (8, .iconst (-1), 1), (9, .ireturn, 1), (10, .aload_n 0, 1), (11, .getfield 61, 3), (14, .getfield 232, 3), (17, .ifCond .ne 6, 3), (20, .bipush (-2), 2), (22, .ireturn, 1), (23, .iconst 0, 1), (24, .istore_n 2, 1), (25, .iconst 1, 1), (26, .istore_n 3, 1), (27, .iload_n 3, 1), (28, .aload_n 0, 1), (29, .getfield 61, 3), (32, .getfield 232, 3), (35, .if_icmp .ge 32, 3), (38, .aload_n 0, 1), (39, .getfield 19, 3), (42, .getfield 199, 3), (45, .iload_n 3, 1), (46, .iaload, 1), (47, .aload_n 0, 1), (48, .getfield 19, 3), (51, .getfield 199, 3), (54, .iload_n 2, 1), (55, .iaload, 1), (56, .if_icmp .le 5, 3), (59, .iload_n 3, 1), (60, .istore_n 2, 1), (61, .iinc 3 1, 3), (64, .goto (-37), 3), (67, .iload_n 1, 1), (68, .ifCond .ne 7, 3), (71, .iload_n 2, 1), (72, .goto 12, 3), (75, .aload_n 0, 1), (76, .getfield 19, 3), (79, .getfield 199, 3), (82, .iload_n 2, 1), (83, .iaload, 1), (84, .ireturn, 1)]
theorem D_X9_dearest : dchk cX9_dearest T_X9_dearest = true := by decide +kernel
def Rp_dearest (σ : ST) (a1 : Int32) : Option Int32 :=
  bd_ (Rp_isChoice (σ) a1 2) (fun q1 => (if q1 = 0 then some (-1) else bd_ (ldQ σ 0) (fun rr2 => (if (gF σ 531 rr2) = 0 then some (-2) else lp_ (fun rec4 (z3 : Int32 × Int32) => bd_ (ldQ σ 0) (fun rr6 => (if (gF σ 531 rr6) ≤ z3.2 then (if a1 = 0 then some z3.1 else bd_ (ldI σ 2 0 z3.1) (fun v7 => some v7)) else bd_ (ldI σ 2 0 z3.2) (fun v8 => bd_ (ldI σ 2 0 z3.1) (fun v9 => (if v8 ≤ v9 then rec4 (z3.1, (z3.2 + 1)) else rec4 (z3.2, (z3.2 + 1)))))))) FU (0, 1)))))
set_option maxHeartbeats 4000000 in
set_option maxRecDepth 100000 in
theorem c_X9_dearest {G : GW} (hG : Good G) {l : Launch} (σ : ST) (a1 : Int32) : Ctr G l yX9_dearest cX9_dearest 4 (some .int) 1 [.ref (ga G 130 0), .int a1] σ (oI σ) (Rp_dearest σ a1) := by
  refine ctr_of hG (by decide) (Nat.le_of_ble_eq_true rfl) ?_
  intro X hXl hR hX
  have hX : Ok G X cX9_dearest 4 RX9 1 := hX
  unfold Rp_dearest
  show Sim G X 4 (MQX G X (oI σ)) σ 0 [(0, .ref (ga G 130 0)), (1, .int a1)] [] _
  refine s_iload_n 1 (n := 1) hX (dec_of D_X9_dearest (i := 0) rfl) rfl rfl rfl ?_
  refine s_iconst (v := 2) (n := 2) hX (dec_of D_X9_dearest (i := 1) rfl) rfl (by decide) ?_
  refine s_callSI (n := 5) hX lk_RX9_207 (dec_of D_X9_dearest (i := 2) rfl) rfl (by decide) (c_X9_isChoice (l := _) hG _ _ _) rfl rfl (Nat.le_of_ble_eq_true rfl) (fun q1 => ?_)
  refine s_if_ne (tgt := 10) (n := 8) hX (dec_of D_X9_dearest (i := 3) rfl) rfl rfl ?_ ?_
  · refine s_aload_n 0 (n := 11) hX (dec_of D_X9_dearest (i := 6) rfl) rfl rfl rfl ?_
    refine s_getQ (c := 9) (p := 7) (j := 0) (n := 14) hX cls9 (vk130 (by omega)) (dec_of D_X9_dearest (i := 7) rfl) rfl rfl wd_448 (fun rr2 hrr2 => ?_)
    refine s_getI (c := 5) (p := 11) (id := 531) (n := 17) hX cls5 (vk126 (by omega)) (dec_of D_X9_dearest (i := 8) rfl) rfl rfl wd_402 ?_
    refine s_if_ne (tgt := 23) (n := 20) hX (dec_of D_X9_dearest (i := 9) rfl) rfl rfl ?_ ?_
    · refine s_iconst (v := 0) (n := 24) hX (dec_of D_X9_dearest (i := 12) rfl) rfl (by decide) ?_
      refine s_istore_n (lv' := [(0, _), (1, _), (2, _)]) [1, 2, 0] (n := 25) hX (dec_of D_X9_dearest (i := 13) rfl) rfl rfl (by decide) rfl ?_
      refine s_iconst (v := 1) (n := 26) hX (dec_of D_X9_dearest (i := 14) rfl) rfl (by decide) ?_
      refine s_istore_n (lv' := [(0, _), (1, _), (2, _), (3, _)]) [1, 2, 3, 0] (n := 27) hX (dec_of D_X9_dearest (i := 15) rfl) rfl rfl (by decide) rfl ?_
      refine s_sub [0, 1, 2, 3] rfl (s_lp (pc := 27) (Sf := fun (z3 : Int32 × Int32) => σ) (lvf := fun (z3 : Int32 × Int32) => [(0, .ref (ga G 130 0)), (1, .int a1), (2, .int z3.1), (3, .int z3.2)]) (fun rec4 hre5 z3 => ?_) FU (0, 1))
      refine s_iload_n 3 (n := 28) hX (dec_of D_X9_dearest (i := 16) rfl) rfl rfl rfl ?_
      refine s_aload_n 0 (n := 29) hX (dec_of D_X9_dearest (i := 17) rfl) rfl rfl rfl ?_
      refine s_getQ (c := 9) (p := 7) (j := 0) (n := 32) hX cls9 (vk130 (by omega)) (dec_of D_X9_dearest (i := 18) rfl) rfl rfl wd_448 (fun rr6 hrr6 => ?_)
      refine s_getI (c := 5) (p := 11) (id := 531) (n := 35) hX cls5 (vk126 (by omega)) (dec_of D_X9_dearest (i := 19) rfl) rfl rfl wd_402 ?_
      refine s_icmp_ge (tgt := 67) (n := 38) hX (dec_of D_X9_dearest (i := 20) rfl) rfl rfl ?_ ?_
      · refine s_iload_n 1 (n := 68) hX (dec_of D_X9_dearest (i := 36) rfl) rfl rfl rfl ?_
        refine s_if_ne (tgt := 75) (n := 71) hX (dec_of D_X9_dearest (i := 37) rfl) rfl rfl ?_ ?_
        · refine s_aload_n 0 (n := 76) hX (dec_of D_X9_dearest (i := 40) rfl) rfl rfl rfl ?_
          refine s_getC (c := 9) (p := 1) (n := 79) 121 0 hX cls9 (vk130 (by omega)) (dec_of D_X9_dearest (i := 41) rfl) rfl rfl (by decide) wd_442 ?_
          refine s_getR (c := 0) (p := 3) (k' := 2) (n := 82) hX cls0 (vk121 (by omega)) (dec_of D_X9_dearest (i := 42) rfl) rfl rfl wd_226 ?_
          refine s_iload_n 2 (n := 83) hX (dec_of D_X9_dearest (i := 43) rfl) rfl rfl rfl ?_
          refine s_iald (n := 84) hX (vk2 (by omega)) (by decide) (dec_of D_X9_dearest (i := 44) rfl) rfl (fun v7 => ?_)
          exact s_iret hX hR (dec_of D_X9_dearest (i := 45) rfl) rfl
        · refine s_iload_n 2 (n := 72) hX (dec_of D_X9_dearest (i := 38) rfl) rfl rfl rfl ?_
          refine s_goto (n := 84) hX (dec_of D_X9_dearest (i := 39) rfl) rfl ?_
          exact s_iret hX hR (dec_of D_X9_dearest (i := 45) rfl) rfl
      · refine s_aload_n 0 (n := 39) hX (dec_of D_X9_dearest (i := 21) rfl) rfl rfl rfl ?_
        refine s_getC (c := 9) (p := 1) (n := 42) 121 0 hX cls9 (vk130 (by omega)) (dec_of D_X9_dearest (i := 22) rfl) rfl rfl (by decide) wd_442 ?_
        refine s_getR (c := 0) (p := 3) (k' := 2) (n := 45) hX cls0 (vk121 (by omega)) (dec_of D_X9_dearest (i := 23) rfl) rfl rfl wd_226 ?_
        refine s_iload_n 3 (n := 46) hX (dec_of D_X9_dearest (i := 24) rfl) rfl rfl rfl ?_
        refine s_iald (n := 47) hX (vk2 (by omega)) (by decide) (dec_of D_X9_dearest (i := 25) rfl) rfl (fun v8 => ?_)
        refine s_aload_n 0 (n := 48) hX (dec_of D_X9_dearest (i := 26) rfl) rfl rfl rfl ?_
        refine s_getC (c := 9) (p := 1) (n := 51) 121 0 hX cls9 (vk130 (by omega)) (dec_of D_X9_dearest (i := 27) rfl) rfl rfl (by decide) wd_442 ?_
        refine s_getR (c := 0) (p := 3) (k' := 2) (n := 54) hX cls0 (vk121 (by omega)) (dec_of D_X9_dearest (i := 28) rfl) rfl rfl wd_226 ?_
        refine s_iload_n 2 (n := 55) hX (dec_of D_X9_dearest (i := 29) rfl) rfl rfl rfl ?_
        refine s_iald (n := 56) hX (vk2 (by omega)) (by decide) (dec_of D_X9_dearest (i := 30) rfl) rfl (fun v9 => ?_)
        refine s_icmp_le (tgt := 61) (n := 59) hX (dec_of D_X9_dearest (i := 31) rfl) rfl rfl ?_ ?_
        · refine s_iinc (v := z3.2 + 1) (lv' := [(0, _), (1, _), (2, _), (3, _)]) 3 [1, 2, 3, 0] (n := 64) hX (dec_of D_X9_dearest (i := 34) rfl) rfl rfl rfl (by decide) rfl ?_
          refine s_goto (n := 27) hX (dec_of D_X9_dearest (i := 35) rfl) rfl ?_
          exact s_sub [0, 1, 2, 3] rfl (hre5 (z3.1, (z3.2 + 1)))
        · refine s_iload_n 3 (n := 60) hX (dec_of D_X9_dearest (i := 32) rfl) rfl rfl rfl ?_
          refine s_istore_n (lv' := [(0, _), (1, _), (2, _), (3, _)]) [1, 2, 0, 3] (n := 61) hX (dec_of D_X9_dearest (i := 33) rfl) rfl rfl (by decide) rfl ?_
          refine s_iinc (v := z3.2 + 1) (lv' := [(0, _), (1, _), (2, _), (3, _)]) 3 [1, 2, 3, 0] (n := 64) hX (dec_of D_X9_dearest (i := 34) rfl) rfl rfl rfl (by decide) rfl ?_
          refine s_goto (n := 27) hX (dec_of D_X9_dearest (i := 35) rfl) rfl ?_
          exact s_sub [0, 1, 2, 3] rfl (hre5 (z3.2, (z3.2 + 1)))
    · refine s_bipush (v := (-2)) (n := 22) hX (dec_of D_X9_dearest (i := 10) rfl) rfl (by decide) ?_
      exact s_iret hX hR (dec_of D_X9_dearest (i := 11) rfl) rfl
  · refine s_iconst (v := (-1)) (n := 9) hX (dec_of D_X9_dearest (i := 4) rfl) rfl (by decide) ?_
    exact s_iret hX hR (dec_of D_X9_dearest (i := 5) rfl) rfl
theorem lk_RX9_437 : LkV RX9 437 RX0 yX0_lapsedIn cX0_lapsedIn 4 (some .int) 1 := ⟨wd_1108, wd_1109, wd_1110, wd_86, wd_1111, by decide +kernel, by decide⟩
theorem lk_RX9_132 : LkV RX9 132 RX0 yX0_paidIn cX0_paidIn 3 (some .int) 2 := ⟨wd_1094, wd_1095, wd_1096, wd_86, wd_1097, by decide +kernel, by decide⟩
theorem lk_RX9_136 : LkV RX9 136 RX0 yX0_keptIn cX0_keptIn 2 (some .int) 1 := ⟨wd_1103, wd_1104, wd_1105, wd_86, wd_1106, by decide +kernel, by decide⟩
theorem lk_RX9_434 : LkV RX9 434 RX0 yX0_partsIn cX0_partsIn 5 (some .int) 2 := ⟨wd_1107, wd_1100, wd_1101, wd_86, wd_1102, by decide +kernel, by decide⟩
def T_X9_moneyOfLand : List (Nat × Instr × Nat) := [(0, .iload_n 2, 1), (1, .tableswitch 90 0 4 #[35, 45, 58, 67, 77], 35), (36, .aload_n 0, 1), (37, .getfield 19, 3), (40, .getfield 129, 3), (43, .iload_n 1, 1), (44, .iaload, 1), (45, .ireturn, 1), (46, .aload_n 0, 1), (47, .getfield 19, 3), (50, .aload_n 0, 1), (51, .getfield 61, 3), (54, .iload_n 1, 1), (55, .invokevirtual 132, 3), (58, .ireturn, 1), (59, .aload_n 0, 1), (60, .getfield 19, 3), (63, .iload_n 1, 1), (64, .invokevirtual 136, 3), (67, .ireturn, 1), (68, .aload_n 0, 1), (69, .getfield 19, 3), (72, .getfield 126, 3), (75, .iload_n 1, 1), (76, .iaload, 1), (77, .ireturn, 1), (78, .aload_n 0, 1), (79, .getfield 19, 3), (82, .aload_n 0, 1), (83, .getfield 61, 3), (86, .iload_n 1, 1), (87, .invokevirtual 434, 3), (90, .ireturn, 1), (91, .aload_n 0, 1), (92, .getfield 19, 3), (95, .iload_n 1, 1), (96, .invokevirtual 437, 3), (99, .ireturn, 1)]
theorem D_X9_moneyOfLand : dchk cX9_moneyOfLand T_X9_moneyOfLand = true := by decide +kernel
def Rp_moneyOfLand (σ : ST) (a1 : Int32) (a2 : Int32) : Option Int32 :=
  sw_ a2 0 [bd_ (ldI σ 1 0 a1) (fun v2 => some v2), bd_ (ldQ σ 0) (fun rr3 => bd_ (Bk_paidIn (σ) 0 rr3 a1) (fun q4 => some q4)), bd_ (Bk_keptIn (σ) 0 a1) (fun q5 => some q5), bd_ (ldI σ 0 0 a1) (fun v6 => some v6), bd_ (ldQ σ 0) (fun rr7 => bd_ (Bk_partsIn (σ) 0 rr7 a1) (fun q8 => some q8))] (bd_ (Bk_lapsedIn (σ) 0 a1) (fun q1 => some q1))
set_option maxHeartbeats 4000000 in
set_option maxRecDepth 100000 in
theorem c_X9_moneyOfLand {G : GW} (hG : Good G) {l : Launch} (σ : ST) (a1 : Int32) (a2 : Int32) : Ctr G l yX9_moneyOfLand cX9_moneyOfLand 3 (some .int) 3 [.ref (ga G 130 0), .int a1, .int a2] σ (oI σ) (Rp_moneyOfLand σ a1 a2) := by
  refine ctr_of hG (by decide) (Nat.le_of_ble_eq_true rfl) ?_
  intro X hXl hR hX
  have hX : Ok G X cX9_moneyOfLand 3 RX9 3 := hX
  unfold Rp_moneyOfLand
  show Sim G X 3 (MQX G X (oI σ)) σ 0 [(0, .ref (ga G 130 0)), (1, .int a1), (2, .int a2)] [] _
  refine s_iload_n 2 (n := 1) hX (dec_of D_X9_moneyOfLand (i := 0) rfl) rfl rfl rfl ?_
  refine s_tsw (lo' := 0) (Ps := [_, _, _, _, _]) hX (dec_of D_X9_moneyOfLand (i := 1) rfl) rfl rfl (Nat.le_of_ble_eq_true rfl) [36, 46, 59, 68, 78] 91 rfl rfl (by decide +kernel) ?_ ?_
  · skip
    refine swS_cons ?_ ?_
    · refine s_aload_n 0 (n := 37) hX (dec_of D_X9_moneyOfLand (i := 2) rfl) rfl rfl rfl ?_
      refine s_getC (c := 9) (p := 1) (n := 40) 121 0 hX cls9 (vk130 (by omega)) (dec_of D_X9_moneyOfLand (i := 3) rfl) rfl rfl (by decide) wd_442 ?_
      refine s_getR (c := 0) (p := 2) (k' := 1) (n := 43) hX cls0 (vk121 (by omega)) (dec_of D_X9_moneyOfLand (i := 4) rfl) rfl rfl wd_224 ?_
      refine s_iload_n 1 (n := 44) hX (dec_of D_X9_moneyOfLand (i := 5) rfl) rfl rfl rfl ?_
      refine s_iald (n := 45) hX (vk1 (by omega)) (by decide) (dec_of D_X9_moneyOfLand (i := 6) rfl) rfl (fun v2 => ?_)
      exact s_iret hX hR (dec_of D_X9_moneyOfLand (i := 7) rfl) rfl
    refine swS_cons ?_ ?_
    · refine s_aload_n 0 (n := 47) hX (dec_of D_X9_moneyOfLand (i := 8) rfl) rfl rfl rfl ?_
      refine s_getC (c := 9) (p := 1) (n := 50) 121 0 hX cls9 (vk130 (by omega)) (dec_of D_X9_moneyOfLand (i := 9) rfl) rfl rfl (by decide) wd_442 ?_
      refine s_aload_n 0 (n := 51) hX (dec_of D_X9_moneyOfLand (i := 10) rfl) rfl rfl rfl ?_
      refine s_getQ (c := 9) (p := 7) (j := 0) (n := 54) hX cls9 (vk130 (by omega)) (dec_of D_X9_moneyOfLand (i := 11) rfl) rfl rfl wd_448 (fun rr3 hrr3 => ?_)
      refine s_iload_n 1 (n := 55) hX (dec_of D_X9_moneyOfLand (i := 12) rfl) rfl rfl rfl ?_
      refine s_callVI (c := 0) (n := 58) hX cls0 (vk121 (by omega)) lk_RX9_132 (dec_of D_X9_moneyOfLand (i := 13) rfl) rfl (by decide) (c_X0_paidIn (l := _) hG _ _ (by omega) _ (by omega) _) rfl rfl (Nat.le_of_ble_eq_true rfl) (fun q4 => ?_)
      exact s_iret hX hR (dec_of D_X9_moneyOfLand (i := 14) rfl) rfl
    refine swS_cons ?_ ?_
    · refine s_aload_n 0 (n := 60) hX (dec_of D_X9_moneyOfLand (i := 15) rfl) rfl rfl rfl ?_
      refine s_getC (c := 9) (p := 1) (n := 63) 121 0 hX cls9 (vk130 (by omega)) (dec_of D_X9_moneyOfLand (i := 16) rfl) rfl rfl (by decide) wd_442 ?_
      refine s_iload_n 1 (n := 64) hX (dec_of D_X9_moneyOfLand (i := 17) rfl) rfl rfl rfl ?_
      refine s_callVI (c := 0) (n := 67) hX cls0 (vk121 (by omega)) lk_RX9_136 (dec_of D_X9_moneyOfLand (i := 18) rfl) rfl (by decide) (c_X0_keptIn (l := _) hG _ _ (by omega) _) rfl rfl (Nat.le_of_ble_eq_true rfl) (fun q5 => ?_)
      exact s_iret hX hR (dec_of D_X9_moneyOfLand (i := 19) rfl) rfl
    refine swS_cons ?_ ?_
    · refine s_aload_n 0 (n := 69) hX (dec_of D_X9_moneyOfLand (i := 20) rfl) rfl rfl rfl ?_
      refine s_getC (c := 9) (p := 1) (n := 72) 121 0 hX cls9 (vk130 (by omega)) (dec_of D_X9_moneyOfLand (i := 21) rfl) rfl rfl (by decide) wd_442 ?_
      refine s_getR (c := 0) (p := 1) (k' := 0) (n := 75) hX cls0 (vk121 (by omega)) (dec_of D_X9_moneyOfLand (i := 22) rfl) rfl rfl wd_222 ?_
      refine s_iload_n 1 (n := 76) hX (dec_of D_X9_moneyOfLand (i := 23) rfl) rfl rfl rfl ?_
      refine s_iald (n := 77) hX (vk0 (by omega)) (by decide) (dec_of D_X9_moneyOfLand (i := 24) rfl) rfl (fun v6 => ?_)
      exact s_iret hX hR (dec_of D_X9_moneyOfLand (i := 25) rfl) rfl
    refine swS_cons ?_ ?_
    · refine s_aload_n 0 (n := 79) hX (dec_of D_X9_moneyOfLand (i := 26) rfl) rfl rfl rfl ?_
      refine s_getC (c := 9) (p := 1) (n := 82) 121 0 hX cls9 (vk130 (by omega)) (dec_of D_X9_moneyOfLand (i := 27) rfl) rfl rfl (by decide) wd_442 ?_
      refine s_aload_n 0 (n := 83) hX (dec_of D_X9_moneyOfLand (i := 28) rfl) rfl rfl rfl ?_
      refine s_getQ (c := 9) (p := 7) (j := 0) (n := 86) hX cls9 (vk130 (by omega)) (dec_of D_X9_moneyOfLand (i := 29) rfl) rfl rfl wd_448 (fun rr7 hrr7 => ?_)
      refine s_iload_n 1 (n := 87) hX (dec_of D_X9_moneyOfLand (i := 30) rfl) rfl rfl rfl ?_
      refine s_callVI (c := 0) (n := 90) hX cls0 (vk121 (by omega)) lk_RX9_434 (dec_of D_X9_moneyOfLand (i := 31) rfl) rfl (by decide) (c_X0_partsIn (l := _) hG _ _ (by omega) _ (by omega) _) rfl rfl (Nat.le_of_ble_eq_true rfl) (fun q8 => ?_)
      exact s_iret hX hR (dec_of D_X9_moneyOfLand (i := 32) rfl) rfl
    exact swS_nil
  · refine s_aload_n 0 (n := 92) hX (dec_of D_X9_moneyOfLand (i := 33) rfl) rfl rfl rfl ?_
    refine s_getC (c := 9) (p := 1) (n := 95) 121 0 hX cls9 (vk130 (by omega)) (dec_of D_X9_moneyOfLand (i := 34) rfl) rfl rfl (by decide) wd_442 ?_
    refine s_iload_n 1 (n := 96) hX (dec_of D_X9_moneyOfLand (i := 35) rfl) rfl rfl rfl ?_
    refine s_callVI (c := 0) (n := 99) hX cls0 (vk121 (by omega)) lk_RX9_437 (dec_of D_X9_moneyOfLand (i := 36) rfl) rfl (by decide) (c_X0_lapsedIn (l := _) hG _ _ (by omega) _) rfl rfl (Nat.le_of_ble_eq_true rfl) (fun q1 => ?_)
    exact s_iret hX hR (dec_of D_X9_moneyOfLand (i := 37) rfl) rfl
theorem lk_RX9_374 : LkV RX9 374 RX9 yX9_moneyOfLand cX9_moneyOfLand 3 (some .int) 2 := ⟨wd_1090, wd_1092, wd_11, wd_83, wd_1093, by decide +kernel, by decide⟩
def T_X9_money : List (Nat × Instr × Nat) := [(0, .iload_n 1, 1), (1, .bipush 6, 2), (3, .invokestatic 207, 3), (6, .ifCond .ne 5, 3), (9, .iconst (-1), 1), (10, .ireturn, 1), (11, .iconst 0, 1), (12, .istore_n 2, 1), (13, .iconst 0, 1), (14, .istore_n 3, 1), (15, .iload_n 3, 1), (16, .aload_n 0, 1), (17, .getfield 61, 3), (20, .getfield 229, 3), (23, .if_icmp .ge 18, 3), (26, .iload_n 2, 1), (27, .aload_n 0, 1), (28, .iload_n 3, 1), (29, .iload_n 1, 1), (30, .invokevirtual 374, 3), (33, .iadd, 1), (34, .istore_n 2, 1), (35, .iinc 3 1, 3), (38, .goto (-23), 3), (41, .iload_n 2, 1), (42, .ireturn, 1)]
theorem D_X9_money : dchk cX9_money T_X9_money = true := by decide +kernel
def Rp_money (σ : ST) (a1 : Int32) : Option Int32 :=
  bd_ (Rp_isChoice (σ) a1 6) (fun q1 => (if q1 = 0 then some (-1) else lp_ (fun rec3 (z2 : Int32 × Int32) => bd_ (ldQ σ 0) (fun rr5 => (if (gF σ 529 rr5) ≤ z2.2 then some z2.1 else bd_ (Rp_moneyOfLand (σ) z2.2 a1) (fun q6 => lt_ ((z2.1 + q6)) (fun x7 => rec3 (x7, (z2.2 + 1))))))) FU (0, 0)))
set_option maxHeartbeats 4000000 in
set_option maxRecDepth 100000 in
theorem c_X9_money {G : GW} (hG : Good G) {l : Launch} (σ : ST) (a1 : Int32) : Ctr G l yX9_money cX9_money 4 (some .int) 4 [.ref (ga G 130 0), .int a1] σ (oI σ) (Rp_money σ a1) := by
  refine ctr_of hG (by decide) (Nat.le_of_ble_eq_true rfl) ?_
  intro X hXl hR hX
  have hX : Ok G X cX9_money 4 RX9 4 := hX
  unfold Rp_money
  show Sim G X 4 (MQX G X (oI σ)) σ 0 [(0, .ref (ga G 130 0)), (1, .int a1)] [] _
  refine s_iload_n 1 (n := 1) hX (dec_of D_X9_money (i := 0) rfl) rfl rfl rfl ?_
  refine s_bipush (v := 6) (n := 3) hX (dec_of D_X9_money (i := 1) rfl) rfl (by decide) ?_
  refine s_callSI (n := 6) hX lk_RX9_207 (dec_of D_X9_money (i := 2) rfl) rfl (by decide) (c_X9_isChoice (l := _) hG _ _ _) rfl rfl (Nat.le_of_ble_eq_true rfl) (fun q1 => ?_)
  refine s_if_ne (tgt := 11) (n := 9) hX (dec_of D_X9_money (i := 3) rfl) rfl rfl ?_ ?_
  · refine s_iconst (v := 0) (n := 12) hX (dec_of D_X9_money (i := 6) rfl) rfl (by decide) ?_
    refine s_istore_n (lv' := [(0, _), (1, _), (2, _)]) [1, 2, 0] (n := 13) hX (dec_of D_X9_money (i := 7) rfl) rfl rfl (by decide) rfl ?_
    refine s_iconst (v := 0) (n := 14) hX (dec_of D_X9_money (i := 8) rfl) rfl (by decide) ?_
    refine s_istore_n (lv' := [(0, _), (1, _), (2, _), (3, _)]) [1, 2, 3, 0] (n := 15) hX (dec_of D_X9_money (i := 9) rfl) rfl rfl (by decide) rfl ?_
    refine s_sub [0, 1, 2, 3] rfl (s_lp (pc := 15) (Sf := fun (z2 : Int32 × Int32) => σ) (lvf := fun (z2 : Int32 × Int32) => [(0, .ref (ga G 130 0)), (1, .int a1), (2, .int z2.1), (3, .int z2.2)]) (fun rec3 hre4 z2 => ?_) FU (0, 0))
    refine s_iload_n 3 (n := 16) hX (dec_of D_X9_money (i := 10) rfl) rfl rfl rfl ?_
    refine s_aload_n 0 (n := 17) hX (dec_of D_X9_money (i := 11) rfl) rfl rfl rfl ?_
    refine s_getQ (c := 9) (p := 7) (j := 0) (n := 20) hX cls9 (vk130 (by omega)) (dec_of D_X9_money (i := 12) rfl) rfl rfl wd_448 (fun rr5 hrr5 => ?_)
    refine s_getI (c := 5) (p := 9) (id := 529) (n := 23) hX cls5 (vk126 (by omega)) (dec_of D_X9_money (i := 13) rfl) rfl rfl wd_392 ?_
    refine s_icmp_ge (tgt := 41) (n := 26) hX (dec_of D_X9_money (i := 14) rfl) rfl rfl ?_ ?_
    · refine s_iload_n 2 (n := 42) hX (dec_of D_X9_money (i := 24) rfl) rfl rfl rfl ?_
      exact s_iret hX hR (dec_of D_X9_money (i := 25) rfl) rfl
    · refine s_iload_n 2 (n := 27) hX (dec_of D_X9_money (i := 15) rfl) rfl rfl rfl ?_
      refine s_aload_n 0 (n := 28) hX (dec_of D_X9_money (i := 16) rfl) rfl rfl rfl ?_
      refine s_iload_n 3 (n := 29) hX (dec_of D_X9_money (i := 17) rfl) rfl rfl rfl ?_
      refine s_iload_n 1 (n := 30) hX (dec_of D_X9_money (i := 18) rfl) rfl rfl rfl ?_
      refine s_callVI (c := 9) (n := 33) hX cls9 (vk130 (by omega)) lk_RX9_374 (dec_of D_X9_money (i := 19) rfl) rfl (by decide) (c_X9_moneyOfLand (l := _) hG _ _ _) rfl rfl (Nat.le_of_ble_eq_true rfl) (fun q6 => ?_)
      refine s_iadd (n := 34) hX (dec_of D_X9_money (i := 20) rfl) rfl ?_
      refine s_topi (fun x7 => ?_)
      refine s_istore_n (lv' := [(0, _), (1, _), (2, _), (3, _)]) [1, 2, 0, 3] (n := 35) hX (dec_of D_X9_money (i := 21) rfl) rfl rfl (by decide) rfl ?_
      refine s_iinc (v := z2.2 + 1) (lv' := [(0, _), (1, _), (2, _), (3, _)]) 3 [1, 2, 3, 0] (n := 38) hX (dec_of D_X9_money (i := 22) rfl) rfl rfl rfl (by decide) rfl ?_
      refine s_goto (n := 15) hX (dec_of D_X9_money (i := 23) rfl) rfl ?_
      exact s_sub [0, 1, 2, 3] rfl (hre4 (x7, (z2.2 + 1)))
  · refine s_iconst (v := (-1)) (n := 10) hX (dec_of D_X9_money (i := 4) rfl) rfl (by decide) ?_
    exact s_iret hX hR (dec_of D_X9_money (i := 5) rfl) rfl
theorem lk_RX9_377 : LkV RX9 377 RX5 yX5_headsIn cX5_headsIn 2 (some .int) 1 := ⟨wd_1116, wd_635, wd_636, wd_92, wd_637, by decide +kernel, by decide⟩
def T_X9_share : List (Nat × Instr × Nat) := [(0, .aload_n 0, 1), (1, .iload_n 1, 1), (2, .iload_n 2, 1), (3, .iload_n 3, 1), (4, .invokevirtual 286, 3), (7, .ifCond .eq 8, 3), (10, .iload 4, 2), (12, .ifCond .ge 5, 3), (15, .iconst (-1), 1), (16, .ireturn, 1), (17, .iload 4, 2), (19, .aload_n 0, 1), (20, .getfield 61, 3), (23, .iload_n 2, 1), (24, .invokevirtual 377, 3), (27, .if_icmp .lt 6, 3), (30, .bipush (-2), 2), (32, .ireturn, 1), (33, .aload_n 0, 1), (34, .getfield 40, 3), (37, .aload_n 0, 1), (38, .getfield 61, 3), (41, .aload_n 0, 1), (42, .getfield 19, 3), (45, .getfield 113, 3), (48, .iload_n 1, 1), (49, .iload_n 2, 1), (50, .iload_n 3, 1), (51, .invokevirtual 278, 3), (54, .aload_n 0, 1), (55, .getfield 40, 3), (58, .getfield 380, 3), (61, .iload 4, 2), (63, .iaload, 1), (64, .ireturn, 1)]
theorem D_X9_share : dchk cX9_share T_X9_share = true := by decide +kernel
def Rp_share (σ : ST) (a1 : Int32) (a2 : Int32) (a3 : Int32) (a4 : Int32) : Option (Int32 × ST) :=
  bd_ (Rp_isPlay (σ) a1 a2 a3) (fun q1 => (if q1 = 0 then some ((-1), σ) else (if 0 ≤ a4 then bd_ (ldQ σ 0) (fun rr2 => bd_ (Rl_headsIn (σ) rr2 a2) (fun q3 => (if a4 < q3 then bd_ (ldQ σ 0) (fun rr4 => bd_ (Oc_think (σ) 0 rr4 0 a1 a2 a3) (fun q5 => bd_ (ldI q5 9 0 a4) (fun v6 => some (v6, q5)))) else some ((-2), σ)))) else some ((-1), σ))))
set_option maxHeartbeats 4000000 in
set_option maxRecDepth 100000 in
theorem c_X9_share {G : GW} (hG : Good G) {l : Launch} (σ : ST) (a1 : Int32) (a2 : Int32) (a3 : Int32) (a4 : Int32) : Ctr G l yX9_share cX9_share 5 (some .int) 4 [.ref (ga G 130 0), .int a1, .int a2, .int a3, .int a4] σ oP (Rp_share σ a1 a2 a3 a4) := by
  refine ctr_of hG (by decide) (Nat.le_of_ble_eq_true rfl) ?_
  intro X hXl hR hX
  have hX : Ok G X cX9_share 5 RX9 4 := hX
  unfold Rp_share
  show Sim G X 5 (MQX G X oP) σ 0 [(0, .ref (ga G 130 0)), (1, .int a1), (2, .int a2), (3, .int a3), (4, .int a4)] [] _
  refine s_aload_n 0 (n := 1) hX (dec_of D_X9_share (i := 0) rfl) rfl rfl rfl ?_
  refine s_iload_n 1 (n := 2) hX (dec_of D_X9_share (i := 1) rfl) rfl rfl rfl ?_
  refine s_iload_n 2 (n := 3) hX (dec_of D_X9_share (i := 2) rfl) rfl rfl rfl ?_
  refine s_iload_n 3 (n := 4) hX (dec_of D_X9_share (i := 3) rfl) rfl rfl rfl ?_
  refine s_callVI (c := 9) (n := 7) hX cls9 (vk130 (by omega)) lk_RX9_286 (dec_of D_X9_share (i := 4) rfl) rfl (by decide) (c_X9_isPlay (l := _) hG _ _ _ _) rfl rfl (Nat.le_of_ble_eq_true rfl) (fun q1 => ?_)
  refine s_if_eq (tgt := 15) (n := 10) hX (dec_of D_X9_share (i := 5) rfl) rfl rfl ?_ ?_
  · refine s_iconst (v := (-1)) (n := 16) hX (dec_of D_X9_share (i := 8) rfl) rfl (by decide) ?_
    exact s_iret hX hR (dec_of D_X9_share (i := 9) rfl) rfl
  · refine s_iload 4 (n := 12) hX (dec_of D_X9_share (i := 6) rfl) rfl rfl ?_
    refine s_if_ge (tgt := 17) (n := 15) hX (dec_of D_X9_share (i := 7) rfl) rfl rfl ?_ ?_
    · refine s_iload 4 (n := 19) hX (dec_of D_X9_share (i := 10) rfl) rfl rfl ?_
      refine s_aload_n 0 (n := 20) hX (dec_of D_X9_share (i := 11) rfl) rfl rfl rfl ?_
      refine s_getQ (c := 9) (p := 7) (j := 0) (n := 23) hX cls9 (vk130 (by omega)) (dec_of D_X9_share (i := 12) rfl) rfl rfl wd_448 (fun rr2 hrr2 => ?_)
      refine s_iload_n 2 (n := 24) hX (dec_of D_X9_share (i := 13) rfl) rfl rfl rfl ?_
      refine s_callVI (c := 5) (n := 27) hX cls5 (vk126 (by omega)) lk_RX9_377 (dec_of D_X9_share (i := 14) rfl) rfl (by decide) (c_X5_headsIn (l := _) hG _ _ (by omega) _) rfl rfl (Nat.le_of_ble_eq_true rfl) (fun q3 => ?_)
      refine s_icmp_lt (tgt := 33) (n := 30) hX (dec_of D_X9_share (i := 15) rfl) rfl rfl ?_ ?_
      · refine s_aload_n 0 (n := 34) hX (dec_of D_X9_share (i := 18) rfl) rfl rfl rfl ?_
        refine s_getC (c := 9) (p := 4) (n := 37) 124 0 hX cls9 (vk130 (by omega)) (dec_of D_X9_share (i := 19) rfl) rfl rfl (by decide) wd_445 ?_
        refine s_aload_n 0 (n := 38) hX (dec_of D_X9_share (i := 20) rfl) rfl rfl rfl ?_
        refine s_getQ (c := 9) (p := 7) (j := 0) (n := 41) hX cls9 (vk130 (by omega)) (dec_of D_X9_share (i := 21) rfl) rfl rfl wd_448 (fun rr4 hrr4 => ?_)
        refine s_aload_n 0 (n := 42) hX (dec_of D_X9_share (i := 22) rfl) rfl rfl rfl ?_
        refine s_getC (c := 9) (p := 1) (n := 45) 121 0 hX cls9 (vk130 (by omega)) (dec_of D_X9_share (i := 23) rfl) rfl rfl (by decide) wd_442 ?_
        refine s_getR (c := 0) (p := 0) (k' := 129) (n := 48) hX cls0 (vk121 (by omega)) (dec_of D_X9_share (i := 24) rfl) rfl rfl wd_219 ?_
        refine s_iload_n 1 (n := 49) hX (dec_of D_X9_share (i := 25) rfl) rfl rfl rfl ?_
        refine s_iload_n 2 (n := 50) hX (dec_of D_X9_share (i := 26) rfl) rfl rfl rfl ?_
        refine s_iload_n 3 (n := 51) hX (dec_of D_X9_share (i := 27) rfl) rfl rfl rfl ?_
        refine s_callVV (c := 3) (n := 54) hX cls3 (vk124 (by omega)) lk_RX9_278 (dec_of D_X9_share (i := 28) rfl) rfl (by decide) (c_X3_think (l := _) hG _ _ (by omega) _ (by omega) _ (by omega) _ _ _) rfl rfl (Nat.le_of_ble_eq_true rfl) (fun q5 => ?_)
        refine s_aload_n 0 (n := 55) hX (dec_of D_X9_share (i := 29) rfl) rfl rfl rfl ?_
        refine s_getC (c := 9) (p := 4) (n := 58) 124 0 hX cls9 (vk130 (by omega)) (dec_of D_X9_share (i := 30) rfl) rfl rfl (by decide) wd_445 ?_
        refine s_getR (c := 3) (p := 0) (k' := 9) (n := 61) hX cls3 (vk124 (by omega)) (dec_of D_X9_share (i := 31) rfl) rfl rfl wd_291 ?_
        refine s_iload 4 (n := 63) hX (dec_of D_X9_share (i := 32) rfl) rfl rfl ?_
        refine s_iald (n := 64) hX (vk9 (by omega)) (by decide) (dec_of D_X9_share (i := 33) rfl) rfl (fun v6 => ?_)
        exact s_iret hX hR (dec_of D_X9_share (i := 34) rfl) rfl
      · refine s_bipush (v := (-2)) (n := 32) hX (dec_of D_X9_share (i := 16) rfl) rfl (by decide) ?_
        exact s_iret hX hR (dec_of D_X9_share (i := 17) rfl) rfl
    · refine s_iconst (v := (-1)) (n := 16) hX (dec_of D_X9_share (i := 8) rfl) rfl (by decide) ?_
      exact s_iret hX hR (dec_of D_X9_share (i := 9) rfl) rfl
theorem lk_RX9_383 : LkV RX9 383 RX3 yX3_openMoney cX3_openMoney 4 (some .int) 1 := ⟨wd_1121, wd_1122, wd_1123, wd_89, wd_1124, by decide +kernel, by decide⟩
def T_X9_split : List (Nat × Instr × Nat) := [(0, .aload_n 0, 1), (1, .iload_n 1, 1), (2, .iload_n 2, 1), (3, .iload_n 3, 1), (4, .invokevirtual 286, 3), (7, .ifCond .eq 12, 3), (10, .iload 4, 2), (12, .iconst 3, 1), (13, .invokestatic 207, 3), (16, .ifCond .ne 5, 3), (19, .iconst (-1), 1), (20, .ireturn, 1), (21, .aload_n 0, 1), (22, .getfield 40, 3), (25, .aload_n 0, 1), (26, .getfield 61, 3), (29, .aload_n 0, 1), (30, .getfield 19, 3), (33, .getfield 113, 3), (36, .iload_n 1, 1), (37, .iload_n 2, 1), (38, .iload_n 3, 1), (39, .invokevirtual 278, 3), (42, .iload 4, 2), (44, .iconst 2, 1), (45, .if_icmp .ne 21, 3), (48, .aload_n 0, 1), (49, .getfield 40, 3), (52, .iconst 1, 1), (53, .invokevirtual 383, 3), (56, .aload_n 0, 1), (57, .getfield 40, 3), (60, .iconst 2, 1), (61, .invokevirtual 383, 3), (64, .iadd, 1), (65, .ireturn, 1), (66, .iload 4, 2), (68, .ifCond .ne 13, 3), (71, .aload_n 0, 1), (72, .getfield 40, 3), (75, .getfield 386, 3), (78, .goto 10, 3), (81, .aload_n 0, 1), (82, .getfield 40, 3), (85, .getfield 389, 3), (88, .ireturn, 1)]
theorem D_X9_split : dchk cX9_split T_X9_split = true := by decide +kernel
def Rp_split (σ : ST) (a1 : Int32) (a2 : Int32) (a3 : Int32) (a4 : Int32) : Option (Int32 × ST) :=
  bd_ (Rp_isPlay (σ) a1 a2 a3) (fun q1 => (if q1 = 0 then some ((-1), σ) else bd_ (Rp_isChoice (σ) a4 3) (fun q2 => (if q2 = 0 then some ((-1), σ) else bd_ (ldQ σ 0) (fun rr3 => bd_ (Oc_think (σ) 0 rr3 0 a1 a2 a3) (fun q4 => (if a4 = 2 then bd_ (Oc_openMoney q4 0 1) (fun q5 => bd_ (Oc_openMoney q4 0 2) (fun q6 => some ((q5 + q6), q4))) else (if a4 = 0 then some ((gF q4 397 0), q4) else some ((gF q4 398 0), q4)))))))))
set_option maxHeartbeats 4000000 in
set_option maxRecDepth 100000 in
theorem c_X9_split {G : GW} (hG : Good G) {l : Launch} (σ : ST) (a1 : Int32) (a2 : Int32) (a3 : Int32) (a4 : Int32) : Ctr G l yX9_split cX9_split 5 (some .int) 4 [.ref (ga G 130 0), .int a1, .int a2, .int a3, .int a4] σ oP (Rp_split σ a1 a2 a3 a4) := by
  refine ctr_of hG (by decide) (Nat.le_of_ble_eq_true rfl) ?_
  intro X hXl hR hX
  have hX : Ok G X cX9_split 5 RX9 4 := hX
  unfold Rp_split
  show Sim G X 5 (MQX G X oP) σ 0 [(0, .ref (ga G 130 0)), (1, .int a1), (2, .int a2), (3, .int a3), (4, .int a4)] [] _
  refine s_aload_n 0 (n := 1) hX (dec_of D_X9_split (i := 0) rfl) rfl rfl rfl ?_
  refine s_iload_n 1 (n := 2) hX (dec_of D_X9_split (i := 1) rfl) rfl rfl rfl ?_
  refine s_iload_n 2 (n := 3) hX (dec_of D_X9_split (i := 2) rfl) rfl rfl rfl ?_
  refine s_iload_n 3 (n := 4) hX (dec_of D_X9_split (i := 3) rfl) rfl rfl rfl ?_
  refine s_callVI (c := 9) (n := 7) hX cls9 (vk130 (by omega)) lk_RX9_286 (dec_of D_X9_split (i := 4) rfl) rfl (by decide) (c_X9_isPlay (l := _) hG _ _ _ _) rfl rfl (Nat.le_of_ble_eq_true rfl) (fun q1 => ?_)
  refine s_if_eq (tgt := 19) (n := 10) hX (dec_of D_X9_split (i := 5) rfl) rfl rfl ?_ ?_
  · refine s_iconst (v := (-1)) (n := 20) hX (dec_of D_X9_split (i := 10) rfl) rfl (by decide) ?_
    exact s_iret hX hR (dec_of D_X9_split (i := 11) rfl) rfl
  · refine s_iload 4 (n := 12) hX (dec_of D_X9_split (i := 6) rfl) rfl rfl ?_
    refine s_iconst (v := 3) (n := 13) hX (dec_of D_X9_split (i := 7) rfl) rfl (by decide) ?_
    refine s_callSI (n := 16) hX lk_RX9_207 (dec_of D_X9_split (i := 8) rfl) rfl (by decide) (c_X9_isChoice (l := _) hG _ _ _) rfl rfl (Nat.le_of_ble_eq_true rfl) (fun q2 => ?_)
    refine s_if_ne (tgt := 21) (n := 19) hX (dec_of D_X9_split (i := 9) rfl) rfl rfl ?_ ?_
    · refine s_aload_n 0 (n := 22) hX (dec_of D_X9_split (i := 12) rfl) rfl rfl rfl ?_
      refine s_getC (c := 9) (p := 4) (n := 25) 124 0 hX cls9 (vk130 (by omega)) (dec_of D_X9_split (i := 13) rfl) rfl rfl (by decide) wd_445 ?_
      refine s_aload_n 0 (n := 26) hX (dec_of D_X9_split (i := 14) rfl) rfl rfl rfl ?_
      refine s_getQ (c := 9) (p := 7) (j := 0) (n := 29) hX cls9 (vk130 (by omega)) (dec_of D_X9_split (i := 15) rfl) rfl rfl wd_448 (fun rr3 hrr3 => ?_)
      refine s_aload_n 0 (n := 30) hX (dec_of D_X9_split (i := 16) rfl) rfl rfl rfl ?_
      refine s_getC (c := 9) (p := 1) (n := 33) 121 0 hX cls9 (vk130 (by omega)) (dec_of D_X9_split (i := 17) rfl) rfl rfl (by decide) wd_442 ?_
      refine s_getR (c := 0) (p := 0) (k' := 129) (n := 36) hX cls0 (vk121 (by omega)) (dec_of D_X9_split (i := 18) rfl) rfl rfl wd_219 ?_
      refine s_iload_n 1 (n := 37) hX (dec_of D_X9_split (i := 19) rfl) rfl rfl rfl ?_
      refine s_iload_n 2 (n := 38) hX (dec_of D_X9_split (i := 20) rfl) rfl rfl rfl ?_
      refine s_iload_n 3 (n := 39) hX (dec_of D_X9_split (i := 21) rfl) rfl rfl rfl ?_
      refine s_callVV (c := 3) (n := 42) hX cls3 (vk124 (by omega)) lk_RX9_278 (dec_of D_X9_split (i := 22) rfl) rfl (by decide) (c_X3_think (l := _) hG _ _ (by omega) _ (by omega) _ (by omega) _ _ _) rfl rfl (Nat.le_of_ble_eq_true rfl) (fun q4 => ?_)
      refine s_iload 4 (n := 44) hX (dec_of D_X9_split (i := 23) rfl) rfl rfl ?_
      refine s_iconst (v := 2) (n := 45) hX (dec_of D_X9_split (i := 24) rfl) rfl (by decide) ?_
      refine s_icmp_ne (tgt := 66) (n := 48) hX (dec_of D_X9_split (i := 25) rfl) rfl rfl ?_ ?_
      · refine s_iload 4 (n := 68) hX (dec_of D_X9_split (i := 36) rfl) rfl rfl ?_
        refine s_if_ne (tgt := 81) (n := 71) hX (dec_of D_X9_split (i := 37) rfl) rfl rfl ?_ ?_
        · refine s_aload_n 0 (n := 82) hX (dec_of D_X9_split (i := 42) rfl) rfl rfl rfl ?_
          refine s_getC (c := 9) (p := 4) (n := 85) 124 0 hX cls9 (vk130 (by omega)) (dec_of D_X9_split (i := 43) rfl) rfl rfl (by decide) wd_445 ?_
          refine s_getI (c := 3) (p := 6) (id := 398) (n := 88) hX cls3 (vk124 (by omega)) (dec_of D_X9_split (i := 44) rfl) rfl rfl wd_304 ?_
          exact s_iret hX hR (dec_of D_X9_split (i := 45) rfl) rfl
        · refine s_aload_n 0 (n := 72) hX (dec_of D_X9_split (i := 38) rfl) rfl rfl rfl ?_
          refine s_getC (c := 9) (p := 4) (n := 75) 124 0 hX cls9 (vk130 (by omega)) (dec_of D_X9_split (i := 39) rfl) rfl rfl (by decide) wd_445 ?_
          refine s_getI (c := 3) (p := 5) (id := 397) (n := 78) hX cls3 (vk124 (by omega)) (dec_of D_X9_split (i := 40) rfl) rfl rfl wd_302 ?_
          refine s_goto (n := 88) hX (dec_of D_X9_split (i := 41) rfl) rfl ?_
          exact s_iret hX hR (dec_of D_X9_split (i := 45) rfl) rfl
      · refine s_aload_n 0 (n := 49) hX (dec_of D_X9_split (i := 26) rfl) rfl rfl rfl ?_
        refine s_getC (c := 9) (p := 4) (n := 52) 124 0 hX cls9 (vk130 (by omega)) (dec_of D_X9_split (i := 27) rfl) rfl rfl (by decide) wd_445 ?_
        refine s_iconst (v := 1) (n := 53) hX (dec_of D_X9_split (i := 28) rfl) rfl (by decide) ?_
        refine s_callVI (c := 3) (n := 56) hX cls3 (vk124 (by omega)) lk_RX9_383 (dec_of D_X9_split (i := 29) rfl) rfl (by decide) (c_X3_openMoney (l := _) hG _ _ (by omega) _) rfl rfl (Nat.le_of_ble_eq_true rfl) (fun q5 => ?_)
        refine s_aload_n 0 (n := 57) hX (dec_of D_X9_split (i := 30) rfl) rfl rfl rfl ?_
        refine s_getC (c := 9) (p := 4) (n := 60) 124 0 hX cls9 (vk130 (by omega)) (dec_of D_X9_split (i := 31) rfl) rfl rfl (by decide) wd_445 ?_
        refine s_iconst (v := 2) (n := 61) hX (dec_of D_X9_split (i := 32) rfl) rfl (by decide) ?_
        refine s_callVI (c := 3) (n := 64) hX cls3 (vk124 (by omega)) lk_RX9_383 (dec_of D_X9_split (i := 33) rfl) rfl (by decide) (c_X3_openMoney (l := _) hG _ _ (by omega) _) rfl rfl (Nat.le_of_ble_eq_true rfl) (fun q6 => ?_)
        refine s_iadd (n := 65) hX (dec_of D_X9_split (i := 34) rfl) rfl ?_
        exact s_iret hX hR (dec_of D_X9_split (i := 35) rfl) rfl
    · refine s_iconst (v := (-1)) (n := 20) hX (dec_of D_X9_split (i := 10) rfl) rfl (by decide) ?_
      exact s_iret hX hR (dec_of D_X9_split (i := 11) rfl) rfl
def T_X9_wouldPlay : List (Nat × Instr × Nat) := [(0, .aload_n 0, 1), (1, .iload_n 1, 1), (2, .iload_n 2, 1), (3, .iload_n 3, 1), (4, .invokevirtual 286, 3), (7, .ifCond .eq 12, 3), (10, .iload 4, 2), (12, .iconst 3, 1), (13, .invokestatic 207, 3), (16, .ifCond .ne 5, 3), (19, .iconst (-1), 1), (20, .ireturn, 1), (21, .aload_n 0, 1), (22, .iload_n 1, 1), (23, .iload_n 3, 1), (24, .invokevirtual 289, 3), (27, .ifCond .eq 6, 3), (30, .bipush (-2), 2), (32, .ireturn, 1), (33, .aload_n 0, 1), (34, .getfield 40, 3), (37, .aload_n 0, 1), (38, .getfield 61, 3), (41, .aload_n 0, 1), (42, .getfield 19, 3), (45, .getfield 113, 3), (48, .iload_n 1, 1), (49, .iload_n 2, 1), (50, .iload_n 3, 1), (51, .invokevirtual 278, 3), (54, .aload_n 0, 1), (55, .getfield 40, 3), (58, .getfield 300, 3), (61, .iload 4, 2), (63, .iaload, 1), (64, .ireturn, 1)]
theorem D_X9_wouldPlay : dchk cX9_wouldPlay T_X9_wouldPlay = true := by decide +kernel
def Rp_wouldPlay (σ : ST) (a1 : Int32) (a2 : Int32) (a3 : Int32) (a4 : Int32) : Option (Int32 × ST) :=
  bd_ (Rp_isPlay (σ) a1 a2 a3) (fun q1 => (if q1 = 0 then some ((-1), σ) else bd_ (Rp_isChoice (σ) a4 3) (fun q2 => (if q2 = 0 then some ((-1), σ) else bd_ (Rp_isTooMuch (σ) a1 a3) (fun q3 => (if q3 = 0 then bd_ (ldQ σ 0) (fun rr4 => bd_ (Oc_think (σ) 0 rr4 0 a1 a2 a3) (fun q5 => bd_ (ldI q5 12 0 a4) (fun v6 => some (v6, q5)))) else some ((-2), σ)))))))
set_option maxHeartbeats 4000000 in
set_option maxRecDepth 100000 in
theorem c_X9_wouldPlay {G : GW} (hG : Good G) {l : Launch} (σ : ST) (a1 : Int32) (a2 : Int32) (a3 : Int32) (a4 : Int32) : Ctr G l yX9_wouldPlay cX9_wouldPlay 5 (some .int) 4 [.ref (ga G 130 0), .int a1, .int a2, .int a3, .int a4] σ oP (Rp_wouldPlay σ a1 a2 a3 a4) := by
  refine ctr_of hG (by decide) (Nat.le_of_ble_eq_true rfl) ?_
  intro X hXl hR hX
  have hX : Ok G X cX9_wouldPlay 5 RX9 4 := hX
  unfold Rp_wouldPlay
  show Sim G X 5 (MQX G X oP) σ 0 [(0, .ref (ga G 130 0)), (1, .int a1), (2, .int a2), (3, .int a3), (4, .int a4)] [] _
  refine s_aload_n 0 (n := 1) hX (dec_of D_X9_wouldPlay (i := 0) rfl) rfl rfl rfl ?_
  refine s_iload_n 1 (n := 2) hX (dec_of D_X9_wouldPlay (i := 1) rfl) rfl rfl rfl ?_
  refine s_iload_n 2 (n := 3) hX (dec_of D_X9_wouldPlay (i := 2) rfl) rfl rfl rfl ?_
  refine s_iload_n 3 (n := 4) hX (dec_of D_X9_wouldPlay (i := 3) rfl) rfl rfl rfl ?_
  refine s_callVI (c := 9) (n := 7) hX cls9 (vk130 (by omega)) lk_RX9_286 (dec_of D_X9_wouldPlay (i := 4) rfl) rfl (by decide) (c_X9_isPlay (l := _) hG _ _ _ _) rfl rfl (Nat.le_of_ble_eq_true rfl) (fun q1 => ?_)
  refine s_if_eq (tgt := 19) (n := 10) hX (dec_of D_X9_wouldPlay (i := 5) rfl) rfl rfl ?_ ?_
  · refine s_iconst (v := (-1)) (n := 20) hX (dec_of D_X9_wouldPlay (i := 10) rfl) rfl (by decide) ?_
    exact s_iret hX hR (dec_of D_X9_wouldPlay (i := 11) rfl) rfl
  · refine s_iload 4 (n := 12) hX (dec_of D_X9_wouldPlay (i := 6) rfl) rfl rfl ?_
    refine s_iconst (v := 3) (n := 13) hX (dec_of D_X9_wouldPlay (i := 7) rfl) rfl (by decide) ?_
    refine s_callSI (n := 16) hX lk_RX9_207 (dec_of D_X9_wouldPlay (i := 8) rfl) rfl (by decide) (c_X9_isChoice (l := _) hG _ _ _) rfl rfl (Nat.le_of_ble_eq_true rfl) (fun q2 => ?_)
    refine s_if_ne (tgt := 21) (n := 19) hX (dec_of D_X9_wouldPlay (i := 9) rfl) rfl rfl ?_ ?_
    · refine s_aload_n 0 (n := 22) hX (dec_of D_X9_wouldPlay (i := 12) rfl) rfl rfl rfl ?_
      refine s_iload_n 1 (n := 23) hX (dec_of D_X9_wouldPlay (i := 13) rfl) rfl rfl rfl ?_
      refine s_iload_n 3 (n := 24) hX (dec_of D_X9_wouldPlay (i := 14) rfl) rfl rfl rfl ?_
      refine s_callVI (c := 9) (n := 27) hX cls9 (vk130 (by omega)) lk_RX9_289 (dec_of D_X9_wouldPlay (i := 15) rfl) rfl (by decide) (c_X9_isTooMuch (l := _) hG _ _ _) rfl rfl (Nat.le_of_ble_eq_true rfl) (fun q3 => ?_)
      refine s_if_eq (tgt := 33) (n := 30) hX (dec_of D_X9_wouldPlay (i := 16) rfl) rfl rfl ?_ ?_
      · refine s_aload_n 0 (n := 34) hX (dec_of D_X9_wouldPlay (i := 19) rfl) rfl rfl rfl ?_
        refine s_getC (c := 9) (p := 4) (n := 37) 124 0 hX cls9 (vk130 (by omega)) (dec_of D_X9_wouldPlay (i := 20) rfl) rfl rfl (by decide) wd_445 ?_
        refine s_aload_n 0 (n := 38) hX (dec_of D_X9_wouldPlay (i := 21) rfl) rfl rfl rfl ?_
        refine s_getQ (c := 9) (p := 7) (j := 0) (n := 41) hX cls9 (vk130 (by omega)) (dec_of D_X9_wouldPlay (i := 22) rfl) rfl rfl wd_448 (fun rr4 hrr4 => ?_)
        refine s_aload_n 0 (n := 42) hX (dec_of D_X9_wouldPlay (i := 23) rfl) rfl rfl rfl ?_
        refine s_getC (c := 9) (p := 1) (n := 45) 121 0 hX cls9 (vk130 (by omega)) (dec_of D_X9_wouldPlay (i := 24) rfl) rfl rfl (by decide) wd_442 ?_
        refine s_getR (c := 0) (p := 0) (k' := 129) (n := 48) hX cls0 (vk121 (by omega)) (dec_of D_X9_wouldPlay (i := 25) rfl) rfl rfl wd_219 ?_
        refine s_iload_n 1 (n := 49) hX (dec_of D_X9_wouldPlay (i := 26) rfl) rfl rfl rfl ?_
        refine s_iload_n 2 (n := 50) hX (dec_of D_X9_wouldPlay (i := 27) rfl) rfl rfl rfl ?_
        refine s_iload_n 3 (n := 51) hX (dec_of D_X9_wouldPlay (i := 28) rfl) rfl rfl rfl ?_
        refine s_callVV (c := 3) (n := 54) hX cls3 (vk124 (by omega)) lk_RX9_278 (dec_of D_X9_wouldPlay (i := 29) rfl) rfl (by decide) (c_X3_think (l := _) hG _ _ (by omega) _ (by omega) _ (by omega) _ _ _) rfl rfl (Nat.le_of_ble_eq_true rfl) (fun q5 => ?_)
        refine s_aload_n 0 (n := 55) hX (dec_of D_X9_wouldPlay (i := 30) rfl) rfl rfl rfl ?_
        refine s_getC (c := 9) (p := 4) (n := 58) 124 0 hX cls9 (vk130 (by omega)) (dec_of D_X9_wouldPlay (i := 31) rfl) rfl rfl (by decide) wd_445 ?_
        refine s_getR (c := 3) (p := 3) (k' := 12) (n := 61) hX cls3 (vk124 (by omega)) (dec_of D_X9_wouldPlay (i := 32) rfl) rfl rfl wd_298 ?_
        refine s_iload 4 (n := 63) hX (dec_of D_X9_wouldPlay (i := 33) rfl) rfl rfl ?_
        refine s_iald (n := 64) hX (vk12 (by omega)) (by decide) (dec_of D_X9_wouldPlay (i := 34) rfl) rfl (fun v6 => ?_)
        exact s_iret hX hR (dec_of D_X9_wouldPlay (i := 35) rfl) rfl
      · refine s_bipush (v := (-2)) (n := 32) hX (dec_of D_X9_wouldPlay (i := 17) rfl) rfl (by decide) ?_
        exact s_iret hX hR (dec_of D_X9_wouldPlay (i := 18) rfl) rfl
    · refine s_iconst (v := (-1)) (n := 20) hX (dec_of D_X9_wouldPlay (i := 10) rfl) rfl (by decide) ?_
      exact s_iret hX hR (dec_of D_X9_wouldPlay (i := 11) rfl) rfl
theorem lk_RX9_424 : LkV RX9 424 RX0 yX0_worthOfSeat cX0_worthOfSeat 8 (some .int) 4 := ⟨wd_1137, wd_923, wd_924, wd_86, wd_925, by decide +kernel, by decide⟩
def T_X9_claimWorth : List (Nat × Instr × Nat) := [(0, .aload_n 0, 1), (1, .getfield 19, 3), (4, .aload_n 0, 1), (5, .getfield 61, 3), (8, .iload_n 1, 1), (9, .iload_n 2, 1), (10, .aload_n 0, 1), (11, .getfield 19, 3), (14, .getfield 113, 3), (17, .aload_n 0, 1), (18, .getfield 61, 3), (21, .iload_n 2, 1), (22, .invokevirtual 310, 3), (25, .invokevirtual 424, 3), (28, .ireturn, 1)]
theorem D_X9_claimWorth : dchk cX9_claimWorth T_X9_claimWorth = true := by decide +kernel
def Rp_claimWorth (σ : ST) (a1 : Int32) (a2 : Int32) : Option Int32 :=
  bd_ (ldQ σ 0) (fun rr1 => bd_ (ldQ σ 0) (fun rr2 => bd_ (Wo_firstOpen (σ) 0 rr2 a2) (fun q3 => bd_ (Bk_worthOfSeat (σ) 0 rr1 a1 a2 q3) (fun q4 => some q4))))
set_option maxHeartbeats 4000000 in
set_option maxRecDepth 100000 in
theorem c_X9_claimWorth {G : GW} (hG : Good G) {l : Launch} (σ : ST) (a1 : Int32) (a2 : Int32) : Ctr G l yX9_claimWorth cX9_claimWorth 3 (some .int) 3 [.ref (ga G 130 0), .int a1, .int a2] σ (oI σ) (Rp_claimWorth σ a1 a2) := by
  refine ctr_of hG (by decide) (Nat.le_of_ble_eq_true rfl) ?_
  intro X hXl hR hX
  have hX : Ok G X cX9_claimWorth 3 RX9 3 := hX
  unfold Rp_claimWorth
  show Sim G X 3 (MQX G X (oI σ)) σ 0 [(0, .ref (ga G 130 0)), (1, .int a1), (2, .int a2)] [] _
  refine s_aload_n 0 (n := 1) hX (dec_of D_X9_claimWorth (i := 0) rfl) rfl rfl rfl ?_
  refine s_getC (c := 9) (p := 1) (n := 4) 121 0 hX cls9 (vk130 (by omega)) (dec_of D_X9_claimWorth (i := 1) rfl) rfl rfl (by decide) wd_442 ?_
  refine s_aload_n 0 (n := 5) hX (dec_of D_X9_claimWorth (i := 2) rfl) rfl rfl rfl ?_
  refine s_getQ (c := 9) (p := 7) (j := 0) (n := 8) hX cls9 (vk130 (by omega)) (dec_of D_X9_claimWorth (i := 3) rfl) rfl rfl wd_448 (fun rr1 hrr1 => ?_)
  refine s_iload_n 1 (n := 9) hX (dec_of D_X9_claimWorth (i := 4) rfl) rfl rfl rfl ?_
  refine s_iload_n 2 (n := 10) hX (dec_of D_X9_claimWorth (i := 5) rfl) rfl rfl rfl ?_
  refine s_aload_n 0 (n := 11) hX (dec_of D_X9_claimWorth (i := 6) rfl) rfl rfl rfl ?_
  refine s_getC (c := 9) (p := 1) (n := 14) 121 0 hX cls9 (vk130 (by omega)) (dec_of D_X9_claimWorth (i := 7) rfl) rfl rfl (by decide) wd_442 ?_
  refine s_getR (c := 0) (p := 0) (k' := 129) (n := 17) hX cls0 (vk121 (by omega)) (dec_of D_X9_claimWorth (i := 8) rfl) rfl rfl wd_219 ?_
  refine s_aload_n 0 (n := 18) hX (dec_of D_X9_claimWorth (i := 9) rfl) rfl rfl rfl ?_
  refine s_getQ (c := 9) (p := 7) (j := 0) (n := 21) hX cls9 (vk130 (by omega)) (dec_of D_X9_claimWorth (i := 10) rfl) rfl rfl wd_448 (fun rr2 hrr2 => ?_)
  refine s_iload_n 2 (n := 22) hX (dec_of D_X9_claimWorth (i := 11) rfl) rfl rfl rfl ?_
  refine s_callVI (c := 8) (n := 25) hX cls8 (vk129 (by omega)) lk_RX9_310 (dec_of D_X9_claimWorth (i := 12) rfl) rfl (by decide) (c_X8_firstOpen (l := _) hG _ _ (by omega) _ (by omega) _) rfl rfl (Nat.le_of_ble_eq_true rfl) (fun q3 => ?_)
  refine s_callVI (c := 0) (n := 28) hX cls0 (vk121 (by omega)) lk_RX9_424 (dec_of D_X9_claimWorth (i := 13) rfl) rfl (by decide) (c_X0_worthOfSeat (l := _) hG _ _ (by omega) _ (by omega) _ _ _) rfl rfl (Nat.le_of_ble_eq_true rfl) (fun q4 => ?_)
  exact s_iret hX hR (dec_of D_X9_claimWorth (i := 14) rfl) rfl
theorem lk_RX9_392 : LkV RX9 392 RX9 yX9_claimWorth cX9_claimWorth 3 (some .int) 2 := ⟨wd_1133, wd_1135, wd_12, wd_83, wd_1136, by decide +kernel, by decide⟩
def T_X9_wouldClaim : List (Nat × Instr × Nat) := [(0, .aload_n 0, 1), (1, .iload_n 1, 1), (2, .iload_n 2, 1), (3, .invokevirtual 306, 3), (6, .istore_n 3, 1), (7, .iload_n 3, 1), (8, .ifCond .eq 7, 3), (11, .iload_n 3, 1), (12, .goto 9, 3), (15, .aload_n 0, 1), (16, .iload_n 1, 1), (17, .iload_n 2, 1), (18, .invokevirtual 392, 3), (21, .ireturn, 1)]
theorem D_X9_wouldClaim : dchk cX9_wouldClaim T_X9_wouldClaim = true := by decide +kernel
def Rp_wouldClaim (σ : ST) (a1 : Int32) (a2 : Int32) : Option Int32 :=
  bd_ (Rp_claimBar (σ) a1 a2) (fun q1 => (if q1 = 0 then bd_ (Rp_claimWorth (σ) a1 a2) (fun q2 => some q2) else some q1))
set_option maxHeartbeats 4000000 in
set_option maxRecDepth 100000 in
theorem c_X9_wouldClaim {G : GW} (hG : Good G) {l : Launch} (σ : ST) (a1 : Int32) (a2 : Int32) : Ctr G l yX9_wouldClaim cX9_wouldClaim 4 (some .int) 4 [.ref (ga G 130 0), .int a1, .int a2] σ (oI σ) (Rp_wouldClaim σ a1 a2) := by
  refine ctr_of hG (by decide) (Nat.le_of_ble_eq_true rfl) ?_
  intro X hXl hR hX
  have hX : Ok G X cX9_wouldClaim 4 RX9 4 := hX
  unfold Rp_wouldClaim
  show Sim G X 4 (MQX G X (oI σ)) σ 0 [(0, .ref (ga G 130 0)), (1, .int a1), (2, .int a2)] [] _
  refine s_aload_n 0 (n := 1) hX (dec_of D_X9_wouldClaim (i := 0) rfl) rfl rfl rfl ?_
  refine s_iload_n 1 (n := 2) hX (dec_of D_X9_wouldClaim (i := 1) rfl) rfl rfl rfl ?_
  refine s_iload_n 2 (n := 3) hX (dec_of D_X9_wouldClaim (i := 2) rfl) rfl rfl rfl ?_
  refine s_callVI (c := 9) (n := 6) hX cls9 (vk130 (by omega)) lk_RX9_306 (dec_of D_X9_wouldClaim (i := 3) rfl) rfl (by decide) (c_X9_claimBar (l := _) hG _ _ _) rfl rfl (Nat.le_of_ble_eq_true rfl) (fun q1 => ?_)
  refine s_istore_n (lv' := [(0, _), (1, _), (2, _), (3, _)]) [1, 2, 3, 0] (n := 7) hX (dec_of D_X9_wouldClaim (i := 4) rfl) rfl rfl (by decide) rfl ?_
  refine s_iload_n 3 (n := 8) hX (dec_of D_X9_wouldClaim (i := 5) rfl) rfl rfl rfl ?_
  refine s_if_eq (tgt := 15) (n := 11) hX (dec_of D_X9_wouldClaim (i := 6) rfl) rfl rfl ?_ ?_
  · refine s_aload_n 0 (n := 16) hX (dec_of D_X9_wouldClaim (i := 9) rfl) rfl rfl rfl ?_
    refine s_iload_n 1 (n := 17) hX (dec_of D_X9_wouldClaim (i := 10) rfl) rfl rfl rfl ?_
    refine s_iload_n 2 (n := 18) hX (dec_of D_X9_wouldClaim (i := 11) rfl) rfl rfl rfl ?_
    refine s_callVI (c := 9) (n := 21) hX cls9 (vk130 (by omega)) lk_RX9_392 (dec_of D_X9_wouldClaim (i := 12) rfl) rfl (by decide) (c_X9_claimWorth (l := _) hG _ _ _) rfl rfl (Nat.le_of_ble_eq_true rfl) (fun q2 => ?_)
    exact s_iret hX hR (dec_of D_X9_wouldClaim (i := 13) rfl) rfl
  · refine s_iload_n 3 (n := 12) hX (dec_of D_X9_wouldClaim (i := 7) rfl) rfl rfl rfl ?_
    refine s_goto (n := 21) hX (dec_of D_X9_wouldClaim (i := 8) rfl) rfl ?_
    exact s_iret hX hR (dec_of D_X9_wouldClaim (i := 13) rfl) rfl
def T_X9_bestClaim : List (Nat × Instr × Nat) := [(0, .aload_n 0, 1), (1, .iload_n 1, 1), (2, .invokevirtual 148, 3), (5, .ifCond .eq 11, 3), (8, .iload_n 2, 1), (9, .iconst 2, 1), (10, .invokestatic 207, 3), (13, .ifCond .ne 5, 3), (16, .iconst (-1), 1), (17, .ireturn, 1), (18, .bipush (-2), 2), (20, .istore_n 3, 1), (21, .bipush (-2), 2), (23, .istore 4, 2), (25, .iconst 0, 1), (26, .istore 5, 2), (28, .iload 5, 2), (30, .aload_n 0, 1), (31, .getfield 61, 3), (34, .getfield 232, 3), (37, .if_icmp .ge 47, 3), (40, .aload_n 0, 1), (41, .iload_n 1, 1), (42, .iload 5, 2), (44, .invokevirtual 306, 3), (47, .ifCond .ne 31, 3), (50, .iload_n 3, 1), (51, .ifCond .lt 15, 3), (54, .aload_n 0, 1), (55, .iload_n 1, 1), (56, .iload 5, 2), (58, .invokevirtual 392, 3), (61, .iload 4, 2), (63, .if_icmp .le 15, 3), (66, .iload 5, 2), (68, .istore_n 3, 1), (69, .aload_n 0, 1), (70, .iload_n 1, 1), (71, .iload 5, 2), (73, .invokevirtual 392, 3), (76, .istore 4, 2), (78, .iinc 5 1, 3), (81, .goto (-53), 3), (84, .iload_n 2, 1), (85, .ifCond .ne 7, 3), (88, .iload_n 3, 1), (89, .goto 5, 3), (92, .iload 4, 2), (94, .ireturn, 1)]
theorem D_X9_bestClaim : dchk cX9_bestClaim T_X9_bestClaim = true := by decide +kernel
def Rp_bestClaim (σ : ST) (a1 : Int32) (a2 : Int32) : Option Int32 :=
  bd_ (Rp_isPlayer (σ) a1) (fun q1 => (if q1 = 0 then some (-1) else bd_ (Rp_isChoice (σ) a2 2) (fun q2 => (if q2 = 0 then some (-1) else lp_ (fun rec4 (z3 : Int32 × Int32 × Int32) => bd_ (ldQ σ 0) (fun rr6 => (if (gF σ 531 rr6) ≤ z3.2.2 then (if a2 = 0 then some z3.1 else some z3.2.1) else bd_ (Rp_claimBar (σ) a1 z3.2.2) (fun q7 => (if q7 = 0 then (if z3.1 < 0 then bd_ (Rp_claimWorth (σ) a1 z3.2.2) (fun q8 => rec4 (z3.2.2, q8, (z3.2.2 + 1))) else bd_ (Rp_claimWorth (σ) a1 z3.2.2) (fun q9 => (if q9 ≤ z3.2.1 then rec4 (z3.1, z3.2.1, (z3.2.2 + 1)) else bd_ (Rp_claimWorth (σ) a1 z3.2.2) (fun q10 => rec4 (z3.2.2, q10, (z3.2.2 + 1)))))) else rec4 (z3.1, z3.2.1, (z3.2.2 + 1))))))) FU ((-2), (-2), 0)))))
set_option maxHeartbeats 4000000 in
set_option maxRecDepth 100000 in
theorem c_X9_bestClaim {G : GW} (hG : Good G) {l : Launch} (σ : ST) (a1 : Int32) (a2 : Int32) : Ctr G l yX9_bestClaim cX9_bestClaim 6 (some .int) 4 [.ref (ga G 130 0), .int a1, .int a2] σ (oI σ) (Rp_bestClaim σ a1 a2) := by
  refine ctr_of hG (by decide) (Nat.le_of_ble_eq_true rfl) ?_
  intro X hXl hR hX
  have hX : Ok G X cX9_bestClaim 6 RX9 4 := hX
  unfold Rp_bestClaim
  show Sim G X 6 (MQX G X (oI σ)) σ 0 [(0, .ref (ga G 130 0)), (1, .int a1), (2, .int a2)] [] _
  refine s_aload_n 0 (n := 1) hX (dec_of D_X9_bestClaim (i := 0) rfl) rfl rfl rfl ?_
  refine s_iload_n 1 (n := 2) hX (dec_of D_X9_bestClaim (i := 1) rfl) rfl rfl rfl ?_
  refine s_callVI (c := 9) (n := 5) hX cls9 (vk130 (by omega)) lk_RX9_148 (dec_of D_X9_bestClaim (i := 2) rfl) rfl (by decide) (c_X9_isPlayer (l := _) hG _ _) rfl rfl (Nat.le_of_ble_eq_true rfl) (fun q1 => ?_)
  refine s_if_eq (tgt := 16) (n := 8) hX (dec_of D_X9_bestClaim (i := 3) rfl) rfl rfl ?_ ?_
  · refine s_iconst (v := (-1)) (n := 17) hX (dec_of D_X9_bestClaim (i := 8) rfl) rfl (by decide) ?_
    exact s_iret hX hR (dec_of D_X9_bestClaim (i := 9) rfl) rfl
  · refine s_iload_n 2 (n := 9) hX (dec_of D_X9_bestClaim (i := 4) rfl) rfl rfl rfl ?_
    refine s_iconst (v := 2) (n := 10) hX (dec_of D_X9_bestClaim (i := 5) rfl) rfl (by decide) ?_
    refine s_callSI (n := 13) hX lk_RX9_207 (dec_of D_X9_bestClaim (i := 6) rfl) rfl (by decide) (c_X9_isChoice (l := _) hG _ _ _) rfl rfl (Nat.le_of_ble_eq_true rfl) (fun q2 => ?_)
    refine s_if_ne (tgt := 18) (n := 16) hX (dec_of D_X9_bestClaim (i := 7) rfl) rfl rfl ?_ ?_
    · refine s_bipush (v := (-2)) (n := 20) hX (dec_of D_X9_bestClaim (i := 10) rfl) rfl (by decide) ?_
      refine s_istore_n (lv' := [(0, _), (1, _), (2, _), (3, _)]) [1, 2, 3, 0] (n := 21) hX (dec_of D_X9_bestClaim (i := 11) rfl) rfl rfl (by decide) rfl ?_
      refine s_bipush (v := (-2)) (n := 23) hX (dec_of D_X9_bestClaim (i := 12) rfl) rfl (by decide) ?_
      refine s_istore (lv' := [(0, _), (1, _), (2, _), (3, _), (4, _)]) [1, 2, 3, 4, 0] (n := 25) hX (dec_of D_X9_bestClaim (i := 13) rfl) rfl (by decide) rfl ?_
      refine s_iconst (v := 0) (n := 26) hX (dec_of D_X9_bestClaim (i := 14) rfl) rfl (by decide) ?_
      refine s_istore (lv' := [(0, _), (1, _), (2, _), (3, _), (4, _), (5, _)]) [1, 2, 3, 4, 5, 0] (n := 28) hX (dec_of D_X9_bestClaim (i := 15) rfl) rfl (by decide) rfl ?_
      refine s_sub [0, 1, 2, 3, 4, 5] rfl (s_lp (pc := 28) (Sf := fun (z3 : Int32 × Int32 × Int32) => σ) (lvf := fun (z3 : Int32 × Int32 × Int32) => [(0, .ref (ga G 130 0)), (1, .int a1), (2, .int a2), (3, .int z3.1), (4, .int z3.2.1), (5, .int z3.2.2)]) (fun rec4 hre5 z3 => ?_) FU ((-2), (-2), 0))
      refine s_iload 5 (n := 30) hX (dec_of D_X9_bestClaim (i := 16) rfl) rfl rfl ?_
      refine s_aload_n 0 (n := 31) hX (dec_of D_X9_bestClaim (i := 17) rfl) rfl rfl rfl ?_
      refine s_getQ (c := 9) (p := 7) (j := 0) (n := 34) hX cls9 (vk130 (by omega)) (dec_of D_X9_bestClaim (i := 18) rfl) rfl rfl wd_448 (fun rr6 hrr6 => ?_)
      refine s_getI (c := 5) (p := 11) (id := 531) (n := 37) hX cls5 (vk126 (by omega)) (dec_of D_X9_bestClaim (i := 19) rfl) rfl rfl wd_402 ?_
      refine s_icmp_ge (tgt := 84) (n := 40) hX (dec_of D_X9_bestClaim (i := 20) rfl) rfl rfl ?_ ?_
      · refine s_iload_n 2 (n := 85) hX (dec_of D_X9_bestClaim (i := 43) rfl) rfl rfl rfl ?_
        refine s_if_ne (tgt := 92) (n := 88) hX (dec_of D_X9_bestClaim (i := 44) rfl) rfl rfl ?_ ?_
        · refine s_iload 4 (n := 94) hX (dec_of D_X9_bestClaim (i := 47) rfl) rfl rfl ?_
          exact s_iret hX hR (dec_of D_X9_bestClaim (i := 48) rfl) rfl
        · refine s_iload_n 3 (n := 89) hX (dec_of D_X9_bestClaim (i := 45) rfl) rfl rfl rfl ?_
          refine s_goto (n := 94) hX (dec_of D_X9_bestClaim (i := 46) rfl) rfl ?_
          exact s_iret hX hR (dec_of D_X9_bestClaim (i := 48) rfl) rfl
      · refine s_aload_n 0 (n := 41) hX (dec_of D_X9_bestClaim (i := 21) rfl) rfl rfl rfl ?_
        refine s_iload_n 1 (n := 42) hX (dec_of D_X9_bestClaim (i := 22) rfl) rfl rfl rfl ?_
        refine s_iload 5 (n := 44) hX (dec_of D_X9_bestClaim (i := 23) rfl) rfl rfl ?_
        refine s_callVI (c := 9) (n := 47) hX cls9 (vk130 (by omega)) lk_RX9_306 (dec_of D_X9_bestClaim (i := 24) rfl) rfl (by decide) (c_X9_claimBar (l := _) hG _ _ _) rfl rfl (Nat.le_of_ble_eq_true rfl) (fun q7 => ?_)
        refine s_if_ne (tgt := 78) (n := 50) hX (dec_of D_X9_bestClaim (i := 25) rfl) rfl rfl ?_ ?_
        · refine s_iinc (v := z3.2.2 + 1) (lv' := [(0, _), (1, _), (2, _), (3, _), (4, _), (5, _)]) 5 [1, 2, 3, 4, 5, 0] (n := 81) hX (dec_of D_X9_bestClaim (i := 41) rfl) rfl rfl rfl (by decide) rfl ?_
          refine s_goto (n := 28) hX (dec_of D_X9_bestClaim (i := 42) rfl) rfl ?_
          exact s_sub [0, 1, 2, 3, 4, 5] rfl (hre5 (z3.1, z3.2.1, (z3.2.2 + 1)))
        · refine s_iload_n 3 (n := 51) hX (dec_of D_X9_bestClaim (i := 26) rfl) rfl rfl rfl ?_
          refine s_if_lt (tgt := 66) (n := 54) hX (dec_of D_X9_bestClaim (i := 27) rfl) rfl rfl ?_ ?_
          · refine s_iload 5 (n := 68) hX (dec_of D_X9_bestClaim (i := 34) rfl) rfl rfl ?_
            refine s_istore_n (lv' := [(0, _), (1, _), (2, _), (3, _), (4, _), (5, _)]) [1, 2, 3, 0, 4, 5] (n := 69) hX (dec_of D_X9_bestClaim (i := 35) rfl) rfl rfl (by decide) rfl ?_
            refine s_aload_n 0 (n := 70) hX (dec_of D_X9_bestClaim (i := 36) rfl) rfl rfl rfl ?_
            refine s_iload_n 1 (n := 71) hX (dec_of D_X9_bestClaim (i := 37) rfl) rfl rfl rfl ?_
            refine s_iload 5 (n := 73) hX (dec_of D_X9_bestClaim (i := 38) rfl) rfl rfl ?_
            refine s_callVI (c := 9) (n := 76) hX cls9 (vk130 (by omega)) lk_RX9_392 (dec_of D_X9_bestClaim (i := 39) rfl) rfl (by decide) (c_X9_claimWorth (l := _) hG _ _ _) rfl rfl (Nat.le_of_ble_eq_true rfl) (fun q8 => ?_)
            refine s_istore (lv' := [(0, _), (1, _), (2, _), (3, _), (4, _), (5, _)]) [1, 2, 3, 4, 0, 5] (n := 78) hX (dec_of D_X9_bestClaim (i := 40) rfl) rfl (by decide) rfl ?_
            refine s_iinc (v := z3.2.2 + 1) (lv' := [(0, _), (1, _), (2, _), (3, _), (4, _), (5, _)]) 5 [1, 2, 3, 4, 5, 0] (n := 81) hX (dec_of D_X9_bestClaim (i := 41) rfl) rfl rfl rfl (by decide) rfl ?_
            refine s_goto (n := 28) hX (dec_of D_X9_bestClaim (i := 42) rfl) rfl ?_
            exact s_sub [0, 1, 2, 3, 4, 5] rfl (hre5 (z3.2.2, q8, (z3.2.2 + 1)))
          · refine s_aload_n 0 (n := 55) hX (dec_of D_X9_bestClaim (i := 28) rfl) rfl rfl rfl ?_
            refine s_iload_n 1 (n := 56) hX (dec_of D_X9_bestClaim (i := 29) rfl) rfl rfl rfl ?_
            refine s_iload 5 (n := 58) hX (dec_of D_X9_bestClaim (i := 30) rfl) rfl rfl ?_
            refine s_callVI (c := 9) (n := 61) hX cls9 (vk130 (by omega)) lk_RX9_392 (dec_of D_X9_bestClaim (i := 31) rfl) rfl (by decide) (c_X9_claimWorth (l := _) hG _ _ _) rfl rfl (Nat.le_of_ble_eq_true rfl) (fun q9 => ?_)
            refine s_iload 4 (n := 63) hX (dec_of D_X9_bestClaim (i := 32) rfl) rfl rfl ?_
            refine s_icmp_le (tgt := 78) (n := 66) hX (dec_of D_X9_bestClaim (i := 33) rfl) rfl rfl ?_ ?_
            · refine s_iinc (v := z3.2.2 + 1) (lv' := [(0, _), (1, _), (2, _), (3, _), (4, _), (5, _)]) 5 [1, 2, 3, 4, 5, 0] (n := 81) hX (dec_of D_X9_bestClaim (i := 41) rfl) rfl rfl rfl (by decide) rfl ?_
              refine s_goto (n := 28) hX (dec_of D_X9_bestClaim (i := 42) rfl) rfl ?_
              exact s_sub [0, 1, 2, 3, 4, 5] rfl (hre5 (z3.1, z3.2.1, (z3.2.2 + 1)))
            · refine s_iload 5 (n := 68) hX (dec_of D_X9_bestClaim (i := 34) rfl) rfl rfl ?_
              refine s_istore_n (lv' := [(0, _), (1, _), (2, _), (3, _), (4, _), (5, _)]) [1, 2, 3, 0, 4, 5] (n := 69) hX (dec_of D_X9_bestClaim (i := 35) rfl) rfl rfl (by decide) rfl ?_
              refine s_aload_n 0 (n := 70) hX (dec_of D_X9_bestClaim (i := 36) rfl) rfl rfl rfl ?_
              refine s_iload_n 1 (n := 71) hX (dec_of D_X9_bestClaim (i := 37) rfl) rfl rfl rfl ?_
              refine s_iload 5 (n := 73) hX (dec_of D_X9_bestClaim (i := 38) rfl) rfl rfl ?_
              refine s_callVI (c := 9) (n := 76) hX cls9 (vk130 (by omega)) lk_RX9_392 (dec_of D_X9_bestClaim (i := 39) rfl) rfl (by decide) (c_X9_claimWorth (l := _) hG _ _ _) rfl rfl (Nat.le_of_ble_eq_true rfl) (fun q10 => ?_)
              refine s_istore (lv' := [(0, _), (1, _), (2, _), (3, _), (4, _), (5, _)]) [1, 2, 3, 4, 0, 5] (n := 78) hX (dec_of D_X9_bestClaim (i := 40) rfl) rfl (by decide) rfl ?_
              refine s_iinc (v := z3.2.2 + 1) (lv' := [(0, _), (1, _), (2, _), (3, _), (4, _), (5, _)]) 5 [1, 2, 3, 4, 5, 0] (n := 81) hX (dec_of D_X9_bestClaim (i := 41) rfl) rfl rfl rfl (by decide) rfl ?_
              refine s_goto (n := 28) hX (dec_of D_X9_bestClaim (i := 42) rfl) rfl ?_
              exact s_sub [0, 1, 2, 3, 4, 5] rfl (hre5 (z3.2.2, q10, (z3.2.2 + 1)))
    · refine s_iconst (v := (-1)) (n := 17) hX (dec_of D_X9_bestClaim (i := 8) rfl) rfl (by decide) ?_
      exact s_iret hX hR (dec_of D_X9_bestClaim (i := 9) rfl) rfl
def T_X9_claimant : List (Nat × Instr × Nat) := [(0, .aload_n 0, 1), (1, .iload_n 1, 1), (2, .invokevirtual 174, 3), (5, .ifCond .eq 11, 3), (8, .iload_n 2, 1), (9, .iconst 2, 1), (10, .invokestatic 207, 3), (13, .ifCond .ne 5, 3), (16, .iconst (-1), 1), (17, .ireturn, 1), (18, .bipush (-2), 2), (20, .istore_n 3, 1), (21, .bipush (-2), 2), (23, .istore 4, 2), (25, .iconst 0, 1), (26, .istore 5, 2), (28, .iload 5, 2), (30, .aload_n 0, 1), (31, .getfield 61, 3), (34, .getfield 226, 3), (37, .if_icmp .ge 47, 3), (40, .aload_n 0, 1), (41, .iload 5, 2), (43, .iload_n 1, 1), (44, .invokevirtual 306, 3), (47, .ifCond .ne 31, 3), (50, .iload_n 3, 1), (51, .ifCond .lt 15, 3), (54, .aload_n 0, 1), (55, .iload 5, 2), (57, .iload_n 1, 1), (58, .invokevirtual 392, 3), (61, .iload 4, 2), (63, .if_icmp .le 15, 3), (66, .iload 5, 2), (68, .istore_n 3, 1), (69, .aload_n 0, 1), (70, .iload 5, 2), (72, .iload_n 1, 1), (73, .invokevirtual 392, 3), (76, .istore 4, 2), (78, .iinc 5 1, 3), (81, .goto (-53), 3), (84, .iload_n 2, 1), (85, .ifCond .ne 7, 3), (88, .iload_n 3, 1), (89, .goto 5, 3), (92, .iload 4, 2), (94, .ireturn, 1)]
theorem D_X9_claimant : dchk cX9_claimant T_X9_claimant = true := by decide +kernel
def Rp_claimant (σ : ST) (a1 : Int32) (a2 : Int32) : Option Int32 :=
  bd_ (Rp_isSession (σ) a1) (fun q1 => (if q1 = 0 then some (-1) else bd_ (Rp_isChoice (σ) a2 2) (fun q2 => (if q2 = 0 then some (-1) else lp_ (fun rec4 (z3 : Int32 × Int32 × Int32) => bd_ (ldQ σ 0) (fun rr6 => (if (gF σ 530 rr6) ≤ z3.2.2 then (if a2 = 0 then some z3.1 else some z3.2.1) else bd_ (Rp_claimBar (σ) z3.2.2 a1) (fun q7 => (if q7 = 0 then (if z3.1 < 0 then bd_ (Rp_claimWorth (σ) z3.2.2 a1) (fun q8 => rec4 (z3.2.2, q8, (z3.2.2 + 1))) else bd_ (Rp_claimWorth (σ) z3.2.2 a1) (fun q9 => (if q9 ≤ z3.2.1 then rec4 (z3.1, z3.2.1, (z3.2.2 + 1)) else bd_ (Rp_claimWorth (σ) z3.2.2 a1) (fun q10 => rec4 (z3.2.2, q10, (z3.2.2 + 1)))))) else rec4 (z3.1, z3.2.1, (z3.2.2 + 1))))))) FU ((-2), (-2), 0)))))
set_option maxHeartbeats 4000000 in
set_option maxRecDepth 100000 in
theorem c_X9_claimant {G : GW} (hG : Good G) {l : Launch} (σ : ST) (a1 : Int32) (a2 : Int32) : Ctr G l yX9_claimant cX9_claimant 6 (some .int) 4 [.ref (ga G 130 0), .int a1, .int a2] σ (oI σ) (Rp_claimant σ a1 a2) := by
  refine ctr_of hG (by decide) (Nat.le_of_ble_eq_true rfl) ?_
  intro X hXl hR hX
  have hX : Ok G X cX9_claimant 6 RX9 4 := hX
  unfold Rp_claimant
  show Sim G X 6 (MQX G X (oI σ)) σ 0 [(0, .ref (ga G 130 0)), (1, .int a1), (2, .int a2)] [] _
  refine s_aload_n 0 (n := 1) hX (dec_of D_X9_claimant (i := 0) rfl) rfl rfl rfl ?_
  refine s_iload_n 1 (n := 2) hX (dec_of D_X9_claimant (i := 1) rfl) rfl rfl rfl ?_
  refine s_callVI (c := 9) (n := 5) hX cls9 (vk130 (by omega)) lk_RX9_174 (dec_of D_X9_claimant (i := 2) rfl) rfl (by decide) (c_X9_isSession (l := _) hG _ _) rfl rfl (Nat.le_of_ble_eq_true rfl) (fun q1 => ?_)
  refine s_if_eq (tgt := 16) (n := 8) hX (dec_of D_X9_claimant (i := 3) rfl) rfl rfl ?_ ?_
  · refine s_iconst (v := (-1)) (n := 17) hX (dec_of D_X9_claimant (i := 8) rfl) rfl (by decide) ?_
    exact s_iret hX hR (dec_of D_X9_claimant (i := 9) rfl) rfl
  · refine s_iload_n 2 (n := 9) hX (dec_of D_X9_claimant (i := 4) rfl) rfl rfl rfl ?_
    refine s_iconst (v := 2) (n := 10) hX (dec_of D_X9_claimant (i := 5) rfl) rfl (by decide) ?_
    refine s_callSI (n := 13) hX lk_RX9_207 (dec_of D_X9_claimant (i := 6) rfl) rfl (by decide) (c_X9_isChoice (l := _) hG _ _ _) rfl rfl (Nat.le_of_ble_eq_true rfl) (fun q2 => ?_)
    refine s_if_ne (tgt := 18) (n := 16) hX (dec_of D_X9_claimant (i := 7) rfl) rfl rfl ?_ ?_
    · refine s_bipush (v := (-2)) (n := 20) hX (dec_of D_X9_claimant (i := 10) rfl) rfl (by decide) ?_
      refine s_istore_n (lv' := [(0, _), (1, _), (2, _), (3, _)]) [1, 2, 3, 0] (n := 21) hX (dec_of D_X9_claimant (i := 11) rfl) rfl rfl (by decide) rfl ?_
      refine s_bipush (v := (-2)) (n := 23) hX (dec_of D_X9_claimant (i := 12) rfl) rfl (by decide) ?_
      refine s_istore (lv' := [(0, _), (1, _), (2, _), (3, _), (4, _)]) [1, 2, 3, 4, 0] (n := 25) hX (dec_of D_X9_claimant (i := 13) rfl) rfl (by decide) rfl ?_
      refine s_iconst (v := 0) (n := 26) hX (dec_of D_X9_claimant (i := 14) rfl) rfl (by decide) ?_
      refine s_istore (lv' := [(0, _), (1, _), (2, _), (3, _), (4, _), (5, _)]) [1, 2, 3, 4, 5, 0] (n := 28) hX (dec_of D_X9_claimant (i := 15) rfl) rfl (by decide) rfl ?_
      refine s_sub [0, 1, 2, 3, 4, 5] rfl (s_lp (pc := 28) (Sf := fun (z3 : Int32 × Int32 × Int32) => σ) (lvf := fun (z3 : Int32 × Int32 × Int32) => [(0, .ref (ga G 130 0)), (1, .int a1), (2, .int a2), (3, .int z3.1), (4, .int z3.2.1), (5, .int z3.2.2)]) (fun rec4 hre5 z3 => ?_) FU ((-2), (-2), 0))
      refine s_iload 5 (n := 30) hX (dec_of D_X9_claimant (i := 16) rfl) rfl rfl ?_
      refine s_aload_n 0 (n := 31) hX (dec_of D_X9_claimant (i := 17) rfl) rfl rfl rfl ?_
      refine s_getQ (c := 9) (p := 7) (j := 0) (n := 34) hX cls9 (vk130 (by omega)) (dec_of D_X9_claimant (i := 18) rfl) rfl rfl wd_448 (fun rr6 hrr6 => ?_)
      refine s_getI (c := 5) (p := 10) (id := 530) (n := 37) hX cls5 (vk126 (by omega)) (dec_of D_X9_claimant (i := 19) rfl) rfl rfl wd_397 ?_
      refine s_icmp_ge (tgt := 84) (n := 40) hX (dec_of D_X9_claimant (i := 20) rfl) rfl rfl ?_ ?_
      · refine s_iload_n 2 (n := 85) hX (dec_of D_X9_claimant (i := 43) rfl) rfl rfl rfl ?_
        refine s_if_ne (tgt := 92) (n := 88) hX (dec_of D_X9_claimant (i := 44) rfl) rfl rfl ?_ ?_
        · refine s_iload 4 (n := 94) hX (dec_of D_X9_claimant (i := 47) rfl) rfl rfl ?_
          exact s_iret hX hR (dec_of D_X9_claimant (i := 48) rfl) rfl
        · refine s_iload_n 3 (n := 89) hX (dec_of D_X9_claimant (i := 45) rfl) rfl rfl rfl ?_
          refine s_goto (n := 94) hX (dec_of D_X9_claimant (i := 46) rfl) rfl ?_
          exact s_iret hX hR (dec_of D_X9_claimant (i := 48) rfl) rfl
      · refine s_aload_n 0 (n := 41) hX (dec_of D_X9_claimant (i := 21) rfl) rfl rfl rfl ?_
        refine s_iload 5 (n := 43) hX (dec_of D_X9_claimant (i := 22) rfl) rfl rfl ?_
        refine s_iload_n 1 (n := 44) hX (dec_of D_X9_claimant (i := 23) rfl) rfl rfl rfl ?_
        refine s_callVI (c := 9) (n := 47) hX cls9 (vk130 (by omega)) lk_RX9_306 (dec_of D_X9_claimant (i := 24) rfl) rfl (by decide) (c_X9_claimBar (l := _) hG _ _ _) rfl rfl (Nat.le_of_ble_eq_true rfl) (fun q7 => ?_)
        refine s_if_ne (tgt := 78) (n := 50) hX (dec_of D_X9_claimant (i := 25) rfl) rfl rfl ?_ ?_
        · refine s_iinc (v := z3.2.2 + 1) (lv' := [(0, _), (1, _), (2, _), (3, _), (4, _), (5, _)]) 5 [1, 2, 3, 4, 5, 0] (n := 81) hX (dec_of D_X9_claimant (i := 41) rfl) rfl rfl rfl (by decide) rfl ?_
          refine s_goto (n := 28) hX (dec_of D_X9_claimant (i := 42) rfl) rfl ?_
          exact s_sub [0, 1, 2, 3, 4, 5] rfl (hre5 (z3.1, z3.2.1, (z3.2.2 + 1)))
        · refine s_iload_n 3 (n := 51) hX (dec_of D_X9_claimant (i := 26) rfl) rfl rfl rfl ?_
          refine s_if_lt (tgt := 66) (n := 54) hX (dec_of D_X9_claimant (i := 27) rfl) rfl rfl ?_ ?_
          · refine s_iload 5 (n := 68) hX (dec_of D_X9_claimant (i := 34) rfl) rfl rfl ?_
            refine s_istore_n (lv' := [(0, _), (1, _), (2, _), (3, _), (4, _), (5, _)]) [1, 2, 3, 0, 4, 5] (n := 69) hX (dec_of D_X9_claimant (i := 35) rfl) rfl rfl (by decide) rfl ?_
            refine s_aload_n 0 (n := 70) hX (dec_of D_X9_claimant (i := 36) rfl) rfl rfl rfl ?_
            refine s_iload 5 (n := 72) hX (dec_of D_X9_claimant (i := 37) rfl) rfl rfl ?_
            refine s_iload_n 1 (n := 73) hX (dec_of D_X9_claimant (i := 38) rfl) rfl rfl rfl ?_
            refine s_callVI (c := 9) (n := 76) hX cls9 (vk130 (by omega)) lk_RX9_392 (dec_of D_X9_claimant (i := 39) rfl) rfl (by decide) (c_X9_claimWorth (l := _) hG _ _ _) rfl rfl (Nat.le_of_ble_eq_true rfl) (fun q8 => ?_)
            refine s_istore (lv' := [(0, _), (1, _), (2, _), (3, _), (4, _), (5, _)]) [1, 2, 3, 4, 0, 5] (n := 78) hX (dec_of D_X9_claimant (i := 40) rfl) rfl (by decide) rfl ?_
            refine s_iinc (v := z3.2.2 + 1) (lv' := [(0, _), (1, _), (2, _), (3, _), (4, _), (5, _)]) 5 [1, 2, 3, 4, 5, 0] (n := 81) hX (dec_of D_X9_claimant (i := 41) rfl) rfl rfl rfl (by decide) rfl ?_
            refine s_goto (n := 28) hX (dec_of D_X9_claimant (i := 42) rfl) rfl ?_
            exact s_sub [0, 1, 2, 3, 4, 5] rfl (hre5 (z3.2.2, q8, (z3.2.2 + 1)))
          · refine s_aload_n 0 (n := 55) hX (dec_of D_X9_claimant (i := 28) rfl) rfl rfl rfl ?_
            refine s_iload 5 (n := 57) hX (dec_of D_X9_claimant (i := 29) rfl) rfl rfl ?_
            refine s_iload_n 1 (n := 58) hX (dec_of D_X9_claimant (i := 30) rfl) rfl rfl rfl ?_
            refine s_callVI (c := 9) (n := 61) hX cls9 (vk130 (by omega)) lk_RX9_392 (dec_of D_X9_claimant (i := 31) rfl) rfl (by decide) (c_X9_claimWorth (l := _) hG _ _ _) rfl rfl (Nat.le_of_ble_eq_true rfl) (fun q9 => ?_)
            refine s_iload 4 (n := 63) hX (dec_of D_X9_claimant (i := 32) rfl) rfl rfl ?_
            refine s_icmp_le (tgt := 78) (n := 66) hX (dec_of D_X9_claimant (i := 33) rfl) rfl rfl ?_ ?_
            · refine s_iinc (v := z3.2.2 + 1) (lv' := [(0, _), (1, _), (2, _), (3, _), (4, _), (5, _)]) 5 [1, 2, 3, 4, 5, 0] (n := 81) hX (dec_of D_X9_claimant (i := 41) rfl) rfl rfl rfl (by decide) rfl ?_
              refine s_goto (n := 28) hX (dec_of D_X9_claimant (i := 42) rfl) rfl ?_
              exact s_sub [0, 1, 2, 3, 4, 5] rfl (hre5 (z3.1, z3.2.1, (z3.2.2 + 1)))
            · refine s_iload 5 (n := 68) hX (dec_of D_X9_claimant (i := 34) rfl) rfl rfl ?_
              refine s_istore_n (lv' := [(0, _), (1, _), (2, _), (3, _), (4, _), (5, _)]) [1, 2, 3, 0, 4, 5] (n := 69) hX (dec_of D_X9_claimant (i := 35) rfl) rfl rfl (by decide) rfl ?_
              refine s_aload_n 0 (n := 70) hX (dec_of D_X9_claimant (i := 36) rfl) rfl rfl rfl ?_
              refine s_iload 5 (n := 72) hX (dec_of D_X9_claimant (i := 37) rfl) rfl rfl ?_
              refine s_iload_n 1 (n := 73) hX (dec_of D_X9_claimant (i := 38) rfl) rfl rfl rfl ?_
              refine s_callVI (c := 9) (n := 76) hX cls9 (vk130 (by omega)) lk_RX9_392 (dec_of D_X9_claimant (i := 39) rfl) rfl (by decide) (c_X9_claimWorth (l := _) hG _ _ _) rfl rfl (Nat.le_of_ble_eq_true rfl) (fun q10 => ?_)
              refine s_istore (lv' := [(0, _), (1, _), (2, _), (3, _), (4, _), (5, _)]) [1, 2, 3, 4, 0, 5] (n := 78) hX (dec_of D_X9_claimant (i := 40) rfl) rfl (by decide) rfl ?_
              refine s_iinc (v := z3.2.2 + 1) (lv' := [(0, _), (1, _), (2, _), (3, _), (4, _), (5, _)]) 5 [1, 2, 3, 4, 5, 0] (n := 81) hX (dec_of D_X9_claimant (i := 41) rfl) rfl rfl rfl (by decide) rfl ?_
              refine s_goto (n := 28) hX (dec_of D_X9_claimant (i := 42) rfl) rfl ?_
              exact s_sub [0, 1, 2, 3, 4, 5] rfl (hre5 (z3.2.2, q10, (z3.2.2 + 1)))
    · refine s_iconst (v := (-1)) (n := 17) hX (dec_of D_X9_claimant (i := 8) rfl) rfl (by decide) ?_
      exact s_iret hX hR (dec_of D_X9_claimant (i := 9) rfl) rfl
def T_X9_wouldPart : List (Nat × Instr × Nat) := [(0, .aload_n 0, 1), (1, .iload_n 2, 1), (2, .invokevirtual 148, 3), (5, .ifCond .ne 5, 3), (8, .iconst (-1), 1), (9, .ireturn, 1), (10, .aload_n 0, 1), (11, .iload_n 1, 1), (12, .invokevirtual 317, 3), (15, .istore_n 3, 1), (16, .iload_n 3, 1), (17, .ifCond .eq 5, 3), (20, .iload_n 3, 1), (21, .ireturn, 1), (22, .aload_n 0, 1), (23, .getfield 54, 3), (26, .aload_n 0, 1), (27, .getfield 61, 3), (30, .aload_n 0, 1), (31, .getfield 19, 3), (34, .iload_n 1, 1), (35, .invokevirtual 395, 3), (38, .aload_n 0, 1), (39, .getfield 54, 3), (42, .getfield 399, 3), (45, .iload_n 2, 1), (46, .iaload, 1), (47, .ireturn, 1)]
theorem D_X9_wouldPart : dchk cX9_wouldPart T_X9_wouldPart = true := by decide +kernel
def Rp_wouldPart (σ : ST) (a1 : Int32) (a2 : Int32) : Option (Int32 × ST) :=
  bd_ (Rp_isPlayer (σ) a2) (fun q1 => (if q1 = 0 then some ((-1), σ) else bd_ (Rp_partBar (σ) a1) (fun q2 => (if q2 = 0 then bd_ (ldQ σ 0) (fun rr3 => bd_ (Bs_reckon (σ) rr3 0 a1) (fun q4 => bd_ (ldI q4 8 0 a2) (fun v5 => some (v5, q4)))) else some (q2, σ)))))
set_option maxHeartbeats 4000000 in
set_option maxRecDepth 100000 in
theorem c_X9_wouldPart {G : GW} (hG : Good G) {l : Launch} (σ : ST) (a1 : Int32) (a2 : Int32) : Ctr G l yX9_wouldPart cX9_wouldPart 4 (some .int) 2 [.ref (ga G 130 0), .int a1, .int a2] σ oP (Rp_wouldPart σ a1 a2) := by
  refine ctr_of hG (by decide) (Nat.le_of_ble_eq_true rfl) ?_
  intro X hXl hR hX
  have hX : Ok G X cX9_wouldPart 4 RX9 2 := hX
  unfold Rp_wouldPart
  show Sim G X 4 (MQX G X oP) σ 0 [(0, .ref (ga G 130 0)), (1, .int a1), (2, .int a2)] [] _
  refine s_aload_n 0 (n := 1) hX (dec_of D_X9_wouldPart (i := 0) rfl) rfl rfl rfl ?_
  refine s_iload_n 2 (n := 2) hX (dec_of D_X9_wouldPart (i := 1) rfl) rfl rfl rfl ?_
  refine s_callVI (c := 9) (n := 5) hX cls9 (vk130 (by omega)) lk_RX9_148 (dec_of D_X9_wouldPart (i := 2) rfl) rfl (by decide) (c_X9_isPlayer (l := _) hG _ _) rfl rfl (Nat.le_of_ble_eq_true rfl) (fun q1 => ?_)
  refine s_if_ne (tgt := 10) (n := 8) hX (dec_of D_X9_wouldPart (i := 3) rfl) rfl rfl ?_ ?_
  · refine s_aload_n 0 (n := 11) hX (dec_of D_X9_wouldPart (i := 6) rfl) rfl rfl rfl ?_
    refine s_iload_n 1 (n := 12) hX (dec_of D_X9_wouldPart (i := 7) rfl) rfl rfl rfl ?_
    refine s_callVI (c := 9) (n := 15) hX cls9 (vk130 (by omega)) lk_RX9_317 (dec_of D_X9_wouldPart (i := 8) rfl) rfl (by decide) (c_X9_partBar (l := _) hG _ _) rfl rfl (Nat.le_of_ble_eq_true rfl) (fun q2 => ?_)
    refine s_istore_n (lv' := [(0, _), (1, _), (2, _), (3, _)]) [1, 2, 3, 0] (n := 16) hX (dec_of D_X9_wouldPart (i := 9) rfl) rfl rfl (by decide) rfl ?_
    refine s_iload_n 3 (n := 17) hX (dec_of D_X9_wouldPart (i := 10) rfl) rfl rfl rfl ?_
    refine s_if_eq (tgt := 22) (n := 20) hX (dec_of D_X9_wouldPart (i := 11) rfl) rfl rfl ?_ ?_
    · refine s_aload_n 0 (n := 23) hX (dec_of D_X9_wouldPart (i := 14) rfl) rfl rfl rfl ?_
      refine s_getC (c := 9) (p := 6) (n := 26) 122 0 hX cls9 (vk130 (by omega)) (dec_of D_X9_wouldPart (i := 15) rfl) rfl rfl (by decide) wd_447 ?_
      refine s_aload_n 0 (n := 27) hX (dec_of D_X9_wouldPart (i := 16) rfl) rfl rfl rfl ?_
      refine s_getQ (c := 9) (p := 7) (j := 0) (n := 30) hX cls9 (vk130 (by omega)) (dec_of D_X9_wouldPart (i := 17) rfl) rfl rfl wd_448 (fun rr3 hrr3 => ?_)
      refine s_aload_n 0 (n := 31) hX (dec_of D_X9_wouldPart (i := 18) rfl) rfl rfl rfl ?_
      refine s_getC (c := 9) (p := 1) (n := 34) 121 0 hX cls9 (vk130 (by omega)) (dec_of D_X9_wouldPart (i := 19) rfl) rfl rfl (by decide) wd_442 ?_
      refine s_iload_n 1 (n := 35) hX (dec_of D_X9_wouldPart (i := 20) rfl) rfl rfl rfl ?_
      refine s_callVV (c := 1) (n := 38) hX cls1 (vk122 (by omega)) lk_RX9_395 (dec_of D_X9_wouldPart (i := 21) rfl) rfl (by decide) (c_X1_reckon (l := _) hG _ _ (by omega) _ (by omega) _) rfl rfl (Nat.le_of_ble_eq_true rfl) (fun q4 => ?_)
      refine s_aload_n 0 (n := 39) hX (dec_of D_X9_wouldPart (i := 22) rfl) rfl rfl rfl ?_
      refine s_getC (c := 9) (p := 6) (n := 42) 122 0 hX cls9 (vk130 (by omega)) (dec_of D_X9_wouldPart (i := 23) rfl) rfl rfl (by decide) wd_447 ?_
      refine s_getR (c := 1) (p := 0) (k' := 8) (n := 45) hX cls1 (vk122 (by omega)) (dec_of D_X9_wouldPart (i := 24) rfl) rfl rfl wd_340 ?_
      refine s_iload_n 2 (n := 46) hX (dec_of D_X9_wouldPart (i := 25) rfl) rfl rfl rfl ?_
      refine s_iald (n := 47) hX (vk8 (by omega)) (by decide) (dec_of D_X9_wouldPart (i := 26) rfl) rfl (fun v5 => ?_)
      exact s_iret hX hR (dec_of D_X9_wouldPart (i := 27) rfl) rfl
    · refine s_iload_n 3 (n := 21) hX (dec_of D_X9_wouldPart (i := 12) rfl) rfl rfl rfl ?_
      exact s_iret hX hR (dec_of D_X9_wouldPart (i := 13) rfl) rfl
  · refine s_iconst (v := (-1)) (n := 9) hX (dec_of D_X9_wouldPart (i := 4) rfl) rfl (by decide) ?_
    exact s_iret hX hR (dec_of D_X9_wouldPart (i := 5) rfl) rfl
theorem lk_RX9_402 : LkV RX9 402 RX3 yX3_paidToOne cX3_paidToOne 4 (some .int) 1 := ⟨wd_1154, wd_1155, wd_1156, wd_89, wd_1157, by decide +kernel, by decide⟩
def T_X9_gain : List (Nat × Instr × Nat) := [(0, .aload_n 0, 1), (1, .iload_n 1, 1), (2, .invokevirtual 148, 3), (5, .ifCond .eq 24, 3), (8, .aload_n 0, 1), (9, .iload_n 2, 1), (10, .iload_n 3, 1), (11, .iload 4, 2), (13, .invokevirtual 286, 3), (16, .ifCond .eq 13, 3), (19, .iload 5, 2), (21, .iload 6, 2), (23, .invokestatic 267, 3), (26, .ifCond .ne 7, 3), (29, .ldc_w 364, 3), (32, .ireturn, 1), (33, .aload_n 0, 1), (34, .getfield 40, 3), (37, .aload_n 0, 1), (38, .getfield 61, 3), (41, .aload_n 0, 1), (42, .getfield 19, 3), (45, .getfield 113, 3), (48, .iload_n 2, 1), (49, .iload_n 3, 1), (50, .iload 4, 2), (52, .invokevirtual 278, 3), (55, .aload_n 0, 1), (56, .getfield 40, 3), (59, .iload_n 1, 1), (60, .invokevirtual 402, 3), (63, .istore 7, 2), (65, .aload_n 0, 1), (66, .getfield 33, 3), (69, .aload_n 0, 1), (70, .getfield 19, 3), (73, .getfield 113, 3), (76, .invokevirtual 270, 3), (79, .aload_n 0, 1), (80, .getfield 33, 3), (83, .iload_n 2, 1), (84, .iload 5, 2), (86, .iload 6, 2), (88, .invokevirtual 274, 3), (91, .aload_n 0, 1), (92, .getfield 40, 3), (95, .aload_n 0, 1), (96, .getfield 61, 3), (99, .aload_n 0, 1), (100, .getfield 33, 3), (103, .iload_n 2, 1), (104, .iload_n 3, 1), (105, .iload 4, 2), (107, .invokevirtual 278, 3), (110, .aload_n 0, 1), (111, .getfield 40, 3), (114, .iload_n 1, 1), (115, .invokevirtual 402, 3), (118, .iload 7, 2), (120, .isub, 1), (121, .ireturn, 1)]
theorem D_X9_gain : dchk cX9_gain T_X9_gain = true := by decide +kernel
def Rp_gain (σ : ST) (a1 : Int32) (a2 : Int32) (a3 : Int32) (a4 : Int32) (a5 : Int32) (a6 : Int32) : Option (Int32 × ST) :=
  bd_ (Rp_isPlayer (σ) a1) (fun q1 => (if q1 = 0 then some ((-1000000000), σ) else bd_ (Rp_isPlay (σ) a2 a3 a4) (fun q2 => (if q2 = 0 then some ((-1000000000), σ) else bd_ (Rp_areTerms (σ) a5 a6) (fun q3 => (if q3 = 0 then some ((-1000000000), σ) else bd_ (ldQ σ 0) (fun rr4 => bd_ (Oc_think (σ) 0 rr4 0 a2 a3 a4) (fun q5 => bd_ (Oc_paidToOne q5 0 a1) (fun q6 => bd_ (Wo_copyFrom q5 13 0) (fun q7 => bd_ (Wo_setTerms q7 13 a2 a5 a6) (fun q8 => bd_ (ldQ q8 0) (fun rr9 => bd_ (Oc_think q8 0 rr9 13 a2 a3 a4) (fun q10 => bd_ (Oc_paidToOne q10 0 a1) (fun q11 => some ((q11 - q6), q10)))))))))))))))
set_option maxHeartbeats 4000000 in
set_option maxRecDepth 100000 in
theorem c_X9_gain {G : GW} (hG : Good G) {l : Launch} (σ : ST) (a1 : Int32) (a2 : Int32) (a3 : Int32) (a4 : Int32) (a5 : Int32) (a6 : Int32) : Ctr G l yX9_gain cX9_gain 8 (some .int) 4 [.ref (ga G 130 0), .int a1, .int a2, .int a3, .int a4, .int a5, .int a6] σ oP (Rp_gain σ a1 a2 a3 a4 a5 a6) := by
  refine ctr_of hG (by decide) (Nat.le_of_ble_eq_true rfl) ?_
  intro X hXl hR hX
  have hX : Ok G X cX9_gain 8 RX9 4 := hX
  unfold Rp_gain
  show Sim G X 8 (MQX G X oP) σ 0 [(0, .ref (ga G 130 0)), (1, .int a1), (2, .int a2), (3, .int a3), (4, .int a4), (5, .int a5), (6, .int a6)] [] _
  refine s_aload_n 0 (n := 1) hX (dec_of D_X9_gain (i := 0) rfl) rfl rfl rfl ?_
  refine s_iload_n 1 (n := 2) hX (dec_of D_X9_gain (i := 1) rfl) rfl rfl rfl ?_
  refine s_callVI (c := 9) (n := 5) hX cls9 (vk130 (by omega)) lk_RX9_148 (dec_of D_X9_gain (i := 2) rfl) rfl (by decide) (c_X9_isPlayer (l := _) hG _ _) rfl rfl (Nat.le_of_ble_eq_true rfl) (fun q1 => ?_)
  refine s_if_eq (tgt := 29) (n := 8) hX (dec_of D_X9_gain (i := 3) rfl) rfl rfl ?_ ?_
  · refine s_ldcw (v := (-1000000000)) (n := 32) hX (dec_of D_X9_gain (i := 14) rfl) rfl wd_1061 ?_
    exact s_iret hX hR (dec_of D_X9_gain (i := 15) rfl) rfl
  · refine s_aload_n 0 (n := 9) hX (dec_of D_X9_gain (i := 4) rfl) rfl rfl rfl ?_
    refine s_iload_n 2 (n := 10) hX (dec_of D_X9_gain (i := 5) rfl) rfl rfl rfl ?_
    refine s_iload_n 3 (n := 11) hX (dec_of D_X9_gain (i := 6) rfl) rfl rfl rfl ?_
    refine s_iload 4 (n := 13) hX (dec_of D_X9_gain (i := 7) rfl) rfl rfl ?_
    refine s_callVI (c := 9) (n := 16) hX cls9 (vk130 (by omega)) lk_RX9_286 (dec_of D_X9_gain (i := 8) rfl) rfl (by decide) (c_X9_isPlay (l := _) hG _ _ _ _) rfl rfl (Nat.le_of_ble_eq_true rfl) (fun q2 => ?_)
    refine s_if_eq (tgt := 29) (n := 19) hX (dec_of D_X9_gain (i := 9) rfl) rfl rfl ?_ ?_
    · refine s_ldcw (v := (-1000000000)) (n := 32) hX (dec_of D_X9_gain (i := 14) rfl) rfl wd_1061 ?_
      exact s_iret hX hR (dec_of D_X9_gain (i := 15) rfl) rfl
    · refine s_iload 5 (n := 21) hX (dec_of D_X9_gain (i := 10) rfl) rfl rfl ?_
      refine s_iload 6 (n := 23) hX (dec_of D_X9_gain (i := 11) rfl) rfl rfl ?_
      refine s_callSI (n := 26) hX lk_RX9_267 (dec_of D_X9_gain (i := 12) rfl) rfl (by decide) (c_X9_areTerms (l := _) hG _ _ _) rfl rfl (Nat.le_of_ble_eq_true rfl) (fun q3 => ?_)
      refine s_if_ne (tgt := 33) (n := 29) hX (dec_of D_X9_gain (i := 13) rfl) rfl rfl ?_ ?_
      · refine s_aload_n 0 (n := 34) hX (dec_of D_X9_gain (i := 16) rfl) rfl rfl rfl ?_
        refine s_getC (c := 9) (p := 4) (n := 37) 124 0 hX cls9 (vk130 (by omega)) (dec_of D_X9_gain (i := 17) rfl) rfl rfl (by decide) wd_445 ?_
        refine s_aload_n 0 (n := 38) hX (dec_of D_X9_gain (i := 18) rfl) rfl rfl rfl ?_
        refine s_getQ (c := 9) (p := 7) (j := 0) (n := 41) hX cls9 (vk130 (by omega)) (dec_of D_X9_gain (i := 19) rfl) rfl rfl wd_448 (fun rr4 hrr4 => ?_)
        refine s_aload_n 0 (n := 42) hX (dec_of D_X9_gain (i := 20) rfl) rfl rfl rfl ?_
        refine s_getC (c := 9) (p := 1) (n := 45) 121 0 hX cls9 (vk130 (by omega)) (dec_of D_X9_gain (i := 21) rfl) rfl rfl (by decide) wd_442 ?_
        refine s_getR (c := 0) (p := 0) (k' := 129) (n := 48) hX cls0 (vk121 (by omega)) (dec_of D_X9_gain (i := 22) rfl) rfl rfl wd_219 ?_
        refine s_iload_n 2 (n := 49) hX (dec_of D_X9_gain (i := 23) rfl) rfl rfl rfl ?_
        refine s_iload_n 3 (n := 50) hX (dec_of D_X9_gain (i := 24) rfl) rfl rfl rfl ?_
        refine s_iload 4 (n := 52) hX (dec_of D_X9_gain (i := 25) rfl) rfl rfl ?_
        refine s_callVV (c := 3) (n := 55) hX cls3 (vk124 (by omega)) lk_RX9_278 (dec_of D_X9_gain (i := 26) rfl) rfl (by decide) (c_X3_think (l := _) hG _ _ (by omega) _ (by omega) _ (by omega) _ _ _) rfl rfl (Nat.le_of_ble_eq_true rfl) (fun q5 => ?_)
        refine s_aload_n 0 (n := 56) hX (dec_of D_X9_gain (i := 27) rfl) rfl rfl rfl ?_
        refine s_getC (c := 9) (p := 4) (n := 59) 124 0 hX cls9 (vk130 (by omega)) (dec_of D_X9_gain (i := 28) rfl) rfl rfl (by decide) wd_445 ?_
        refine s_iload_n 1 (n := 60) hX (dec_of D_X9_gain (i := 29) rfl) rfl rfl rfl ?_
        refine s_callVI (c := 3) (n := 63) hX cls3 (vk124 (by omega)) lk_RX9_402 (dec_of D_X9_gain (i := 30) rfl) rfl (by decide) (c_X3_paidToOne (l := _) hG _ _ (by omega) _) rfl rfl (Nat.le_of_ble_eq_true rfl) (fun q6 => ?_)
        refine s_istore (lv' := [(0, _), (1, _), (2, _), (3, _), (4, _), (5, _), (6, _), (7, _)]) [1, 2, 3, 4, 5, 6, 7, 0] (n := 65) hX (dec_of D_X9_gain (i := 31) rfl) rfl (by decide) rfl ?_
        refine s_aload_n 0 (n := 66) hX (dec_of D_X9_gain (i := 32) rfl) rfl rfl rfl ?_
        refine s_getC (c := 9) (p := 3) (n := 69) 129 13 hX cls9 (vk130 (by omega)) (dec_of D_X9_gain (i := 33) rfl) rfl rfl (by decide) wd_444 ?_
        refine s_aload_n 0 (n := 70) hX (dec_of D_X9_gain (i := 34) rfl) rfl rfl rfl ?_
        refine s_getC (c := 9) (p := 1) (n := 73) 121 0 hX cls9 (vk130 (by omega)) (dec_of D_X9_gain (i := 35) rfl) rfl rfl (by decide) wd_442 ?_
        refine s_getR (c := 0) (p := 0) (k' := 129) (n := 76) hX cls0 (vk121 (by omega)) (dec_of D_X9_gain (i := 36) rfl) rfl rfl wd_219 ?_
        refine s_callVV (c := 8) (n := 79) hX cls8 (vk129 (by omega)) lk_RX9_270 (dec_of D_X9_gain (i := 37) rfl) rfl (by decide) (c_X8_copyFrom (l := _) hG _ _ (by omega) _ (by omega)) rfl rfl (Nat.le_of_ble_eq_true rfl) (fun q7 => ?_)
        refine s_aload_n 0 (n := 80) hX (dec_of D_X9_gain (i := 38) rfl) rfl rfl rfl ?_
        refine s_getC (c := 9) (p := 3) (n := 83) 129 13 hX cls9 (vk130 (by omega)) (dec_of D_X9_gain (i := 39) rfl) rfl rfl (by decide) wd_444 ?_
        refine s_iload_n 2 (n := 84) hX (dec_of D_X9_gain (i := 40) rfl) rfl rfl rfl ?_
        refine s_iload 5 (n := 86) hX (dec_of D_X9_gain (i := 41) rfl) rfl rfl ?_
        refine s_iload 6 (n := 88) hX (dec_of D_X9_gain (i := 42) rfl) rfl rfl ?_
        refine s_callVV (c := 8) (n := 91) hX cls8 (vk129 (by omega)) lk_RX9_274 (dec_of D_X9_gain (i := 43) rfl) rfl (by decide) (c_X8_setTerms (l := _) hG _ _ (by omega) _ _ _) rfl rfl (Nat.le_of_ble_eq_true rfl) (fun q8 => ?_)
        refine s_aload_n 0 (n := 92) hX (dec_of D_X9_gain (i := 44) rfl) rfl rfl rfl ?_
        refine s_getC (c := 9) (p := 4) (n := 95) 124 0 hX cls9 (vk130 (by omega)) (dec_of D_X9_gain (i := 45) rfl) rfl rfl (by decide) wd_445 ?_
        refine s_aload_n 0 (n := 96) hX (dec_of D_X9_gain (i := 46) rfl) rfl rfl rfl ?_
        refine s_getQ (c := 9) (p := 7) (j := 0) (n := 99) hX cls9 (vk130 (by omega)) (dec_of D_X9_gain (i := 47) rfl) rfl rfl wd_448 (fun rr9 hrr9 => ?_)
        refine s_aload_n 0 (n := 100) hX (dec_of D_X9_gain (i := 48) rfl) rfl rfl rfl ?_
        refine s_getC (c := 9) (p := 3) (n := 103) 129 13 hX cls9 (vk130 (by omega)) (dec_of D_X9_gain (i := 49) rfl) rfl rfl (by decide) wd_444 ?_
        refine s_iload_n 2 (n := 104) hX (dec_of D_X9_gain (i := 50) rfl) rfl rfl rfl ?_
        refine s_iload_n 3 (n := 105) hX (dec_of D_X9_gain (i := 51) rfl) rfl rfl rfl ?_
        refine s_iload 4 (n := 107) hX (dec_of D_X9_gain (i := 52) rfl) rfl rfl ?_
        refine s_callVV (c := 3) (n := 110) hX cls3 (vk124 (by omega)) lk_RX9_278 (dec_of D_X9_gain (i := 53) rfl) rfl (by decide) (c_X3_think (l := _) hG _ _ (by omega) _ (by omega) _ (by omega) _ _ _) rfl rfl (Nat.le_of_ble_eq_true rfl) (fun q10 => ?_)
        refine s_aload_n 0 (n := 111) hX (dec_of D_X9_gain (i := 54) rfl) rfl rfl rfl ?_
        refine s_getC (c := 9) (p := 4) (n := 114) 124 0 hX cls9 (vk130 (by omega)) (dec_of D_X9_gain (i := 55) rfl) rfl rfl (by decide) wd_445 ?_
        refine s_iload_n 1 (n := 115) hX (dec_of D_X9_gain (i := 56) rfl) rfl rfl rfl ?_
        refine s_callVI (c := 3) (n := 118) hX cls3 (vk124 (by omega)) lk_RX9_402 (dec_of D_X9_gain (i := 57) rfl) rfl (by decide) (c_X3_paidToOne (l := _) hG _ _ (by omega) _) rfl rfl (Nat.le_of_ble_eq_true rfl) (fun q11 => ?_)
        refine s_iload 7 (n := 120) hX (dec_of D_X9_gain (i := 58) rfl) rfl rfl ?_
        refine s_isub (n := 121) hX (dec_of D_X9_gain (i := 59) rfl) rfl ?_
        exact s_iret hX hR (dec_of D_X9_gain (i := 60) rfl) rfl
      · refine s_ldcw (v := (-1000000000)) (n := 32) hX (dec_of D_X9_gain (i := 14) rfl) rfl wd_1061 ?_
        exact s_iret hX hR (dec_of D_X9_gain (i := 15) rfl) rfl
def T_X9_bestLand : List (Nat × Instr × Nat) := [(0, .aload_n 0, 1), (1, .iload_n 1, 1), (2, .invokevirtual 148, 3), (5, .ifCond .eq 27, 3), (8, .aload_n 0, 1), (9, .iload_n 2, 1), (10, .invokevirtual 174, 3), (13, .ifCond .eq 19, 3), (16, .iload_n 3, 1), (17, .invokestatic 405, 3), (20, .ifCond .eq 12, 3), (23, .iload 4, 2), (25, .iconst 2, 1), (26, .invokestatic 207, 3), (29, .ifCond .ne 5, 3), (32, .iconst (-1), 1), (33, .ireturn, 1), (34, .bipush (-2), 2), (36, .istore 5, 2), (38, .bipush (-2), 2), (40, .istore 6, 2), (42, .iconst 0, 1), (43, .istore 7, 2), (45, .iload 7, 2), (47, .aload_n 0, 1), (48, .getfield 61, 3), (51, .getfield 229, 3), (54, .if_icmp .ge 63, 3), (57, .aload_n 0, 1), (58, .getfield 40, 3), (61, .aload_n 0, 1), (62, .getfield 61, 3), (65, .aload_n 0, 1), (66, .getfield 19, 3), (69, .getfield 113, 3), (72, .iload 7, 2), (74, .iload_n 2, 1), (75, .iload_n 3, 1), (76, .invokevirtual 278, 3), (79, .iload 5, 2), (81, .ifCond .lt 16, 3), (84, .aload_n 0, 1), (85, .getfield 40, 3), (88, .iload_n 1, 1), (89, .invokevirtual 402, 3), (92, .iload 6, 2), (94, .if_icmp .le 17, 3), (97, .iload 7, 2), (99, .istore 5, 2), (101, .aload_n 0, 1), (102, .getfield 40, 3), (105, .iload_n 1, 1), (106, .invokevirtual 402, 3), (109, .istore 6, 2), (111, .iinc 7 1, 3), (114, .goto (-69), 3), (117, .iload 4, 2), (119, .ifCond .ne 8, 3), (122, .iload 5, 2), (124, .goto 5, 3), (127, .iload 6, 2), (129, .ireturn, 1)]
theorem D_X9_bestLand : dchk cX9_bestLand T_X9_bestLand = true := by decide +kernel
def Rp_bestLand (σ : ST) (a1 : Int32) (a2 : Int32) (a3 : Int32) (a4 : Int32) : Option (Int32 × ST) :=
  bd_ (Rp_isPlayer (σ) a1) (fun q1 => (if q1 = 0 then some ((-1), σ) else bd_ (Rp_isSession (σ) a2) (fun q2 => (if q2 = 0 then some ((-1), σ) else bd_ (Rp_isCopies (σ) a3) (fun q3 => (if q3 = 0 then some ((-1), σ) else bd_ (Rp_isChoice (σ) a4 2) (fun q4 => (if q4 = 0 then some ((-1), σ) else lp_ (fun rec6 (z5 : ST × Int32 × Int32 × Int32) => bd_ (ldQ z5.1 0) (fun rr8 => (if (gF z5.1 529 rr8) ≤ z5.2.2.2 then (if a4 = 0 then some (z5.2.1, z5.1) else some (z5.2.2.1, z5.1)) else bd_ (ldQ z5.1 0) (fun rr9 => bd_ (Oc_think z5.1 0 rr9 0 z5.2.2.2 a2 a3) (fun q10 => (if z5.2.1 < 0 then bd_ (Oc_paidToOne q10 0 a1) (fun q11 => rec6 (q10, z5.2.2.2, q11, (z5.2.2.2 + 1))) else bd_ (Oc_paidToOne q10 0 a1) (fun q12 => (if q12 ≤ z5.2.2.1 then rec6 (q10, z5.2.1, z5.2.2.1, (z5.2.2.2 + 1)) else bd_ (Oc_paidToOne q10 0 a1) (fun q13 => rec6 (q10, z5.2.2.2, q13, (z5.2.2.2 + 1))))))))))) FU (σ, (-2), (-2), 0)))))))))
set_option maxHeartbeats 4000000 in
set_option maxRecDepth 100000 in
theorem c_X9_bestLand {G : GW} (hG : Good G) {l : Launch} (σ : ST) (a1 : Int32) (a2 : Int32) (a3 : Int32) (a4 : Int32) : Ctr G l yX9_bestLand cX9_bestLand 8 (some .int) 4 [.ref (ga G 130 0), .int a1, .int a2, .int a3, .int a4] σ oP (Rp_bestLand σ a1 a2 a3 a4) := by
  refine ctr_of hG (by decide) (Nat.le_of_ble_eq_true rfl) ?_
  intro X hXl hR hX
  have hX : Ok G X cX9_bestLand 8 RX9 4 := hX
  unfold Rp_bestLand
  show Sim G X 8 (MQX G X oP) σ 0 [(0, .ref (ga G 130 0)), (1, .int a1), (2, .int a2), (3, .int a3), (4, .int a4)] [] _
  refine s_aload_n 0 (n := 1) hX (dec_of D_X9_bestLand (i := 0) rfl) rfl rfl rfl ?_
  refine s_iload_n 1 (n := 2) hX (dec_of D_X9_bestLand (i := 1) rfl) rfl rfl rfl ?_
  refine s_callVI (c := 9) (n := 5) hX cls9 (vk130 (by omega)) lk_RX9_148 (dec_of D_X9_bestLand (i := 2) rfl) rfl (by decide) (c_X9_isPlayer (l := _) hG _ _) rfl rfl (Nat.le_of_ble_eq_true rfl) (fun q1 => ?_)
  refine s_if_eq (tgt := 32) (n := 8) hX (dec_of D_X9_bestLand (i := 3) rfl) rfl rfl ?_ ?_
  · refine s_iconst (v := (-1)) (n := 33) hX (dec_of D_X9_bestLand (i := 15) rfl) rfl (by decide) ?_
    exact s_iret hX hR (dec_of D_X9_bestLand (i := 16) rfl) rfl
  · refine s_aload_n 0 (n := 9) hX (dec_of D_X9_bestLand (i := 4) rfl) rfl rfl rfl ?_
    refine s_iload_n 2 (n := 10) hX (dec_of D_X9_bestLand (i := 5) rfl) rfl rfl rfl ?_
    refine s_callVI (c := 9) (n := 13) hX cls9 (vk130 (by omega)) lk_RX9_174 (dec_of D_X9_bestLand (i := 6) rfl) rfl (by decide) (c_X9_isSession (l := _) hG _ _) rfl rfl (Nat.le_of_ble_eq_true rfl) (fun q2 => ?_)
    refine s_if_eq (tgt := 32) (n := 16) hX (dec_of D_X9_bestLand (i := 7) rfl) rfl rfl ?_ ?_
    · refine s_iconst (v := (-1)) (n := 33) hX (dec_of D_X9_bestLand (i := 15) rfl) rfl (by decide) ?_
      exact s_iret hX hR (dec_of D_X9_bestLand (i := 16) rfl) rfl
    · refine s_iload_n 3 (n := 17) hX (dec_of D_X9_bestLand (i := 8) rfl) rfl rfl rfl ?_
      refine s_callSI (n := 20) hX lk_RX9_405 (dec_of D_X9_bestLand (i := 9) rfl) rfl (by decide) (c_X9_isCopies (l := _) hG _ _) rfl rfl (Nat.le_of_ble_eq_true rfl) (fun q3 => ?_)
      refine s_if_eq (tgt := 32) (n := 23) hX (dec_of D_X9_bestLand (i := 10) rfl) rfl rfl ?_ ?_
      · refine s_iconst (v := (-1)) (n := 33) hX (dec_of D_X9_bestLand (i := 15) rfl) rfl (by decide) ?_
        exact s_iret hX hR (dec_of D_X9_bestLand (i := 16) rfl) rfl
      · refine s_iload 4 (n := 25) hX (dec_of D_X9_bestLand (i := 11) rfl) rfl rfl ?_
        refine s_iconst (v := 2) (n := 26) hX (dec_of D_X9_bestLand (i := 12) rfl) rfl (by decide) ?_
        refine s_callSI (n := 29) hX lk_RX9_207 (dec_of D_X9_bestLand (i := 13) rfl) rfl (by decide) (c_X9_isChoice (l := _) hG _ _ _) rfl rfl (Nat.le_of_ble_eq_true rfl) (fun q4 => ?_)
        refine s_if_ne (tgt := 34) (n := 32) hX (dec_of D_X9_bestLand (i := 14) rfl) rfl rfl ?_ ?_
        · refine s_bipush (v := (-2)) (n := 36) hX (dec_of D_X9_bestLand (i := 17) rfl) rfl (by decide) ?_
          refine s_istore (lv' := [(0, _), (1, _), (2, _), (3, _), (4, _), (5, _)]) [1, 2, 3, 4, 5, 0] (n := 38) hX (dec_of D_X9_bestLand (i := 18) rfl) rfl (by decide) rfl ?_
          refine s_bipush (v := (-2)) (n := 40) hX (dec_of D_X9_bestLand (i := 19) rfl) rfl (by decide) ?_
          refine s_istore (lv' := [(0, _), (1, _), (2, _), (3, _), (4, _), (5, _), (6, _)]) [1, 2, 3, 4, 5, 6, 0] (n := 42) hX (dec_of D_X9_bestLand (i := 20) rfl) rfl (by decide) rfl ?_
          refine s_iconst (v := 0) (n := 43) hX (dec_of D_X9_bestLand (i := 21) rfl) rfl (by decide) ?_
          refine s_istore (lv' := [(0, _), (1, _), (2, _), (3, _), (4, _), (5, _), (6, _), (7, _)]) [1, 2, 3, 4, 5, 6, 7, 0] (n := 45) hX (dec_of D_X9_bestLand (i := 22) rfl) rfl (by decide) rfl ?_
          refine s_sub [0, 1, 2, 3, 4, 5, 6, 7] rfl (s_lp (pc := 45) (Sf := fun (z5 : ST × Int32 × Int32 × Int32) => z5.1) (lvf := fun (z5 : ST × Int32 × Int32 × Int32) => [(0, .ref (ga G 130 0)), (1, .int a1), (2, .int a2), (3, .int a3), (4, .int a4), (5, .int z5.2.1), (6, .int z5.2.2.1), (7, .int z5.2.2.2)]) (fun rec6 hre7 z5 => ?_) FU (σ, (-2), (-2), 0))
          refine s_iload 7 (n := 47) hX (dec_of D_X9_bestLand (i := 23) rfl) rfl rfl ?_
          refine s_aload_n 0 (n := 48) hX (dec_of D_X9_bestLand (i := 24) rfl) rfl rfl rfl ?_
          refine s_getQ (c := 9) (p := 7) (j := 0) (n := 51) hX cls9 (vk130 (by omega)) (dec_of D_X9_bestLand (i := 25) rfl) rfl rfl wd_448 (fun rr8 hrr8 => ?_)
          refine s_getI (c := 5) (p := 9) (id := 529) (n := 54) hX cls5 (vk126 (by omega)) (dec_of D_X9_bestLand (i := 26) rfl) rfl rfl wd_392 ?_
          refine s_icmp_ge (tgt := 117) (n := 57) hX (dec_of D_X9_bestLand (i := 27) rfl) rfl rfl ?_ ?_
          · refine s_iload 4 (n := 119) hX (dec_of D_X9_bestLand (i := 56) rfl) rfl rfl ?_
            refine s_if_ne (tgt := 127) (n := 122) hX (dec_of D_X9_bestLand (i := 57) rfl) rfl rfl ?_ ?_
            · refine s_iload 6 (n := 129) hX (dec_of D_X9_bestLand (i := 60) rfl) rfl rfl ?_
              exact s_iret hX hR (dec_of D_X9_bestLand (i := 61) rfl) rfl
            · refine s_iload 5 (n := 124) hX (dec_of D_X9_bestLand (i := 58) rfl) rfl rfl ?_
              refine s_goto (n := 129) hX (dec_of D_X9_bestLand (i := 59) rfl) rfl ?_
              exact s_iret hX hR (dec_of D_X9_bestLand (i := 61) rfl) rfl
          · refine s_aload_n 0 (n := 58) hX (dec_of D_X9_bestLand (i := 28) rfl) rfl rfl rfl ?_
            refine s_getC (c := 9) (p := 4) (n := 61) 124 0 hX cls9 (vk130 (by omega)) (dec_of D_X9_bestLand (i := 29) rfl) rfl rfl (by decide) wd_445 ?_
            refine s_aload_n 0 (n := 62) hX (dec_of D_X9_bestLand (i := 30) rfl) rfl rfl rfl ?_
            refine s_getQ (c := 9) (p := 7) (j := 0) (n := 65) hX cls9 (vk130 (by omega)) (dec_of D_X9_bestLand (i := 31) rfl) rfl rfl wd_448 (fun rr9 hrr9 => ?_)
            refine s_aload_n 0 (n := 66) hX (dec_of D_X9_bestLand (i := 32) rfl) rfl rfl rfl ?_
            refine s_getC (c := 9) (p := 1) (n := 69) 121 0 hX cls9 (vk130 (by omega)) (dec_of D_X9_bestLand (i := 33) rfl) rfl rfl (by decide) wd_442 ?_
            refine s_getR (c := 0) (p := 0) (k' := 129) (n := 72) hX cls0 (vk121 (by omega)) (dec_of D_X9_bestLand (i := 34) rfl) rfl rfl wd_219 ?_
            refine s_iload 7 (n := 74) hX (dec_of D_X9_bestLand (i := 35) rfl) rfl rfl ?_
            refine s_iload_n 2 (n := 75) hX (dec_of D_X9_bestLand (i := 36) rfl) rfl rfl rfl ?_
            refine s_iload_n 3 (n := 76) hX (dec_of D_X9_bestLand (i := 37) rfl) rfl rfl rfl ?_
            refine s_callVV (c := 3) (n := 79) hX cls3 (vk124 (by omega)) lk_RX9_278 (dec_of D_X9_bestLand (i := 38) rfl) rfl (by decide) (c_X3_think (l := _) hG _ _ (by omega) _ (by omega) _ (by omega) _ _ _) rfl rfl (Nat.le_of_ble_eq_true rfl) (fun q10 => ?_)
            refine s_iload 5 (n := 81) hX (dec_of D_X9_bestLand (i := 39) rfl) rfl rfl ?_
            refine s_if_lt (tgt := 97) (n := 84) hX (dec_of D_X9_bestLand (i := 40) rfl) rfl rfl ?_ ?_
            · refine s_iload 7 (n := 99) hX (dec_of D_X9_bestLand (i := 47) rfl) rfl rfl ?_
              refine s_istore (lv' := [(0, _), (1, _), (2, _), (3, _), (4, _), (5, _), (6, _), (7, _)]) [1, 2, 3, 4, 5, 0, 6, 7] (n := 101) hX (dec_of D_X9_bestLand (i := 48) rfl) rfl (by decide) rfl ?_
              refine s_aload_n 0 (n := 102) hX (dec_of D_X9_bestLand (i := 49) rfl) rfl rfl rfl ?_
              refine s_getC (c := 9) (p := 4) (n := 105) 124 0 hX cls9 (vk130 (by omega)) (dec_of D_X9_bestLand (i := 50) rfl) rfl rfl (by decide) wd_445 ?_
              refine s_iload_n 1 (n := 106) hX (dec_of D_X9_bestLand (i := 51) rfl) rfl rfl rfl ?_
              refine s_callVI (c := 3) (n := 109) hX cls3 (vk124 (by omega)) lk_RX9_402 (dec_of D_X9_bestLand (i := 52) rfl) rfl (by decide) (c_X3_paidToOne (l := _) hG _ _ (by omega) _) rfl rfl (Nat.le_of_ble_eq_true rfl) (fun q11 => ?_)
              refine s_istore (lv' := [(0, _), (1, _), (2, _), (3, _), (4, _), (5, _), (6, _), (7, _)]) [1, 2, 3, 4, 5, 6, 0, 7] (n := 111) hX (dec_of D_X9_bestLand (i := 53) rfl) rfl (by decide) rfl ?_
              refine s_iinc (v := z5.2.2.2 + 1) (lv' := [(0, _), (1, _), (2, _), (3, _), (4, _), (5, _), (6, _), (7, _)]) 7 [1, 2, 3, 4, 5, 6, 7, 0] (n := 114) hX (dec_of D_X9_bestLand (i := 54) rfl) rfl rfl rfl (by decide) rfl ?_
              refine s_goto (n := 45) hX (dec_of D_X9_bestLand (i := 55) rfl) rfl ?_
              exact s_sub [0, 1, 2, 3, 4, 5, 6, 7] rfl (hre7 (q10, z5.2.2.2, q11, (z5.2.2.2 + 1)))
            · refine s_aload_n 0 (n := 85) hX (dec_of D_X9_bestLand (i := 41) rfl) rfl rfl rfl ?_
              refine s_getC (c := 9) (p := 4) (n := 88) 124 0 hX cls9 (vk130 (by omega)) (dec_of D_X9_bestLand (i := 42) rfl) rfl rfl (by decide) wd_445 ?_
              refine s_iload_n 1 (n := 89) hX (dec_of D_X9_bestLand (i := 43) rfl) rfl rfl rfl ?_
              refine s_callVI (c := 3) (n := 92) hX cls3 (vk124 (by omega)) lk_RX9_402 (dec_of D_X9_bestLand (i := 44) rfl) rfl (by decide) (c_X3_paidToOne (l := _) hG _ _ (by omega) _) rfl rfl (Nat.le_of_ble_eq_true rfl) (fun q12 => ?_)
              refine s_iload 6 (n := 94) hX (dec_of D_X9_bestLand (i := 45) rfl) rfl rfl ?_
              refine s_icmp_le (tgt := 111) (n := 97) hX (dec_of D_X9_bestLand (i := 46) rfl) rfl rfl ?_ ?_
              · refine s_iinc (v := z5.2.2.2 + 1) (lv' := [(0, _), (1, _), (2, _), (3, _), (4, _), (5, _), (6, _), (7, _)]) 7 [1, 2, 3, 4, 5, 6, 7, 0] (n := 114) hX (dec_of D_X9_bestLand (i := 54) rfl) rfl rfl rfl (by decide) rfl ?_
                refine s_goto (n := 45) hX (dec_of D_X9_bestLand (i := 55) rfl) rfl ?_
                exact s_sub [0, 1, 2, 3, 4, 5, 6, 7] rfl (hre7 (q10, z5.2.1, z5.2.2.1, (z5.2.2.2 + 1)))
              · refine s_iload 7 (n := 99) hX (dec_of D_X9_bestLand (i := 47) rfl) rfl rfl ?_
                refine s_istore (lv' := [(0, _), (1, _), (2, _), (3, _), (4, _), (5, _), (6, _), (7, _)]) [1, 2, 3, 4, 5, 0, 6, 7] (n := 101) hX (dec_of D_X9_bestLand (i := 48) rfl) rfl (by decide) rfl ?_
                refine s_aload_n 0 (n := 102) hX (dec_of D_X9_bestLand (i := 49) rfl) rfl rfl rfl ?_
                refine s_getC (c := 9) (p := 4) (n := 105) 124 0 hX cls9 (vk130 (by omega)) (dec_of D_X9_bestLand (i := 50) rfl) rfl rfl (by decide) wd_445 ?_
                refine s_iload_n 1 (n := 106) hX (dec_of D_X9_bestLand (i := 51) rfl) rfl rfl rfl ?_
                refine s_callVI (c := 3) (n := 109) hX cls3 (vk124 (by omega)) lk_RX9_402 (dec_of D_X9_bestLand (i := 52) rfl) rfl (by decide) (c_X3_paidToOne (l := _) hG _ _ (by omega) _) rfl rfl (Nat.le_of_ble_eq_true rfl) (fun q13 => ?_)
                refine s_istore (lv' := [(0, _), (1, _), (2, _), (3, _), (4, _), (5, _), (6, _), (7, _)]) [1, 2, 3, 4, 5, 6, 0, 7] (n := 111) hX (dec_of D_X9_bestLand (i := 53) rfl) rfl (by decide) rfl ?_
                refine s_iinc (v := z5.2.2.2 + 1) (lv' := [(0, _), (1, _), (2, _), (3, _), (4, _), (5, _), (6, _), (7, _)]) 7 [1, 2, 3, 4, 5, 6, 7, 0] (n := 114) hX (dec_of D_X9_bestLand (i := 54) rfl) rfl rfl rfl (by decide) rfl ?_
                refine s_goto (n := 45) hX (dec_of D_X9_bestLand (i := 55) rfl) rfl ?_
                exact s_sub [0, 1, 2, 3, 4, 5, 6, 7] rfl (hre7 (q10, z5.2.2.2, q13, (z5.2.2.2 + 1)))
        · refine s_iconst (v := (-1)) (n := 33) hX (dec_of D_X9_bestLand (i := 15) rfl) rfl (by decide) ?_
          exact s_iret hX hR (dec_of D_X9_bestLand (i := 16) rfl) rfl
theorem lk_RX9_408 : LkV RX9 408 RX6 yX6_toPlayersOf cX6_toPlayersOf 7 (some .int) 3 := ⟨wd_1166, wd_1167, wd_1168, wd_90, wd_1169, by decide +kernel, by decide⟩
theorem lk_RX9_412 : LkV RX9 412 RX6 yX6_inLand cX6_inLand 7 (some .int) 4 := ⟨wd_1175, wd_1176, wd_1177, wd_90, wd_1178, by decide +kernel, by decide⟩
def T_X9_round : List (Nat × Instr × Nat) := [(0, .aload_n 0, 1), (1, .iload_n 1, 1), (2, .invokevirtual 102, 3), (5, .ifCond .ne 5, 3), (8, .iconst (-1), 1), (9, .ireturn, 1), (10, .iload_n 2, 1), (11, .tableswitch 112 0 3 #[29, 49, 70, 91], 29), (40, .aload_n 0, 1), (41, .getfield 47, 3), (44, .aload_n 0, 1), (45, .getfield 61, 3), (48, .aload_n 0, 1), (49, .getfield 19, 3), (52, .getfield 113, 3), (55, .iload_n 1, 1), (56, .invokevirtual 408, 3), (59, .ireturn, 1), (60, .aload_n 0, 1), (61, .getfield 47, 3), (64, .aload_n 0, 1), (65, .getfield 61, 3), (68, .aload_n 0, 1), (69, .getfield 19, 3), (72, .getfield 113, 3), (75, .iload_n 1, 1), (76, .iconst 0, 1), (77, .invokevirtual 412, 3), (80, .ireturn, 1), (81, .aload_n 0, 1), (82, .getfield 47, 3), (85, .aload_n 0, 1), (86, .getfield 61, 3), (89, .aload_n 0, 1), (90, .getfield 19, 3), (93, .getfield 113, 3), (96, .iload_n 1, 1), (97, .iconst 2, 1), (98, .invokevirtual 412, 3), (101, .ireturn, 1), (102, .aload_n 0, 1), (103, .getfield 47, 3), (106, .aload_n 0, 1), (107, .getfield 61, 3), (110, .aload_n 0, 1), (111, .getfield 19, 3), (114, .getfield 113, 3), (117, .iload_n 1, 1), (118, .iconst 1, 1), (119, .invokevirtual 412, 3), (122, .ireturn, 1), (123, .iconst (-1), 1), (124, .ireturn, 1)]
theorem D_X9_round : dchk cX9_round T_X9_round = true := by decide +kernel
def Rp_round (σ : ST) (a1 : Int32) (a2 : Int32) : Option (Int32 × ST) :=
  bd_ (Rp_isLand (σ) a1) (fun q1 => (if q1 = 0 then some ((-1), σ) else sw_ a2 0 [bd_ (ldQ σ 0) (fun rr2 => bd_ (Rn_toPlayersOf (σ) rr2 0 a1) (fun q3 => some (q3.1, q3.2))), bd_ (ldQ σ 0) (fun rr4 => bd_ (Rn_inLand (σ) rr4 0 a1 0) (fun q5 => some (q5.1, q5.2))), bd_ (ldQ σ 0) (fun rr6 => bd_ (Rn_inLand (σ) rr6 0 a1 2) (fun q7 => some (q7.1, q7.2))), bd_ (ldQ σ 0) (fun rr8 => bd_ (Rn_inLand (σ) rr8 0 a1 1) (fun q9 => some (q9.1, q9.2)))] (some ((-1), σ))))
set_option maxHeartbeats 4000000 in
set_option maxRecDepth 100000 in
theorem c_X9_round {G : GW} (hG : Good G) {l : Launch} (σ : ST) (a1 : Int32) (a2 : Int32) : Ctr G l yX9_round cX9_round 3 (some .int) 5 [.ref (ga G 130 0), .int a1, .int a2] σ oP (Rp_round σ a1 a2) := by
  refine ctr_of hG (by decide) (Nat.le_of_ble_eq_true rfl) ?_
  intro X hXl hR hX
  have hX : Ok G X cX9_round 3 RX9 5 := hX
  unfold Rp_round
  show Sim G X 3 (MQX G X oP) σ 0 [(0, .ref (ga G 130 0)), (1, .int a1), (2, .int a2)] [] _
  refine s_aload_n 0 (n := 1) hX (dec_of D_X9_round (i := 0) rfl) rfl rfl rfl ?_
  refine s_iload_n 1 (n := 2) hX (dec_of D_X9_round (i := 1) rfl) rfl rfl rfl ?_
  refine s_callVI (c := 9) (n := 5) hX cls9 (vk130 (by omega)) lk_RX9_102 (dec_of D_X9_round (i := 2) rfl) rfl (by decide) (c_X9_isLand (l := _) hG _ _) rfl rfl (Nat.le_of_ble_eq_true rfl) (fun q1 => ?_)
  refine s_if_ne (tgt := 10) (n := 8) hX (dec_of D_X9_round (i := 3) rfl) rfl rfl ?_ ?_
  · refine s_iload_n 2 (n := 11) hX (dec_of D_X9_round (i := 6) rfl) rfl rfl rfl ?_
    refine s_tsw (lo' := 0) (Ps := [_, _, _, _]) hX (dec_of D_X9_round (i := 7) rfl) rfl rfl (Nat.le_of_ble_eq_true rfl) [40, 60, 81, 102] 123 rfl rfl (by decide +kernel) ?_ ?_
    · skip
      refine swS_cons ?_ ?_
      · refine s_aload_n 0 (n := 41) hX (dec_of D_X9_round (i := 8) rfl) rfl rfl rfl ?_
        refine s_getC (c := 9) (p := 5) (n := 44) 127 0 hX cls9 (vk130 (by omega)) (dec_of D_X9_round (i := 9) rfl) rfl rfl (by decide) wd_446 ?_
        refine s_aload_n 0 (n := 45) hX (dec_of D_X9_round (i := 10) rfl) rfl rfl rfl ?_
        refine s_getQ (c := 9) (p := 7) (j := 0) (n := 48) hX cls9 (vk130 (by omega)) (dec_of D_X9_round (i := 11) rfl) rfl rfl wd_448 (fun rr2 hrr2 => ?_)
        refine s_aload_n 0 (n := 49) hX (dec_of D_X9_round (i := 12) rfl) rfl rfl rfl ?_
        refine s_getC (c := 9) (p := 1) (n := 52) 121 0 hX cls9 (vk130 (by omega)) (dec_of D_X9_round (i := 13) rfl) rfl rfl (by decide) wd_442 ?_
        refine s_getR (c := 0) (p := 0) (k' := 129) (n := 55) hX cls0 (vk121 (by omega)) (dec_of D_X9_round (i := 14) rfl) rfl rfl wd_219 ?_
        refine s_iload_n 1 (n := 56) hX (dec_of D_X9_round (i := 15) rfl) rfl rfl rfl ?_
        refine s_callVP (c := 6) (n := 59) hX cls6 (vk127 (by omega)) lk_RX9_408 (dec_of D_X9_round (i := 16) rfl) rfl (by decide) (c_X6_toPlayersOf (l := _) hG _ _ (by omega) _ (by omega) _) rfl rfl (Nat.le_of_ble_eq_true rfl) (fun q3 => ?_)
        exact s_iret hX hR (dec_of D_X9_round (i := 17) rfl) rfl
      refine swS_cons ?_ ?_
      · refine s_aload_n 0 (n := 61) hX (dec_of D_X9_round (i := 18) rfl) rfl rfl rfl ?_
        refine s_getC (c := 9) (p := 5) (n := 64) 127 0 hX cls9 (vk130 (by omega)) (dec_of D_X9_round (i := 19) rfl) rfl rfl (by decide) wd_446 ?_
        refine s_aload_n 0 (n := 65) hX (dec_of D_X9_round (i := 20) rfl) rfl rfl rfl ?_
        refine s_getQ (c := 9) (p := 7) (j := 0) (n := 68) hX cls9 (vk130 (by omega)) (dec_of D_X9_round (i := 21) rfl) rfl rfl wd_448 (fun rr4 hrr4 => ?_)
        refine s_aload_n 0 (n := 69) hX (dec_of D_X9_round (i := 22) rfl) rfl rfl rfl ?_
        refine s_getC (c := 9) (p := 1) (n := 72) 121 0 hX cls9 (vk130 (by omega)) (dec_of D_X9_round (i := 23) rfl) rfl rfl (by decide) wd_442 ?_
        refine s_getR (c := 0) (p := 0) (k' := 129) (n := 75) hX cls0 (vk121 (by omega)) (dec_of D_X9_round (i := 24) rfl) rfl rfl wd_219 ?_
        refine s_iload_n 1 (n := 76) hX (dec_of D_X9_round (i := 25) rfl) rfl rfl rfl ?_
        refine s_iconst (v := 0) (n := 77) hX (dec_of D_X9_round (i := 26) rfl) rfl (by decide) ?_
        refine s_callVP (c := 6) (n := 80) hX cls6 (vk127 (by omega)) lk_RX9_412 (dec_of D_X9_round (i := 27) rfl) rfl (by decide) (c_X6_inLand (l := _) hG _ _ (by omega) _ (by omega) _ _) rfl rfl (Nat.le_of_ble_eq_true rfl) (fun q5 => ?_)
        exact s_iret hX hR (dec_of D_X9_round (i := 28) rfl) rfl
      refine swS_cons ?_ ?_
      · refine s_aload_n 0 (n := 82) hX (dec_of D_X9_round (i := 29) rfl) rfl rfl rfl ?_
        refine s_getC (c := 9) (p := 5) (n := 85) 127 0 hX cls9 (vk130 (by omega)) (dec_of D_X9_round (i := 30) rfl) rfl rfl (by decide) wd_446 ?_
        refine s_aload_n 0 (n := 86) hX (dec_of D_X9_round (i := 31) rfl) rfl rfl rfl ?_
        refine s_getQ (c := 9) (p := 7) (j := 0) (n := 89) hX cls9 (vk130 (by omega)) (dec_of D_X9_round (i := 32) rfl) rfl rfl wd_448 (fun rr6 hrr6 => ?_)
        refine s_aload_n 0 (n := 90) hX (dec_of D_X9_round (i := 33) rfl) rfl rfl rfl ?_
        refine s_getC (c := 9) (p := 1) (n := 93) 121 0 hX cls9 (vk130 (by omega)) (dec_of D_X9_round (i := 34) rfl) rfl rfl (by decide) wd_442 ?_
        refine s_getR (c := 0) (p := 0) (k' := 129) (n := 96) hX cls0 (vk121 (by omega)) (dec_of D_X9_round (i := 35) rfl) rfl rfl wd_219 ?_
        refine s_iload_n 1 (n := 97) hX (dec_of D_X9_round (i := 36) rfl) rfl rfl rfl ?_
        refine s_iconst (v := 2) (n := 98) hX (dec_of D_X9_round (i := 37) rfl) rfl (by decide) ?_
        refine s_callVP (c := 6) (n := 101) hX cls6 (vk127 (by omega)) lk_RX9_412 (dec_of D_X9_round (i := 38) rfl) rfl (by decide) (c_X6_inLand (l := _) hG _ _ (by omega) _ (by omega) _ _) rfl rfl (Nat.le_of_ble_eq_true rfl) (fun q7 => ?_)
        exact s_iret hX hR (dec_of D_X9_round (i := 39) rfl) rfl
      refine swS_cons ?_ ?_
      · refine s_aload_n 0 (n := 103) hX (dec_of D_X9_round (i := 40) rfl) rfl rfl rfl ?_
        refine s_getC (c := 9) (p := 5) (n := 106) 127 0 hX cls9 (vk130 (by omega)) (dec_of D_X9_round (i := 41) rfl) rfl rfl (by decide) wd_446 ?_
        refine s_aload_n 0 (n := 107) hX (dec_of D_X9_round (i := 42) rfl) rfl rfl rfl ?_
        refine s_getQ (c := 9) (p := 7) (j := 0) (n := 110) hX cls9 (vk130 (by omega)) (dec_of D_X9_round (i := 43) rfl) rfl rfl wd_448 (fun rr8 hrr8 => ?_)
        refine s_aload_n 0 (n := 111) hX (dec_of D_X9_round (i := 44) rfl) rfl rfl rfl ?_
        refine s_getC (c := 9) (p := 1) (n := 114) 121 0 hX cls9 (vk130 (by omega)) (dec_of D_X9_round (i := 45) rfl) rfl rfl (by decide) wd_442 ?_
        refine s_getR (c := 0) (p := 0) (k' := 129) (n := 117) hX cls0 (vk121 (by omega)) (dec_of D_X9_round (i := 46) rfl) rfl rfl wd_219 ?_
        refine s_iload_n 1 (n := 118) hX (dec_of D_X9_round (i := 47) rfl) rfl rfl rfl ?_
        refine s_iconst (v := 1) (n := 119) hX (dec_of D_X9_round (i := 48) rfl) rfl (by decide) ?_
        refine s_callVP (c := 6) (n := 122) hX cls6 (vk127 (by omega)) lk_RX9_412 (dec_of D_X9_round (i := 49) rfl) rfl (by decide) (c_X6_inLand (l := _) hG _ _ (by omega) _ (by omega) _ _) rfl rfl (Nat.le_of_ble_eq_true rfl) (fun q9 => ?_)
        exact s_iret hX hR (dec_of D_X9_round (i := 50) rfl) rfl
      exact swS_nil
    · refine s_iconst (v := (-1)) (n := 124) hX (dec_of D_X9_round (i := 51) rfl) rfl (by decide) ?_
      exact s_iret hX hR (dec_of D_X9_round (i := 52) rfl) rfl
  · refine s_iconst (v := (-1)) (n := 9) hX (dec_of D_X9_round (i := 4) rfl) rfl (by decide) ?_
    exact s_iret hX hR (dec_of D_X9_round (i := 5) rfl) rfl
def T_X9_bestTerms : List (Nat × Instr × Nat) := [(0, .aload_n 0, 1), (1, .iload_n 1, 1), (2, .invokevirtual 102, 3), (5, .ifCond .eq 11, 3), (8, .iload_n 2, 1), (9, .iconst 3, 1), (10, .invokestatic 207, 3), (13, .ifCond .ne 5, 3), (16, .iconst (-1), 1), (17, .ireturn, 1), (18, .aload_n 0, 1), (19, .getfield 33, 3), (22, .aload_n 0, 1), (23, .getfield 19, 3), (26, .getfield 113, 3), (29, .invokevirtual 270, 3), (32, .iconst (-1), 1), (33, .istore_n 3, 1), (34, .iconst (-1), 1), (35, .istore 4, 2), (37, .iconst (-1), 1), (38, .istore 5, 2), (40, .iconst 0, 1), (41, .istore 6, 2), (43, .iload 6, 2), (45, .iconst 2, 1), (46, .if_icmp .gt 72, 3), (49, .iconst 1, 1), (50, .istore 7, 2), (52, .iload 7, 2), (54, .iconst 3, 1), (55, .if_icmp .gt 57, 3), (58, .aload_n 0, 1), (59, .getfield 33, 3), (62, .iload_n 1, 1), (63, .iload 6, 2), (65, .iload 7, 2), (67, .invokevirtual 274, 3), (70, .aload_n 0, 1), (71, .getfield 47, 3), (74, .aload_n 0, 1), (75, .getfield 61, 3), (78, .aload_n 0, 1), (79, .getfield 33, 3), (82, .iload_n 1, 1), (83, .invokevirtual 408, 3), (86, .istore 8, 2), (88, .iload 8, 2), (90, .iload 5, 2), (92, .if_icmp .le 14, 3), (95, .iload 6, 2), (97, .istore_n 3, 1), (98, .iload 7, 2), (100, .istore 4, 2), (102, .iload 8, 2), (104, .istore 5, 2), (106, .iinc 7 1, 3), (109, .goto (-57), 3), (112, .iinc 6 1, 3), (115, .goto (-72), 3), (118, .iload_n 2, 1), (119, .iconst 2, 1), (120, .if_icmp .ne 6, 3), (123, .iload 5, 2), (125, .ireturn, 1), (126, .iload_n 2, 1), (127, .ifCond .ne 7, 3), (130, .iload_n 3, 1), (131, .goto 5, 3), (134, .iload 4, 2), (136, .ireturn, 1)]
theorem D_X9_bestTerms : dchk cX9_bestTerms T_X9_bestTerms = true := by decide +kernel
def Rp_bestTerms (σ : ST) (a1 : Int32) (a2 : Int32) : Option (Int32 × ST) :=
  bd_ (Rp_isLand (σ) a1) (fun q1 => (if q1 = 0 then some ((-1), σ) else bd_ (Rp_isChoice (σ) a2 3) (fun q2 => (if q2 = 0 then some ((-1), σ) else bd_ (Wo_copyFrom (σ) 13 0) (fun q3 => lp_ (fun rec5 (z4 : ST × Int32 × Int32 × Int32 × Int32) => (if 2 < z4.2.2.2.2 then (if a2 = 2 then some (z4.2.2.2.1, z4.1) else (if a2 = 0 then some (z4.2.1, z4.1) else some (z4.2.2.1, z4.1))) else lp_ (fun rec8 (z7 : ST × Int32 × Int32 × Int32 × Int32) => (if 3 < z7.2.2.2.2 then rec5 (z7.1, z7.2.1, z7.2.2.1, z7.2.2.2.1, (z4.2.2.2.2 + 1)) else bd_ (Wo_setTerms z7.1 13 a1 z4.2.2.2.2 z7.2.2.2.2) (fun q10 => bd_ (ldQ q10 0) (fun rr11 => bd_ (Rn_toPlayersOf q10 rr11 13 a1) (fun q12 => (if q12.1 ≤ z7.2.2.2.1 then rec8 (q12.2, z7.2.1, z7.2.2.1, z7.2.2.2.1, (z7.2.2.2.2 + 1)) else rec8 (q12.2, z4.2.2.2.2, z7.2.2.2.2, q12.1, (z7.2.2.2.2 + 1)))))))) FU (z4.1, z4.2.1, z4.2.2.1, z4.2.2.2.1, 1))) FU (q3, (-1), (-1), (-1), 0))))))
set_option maxHeartbeats 4000000 in
set_option maxRecDepth 100000 in
theorem c_X9_bestTerms {G : GW} (hG : Good G) {l : Launch} (σ : ST) (a1 : Int32) (a2 : Int32) : Ctr G l yX9_bestTerms cX9_bestTerms 9 (some .int) 5 [.ref (ga G 130 0), .int a1, .int a2] σ oP (Rp_bestTerms σ a1 a2) := by
  refine ctr_of hG (by decide) (Nat.le_of_ble_eq_true rfl) ?_
  intro X hXl hR hX
  have hX : Ok G X cX9_bestTerms 9 RX9 5 := hX
  unfold Rp_bestTerms
  show Sim G X 9 (MQX G X oP) σ 0 [(0, .ref (ga G 130 0)), (1, .int a1), (2, .int a2)] [] _
  refine s_aload_n 0 (n := 1) hX (dec_of D_X9_bestTerms (i := 0) rfl) rfl rfl rfl ?_
  refine s_iload_n 1 (n := 2) hX (dec_of D_X9_bestTerms (i := 1) rfl) rfl rfl rfl ?_
  refine s_callVI (c := 9) (n := 5) hX cls9 (vk130 (by omega)) lk_RX9_102 (dec_of D_X9_bestTerms (i := 2) rfl) rfl (by decide) (c_X9_isLand (l := _) hG _ _) rfl rfl (Nat.le_of_ble_eq_true rfl) (fun q1 => ?_)
  refine s_if_eq (tgt := 16) (n := 8) hX (dec_of D_X9_bestTerms (i := 3) rfl) rfl rfl ?_ ?_
  · refine s_iconst (v := (-1)) (n := 17) hX (dec_of D_X9_bestTerms (i := 8) rfl) rfl (by decide) ?_
    exact s_iret hX hR (dec_of D_X9_bestTerms (i := 9) rfl) rfl
  · refine s_iload_n 2 (n := 9) hX (dec_of D_X9_bestTerms (i := 4) rfl) rfl rfl rfl ?_
    refine s_iconst (v := 3) (n := 10) hX (dec_of D_X9_bestTerms (i := 5) rfl) rfl (by decide) ?_
    refine s_callSI (n := 13) hX lk_RX9_207 (dec_of D_X9_bestTerms (i := 6) rfl) rfl (by decide) (c_X9_isChoice (l := _) hG _ _ _) rfl rfl (Nat.le_of_ble_eq_true rfl) (fun q2 => ?_)
    refine s_if_ne (tgt := 18) (n := 16) hX (dec_of D_X9_bestTerms (i := 7) rfl) rfl rfl ?_ ?_
    · refine s_aload_n 0 (n := 19) hX (dec_of D_X9_bestTerms (i := 10) rfl) rfl rfl rfl ?_
      refine s_getC (c := 9) (p := 3) (n := 22) 129 13 hX cls9 (vk130 (by omega)) (dec_of D_X9_bestTerms (i := 11) rfl) rfl rfl (by decide) wd_444 ?_
      refine s_aload_n 0 (n := 23) hX (dec_of D_X9_bestTerms (i := 12) rfl) rfl rfl rfl ?_
      refine s_getC (c := 9) (p := 1) (n := 26) 121 0 hX cls9 (vk130 (by omega)) (dec_of D_X9_bestTerms (i := 13) rfl) rfl rfl (by decide) wd_442 ?_
      refine s_getR (c := 0) (p := 0) (k' := 129) (n := 29) hX cls0 (vk121 (by omega)) (dec_of D_X9_bestTerms (i := 14) rfl) rfl rfl wd_219 ?_
      refine s_callVV (c := 8) (n := 32) hX cls8 (vk129 (by omega)) lk_RX9_270 (dec_of D_X9_bestTerms (i := 15) rfl) rfl (by decide) (c_X8_copyFrom (l := _) hG _ _ (by omega) _ (by omega)) rfl rfl (Nat.le_of_ble_eq_true rfl) (fun q3 => ?_)
      refine s_iconst (v := (-1)) (n := 33) hX (dec_of D_X9_bestTerms (i := 16) rfl) rfl (by decide) ?_
      refine s_istore_n (lv' := [(0, _), (1, _), (2, _), (3, _)]) [1, 2, 3, 0] (n := 34) hX (dec_of D_X9_bestTerms (i := 17) rfl) rfl rfl (by decide) rfl ?_
      refine s_iconst (v := (-1)) (n := 35) hX (dec_of D_X9_bestTerms (i := 18) rfl) rfl (by decide) ?_
      refine s_istore (lv' := [(0, _), (1, _), (2, _), (3, _), (4, _)]) [1, 2, 3, 4, 0] (n := 37) hX (dec_of D_X9_bestTerms (i := 19) rfl) rfl (by decide) rfl ?_
      refine s_iconst (v := (-1)) (n := 38) hX (dec_of D_X9_bestTerms (i := 20) rfl) rfl (by decide) ?_
      refine s_istore (lv' := [(0, _), (1, _), (2, _), (3, _), (4, _), (5, _)]) [1, 2, 3, 4, 5, 0] (n := 40) hX (dec_of D_X9_bestTerms (i := 21) rfl) rfl (by decide) rfl ?_
      refine s_iconst (v := 0) (n := 41) hX (dec_of D_X9_bestTerms (i := 22) rfl) rfl (by decide) ?_
      refine s_istore (lv' := [(0, _), (1, _), (2, _), (3, _), (4, _), (5, _), (6, _)]) [1, 2, 3, 4, 5, 6, 0] (n := 43) hX (dec_of D_X9_bestTerms (i := 23) rfl) rfl (by decide) rfl ?_
      refine s_sub [0, 1, 2, 3, 4, 5, 6] rfl (s_lp (pc := 43) (Sf := fun (z4 : ST × Int32 × Int32 × Int32 × Int32) => z4.1) (lvf := fun (z4 : ST × Int32 × Int32 × Int32 × Int32) => [(0, .ref (ga G 130 0)), (1, .int a1), (2, .int a2), (3, .int z4.2.1), (4, .int z4.2.2.1), (5, .int z4.2.2.2.1), (6, .int z4.2.2.2.2)]) (fun rec5 hre6 z4 => ?_) FU (q3, (-1), (-1), (-1), 0))
      refine s_iload 6 (n := 45) hX (dec_of D_X9_bestTerms (i := 24) rfl) rfl rfl ?_
      refine s_iconst (v := 2) (n := 46) hX (dec_of D_X9_bestTerms (i := 25) rfl) rfl (by decide) ?_
      refine s_icmp_gt (tgt := 118) (n := 49) hX (dec_of D_X9_bestTerms (i := 26) rfl) rfl rfl ?_ ?_
      · refine s_iload_n 2 (n := 119) hX (dec_of D_X9_bestTerms (i := 60) rfl) rfl rfl rfl ?_
        refine s_iconst (v := 2) (n := 120) hX (dec_of D_X9_bestTerms (i := 61) rfl) rfl (by decide) ?_
        refine s_icmp_ne (tgt := 126) (n := 123) hX (dec_of D_X9_bestTerms (i := 62) rfl) rfl rfl ?_ ?_
        · refine s_iload_n 2 (n := 127) hX (dec_of D_X9_bestTerms (i := 65) rfl) rfl rfl rfl ?_
          refine s_if_ne (tgt := 134) (n := 130) hX (dec_of D_X9_bestTerms (i := 66) rfl) rfl rfl ?_ ?_
          · refine s_iload 4 (n := 136) hX (dec_of D_X9_bestTerms (i := 69) rfl) rfl rfl ?_
            exact s_iret hX hR (dec_of D_X9_bestTerms (i := 70) rfl) rfl
          · refine s_iload_n 3 (n := 131) hX (dec_of D_X9_bestTerms (i := 67) rfl) rfl rfl rfl ?_
            refine s_goto (n := 136) hX (dec_of D_X9_bestTerms (i := 68) rfl) rfl ?_
            exact s_iret hX hR (dec_of D_X9_bestTerms (i := 70) rfl) rfl
        · refine s_iload 5 (n := 125) hX (dec_of D_X9_bestTerms (i := 63) rfl) rfl rfl ?_
          exact s_iret hX hR (dec_of D_X9_bestTerms (i := 64) rfl) rfl
      · refine s_iconst (v := 1) (n := 50) hX (dec_of D_X9_bestTerms (i := 27) rfl) rfl (by decide) ?_
        refine s_istore (lv' := [(0, _), (1, _), (2, _), (3, _), (4, _), (5, _), (6, _), (7, _)]) [1, 2, 3, 4, 5, 6, 7, 0] (n := 52) hX (dec_of D_X9_bestTerms (i := 28) rfl) rfl (by decide) rfl ?_
        refine s_sub [0, 1, 2, 3, 4, 5, 6, 7] rfl (s_lp (pc := 52) (Sf := fun (z7 : ST × Int32 × Int32 × Int32 × Int32) => z7.1) (lvf := fun (z7 : ST × Int32 × Int32 × Int32 × Int32) => [(0, .ref (ga G 130 0)), (1, .int a1), (2, .int a2), (3, .int z7.2.1), (4, .int z7.2.2.1), (5, .int z7.2.2.2.1), (6, .int z4.2.2.2.2), (7, .int z7.2.2.2.2)]) (fun rec8 hre9 z7 => ?_) FU (z4.1, z4.2.1, z4.2.2.1, z4.2.2.2.1, 1))
        refine s_iload 7 (n := 54) hX (dec_of D_X9_bestTerms (i := 29) rfl) rfl rfl ?_
        refine s_iconst (v := 3) (n := 55) hX (dec_of D_X9_bestTerms (i := 30) rfl) rfl (by decide) ?_
        refine s_icmp_gt (tgt := 112) (n := 58) hX (dec_of D_X9_bestTerms (i := 31) rfl) rfl rfl ?_ ?_
        · refine s_iinc (v := z4.2.2.2.2 + 1) (lv' := [(0, _), (1, _), (2, _), (3, _), (4, _), (5, _), (6, _), (7, _)]) 6 [1, 2, 3, 4, 5, 6, 0, 7] (n := 115) hX (dec_of D_X9_bestTerms (i := 58) rfl) rfl rfl rfl (by decide) rfl ?_
          refine s_goto (n := 43) hX (dec_of D_X9_bestTerms (i := 59) rfl) rfl ?_
          exact s_sub [0, 1, 2, 3, 4, 5, 6] rfl (hre6 (z7.1, z7.2.1, z7.2.2.1, z7.2.2.2.1, (z4.2.2.2.2 + 1)))
        · refine s_aload_n 0 (n := 59) hX (dec_of D_X9_bestTerms (i := 32) rfl) rfl rfl rfl ?_
          refine s_getC (c := 9) (p := 3) (n := 62) 129 13 hX cls9 (vk130 (by omega)) (dec_of D_X9_bestTerms (i := 33) rfl) rfl rfl (by decide) wd_444 ?_
          refine s_iload_n 1 (n := 63) hX (dec_of D_X9_bestTerms (i := 34) rfl) rfl rfl rfl ?_
          refine s_iload 6 (n := 65) hX (dec_of D_X9_bestTerms (i := 35) rfl) rfl rfl ?_
          refine s_iload 7 (n := 67) hX (dec_of D_X9_bestTerms (i := 36) rfl) rfl rfl ?_
          refine s_callVV (c := 8) (n := 70) hX cls8 (vk129 (by omega)) lk_RX9_274 (dec_of D_X9_bestTerms (i := 37) rfl) rfl (by decide) (c_X8_setTerms (l := _) hG _ _ (by omega) _ _ _) rfl rfl (Nat.le_of_ble_eq_true rfl) (fun q10 => ?_)
          refine s_aload_n 0 (n := 71) hX (dec_of D_X9_bestTerms (i := 38) rfl) rfl rfl rfl ?_
          refine s_getC (c := 9) (p := 5) (n := 74) 127 0 hX cls9 (vk130 (by omega)) (dec_of D_X9_bestTerms (i := 39) rfl) rfl rfl (by decide) wd_446 ?_
          refine s_aload_n 0 (n := 75) hX (dec_of D_X9_bestTerms (i := 40) rfl) rfl rfl rfl ?_
          refine s_getQ (c := 9) (p := 7) (j := 0) (n := 78) hX cls9 (vk130 (by omega)) (dec_of D_X9_bestTerms (i := 41) rfl) rfl rfl wd_448 (fun rr11 hrr11 => ?_)
          refine s_aload_n 0 (n := 79) hX (dec_of D_X9_bestTerms (i := 42) rfl) rfl rfl rfl ?_
          refine s_getC (c := 9) (p := 3) (n := 82) 129 13 hX cls9 (vk130 (by omega)) (dec_of D_X9_bestTerms (i := 43) rfl) rfl rfl (by decide) wd_444 ?_
          refine s_iload_n 1 (n := 83) hX (dec_of D_X9_bestTerms (i := 44) rfl) rfl rfl rfl ?_
          refine s_callVP (c := 6) (n := 86) hX cls6 (vk127 (by omega)) lk_RX9_408 (dec_of D_X9_bestTerms (i := 45) rfl) rfl (by decide) (c_X6_toPlayersOf (l := _) hG _ _ (by omega) _ (by omega) _) rfl rfl (Nat.le_of_ble_eq_true rfl) (fun q12 => ?_)
          refine s_istore (lv' := [(0, _), (1, _), (2, _), (3, _), (4, _), (5, _), (6, _), (7, _), (8, _)]) [1, 2, 3, 4, 5, 6, 7, 8, 0] (n := 88) hX (dec_of D_X9_bestTerms (i := 46) rfl) rfl (by decide) rfl ?_
          refine s_iload 8 (n := 90) hX (dec_of D_X9_bestTerms (i := 47) rfl) rfl rfl ?_
          refine s_iload 5 (n := 92) hX (dec_of D_X9_bestTerms (i := 48) rfl) rfl rfl ?_
          refine s_icmp_le (tgt := 106) (n := 95) hX (dec_of D_X9_bestTerms (i := 49) rfl) rfl rfl ?_ ?_
          · refine s_iinc (v := z7.2.2.2.2 + 1) (lv' := [(0, _), (1, _), (2, _), (3, _), (4, _), (5, _), (6, _), (7, _), (8, _)]) 7 [1, 2, 3, 4, 5, 6, 7, 0, 8] (n := 109) hX (dec_of D_X9_bestTerms (i := 56) rfl) rfl rfl rfl (by decide) rfl ?_
            refine s_goto (n := 52) hX (dec_of D_X9_bestTerms (i := 57) rfl) rfl ?_
            exact s_sub [0, 1, 2, 3, 4, 5, 6, 7] rfl (hre9 (q12.2, z7.2.1, z7.2.2.1, z7.2.2.2.1, (z7.2.2.2.2 + 1)))
          · refine s_iload 6 (n := 97) hX (dec_of D_X9_bestTerms (i := 50) rfl) rfl rfl ?_
            refine s_istore_n (lv' := [(0, _), (1, _), (2, _), (3, _), (4, _), (5, _), (6, _), (7, _), (8, _)]) [1, 2, 3, 0, 4, 5, 6, 7, 8] (n := 98) hX (dec_of D_X9_bestTerms (i := 51) rfl) rfl rfl (by decide) rfl ?_
            refine s_iload 7 (n := 100) hX (dec_of D_X9_bestTerms (i := 52) rfl) rfl rfl ?_
            refine s_istore (lv' := [(0, _), (1, _), (2, _), (3, _), (4, _), (5, _), (6, _), (7, _), (8, _)]) [1, 2, 3, 4, 0, 5, 6, 7, 8] (n := 102) hX (dec_of D_X9_bestTerms (i := 53) rfl) rfl (by decide) rfl ?_
            refine s_iload 8 (n := 104) hX (dec_of D_X9_bestTerms (i := 54) rfl) rfl rfl ?_
            refine s_istore (lv' := [(0, _), (1, _), (2, _), (3, _), (4, _), (5, _), (6, _), (7, _), (8, _)]) [1, 2, 3, 4, 5, 0, 6, 7, 8] (n := 106) hX (dec_of D_X9_bestTerms (i := 55) rfl) rfl (by decide) rfl ?_
            refine s_iinc (v := z7.2.2.2.2 + 1) (lv' := [(0, _), (1, _), (2, _), (3, _), (4, _), (5, _), (6, _), (7, _), (8, _)]) 7 [1, 2, 3, 4, 5, 6, 7, 0, 8] (n := 109) hX (dec_of D_X9_bestTerms (i := 56) rfl) rfl rfl rfl (by decide) rfl ?_
            refine s_goto (n := 52) hX (dec_of D_X9_bestTerms (i := 57) rfl) rfl ?_
            exact s_sub [0, 1, 2, 3, 4, 5, 6, 7] rfl (hre9 (q12.2, z4.2.2.2.2, z7.2.2.2.2, q12.1, (z7.2.2.2.2 + 1)))
    · refine s_iconst (v := (-1)) (n := 17) hX (dec_of D_X9_bestTerms (i := 8) rfl) rfl (by decide) ?_
      exact s_iret hX hR (dec_of D_X9_bestTerms (i := 9) rfl) rfl
theorem lk_RX9_416 : LkV RX9 416 RX6 yX6_ofOpenSeats cX6_ofOpenSeats 7 (some .int) 3 := ⟨wd_1187, wd_1188, wd_1189, wd_90, wd_1190, by decide +kernel, by decide⟩
def T_X9_unknown : List (Nat × Instr × Nat) := [(0, .iload_n 1, 1), (1, .iconst 2, 1), (2, .invokestatic 207, 3), (5, .ifCond .ne 5, 3), (8, .iconst (-1), 1), (9, .ireturn, 1), (10, .aload_n 0, 1), (11, .getfield 47, 3), (14, .aload_n 0, 1), (15, .getfield 61, 3), (18, .aload_n 0, 1), (19, .getfield 19, 3), (22, .getfield 113, 3), (25, .iload_n 1, 1), (26, .ifCond .ne 7, 3), (29, .iconst 1, 1), (30, .goto 4, 3), (33, .iconst 2, 1), (34, .invokevirtual 416, 3), (37, .ireturn, 1)]
theorem D_X9_unknown : dchk cX9_unknown T_X9_unknown = true := by decide +kernel
def Rp_unknown (σ : ST) (a1 : Int32) : Option (Int32 × ST) :=
  bd_ (Rp_isChoice (σ) a1 2) (fun q1 => (if q1 = 0 then some ((-1), σ) else bd_ (ldQ σ 0) (fun rr2 => lk_ (fun kk4 => (if a1 = 0 then kk4 1 else kk4 2)) (fun (j3 : Int32) => bd_ (Rn_ofOpenSeats (σ) rr2 0 j3) (fun q6 => some (q6.1, q6.2))))))
set_option maxHeartbeats 4000000 in
set_option maxRecDepth 100000 in
theorem c_X9_unknown {G : GW} (hG : Good G) {l : Launch} (σ : ST) (a1 : Int32) : Ctr G l yX9_unknown cX9_unknown 2 (some .int) 5 [.ref (ga G 130 0), .int a1] σ oP (Rp_unknown σ a1) := by
  refine ctr_of hG (by decide) (Nat.le_of_ble_eq_true rfl) ?_
  intro X hXl hR hX
  have hX : Ok G X cX9_unknown 2 RX9 5 := hX
  unfold Rp_unknown
  show Sim G X 2 (MQX G X oP) σ 0 [(0, .ref (ga G 130 0)), (1, .int a1)] [] _
  refine s_iload_n 1 (n := 1) hX (dec_of D_X9_unknown (i := 0) rfl) rfl rfl rfl ?_
  refine s_iconst (v := 2) (n := 2) hX (dec_of D_X9_unknown (i := 1) rfl) rfl (by decide) ?_
  refine s_callSI (n := 5) hX lk_RX9_207 (dec_of D_X9_unknown (i := 2) rfl) rfl (by decide) (c_X9_isChoice (l := _) hG _ _ _) rfl rfl (Nat.le_of_ble_eq_true rfl) (fun q1 => ?_)
  refine s_if_ne (tgt := 10) (n := 8) hX (dec_of D_X9_unknown (i := 3) rfl) rfl rfl ?_ ?_
  · refine s_aload_n 0 (n := 11) hX (dec_of D_X9_unknown (i := 6) rfl) rfl rfl rfl ?_
    refine s_getC (c := 9) (p := 5) (n := 14) 127 0 hX cls9 (vk130 (by omega)) (dec_of D_X9_unknown (i := 7) rfl) rfl rfl (by decide) wd_446 ?_
    refine s_aload_n 0 (n := 15) hX (dec_of D_X9_unknown (i := 8) rfl) rfl rfl rfl ?_
    refine s_getQ (c := 9) (p := 7) (j := 0) (n := 18) hX cls9 (vk130 (by omega)) (dec_of D_X9_unknown (i := 9) rfl) rfl rfl wd_448 (fun rr2 hrr2 => ?_)
    refine s_aload_n 0 (n := 19) hX (dec_of D_X9_unknown (i := 10) rfl) rfl rfl rfl ?_
    refine s_getC (c := 9) (p := 1) (n := 22) 121 0 hX cls9 (vk130 (by omega)) (dec_of D_X9_unknown (i := 11) rfl) rfl rfl (by decide) wd_442 ?_
    refine s_getR (c := 0) (p := 0) (k' := 129) (n := 25) hX cls0 (vk121 (by omega)) (dec_of D_X9_unknown (i := 12) rfl) rfl rfl wd_219 ?_
    refine s_iload_n 1 (n := 26) hX (dec_of D_X9_unknown (i := 13) rfl) rfl rfl rfl ?_
    refine s_lk (pcj := 34) (Sf := fun (j3 : Int32) => σ) (lvf := fun (j3 : Int32) => []) (stf := fun (j3 : Int32) => [.int j3, .ref (ga G 129 0), .ref (ga G 126 rr2), .ref (ga G 127 0)]) (fun j3 => ?_) (fun kk4 hkk5 => ?_)
    · refine s_callVP (c := 6) (n := 37) hX cls6 (vk127 (by omega)) lk_RX9_416 (dec_of D_X9_unknown (i := 18) rfl) rfl (by decide) (c_X6_ofOpenSeats (l := _) hG _ _ (by omega) _ (by omega) _) rfl rfl (Nat.le_of_ble_eq_true rfl) (fun q6 => ?_)
      exact s_iret hX hR (dec_of D_X9_unknown (i := 19) rfl) rfl
    · refine s_if_ne (tgt := 33) (n := 29) hX (dec_of D_X9_unknown (i := 14) rfl) rfl rfl ?_ ?_
      · refine s_iconst (v := 2) (n := 34) hX (dec_of D_X9_unknown (i := 17) rfl) rfl (by decide) ?_
        exact s_sub [] rfl (hkk5 2)
      · refine s_iconst (v := 1) (n := 30) hX (dec_of D_X9_unknown (i := 15) rfl) rfl (by decide) ?_
        refine s_goto (n := 34) hX (dec_of D_X9_unknown (i := 16) rfl) rfl ?_
        exact s_sub [] rfl (hkk5 1)
  · refine s_iconst (v := (-1)) (n := 9) hX (dec_of D_X9_unknown (i := 4) rfl) rfl (by decide) ?_
    exact s_iret hX hR (dec_of D_X9_unknown (i := 5) rfl) rfl
theorem lk_RX9_440 : LkV RX9 440 RX6 yX6_toPlayer cX6_toPlayer 7 (some .int) 3 := ⟨wd_1200, wd_1201, wd_1202, wd_90, wd_1203, by decide +kernel, by decide⟩
def T_X9_roundFrom : List (Nat × Instr × Nat) := [(0, .aload_n 0, 1), (1, .getfield 33, 3), (4, .aload_n 0, 1), (5, .getfield 19, 3), (8, .getfield 113, 3), (11, .invokevirtual 270, 3), (14, .aload_n 0, 1), (15, .getfield 33, 3), (18, .getfield 153, 3), (21, .iload_n 1, 1), (22, .iload_n 2, 1), (23, .iastore, 1), (24, .aload_n 0, 1), (25, .getfield 47, 3), (28, .aload_n 0, 1), (29, .getfield 61, 3), (32, .aload_n 0, 1), (33, .getfield 33, 3), (36, .iload_n 1, 1), (37, .invokevirtual 440, 3), (40, .ireturn, 1)]
theorem D_X9_roundFrom : dchk cX9_roundFrom T_X9_roundFrom = true := by decide +kernel
def Rp_roundFrom (σ : ST) (a1 : Int32) (a2 : Int32) : Option (Int32 × ST) :=
  bd_ (Wo_copyFrom (σ) 13 0) (fun q1 => bd_ (stI q1 26 13 a1 a2) (fun s2 => bd_ (ldQ s2 0) (fun rr3 => bd_ (Rn_toPlayer s2 rr3 13 a1) (fun q4 => some (q4.1, q4.2)))))
set_option maxHeartbeats 4000000 in
set_option maxRecDepth 100000 in
theorem c_X9_roundFrom {G : GW} (hG : Good G) {l : Launch} (σ : ST) (a1 : Int32) (a2 : Int32) : Ctr G l yX9_roundFrom cX9_roundFrom 3 (some .int) 5 [.ref (ga G 130 0), .int a1, .int a2] σ oP (Rp_roundFrom σ a1 a2) := by
  refine ctr_of hG (by decide) (Nat.le_of_ble_eq_true rfl) ?_
  intro X hXl hR hX
  have hX : Ok G X cX9_roundFrom 3 RX9 5 := hX
  unfold Rp_roundFrom
  show Sim G X 3 (MQX G X oP) σ 0 [(0, .ref (ga G 130 0)), (1, .int a1), (2, .int a2)] [] _
  refine s_aload_n 0 (n := 1) hX (dec_of D_X9_roundFrom (i := 0) rfl) rfl rfl rfl ?_
  refine s_getC (c := 9) (p := 3) (n := 4) 129 13 hX cls9 (vk130 (by omega)) (dec_of D_X9_roundFrom (i := 1) rfl) rfl rfl (by decide) wd_444 ?_
  refine s_aload_n 0 (n := 5) hX (dec_of D_X9_roundFrom (i := 2) rfl) rfl rfl rfl ?_
  refine s_getC (c := 9) (p := 1) (n := 8) 121 0 hX cls9 (vk130 (by omega)) (dec_of D_X9_roundFrom (i := 3) rfl) rfl rfl (by decide) wd_442 ?_
  refine s_getR (c := 0) (p := 0) (k' := 129) (n := 11) hX cls0 (vk121 (by omega)) (dec_of D_X9_roundFrom (i := 4) rfl) rfl rfl wd_219 ?_
  refine s_callVV (c := 8) (n := 14) hX cls8 (vk129 (by omega)) lk_RX9_270 (dec_of D_X9_roundFrom (i := 5) rfl) rfl (by decide) (c_X8_copyFrom (l := _) hG _ _ (by omega) _ (by omega)) rfl rfl (Nat.le_of_ble_eq_true rfl) (fun q1 => ?_)
  refine s_aload_n 0 (n := 15) hX (dec_of D_X9_roundFrom (i := 6) rfl) rfl rfl rfl ?_
  refine s_getC (c := 9) (p := 3) (n := 18) 129 13 hX cls9 (vk130 (by omega)) (dec_of D_X9_roundFrom (i := 7) rfl) rfl rfl (by decide) wd_444 ?_
  refine s_getR (c := 8) (p := 2) (k' := 26) (n := 21) hX cls8 (vk129 (by omega)) (dec_of D_X9_roundFrom (i := 8) rfl) rfl rfl wd_203 ?_
  refine s_iload_n 1 (n := 22) hX (dec_of D_X9_roundFrom (i := 9) rfl) rfl rfl rfl ?_
  refine s_iload_n 2 (n := 23) hX (dec_of D_X9_roundFrom (i := 10) rfl) rfl rfl rfl ?_
  refine s_iast (n := 24) hX (vk26 (by omega)) (by decide) (dec_of D_X9_roundFrom (i := 11) rfl) rfl (fun s2 => ?_)
  refine s_aload_n 0 (n := 25) hX (dec_of D_X9_roundFrom (i := 12) rfl) rfl rfl rfl ?_
  refine s_getC (c := 9) (p := 5) (n := 28) 127 0 hX cls9 (vk130 (by omega)) (dec_of D_X9_roundFrom (i := 13) rfl) rfl rfl (by decide) wd_446 ?_
  refine s_aload_n 0 (n := 29) hX (dec_of D_X9_roundFrom (i := 14) rfl) rfl rfl rfl ?_
  refine s_getQ (c := 9) (p := 7) (j := 0) (n := 32) hX cls9 (vk130 (by omega)) (dec_of D_X9_roundFrom (i := 15) rfl) rfl rfl wd_448 (fun rr3 hrr3 => ?_)
  refine s_aload_n 0 (n := 33) hX (dec_of D_X9_roundFrom (i := 16) rfl) rfl rfl rfl ?_
  refine s_getC (c := 9) (p := 3) (n := 36) 129 13 hX cls9 (vk130 (by omega)) (dec_of D_X9_roundFrom (i := 17) rfl) rfl rfl (by decide) wd_444 ?_
  refine s_iload_n 1 (n := 37) hX (dec_of D_X9_roundFrom (i := 18) rfl) rfl rfl rfl ?_
  refine s_callVP (c := 6) (n := 40) hX cls6 (vk127 (by omega)) lk_RX9_440 (dec_of D_X9_roundFrom (i := 19) rfl) rfl (by decide) (c_X6_toPlayer (l := _) hG _ _ (by omega) _ (by omega) _) rfl rfl (Nat.le_of_ble_eq_true rfl) (fun q4 => ?_)
  exact s_iret hX hR (dec_of D_X9_roundFrom (i := 20) rfl) rfl
theorem lk_RX9_419 : LkV RX9 419 RX9 yX9_roundFrom cX9_roundFrom 3 (some .int) 2 := ⟨wd_1196, wd_1198, wd_13, wd_83, wd_1199, by decide +kernel, by decide⟩
def T_X9_moveGain : List (Nat × Instr × Nat) := [(0, .aload_n 0, 1), (1, .iload_n 1, 1), (2, .invokevirtual 148, 3), (5, .ifCond .eq 11, 3), (8, .aload_n 0, 1), (9, .iload_n 2, 1), (10, .invokevirtual 102, 3), (13, .ifCond .ne 7, 3), (16, .ldc_w 364, 3), (19, .ireturn, 1), (20, .aload_n 0, 1), (21, .iload_n 1, 1), (22, .iload_n 2, 1), (23, .invokevirtual 419, 3), (26, .aload_n 0, 1), (27, .iload_n 1, 1), (28, .aload_n 0, 1), (29, .getfield 19, 3), (32, .getfield 113, 3), (35, .getfield 153, 3), (38, .iload_n 1, 1), (39, .iaload, 1), (40, .invokevirtual 419, 3), (43, .isub, 1), (44, .ireturn, 1)]
theorem D_X9_moveGain : dchk cX9_moveGain T_X9_moveGain = true := by decide +kernel
def Rp_moveGain (σ : ST) (a1 : Int32) (a2 : Int32) : Option (Int32 × ST) :=
  bd_ (Rp_isPlayer (σ) a1) (fun q1 => (if q1 = 0 then some ((-1000000000), σ) else bd_ (Rp_isLand (σ) a2) (fun q2 => (if q2 = 0 then some ((-1000000000), σ) else bd_ (Rp_roundFrom (σ) a1 a2) (fun q3 => bd_ (ldI q3.2 26 0 a1) (fun v4 => bd_ (Rp_roundFrom q3.2 a1 v4) (fun q5 => some ((q3.1 - q5.1), q5.2))))))))
set_option maxHeartbeats 4000000 in
set_option maxRecDepth 100000 in
theorem c_X9_moveGain {G : GW} (hG : Good G) {l : Launch} (σ : ST) (a1 : Int32) (a2 : Int32) : Ctr G l yX9_moveGain cX9_moveGain 3 (some .int) 6 [.ref (ga G 130 0), .int a1, .int a2] σ oP (Rp_moveGain σ a1 a2) := by
  refine ctr_of hG (by decide) (Nat.le_of_ble_eq_true rfl) ?_
  intro X hXl hR hX
  have hX : Ok G X cX9_moveGain 3 RX9 6 := hX
  unfold Rp_moveGain
  show Sim G X 3 (MQX G X oP) σ 0 [(0, .ref (ga G 130 0)), (1, .int a1), (2, .int a2)] [] _
  refine s_aload_n 0 (n := 1) hX (dec_of D_X9_moveGain (i := 0) rfl) rfl rfl rfl ?_
  refine s_iload_n 1 (n := 2) hX (dec_of D_X9_moveGain (i := 1) rfl) rfl rfl rfl ?_
  refine s_callVI (c := 9) (n := 5) hX cls9 (vk130 (by omega)) lk_RX9_148 (dec_of D_X9_moveGain (i := 2) rfl) rfl (by decide) (c_X9_isPlayer (l := _) hG _ _) rfl rfl (Nat.le_of_ble_eq_true rfl) (fun q1 => ?_)
  refine s_if_eq (tgt := 16) (n := 8) hX (dec_of D_X9_moveGain (i := 3) rfl) rfl rfl ?_ ?_
  · refine s_ldcw (v := (-1000000000)) (n := 19) hX (dec_of D_X9_moveGain (i := 8) rfl) rfl wd_1061 ?_
    exact s_iret hX hR (dec_of D_X9_moveGain (i := 9) rfl) rfl
  · refine s_aload_n 0 (n := 9) hX (dec_of D_X9_moveGain (i := 4) rfl) rfl rfl rfl ?_
    refine s_iload_n 2 (n := 10) hX (dec_of D_X9_moveGain (i := 5) rfl) rfl rfl rfl ?_
    refine s_callVI (c := 9) (n := 13) hX cls9 (vk130 (by omega)) lk_RX9_102 (dec_of D_X9_moveGain (i := 6) rfl) rfl (by decide) (c_X9_isLand (l := _) hG _ _) rfl rfl (Nat.le_of_ble_eq_true rfl) (fun q2 => ?_)
    refine s_if_ne (tgt := 20) (n := 16) hX (dec_of D_X9_moveGain (i := 7) rfl) rfl rfl ?_ ?_
    · refine s_aload_n 0 (n := 21) hX (dec_of D_X9_moveGain (i := 10) rfl) rfl rfl rfl ?_
      refine s_iload_n 1 (n := 22) hX (dec_of D_X9_moveGain (i := 11) rfl) rfl rfl rfl ?_
      refine s_iload_n 2 (n := 23) hX (dec_of D_X9_moveGain (i := 12) rfl) rfl rfl rfl ?_
      refine s_callVP (c := 9) (n := 26) hX cls9 (vk130 (by omega)) lk_RX9_419 (dec_of D_X9_moveGain (i := 13) rfl) rfl (by decide) (c_X9_roundFrom (l := _) hG _ _ _) rfl rfl (Nat.le_of_ble_eq_true rfl) (fun q3 => ?_)
      refine s_aload_n 0 (n := 27) hX (dec_of D_X9_moveGain (i := 14) rfl) rfl rfl rfl ?_
      refine s_iload_n 1 (n := 28) hX (dec_of D_X9_moveGain (i := 15) rfl) rfl rfl rfl ?_
      refine s_aload_n 0 (n := 29) hX (dec_of D_X9_moveGain (i := 16) rfl) rfl rfl rfl ?_
      refine s_getC (c := 9) (p := 1) (n := 32) 121 0 hX cls9 (vk130 (by omega)) (dec_of D_X9_moveGain (i := 17) rfl) rfl rfl (by decide) wd_442 ?_
      refine s_getR (c := 0) (p := 0) (k' := 129) (n := 35) hX cls0 (vk121 (by omega)) (dec_of D_X9_moveGain (i := 18) rfl) rfl rfl wd_219 ?_
      refine s_getR (c := 8) (p := 2) (k' := 26) (n := 38) hX cls8 (vk129 (by omega)) (dec_of D_X9_moveGain (i := 19) rfl) rfl rfl wd_203 ?_
      refine s_iload_n 1 (n := 39) hX (dec_of D_X9_moveGain (i := 20) rfl) rfl rfl rfl ?_
      refine s_iald (n := 40) hX (vk26 (by omega)) (by decide) (dec_of D_X9_moveGain (i := 21) rfl) rfl (fun v4 => ?_)
      refine s_callVP (c := 9) (n := 43) hX cls9 (vk130 (by omega)) lk_RX9_419 (dec_of D_X9_moveGain (i := 22) rfl) rfl (by decide) (c_X9_roundFrom (l := _) hG _ _ _) rfl rfl (Nat.le_of_ble_eq_true rfl) (fun q5 => ?_)
      refine s_isub (n := 44) hX (dec_of D_X9_moveGain (i := 23) rfl) rfl ?_
      exact s_iret hX hR (dec_of D_X9_moveGain (i := 24) rfl) rfl
    · refine s_ldcw (v := (-1000000000)) (n := 19) hX (dec_of D_X9_moveGain (i := 8) rfl) rfl wd_1061 ?_
      exact s_iret hX hR (dec_of D_X9_moveGain (i := 9) rfl) rfl
def T_X9_bestHome : List (Nat × Instr × Nat) := [(0, .aload_n 0, 1), (1, .iload_n 1, 1), (2, .invokevirtual 148, 3), (5, .ifCond .eq 11, 3), (8, .iload_n 2, 1), (9, .iconst 2, 1), (10, .invokestatic 207, 3), (13, .ifCond .ne 5, 3), (16, .iconst (-1), 1), (17, .ireturn, 1), (18, .iconst (-1), 1), (19, .istore_n 3, 1), (20, .iconst (-1), 1), (21, .istore 4, 2), (23, .iconst 0, 1), (24, .istore 5, 2), (26, .iload 5, 2), (28, .aload_n 0, 1), (29, .getfield 61, 3), (32, .getfield 229, 3), (35, .if_icmp .ge 32, 3), (38, .aload_n 0, 1), (39, .iload_n 1, 1), (40, .iload 5, 2), (42, .invokevirtual 419, 3), (45, .istore 6, 2), (47, .iload 6, 2), (49, .iload 4, 2), (51, .if_icmp .le 10, 3), (54, .iload 5, 2), (56, .istore_n 3, 1), (57, .iload 6, 2), (59, .istore 4, 2), (61, .iinc 5 1, 3), (64, .goto (-38), 3), (67, .iload_n 2, 1), (68, .ifCond .ne 7, 3), (71, .iload_n 3, 1), (72, .goto 5, 3), (75, .iload 4, 2), (77, .ireturn, 1)]
theorem D_X9_bestHome : dchk cX9_bestHome T_X9_bestHome = true := by decide +kernel
def Rp_bestHome (σ : ST) (a1 : Int32) (a2 : Int32) : Option (Int32 × ST) :=
  bd_ (Rp_isPlayer (σ) a1) (fun q1 => (if q1 = 0 then some ((-1), σ) else bd_ (Rp_isChoice (σ) a2 2) (fun q2 => (if q2 = 0 then some ((-1), σ) else lp_ (fun rec4 (z3 : ST × Int32 × Int32 × Int32) => bd_ (ldQ z3.1 0) (fun rr6 => (if (gF z3.1 529 rr6) ≤ z3.2.2.2 then (if a2 = 0 then some (z3.2.1, z3.1) else some (z3.2.2.1, z3.1)) else bd_ (Rp_roundFrom z3.1 a1 z3.2.2.2) (fun q7 => (if q7.1 ≤ z3.2.2.1 then rec4 (q7.2, z3.2.1, z3.2.2.1, (z3.2.2.2 + 1)) else rec4 (q7.2, z3.2.2.2, q7.1, (z3.2.2.2 + 1))))))) FU (σ, (-1), (-1), 0)))))
set_option maxHeartbeats 4000000 in
set_option maxRecDepth 100000 in
theorem c_X9_bestHome {G : GW} (hG : Good G) {l : Launch} (σ : ST) (a1 : Int32) (a2 : Int32) : Ctr G l yX9_bestHome cX9_bestHome 7 (some .int) 6 [.ref (ga G 130 0), .int a1, .int a2] σ oP (Rp_bestHome σ a1 a2) := by
  refine ctr_of hG (by decide) (Nat.le_of_ble_eq_true rfl) ?_
  intro X hXl hR hX
  have hX : Ok G X cX9_bestHome 7 RX9 6 := hX
  unfold Rp_bestHome
  show Sim G X 7 (MQX G X oP) σ 0 [(0, .ref (ga G 130 0)), (1, .int a1), (2, .int a2)] [] _
  refine s_aload_n 0 (n := 1) hX (dec_of D_X9_bestHome (i := 0) rfl) rfl rfl rfl ?_
  refine s_iload_n 1 (n := 2) hX (dec_of D_X9_bestHome (i := 1) rfl) rfl rfl rfl ?_
  refine s_callVI (c := 9) (n := 5) hX cls9 (vk130 (by omega)) lk_RX9_148 (dec_of D_X9_bestHome (i := 2) rfl) rfl (by decide) (c_X9_isPlayer (l := _) hG _ _) rfl rfl (Nat.le_of_ble_eq_true rfl) (fun q1 => ?_)
  refine s_if_eq (tgt := 16) (n := 8) hX (dec_of D_X9_bestHome (i := 3) rfl) rfl rfl ?_ ?_
  · refine s_iconst (v := (-1)) (n := 17) hX (dec_of D_X9_bestHome (i := 8) rfl) rfl (by decide) ?_
    exact s_iret hX hR (dec_of D_X9_bestHome (i := 9) rfl) rfl
  · refine s_iload_n 2 (n := 9) hX (dec_of D_X9_bestHome (i := 4) rfl) rfl rfl rfl ?_
    refine s_iconst (v := 2) (n := 10) hX (dec_of D_X9_bestHome (i := 5) rfl) rfl (by decide) ?_
    refine s_callSI (n := 13) hX lk_RX9_207 (dec_of D_X9_bestHome (i := 6) rfl) rfl (by decide) (c_X9_isChoice (l := _) hG _ _ _) rfl rfl (Nat.le_of_ble_eq_true rfl) (fun q2 => ?_)
    refine s_if_ne (tgt := 18) (n := 16) hX (dec_of D_X9_bestHome (i := 7) rfl) rfl rfl ?_ ?_
    · refine s_iconst (v := (-1)) (n := 19) hX (dec_of D_X9_bestHome (i := 10) rfl) rfl (by decide) ?_
      refine s_istore_n (lv' := [(0, _), (1, _), (2, _), (3, _)]) [1, 2, 3, 0] (n := 20) hX (dec_of D_X9_bestHome (i := 11) rfl) rfl rfl (by decide) rfl ?_
      refine s_iconst (v := (-1)) (n := 21) hX (dec_of D_X9_bestHome (i := 12) rfl) rfl (by decide) ?_
      refine s_istore (lv' := [(0, _), (1, _), (2, _), (3, _), (4, _)]) [1, 2, 3, 4, 0] (n := 23) hX (dec_of D_X9_bestHome (i := 13) rfl) rfl (by decide) rfl ?_
      refine s_iconst (v := 0) (n := 24) hX (dec_of D_X9_bestHome (i := 14) rfl) rfl (by decide) ?_
      refine s_istore (lv' := [(0, _), (1, _), (2, _), (3, _), (4, _), (5, _)]) [1, 2, 3, 4, 5, 0] (n := 26) hX (dec_of D_X9_bestHome (i := 15) rfl) rfl (by decide) rfl ?_
      refine s_sub [0, 1, 2, 3, 4, 5] rfl (s_lp (pc := 26) (Sf := fun (z3 : ST × Int32 × Int32 × Int32) => z3.1) (lvf := fun (z3 : ST × Int32 × Int32 × Int32) => [(0, .ref (ga G 130 0)), (1, .int a1), (2, .int a2), (3, .int z3.2.1), (4, .int z3.2.2.1), (5, .int z3.2.2.2)]) (fun rec4 hre5 z3 => ?_) FU (σ, (-1), (-1), 0))
      refine s_iload 5 (n := 28) hX (dec_of D_X9_bestHome (i := 16) rfl) rfl rfl ?_
      refine s_aload_n 0 (n := 29) hX (dec_of D_X9_bestHome (i := 17) rfl) rfl rfl rfl ?_
      refine s_getQ (c := 9) (p := 7) (j := 0) (n := 32) hX cls9 (vk130 (by omega)) (dec_of D_X9_bestHome (i := 18) rfl) rfl rfl wd_448 (fun rr6 hrr6 => ?_)
      refine s_getI (c := 5) (p := 9) (id := 529) (n := 35) hX cls5 (vk126 (by omega)) (dec_of D_X9_bestHome (i := 19) rfl) rfl rfl wd_392 ?_
      refine s_icmp_ge (tgt := 67) (n := 38) hX (dec_of D_X9_bestHome (i := 20) rfl) rfl rfl ?_ ?_
      · refine s_iload_n 2 (n := 68) hX (dec_of D_X9_bestHome (i := 35) rfl) rfl rfl rfl ?_
        refine s_if_ne (tgt := 75) (n := 71) hX (dec_of D_X9_bestHome (i := 36) rfl) rfl rfl ?_ ?_
        · refine s_iload 4 (n := 77) hX (dec_of D_X9_bestHome (i := 39) rfl) rfl rfl ?_
          exact s_iret hX hR (dec_of D_X9_bestHome (i := 40) rfl) rfl
        · refine s_iload_n 3 (n := 72) hX (dec_of D_X9_bestHome (i := 37) rfl) rfl rfl rfl ?_
          refine s_goto (n := 77) hX (dec_of D_X9_bestHome (i := 38) rfl) rfl ?_
          exact s_iret hX hR (dec_of D_X9_bestHome (i := 40) rfl) rfl
      · refine s_aload_n 0 (n := 39) hX (dec_of D_X9_bestHome (i := 21) rfl) rfl rfl rfl ?_
        refine s_iload_n 1 (n := 40) hX (dec_of D_X9_bestHome (i := 22) rfl) rfl rfl rfl ?_
        refine s_iload 5 (n := 42) hX (dec_of D_X9_bestHome (i := 23) rfl) rfl rfl ?_
        refine s_callVP (c := 9) (n := 45) hX cls9 (vk130 (by omega)) lk_RX9_419 (dec_of D_X9_bestHome (i := 24) rfl) rfl (by decide) (c_X9_roundFrom (l := _) hG _ _ _) rfl rfl (Nat.le_of_ble_eq_true rfl) (fun q7 => ?_)
        refine s_istore (lv' := [(0, _), (1, _), (2, _), (3, _), (4, _), (5, _), (6, _)]) [1, 2, 3, 4, 5, 6, 0] (n := 47) hX (dec_of D_X9_bestHome (i := 25) rfl) rfl (by decide) rfl ?_
        refine s_iload 6 (n := 49) hX (dec_of D_X9_bestHome (i := 26) rfl) rfl rfl ?_
        refine s_iload 4 (n := 51) hX (dec_of D_X9_bestHome (i := 27) rfl) rfl rfl ?_
        refine s_icmp_le (tgt := 61) (n := 54) hX (dec_of D_X9_bestHome (i := 28) rfl) rfl rfl ?_ ?_
        · refine s_iinc (v := z3.2.2.2 + 1) (lv' := [(0, _), (1, _), (2, _), (3, _), (4, _), (5, _), (6, _)]) 5 [1, 2, 3, 4, 5, 0, 6] (n := 64) hX (dec_of D_X9_bestHome (i := 33) rfl) rfl rfl rfl (by decide) rfl ?_
          refine s_goto (n := 26) hX (dec_of D_X9_bestHome (i := 34) rfl) rfl ?_
          exact s_sub [0, 1, 2, 3, 4, 5] rfl (hre5 (q7.2, z3.2.1, z3.2.2.1, (z3.2.2.2 + 1)))
        · refine s_iload 5 (n := 56) hX (dec_of D_X9_bestHome (i := 29) rfl) rfl rfl ?_
          refine s_istore_n (lv' := [(0, _), (1, _), (2, _), (3, _), (4, _), (5, _), (6, _)]) [1, 2, 3, 0, 4, 5, 6] (n := 57) hX (dec_of D_X9_bestHome (i := 30) rfl) rfl rfl (by decide) rfl ?_
          refine s_iload 6 (n := 59) hX (dec_of D_X9_bestHome (i := 31) rfl) rfl rfl ?_
          refine s_istore (lv' := [(0, _), (1, _), (2, _), (3, _), (4, _), (5, _), (6, _)]) [1, 2, 3, 4, 0, 5, 6] (n := 61) hX (dec_of D_X9_bestHome (i := 32) rfl) rfl (by decide) rfl ?_
          refine s_iinc (v := z3.2.2.2 + 1) (lv' := [(0, _), (1, _), (2, _), (3, _), (4, _), (5, _), (6, _)]) 5 [1, 2, 3, 4, 5, 0, 6] (n := 64) hX (dec_of D_X9_bestHome (i := 33) rfl) rfl rfl rfl (by decide) rfl ?_
          refine s_goto (n := 26) hX (dec_of D_X9_bestHome (i := 34) rfl) rfl ?_
          exact s_sub [0, 1, 2, 3, 4, 5] rfl (hre5 (q7.2, z3.2.2.2, q7.1, (z3.2.2.2 + 1)))
    · refine s_iconst (v := (-1)) (n := 17) hX (dec_of D_X9_bestHome (i := 8) rfl) rfl (by decide) ?_
      exact s_iret hX hR (dec_of D_X9_bestHome (i := 9) rfl) rfl
def T_X10_opens : List (Nat × Instr × Nat) := [(0, .iconst 0, 1), (1, .istore_n 1, 1), (2, .iload_n 1, 1), (3, .bipush 40, 2), (5, .if_icmp .ge 20, 3), (8, .aload_n 0, 1), (9, .getfield 28, 3), (12, .sipush 2604, 3), (15, .iload_n 1, 1), (16, .iadd, 1), (17, .iconst (-1), 1), (18, .iastore, 1), (19, .iinc 1 1, 3), (22, .goto (-20), 3), (25, .return_, 1)]
theorem D_X10_opens : dchk cX10_opens T_X10_opens = true := by decide +kernel
def Mo_opens (σ : ST)  : Option ST :=
  lp_ (fun rec2 (z1 : ST × Int32) => (if 40 ≤ z1.2 then some z1.1 else bd_ (stI z1.1 34 0 (2604 + z1.2) (-1)) (fun s4 => rec2 (s4, (z1.2 + 1))))) FU (σ, 0)
set_option maxHeartbeats 4000000 in
set_option maxRecDepth 100000 in
theorem c_X10_opens {G : GW} (hG : Good G) {l : Launch} (σ : ST)  : Ctr G l yX10_opens cX10_opens 2 none 0 [.ref (ga G 131 0)] σ oV (Mo_opens σ ) := by
  refine ctr_of hG (by decide) (Nat.le_of_ble_eq_true rfl) ?_
  intro X hXl hR hX
  have hX : Ok G X cX10_opens 2 RX10 0 := hX
  unfold Mo_opens
  show Sim G X 2 (MQX G X oV) σ 0 [(0, .ref (ga G 131 0))] [] _
  refine s_iconst (v := 0) (n := 1) hX (dec_of D_X10_opens (i := 0) rfl) rfl (by decide) ?_
  refine s_istore_n (lv' := [(0, _), (1, _)]) [1, 0] (n := 2) hX (dec_of D_X10_opens (i := 1) rfl) rfl rfl (by decide) rfl ?_
  refine s_sub [0, 1] rfl (s_lp (pc := 2) (Sf := fun (z1 : ST × Int32) => z1.1) (lvf := fun (z1 : ST × Int32) => [(0, .ref (ga G 131 0)), (1, .int z1.2)]) (fun rec2 hre3 z1 => ?_) FU (σ, 0))
  refine s_iload_n 1 (n := 3) hX (dec_of D_X10_opens (i := 2) rfl) rfl rfl rfl ?_
  refine s_bipush (v := 40) (n := 5) hX (dec_of D_X10_opens (i := 3) rfl) rfl (by decide) ?_
  refine s_icmp_ge (tgt := 25) (n := 8) hX (dec_of D_X10_opens (i := 4) rfl) rfl rfl ?_ ?_
  · exact s_vret hX hR (dec_of D_X10_opens (i := 14) rfl) rfl
  · refine s_aload_n 0 (n := 9) hX (dec_of D_X10_opens (i := 5) rfl) rfl rfl rfl ?_
    refine s_getR (c := 10) (p := 14) (k' := 34) (n := 12) hX cls10 (vk131 (by omega)) (dec_of D_X10_opens (i := 6) rfl) rfl rfl wd_1360 ?_
    refine s_sipush (v := 2604) (n := 15) hX (dec_of D_X10_opens (i := 7) rfl) rfl (by decide) ?_
    refine s_iload_n 1 (n := 16) hX (dec_of D_X10_opens (i := 8) rfl) rfl rfl rfl ?_
    refine s_iadd (n := 17) hX (dec_of D_X10_opens (i := 9) rfl) rfl ?_
    refine s_iconst (v := (-1)) (n := 18) hX (dec_of D_X10_opens (i := 10) rfl) rfl (by decide) ?_
    refine s_iast (n := 19) hX (vk34 (by omega)) (by decide) (dec_of D_X10_opens (i := 11) rfl) rfl (fun s4 => ?_)
    refine s_iinc (v := z1.2 + 1) (lv' := [(0, _), (1, _)]) 1 [1, 0] (n := 22) hX (dec_of D_X10_opens (i := 12) rfl) rfl rfl rfl (by decide) rfl ?_
    refine s_goto (n := 2) hX (dec_of D_X10_opens (i := 13) rfl) rfl ?_
    exact s_sub [0, 1] rfl (hre3 (s4, (z1.2 + 1)))
def T_X10_thrown : List (Nat × Instr × Nat) := [(0, .aload_n 0, 1), (1, .getfield 86, 3), (4, .ireturn, 1)]
theorem D_X10_thrown : dchk cX10_thrown T_X10_thrown = true := by decide +kernel
def Mo_thrown (σ : ST)  : Option Int32 :=
  some (gF σ 840 0)
set_option maxHeartbeats 4000000 in
set_option maxRecDepth 100000 in
theorem c_X10_thrown {G : GW} (hG : Good G) {l : Launch} (σ : ST)  : Ctr G l yX10_thrown cX10_thrown 1 (some .int) 0 [.ref (ga G 131 0)] σ (oI σ) (Mo_thrown σ ) := by
  refine ctr_of hG (by decide) (Nat.le_of_ble_eq_true rfl) ?_
  intro X hXl hR hX
  have hX : Ok G X cX10_thrown 1 RX10 0 := hX
  unfold Mo_thrown
  show Sim G X 1 (MQX G X (oI σ)) σ 0 [(0, .ref (ga G 131 0))] [] _
  refine s_aload_n 0 (n := 1) hX (dec_of D_X10_thrown (i := 0) rfl) rfl rfl rfl ?_
  refine s_getI (c := 10) (p := 0) (id := 840) (n := 4) hX cls10 (vk131 (by omega)) (dec_of D_X10_thrown (i := 1) rfl) rfl rfl wd_1346 ?_
  exact s_iret hX hR (dec_of D_X10_thrown (i := 2) rfl) rfl
def T_X10_feed : List (Nat × Instr × Nat) := [(0, .aload_n 0, 1), (1, .iconst 0, 1), (2, .putfield 86, 3), (5, .aload_n 0, 1), (6, .getfield 89, 3), (9, .sipush 880, 3), (12, .if_icmp .le 5, 3), (15, .iconst (-1), 1), (16, .ireturn, 1), (17, .iconst 0, 1), (18, .istore 6, 2), (20, .iload 6, 2), (22, .bipush 20, 2), (24, .if_icmp .ge 86, 3), (27, .iload 6, 2), (29, .iconst 4, 1), (30, .if_icmp .ge 7, 3), (33, .iload_n 1, 1), (34, .goto 39, 3), (37, .iload 6, 2), (39, .bipush 8, 2), (41, .if_icmp .ge 7, 3), (44, .iload_n 2, 1), (45, .goto 28, 3), (48, .iload 6, 2), (50, .bipush 12, 2), (52, .if_icmp .ge 7, 3), (55, .iload_n 3, 1), (56, .goto 17, 3), (59, .iload 6, 2), (61, .bipush 16, 2), (63, .if_icmp .ge 8, 3), (66, .iload 4, 2), (68, .goto 5, 3), (71, .iload 5, 2), (73, .istore 7, 2), (75, .aload_n 0, 1), (76, .getfield 7, 3), (79, .aload_n 0, 1), (80, .getfield 89, 3), (83, .iload 6, 2), (85, .iadd, 1), (86, .iload 7, 2), (88, .bipush 24, 2), (90, .bipush 8, 2), (92, .iload 6, 2), (94, .iconst 4, 1), (95, .irem, 1), (96, .imul, 1), (97, .isub, 1), (98, .ishr, 1), (99, .sipush 255, 3), (102, .iand, 1), (103, .iastore, 1), (104, .iinc 6 1, 3), (107, .goto (-87), 3), (110, .aload_n 0, 1), (111, .dup, 1), (112, .getfield 89, 3), (115, .bipush 20, 2), (117, .iadd, 1), (118, .putfield 89, 3), (121, .aload_n 0, 1), (122, .getfield 89, 3), (125, .ireturn, 1)]
theorem D_X10_feed : dchk cX10_feed T_X10_feed = true := by decide +kernel
def Mo_feed (σ : ST) (a1 : Int32) (a2 : Int32) (a3 : Int32) (a4 : Int32) (a5 : Int32) : Option (Int32 × ST) :=
  lt_ (setF σ 840 0 0) (fun s1 => (if (gF s1 842 0) ≤ 880 then lp_ (fun rec3 (z2 : ST × Int32) => (if 20 ≤ z2.2 then lt_ (setF z2.1 842 0 ((gF z2.1 842 0) + 20)) (fun s5 => some ((gF s5 842 0), s5)) else lk_ (fun kk7 => (if 4 ≤ z2.2 then (if 8 ≤ z2.2 then (if 12 ≤ z2.2 then (if 16 ≤ z2.2 then kk7 a5 else kk7 a4) else kk7 a3) else kk7 a2) else kk7 a1)) (fun (j6 : Int32) => bd_ (irm z2.2 4) (fun v9 => bd_ (stI z2.1 28 0 ((gF z2.1 842 0) + z2.2) ((j6 >>> ((24 - (8 * v9)) &&& 31)) &&& 255)) (fun s10 => rec3 (s10, (z2.2 + 1))))))) FU (s1, 0) else some ((-1), s1)))
set_option maxHeartbeats 4000000 in
set_option maxRecDepth 100000 in
theorem c_X10_feed {G : GW} (hG : Good G) {l : Launch} (σ : ST) (a1 : Int32) (a2 : Int32) (a3 : Int32) (a4 : Int32) (a5 : Int32) : Ctr G l yX10_feed cX10_feed 8 (some .int) 0 [.ref (ga G 131 0), .int a1, .int a2, .int a3, .int a4, .int a5] σ oP (Mo_feed σ a1 a2 a3 a4 a5) := by
  refine ctr_of hG (by decide) (Nat.le_of_ble_eq_true rfl) ?_
  intro X hXl hR hX
  have hX : Ok G X cX10_feed 8 RX10 0 := hX
  unfold Mo_feed
  show Sim G X 8 (MQX G X oP) σ 0 [(0, .ref (ga G 131 0)), (1, .int a1), (2, .int a2), (3, .int a3), (4, .int a4), (5, .int a5)] [] _
  refine s_aload_n 0 (n := 1) hX (dec_of D_X10_feed (i := 0) rfl) rfl rfl rfl ?_
  refine s_iconst (v := 0) (n := 2) hX (dec_of D_X10_feed (i := 1) rfl) rfl (by decide) ?_
  refine s_putI (c := 10) (p := 0) (n := 5) hX cls10 (vk131 (by omega)) (dec_of D_X10_feed (i := 2) rfl) rfl rfl (by decide) wd_1346 rfl rfl rfl (fun s1 => ?_)
  refine s_aload_n 0 (n := 6) hX (dec_of D_X10_feed (i := 3) rfl) rfl rfl rfl ?_
  refine s_getI (c := 10) (p := 2) (id := 842) (n := 9) hX cls10 (vk131 (by omega)) (dec_of D_X10_feed (i := 4) rfl) rfl rfl wd_1348 ?_
  refine s_sipush (v := 880) (n := 12) hX (dec_of D_X10_feed (i := 5) rfl) rfl (by decide) ?_
  refine s_icmp_le (tgt := 17) (n := 15) hX (dec_of D_X10_feed (i := 6) rfl) rfl rfl ?_ ?_
  · refine s_iconst (v := 0) (n := 18) hX (dec_of D_X10_feed (i := 9) rfl) rfl (by decide) ?_
    refine s_istore (lv' := [(0, _), (1, _), (2, _), (3, _), (4, _), (5, _), (6, _)]) [1, 2, 3, 4, 5, 6, 0] (n := 20) hX (dec_of D_X10_feed (i := 10) rfl) rfl (by decide) rfl ?_
    refine s_sub [0, 1, 2, 3, 4, 5, 6] rfl (s_lp (pc := 20) (Sf := fun (z2 : ST × Int32) => z2.1) (lvf := fun (z2 : ST × Int32) => [(0, .ref (ga G 131 0)), (1, .int a1), (2, .int a2), (3, .int a3), (4, .int a4), (5, .int a5), (6, .int z2.2)]) (fun rec3 hre4 z2 => ?_) FU (s1, 0))
    refine s_iload 6 (n := 22) hX (dec_of D_X10_feed (i := 11) rfl) rfl rfl ?_
    refine s_bipush (v := 20) (n := 24) hX (dec_of D_X10_feed (i := 12) rfl) rfl (by decide) ?_
    refine s_icmp_ge (tgt := 110) (n := 27) hX (dec_of D_X10_feed (i := 13) rfl) rfl rfl ?_ ?_
    · refine s_aload_n 0 (n := 111) hX (dec_of D_X10_feed (i := 56) rfl) rfl rfl rfl ?_
      refine s_dup (n := 112) hX (dec_of D_X10_feed (i := 57) rfl) rfl rfl ?_
      refine s_getI (c := 10) (p := 2) (id := 842) (n := 115) hX cls10 (vk131 (by omega)) (dec_of D_X10_feed (i := 58) rfl) rfl rfl wd_1348 ?_
      refine s_bipush (v := 20) (n := 117) hX (dec_of D_X10_feed (i := 59) rfl) rfl (by decide) ?_
      refine s_iadd (n := 118) hX (dec_of D_X10_feed (i := 60) rfl) rfl ?_
      refine s_putI (c := 10) (p := 2) (n := 121) hX cls10 (vk131 (by omega)) (dec_of D_X10_feed (i := 61) rfl) rfl rfl (by decide) wd_1348 rfl rfl rfl (fun s5 => ?_)
      refine s_aload_n 0 (n := 122) hX (dec_of D_X10_feed (i := 62) rfl) rfl rfl rfl ?_
      refine s_getI (c := 10) (p := 2) (id := 842) (n := 125) hX cls10 (vk131 (by omega)) (dec_of D_X10_feed (i := 63) rfl) rfl rfl wd_1348 ?_
      exact s_iret hX hR (dec_of D_X10_feed (i := 64) rfl) rfl
    · refine s_iload 6 (n := 29) hX (dec_of D_X10_feed (i := 14) rfl) rfl rfl ?_
      refine s_iconst (v := 4) (n := 30) hX (dec_of D_X10_feed (i := 15) rfl) rfl (by decide) ?_
      refine s_lk (pcj := 73) (Sf := fun (j6 : Int32) => z2.1) (lvf := fun (j6 : Int32) => [(0, .ref (ga G 131 0)), (1, .int a1), (2, .int a2), (3, .int a3), (4, .int a4), (5, .int a5), (6, .int z2.2)]) (stf := fun (j6 : Int32) => [.int j6]) (fun j6 => ?_) (fun kk7 hkk8 => ?_)
      · refine s_istore (lv' := [(0, _), (1, _), (2, _), (3, _), (4, _), (5, _), (6, _), (7, _)]) [1, 2, 3, 4, 5, 6, 7, 0] (n := 75) hX (dec_of D_X10_feed (i := 35) rfl) rfl (by decide) rfl ?_
        refine s_aload_n 0 (n := 76) hX (dec_of D_X10_feed (i := 36) rfl) rfl rfl rfl ?_
        refine s_getR (c := 10) (p := 1) (k' := 28) (n := 79) hX cls10 (vk131 (by omega)) (dec_of D_X10_feed (i := 37) rfl) rfl rfl wd_1347 ?_
        refine s_aload_n 0 (n := 80) hX (dec_of D_X10_feed (i := 38) rfl) rfl rfl rfl ?_
        refine s_getI (c := 10) (p := 2) (id := 842) (n := 83) hX cls10 (vk131 (by omega)) (dec_of D_X10_feed (i := 39) rfl) rfl rfl wd_1348 ?_
        refine s_iload 6 (n := 85) hX (dec_of D_X10_feed (i := 40) rfl) rfl rfl ?_
        refine s_iadd (n := 86) hX (dec_of D_X10_feed (i := 41) rfl) rfl ?_
        refine s_iload 7 (n := 88) hX (dec_of D_X10_feed (i := 42) rfl) rfl rfl ?_
        refine s_bipush (v := 24) (n := 90) hX (dec_of D_X10_feed (i := 43) rfl) rfl (by decide) ?_
        refine s_bipush (v := 8) (n := 92) hX (dec_of D_X10_feed (i := 44) rfl) rfl (by decide) ?_
        refine s_iload 6 (n := 94) hX (dec_of D_X10_feed (i := 45) rfl) rfl rfl ?_
        refine s_iconst (v := 4) (n := 95) hX (dec_of D_X10_feed (i := 46) rfl) rfl (by decide) ?_
        refine s_irem (n := 96) hX (dec_of D_X10_feed (i := 47) rfl) rfl (fun v9 => ?_)
        refine s_imul (n := 97) hX (dec_of D_X10_feed (i := 48) rfl) rfl ?_
        refine s_isub (n := 98) hX (dec_of D_X10_feed (i := 49) rfl) rfl ?_
        refine s_ishr (n := 99) hX (dec_of D_X10_feed (i := 50) rfl) rfl ?_
        refine s_sipush (v := 255) (n := 102) hX (dec_of D_X10_feed (i := 51) rfl) rfl (by decide) ?_
        refine s_iand (n := 103) hX (dec_of D_X10_feed (i := 52) rfl) rfl ?_
        refine s_iast (n := 104) hX (vk28 (by omega)) (by decide) (dec_of D_X10_feed (i := 53) rfl) rfl (fun s10 => ?_)
        refine s_iinc (v := z2.2 + 1) (lv' := [(0, _), (1, _), (2, _), (3, _), (4, _), (5, _), (6, _), (7, _)]) 6 [1, 2, 3, 4, 5, 6, 0, 7] (n := 107) hX (dec_of D_X10_feed (i := 54) rfl) rfl rfl rfl (by decide) rfl ?_
        refine s_goto (n := 20) hX (dec_of D_X10_feed (i := 55) rfl) rfl ?_
        exact s_sub [0, 1, 2, 3, 4, 5, 6] rfl (hre4 (s10, (z2.2 + 1)))
      · refine s_icmp_ge (tgt := 37) (n := 33) hX (dec_of D_X10_feed (i := 16) rfl) rfl rfl ?_ ?_
        · refine s_iload 6 (n := 39) hX (dec_of D_X10_feed (i := 19) rfl) rfl rfl ?_
          refine s_bipush (v := 8) (n := 41) hX (dec_of D_X10_feed (i := 20) rfl) rfl (by decide) ?_
          refine s_icmp_ge (tgt := 48) (n := 44) hX (dec_of D_X10_feed (i := 21) rfl) rfl rfl ?_ ?_
          · refine s_iload 6 (n := 50) hX (dec_of D_X10_feed (i := 24) rfl) rfl rfl ?_
            refine s_bipush (v := 12) (n := 52) hX (dec_of D_X10_feed (i := 25) rfl) rfl (by decide) ?_
            refine s_icmp_ge (tgt := 59) (n := 55) hX (dec_of D_X10_feed (i := 26) rfl) rfl rfl ?_ ?_
            · refine s_iload 6 (n := 61) hX (dec_of D_X10_feed (i := 29) rfl) rfl rfl ?_
              refine s_bipush (v := 16) (n := 63) hX (dec_of D_X10_feed (i := 30) rfl) rfl (by decide) ?_
              refine s_icmp_ge (tgt := 71) (n := 66) hX (dec_of D_X10_feed (i := 31) rfl) rfl rfl ?_ ?_
              · refine s_iload 5 (n := 73) hX (dec_of D_X10_feed (i := 34) rfl) rfl rfl ?_
                exact s_sub [0, 1, 2, 3, 4, 5, 6] rfl (hkk8 a5)
              · refine s_iload 4 (n := 68) hX (dec_of D_X10_feed (i := 32) rfl) rfl rfl ?_
                refine s_goto (n := 73) hX (dec_of D_X10_feed (i := 33) rfl) rfl ?_
                exact s_sub [0, 1, 2, 3, 4, 5, 6] rfl (hkk8 a4)
            · refine s_iload_n 3 (n := 56) hX (dec_of D_X10_feed (i := 27) rfl) rfl rfl rfl ?_
              refine s_goto (n := 73) hX (dec_of D_X10_feed (i := 28) rfl) rfl ?_
              exact s_sub [0, 1, 2, 3, 4, 5, 6] rfl (hkk8 a3)
          · refine s_iload_n 2 (n := 45) hX (dec_of D_X10_feed (i := 22) rfl) rfl rfl rfl ?_
            refine s_goto (n := 73) hX (dec_of D_X10_feed (i := 23) rfl) rfl ?_
            exact s_sub [0, 1, 2, 3, 4, 5, 6] rfl (hkk8 a2)
        · refine s_iload_n 1 (n := 34) hX (dec_of D_X10_feed (i := 17) rfl) rfl rfl rfl ?_
          refine s_goto (n := 73) hX (dec_of D_X10_feed (i := 18) rfl) rfl ?_
          exact s_sub [0, 1, 2, 3, 4, 5, 6] rfl (hkk8 a1)
  · refine s_iconst (v := (-1)) (n := 16) hX (dec_of D_X10_feed (i := 7) rfl) rfl (by decide) ?_
    exact s_iret hX hR (dec_of D_X10_feed (i := 8) rfl) rfl
def T_X10_here : List (Nat × Instr × Nat) := [(0, .aload_n 0, 1), (1, .getfield 92, 3), (4, .aload_n 0, 1), (5, .getfield 95, 3), (8, .if_icmp .ge 15, 3), (11, .aload_n 0, 1), (12, .getfield 7, 3), (15, .aload_n 0, 1), (16, .getfield 92, 3), (19, .iaload, 1), (20, .goto 4, 3), (23, .iconst (-1), 1), (24, .ireturn, 1)]
theorem D_X10_here : dchk cX10_here T_X10_here = true := by decide +kernel
def Mo_here (σ : ST)  : Option Int32 :=
  (if (gF σ 857 0) ≤ (gF σ 858 0) then some (-1) else bd_ (ldI σ 28 0 (gF σ 858 0)) (fun v1 => some v1))
set_option maxHeartbeats 4000000 in
set_option maxRecDepth 100000 in
theorem c_X10_here {G : GW} (hG : Good G) {l : Launch} (σ : ST)  : Ctr G l yX10_here cX10_here 1 (some .int) 0 [.ref (ga G 131 0)] σ (oI σ) (Mo_here σ ) := by
  refine ctr_of hG (by decide) (Nat.le_of_ble_eq_true rfl) ?_
  intro X hXl hR hX
  have hX : Ok G X cX10_here 1 RX10 0 := hX
  unfold Mo_here
  show Sim G X 1 (MQX G X (oI σ)) σ 0 [(0, .ref (ga G 131 0))] [] _
  refine s_aload_n 0 (n := 1) hX (dec_of D_X10_here (i := 0) rfl) rfl rfl rfl ?_
  refine s_getI (c := 10) (p := 18) (id := 858) (n := 4) hX cls10 (vk131 (by omega)) (dec_of D_X10_here (i := 1) rfl) rfl rfl wd_1364 ?_
  refine s_aload_n 0 (n := 5) hX (dec_of D_X10_here (i := 2) rfl) rfl rfl rfl ?_
  refine s_getI (c := 10) (p := 17) (id := 857) (n := 8) hX cls10 (vk131 (by omega)) (dec_of D_X10_here (i := 3) rfl) rfl rfl wd_1363 ?_
  refine s_icmp_ge (tgt := 23) (n := 11) hX (dec_of D_X10_here (i := 4) rfl) rfl rfl ?_ ?_
  · refine s_iconst (v := (-1)) (n := 24) hX (dec_of D_X10_here (i := 11) rfl) rfl (by decide) ?_
    exact s_iret hX hR (dec_of D_X10_here (i := 12) rfl) rfl
  · refine s_aload_n 0 (n := 12) hX (dec_of D_X10_here (i := 5) rfl) rfl rfl rfl ?_
    refine s_getR (c := 10) (p := 1) (k' := 28) (n := 15) hX cls10 (vk131 (by omega)) (dec_of D_X10_here (i := 6) rfl) rfl rfl wd_1347 ?_
    refine s_aload_n 0 (n := 16) hX (dec_of D_X10_here (i := 7) rfl) rfl rfl rfl ?_
    refine s_getI (c := 10) (p := 18) (id := 858) (n := 19) hX cls10 (vk131 (by omega)) (dec_of D_X10_here (i := 8) rfl) rfl rfl wd_1364 ?_
    refine s_iald (n := 20) hX (vk28 (by omega)) (by decide) (dec_of D_X10_here (i := 9) rfl) rfl (fun v1 => ?_)
    refine s_goto (n := 24) hX (dec_of D_X10_here (i := 10) rfl) rfl ?_
    exact s_iret hX hR (dec_of D_X10_here (i := 12) rfl) rfl
def T_X10_isSmall : List (Nat × Instr × Nat) := [(0, .iload_n 0, 1), (1, .bipush 97, 2), (3, .if_icmp .lt 13, 3), (6, .iload_n 0, 1), (7, .bipush 122, 2), (9, .if_icmp .gt 7, 3), (12, .iconst 1, 1), (13, .goto 4, 3), (16, .iconst 0, 1), (17, .ireturn, 1)]
theorem D_X10_isSmall : dchk cX10_isSmall T_X10_isSmall = true := by decide +kernel
def Mo_isSmall (σ : ST) (a0 : Int32) : Option Int32 :=
  (if a0 < 97 then some 0 else (if 122 < a0 then some 0 else some 1))
set_option maxHeartbeats 4000000 in
set_option maxRecDepth 100000 in
theorem c_X10_isSmall {G : GW} (hG : Good G) {l : Launch} (σ : ST) (a0 : Int32) : Ctr G l yX10_isSmall cX10_isSmall 1 (some .boolean) 0 [.int a0] σ (oI σ) (Mo_isSmall σ a0) := by
  refine ctr_of hG (by decide) (Nat.le_of_ble_eq_true rfl) ?_
  intro X hXl hR hX
  have hX : Ok G X cX10_isSmall 1 RX10 0 := hX
  unfold Mo_isSmall
  show Sim G X 1 (MQX G X (oI σ)) σ 0 [(0, .int a0)] [] _
  refine s_iload_n 0 (n := 1) hX (dec_of D_X10_isSmall (i := 0) rfl) rfl rfl rfl ?_
  refine s_bipush (v := 97) (n := 3) hX (dec_of D_X10_isSmall (i := 1) rfl) rfl (by decide) ?_
  refine s_icmp_lt (tgt := 16) (n := 6) hX (dec_of D_X10_isSmall (i := 2) rfl) rfl rfl ?_ ?_
  · refine s_iconst (v := 0) (n := 17) hX (dec_of D_X10_isSmall (i := 8) rfl) rfl (by decide) ?_
    exact s_zret hX hR (dec_of D_X10_isSmall (i := 9) rfl) rfl rfl
  · refine s_iload_n 0 (n := 7) hX (dec_of D_X10_isSmall (i := 3) rfl) rfl rfl rfl ?_
    refine s_bipush (v := 122) (n := 9) hX (dec_of D_X10_isSmall (i := 4) rfl) rfl (by decide) ?_
    refine s_icmp_gt (tgt := 16) (n := 12) hX (dec_of D_X10_isSmall (i := 5) rfl) rfl rfl ?_ ?_
    · refine s_iconst (v := 0) (n := 17) hX (dec_of D_X10_isSmall (i := 8) rfl) rfl (by decide) ?_
      exact s_zret hX hR (dec_of D_X10_isSmall (i := 9) rfl) rfl rfl
    · refine s_iconst (v := 1) (n := 13) hX (dec_of D_X10_isSmall (i := 6) rfl) rfl (by decide) ?_
      refine s_goto (n := 17) hX (dec_of D_X10_isSmall (i := 7) rfl) rfl ?_
      exact s_zret hX hR (dec_of D_X10_isSmall (i := 9) rfl) rfl rfl
def T_X10_isDigit : List (Nat × Instr × Nat) := [(0, .iload_n 0, 1), (1, .bipush 48, 2), (3, .if_icmp .lt 13, 3), (6, .iload_n 0, 1), (7, .bipush 57, 2), (9, .if_icmp .gt 7, 3), (12, .iconst 1, 1), (13, .goto 4, 3), (16, .iconst 0, 1), (17, .ireturn, 1)]
theorem D_X10_isDigit : dchk cX10_isDigit T_X10_isDigit = true := by decide +kernel
def Mo_isDigit (σ : ST) (a0 : Int32) : Option Int32 :=
  (if a0 < 48 then some 0 else (if 57 < a0 then some 0 else some 1))
set_option maxHeartbeats 4000000 in
set_option maxRecDepth 100000 in
theorem c_X10_isDigit {G : GW} (hG : Good G) {l : Launch} (σ : ST) (a0 : Int32) : Ctr G l yX10_isDigit cX10_isDigit 1 (some .boolean) 0 [.int a0] σ (oI σ) (Mo_isDigit σ a0) := by
  refine ctr_of hG (by decide) (Nat.le_of_ble_eq_true rfl) ?_
  intro X hXl hR hX
  have hX : Ok G X cX10_isDigit 1 RX10 0 := hX
  unfold Mo_isDigit
  show Sim G X 1 (MQX G X (oI σ)) σ 0 [(0, .int a0)] [] _
  refine s_iload_n 0 (n := 1) hX (dec_of D_X10_isDigit (i := 0) rfl) rfl rfl rfl ?_
  refine s_bipush (v := 48) (n := 3) hX (dec_of D_X10_isDigit (i := 1) rfl) rfl (by decide) ?_
  refine s_icmp_lt (tgt := 16) (n := 6) hX (dec_of D_X10_isDigit (i := 2) rfl) rfl rfl ?_ ?_
  · refine s_iconst (v := 0) (n := 17) hX (dec_of D_X10_isDigit (i := 8) rfl) rfl (by decide) ?_
    exact s_zret hX hR (dec_of D_X10_isDigit (i := 9) rfl) rfl rfl
  · refine s_iload_n 0 (n := 7) hX (dec_of D_X10_isDigit (i := 3) rfl) rfl rfl rfl ?_
    refine s_bipush (v := 57) (n := 9) hX (dec_of D_X10_isDigit (i := 4) rfl) rfl (by decide) ?_
    refine s_icmp_gt (tgt := 16) (n := 12) hX (dec_of D_X10_isDigit (i := 5) rfl) rfl rfl ?_ ?_
    · refine s_iconst (v := 0) (n := 17) hX (dec_of D_X10_isDigit (i := 8) rfl) rfl (by decide) ?_
      exact s_zret hX hR (dec_of D_X10_isDigit (i := 9) rfl) rfl rfl
    · refine s_iconst (v := 1) (n := 13) hX (dec_of D_X10_isDigit (i := 6) rfl) rfl (by decide) ?_
      refine s_goto (n := 17) hX (dec_of D_X10_isDigit (i := 7) rfl) rfl ?_
      exact s_zret hX hR (dec_of D_X10_isDigit (i := 9) rfl) rfl rfl
def T_X10_wrong : List (Nat × Instr × Nat) := [(0, .aload_n 0, 1), (1, .getfield 136, 3), (4, .ifCond .eq 4, 3), (7, .return_, 1), (8, .aload_n 0, 1), (9, .iload_n 1, 1), (10, .putfield 136, 3), (13, .aload_n 0, 1), (14, .aload_n 0, 1), (15, .getfield 102, 3), (18, .putfield 139, 3), (21, .return_, 1)]
theorem D_X10_wrong : dchk cX10_wrong T_X10_wrong = true := by decide +kernel
def Mo_wrong (σ : ST) (a1 : Int32) : Option ST :=
  (if (gF σ 863 0) = 0 then lt_ (setF σ 863 0 a1) (fun s1 => lt_ (setF s1 864 0 (gF s1 859 0)) (fun s2 => some s2)) else some σ)
set_option maxHeartbeats 4000000 in
set_option maxRecDepth 100000 in
theorem c_X10_wrong {G : GW} (hG : Good G) {l : Launch} (σ : ST) (a1 : Int32) : Ctr G l yX10_wrong cX10_wrong 2 none 0 [.ref (ga G 131 0), .int a1] σ oV (Mo_wrong σ a1) := by
  refine ctr_of hG (by decide) (Nat.le_of_ble_eq_true rfl) ?_
  intro X hXl hR hX
  have hX : Ok G X cX10_wrong 2 RX10 0 := hX
  unfold Mo_wrong
  show Sim G X 2 (MQX G X oV) σ 0 [(0, .ref (ga G 131 0)), (1, .int a1)] [] _
  refine s_aload_n 0 (n := 1) hX (dec_of D_X10_wrong (i := 0) rfl) rfl rfl rfl ?_
  refine s_getI (c := 10) (p := 23) (id := 863) (n := 4) hX cls10 (vk131 (by omega)) (dec_of D_X10_wrong (i := 1) rfl) rfl rfl wd_1369 ?_
  refine s_if_eq (tgt := 8) (n := 7) hX (dec_of D_X10_wrong (i := 2) rfl) rfl rfl ?_ ?_
  · refine s_aload_n 0 (n := 9) hX (dec_of D_X10_wrong (i := 4) rfl) rfl rfl rfl ?_
    refine s_iload_n 1 (n := 10) hX (dec_of D_X10_wrong (i := 5) rfl) rfl rfl rfl ?_
    refine s_putI (c := 10) (p := 23) (n := 13) hX cls10 (vk131 (by omega)) (dec_of D_X10_wrong (i := 6) rfl) rfl rfl (by decide) wd_1369 rfl rfl rfl (fun s1 => ?_)
    refine s_aload_n 0 (n := 14) hX (dec_of D_X10_wrong (i := 7) rfl) rfl rfl rfl ?_
    refine s_aload_n 0 (n := 15) hX (dec_of D_X10_wrong (i := 8) rfl) rfl rfl rfl ?_
    refine s_getI (c := 10) (p := 19) (id := 859) (n := 18) hX cls10 (vk131 (by omega)) (dec_of D_X10_wrong (i := 9) rfl) rfl rfl wd_1365 ?_
    refine s_putI (c := 10) (p := 24) (n := 21) hX cls10 (vk131 (by omega)) (dec_of D_X10_wrong (i := 10) rfl) rfl rfl (by decide) wd_1370 rfl rfl rfl (fun s2 => ?_)
    exact s_vret hX hR (dec_of D_X10_wrong (i := 11) rfl) rfl
  · exact s_vret hX hR (dec_of D_X10_wrong (i := 3) rfl) rfl
def T_X10_isOther : List (Nat × Instr × Nat) := [(0, .aload_n 0, 1), (1, .getfield 136, 3), (4, .ifCond .ne 22, 3), (7, .aload_n 0, 1), (8, .getfield 105, 3), (11, .ifCond .ne 15, 3), (14, .aload_n 0, 1), (15, .getfield 118, 3), (18, .iconst (-1), 1), (19, .if_icmp .ne 7, 3), (22, .iconst 1, 1), (23, .goto 4, 3), (26, .iconst 0, 1), (27, .ireturn, 1)]
theorem D_X10_isOther : dchk cX10_isOther T_X10_isOther = true := by decide +kernel
def Mo_isOther (σ : ST)  : Option Int32 :=
  (if (gF σ 863 0) = 0 then (if (gF σ 860 0) = 0 then (if (gF σ 861 0) = (-1) then some 1 else some 0) else some 0) else some 0)
set_option maxHeartbeats 4000000 in
set_option maxRecDepth 100000 in
theorem c_X10_isOther {G : GW} (hG : Good G) {l : Launch} (σ : ST)  : Ctr G l yX10_isOther cX10_isOther 1 (some .boolean) 0 [.ref (ga G 131 0)] σ (oI σ) (Mo_isOther σ ) := by
  refine ctr_of hG (by decide) (Nat.le_of_ble_eq_true rfl) ?_
  intro X hXl hR hX
  have hX : Ok G X cX10_isOther 1 RX10 0 := hX
  unfold Mo_isOther
  show Sim G X 1 (MQX G X (oI σ)) σ 0 [(0, .ref (ga G 131 0))] [] _
  refine s_aload_n 0 (n := 1) hX (dec_of D_X10_isOther (i := 0) rfl) rfl rfl rfl ?_
  refine s_getI (c := 10) (p := 23) (id := 863) (n := 4) hX cls10 (vk131 (by omega)) (dec_of D_X10_isOther (i := 1) rfl) rfl rfl wd_1369 ?_
  refine s_if_ne (tgt := 26) (n := 7) hX (dec_of D_X10_isOther (i := 2) rfl) rfl rfl ?_ ?_
  · refine s_iconst (v := 0) (n := 27) hX (dec_of D_X10_isOther (i := 12) rfl) rfl (by decide) ?_
    exact s_zret hX hR (dec_of D_X10_isOther (i := 13) rfl) rfl rfl
  · refine s_aload_n 0 (n := 8) hX (dec_of D_X10_isOther (i := 3) rfl) rfl rfl rfl ?_
    refine s_getI (c := 10) (p := 20) (id := 860) (n := 11) hX cls10 (vk131 (by omega)) (dec_of D_X10_isOther (i := 4) rfl) rfl rfl wd_1366 ?_
    refine s_if_ne (tgt := 26) (n := 14) hX (dec_of D_X10_isOther (i := 5) rfl) rfl rfl ?_ ?_
    · refine s_iconst (v := 0) (n := 27) hX (dec_of D_X10_isOther (i := 12) rfl) rfl (by decide) ?_
      exact s_zret hX hR (dec_of D_X10_isOther (i := 13) rfl) rfl rfl
    · refine s_aload_n 0 (n := 15) hX (dec_of D_X10_isOther (i := 6) rfl) rfl rfl rfl ?_
      refine s_getI (c := 10) (p := 21) (id := 861) (n := 18) hX cls10 (vk131 (by omega)) (dec_of D_X10_isOther (i := 7) rfl) rfl rfl wd_1367 ?_
      refine s_iconst (v := (-1)) (n := 19) hX (dec_of D_X10_isOther (i := 8) rfl) rfl (by decide) ?_
      refine s_icmp_ne (tgt := 26) (n := 22) hX (dec_of D_X10_isOther (i := 9) rfl) rfl rfl ?_ ?_
      · refine s_iconst (v := 0) (n := 27) hX (dec_of D_X10_isOther (i := 12) rfl) rfl (by decide) ?_
        exact s_zret hX hR (dec_of D_X10_isOther (i := 13) rfl) rfl rfl
      · refine s_iconst (v := 1) (n := 23) hX (dec_of D_X10_isOther (i := 10) rfl) rfl (by decide) ?_
        refine s_goto (n := 27) hX (dec_of D_X10_isOther (i := 11) rfl) rfl ?_
        exact s_zret hX hR (dec_of D_X10_isOther (i := 13) rfl) rfl rfl
def T_X10_named : List (Nat × Instr × Nat) := [(0, .iconst 0, 1), (1, .istore_n 3, 1), (2, .iload_n 3, 1), (3, .iload_n 2, 1), (4, .if_icmp .ge 21, 3), (7, .aload_n 1, 1), (8, .iload_n 3, 1), (9, .iaload, 1), (10, .aload_n 0, 1), (11, .getfield 112, 3), (14, .if_icmp .ne 5, 3), (17, .iload_n 3, 1), (18, .ireturn, 1), (19, .iinc 3 1, 3), (22, .goto (-20), 3), (25, .iconst (-1), 1), (26, .ireturn, 1)]
theorem D_X10_named : dchk cX10_named T_X10_named = true := by decide +kernel
def Mo_named (σ : ST) (k1 i1 : Nat) (a2 : Int32) : Option Int32 :=
  lp_ (fun rec2 (z1 : Int32) => (if a2 ≤ z1 then some (-1) else bd_ (ldI σ k1 i1 z1) (fun v4 => (if v4 = (gF σ 862 0) then some z1 else rec2 (z1 + 1))))) FU 0
set_option maxHeartbeats 4000000 in
set_option maxRecDepth 100000 in
theorem c_X10_named {G : GW} (hG : Good G) {l : Launch} (σ : ST) (k1 i1 : Nat) (hk1 : vld k1 i1) (hk1k : k1 < 100) (a2 : Int32) : Ctr G l yX10_named cX10_named 4 (some .int) 0 [.ref (ga G 131 0), .ref (ga G k1 i1), .int a2] σ (oI σ) (Mo_named σ k1 i1 a2) := by
  refine ctr_of hG (by decide) (Nat.le_of_ble_eq_true rfl) ?_
  intro X hXl hR hX
  have hX : Ok G X cX10_named 4 RX10 0 := hX
  unfold Mo_named
  show Sim G X 4 (MQX G X (oI σ)) σ 0 [(0, .ref (ga G 131 0)), (1, .ref (ga G k1 i1)), (2, .int a2)] [] _
  refine s_iconst (v := 0) (n := 1) hX (dec_of D_X10_named (i := 0) rfl) rfl (by decide) ?_
  refine s_istore_n (lv' := [(0, _), (1, _), (2, _), (3, _)]) [1, 2, 3, 0] (n := 2) hX (dec_of D_X10_named (i := 1) rfl) rfl rfl (by decide) rfl ?_
  refine s_sub [0, 1, 2, 3] rfl (s_lp (pc := 2) (Sf := fun (z1 : Int32) => σ) (lvf := fun (z1 : Int32) => [(0, .ref (ga G 131 0)), (1, .ref (ga G k1 i1)), (2, .int a2), (3, .int z1)]) (fun rec2 hre3 z1 => ?_) FU 0)
  refine s_iload_n 3 (n := 3) hX (dec_of D_X10_named (i := 2) rfl) rfl rfl rfl ?_
  refine s_iload_n 2 (n := 4) hX (dec_of D_X10_named (i := 3) rfl) rfl rfl rfl ?_
  refine s_icmp_ge (tgt := 25) (n := 7) hX (dec_of D_X10_named (i := 4) rfl) rfl rfl ?_ ?_
  · refine s_iconst (v := (-1)) (n := 26) hX (dec_of D_X10_named (i := 15) rfl) rfl (by decide) ?_
    exact s_iret hX hR (dec_of D_X10_named (i := 16) rfl) rfl
  · refine s_aload_n 1 (n := 8) hX (dec_of D_X10_named (i := 5) rfl) rfl rfl rfl ?_
    refine s_iload_n 3 (n := 9) hX (dec_of D_X10_named (i := 6) rfl) rfl rfl rfl ?_
    refine s_iald (n := 10) hX hk1 hk1k (dec_of D_X10_named (i := 7) rfl) rfl (fun v4 => ?_)
    refine s_aload_n 0 (n := 11) hX (dec_of D_X10_named (i := 8) rfl) rfl rfl rfl ?_
    refine s_getI (c := 10) (p := 22) (id := 862) (n := 14) hX cls10 (vk131 (by omega)) (dec_of D_X10_named (i := 9) rfl) rfl rfl wd_1368 ?_
    refine s_icmp_ne (tgt := 19) (n := 17) hX (dec_of D_X10_named (i := 10) rfl) rfl rfl ?_ ?_
    · refine s_iinc (v := z1 + 1) (lv' := [(0, _), (1, _), (2, _), (3, _)]) 3 [1, 2, 3, 0] (n := 22) hX (dec_of D_X10_named (i := 13) rfl) rfl rfl rfl (by decide) rfl ?_
      refine s_goto (n := 2) hX (dec_of D_X10_named (i := 14) rfl) rfl ?_
      exact s_sub [0, 1, 2, 3] rfl (hre3 (z1 + 1))
    · refine s_iload_n 3 (n := 18) hX (dec_of D_X10_named (i := 11) rfl) rfl rfl rfl ?_
      exact s_iret hX hR (dec_of D_X10_named (i := 12) rfl) rfl
theorem lk_RX10_145 : LkV RX10 145 RX10 yX10_wrong cX10_wrong 2 none 1 := ⟨wd_1539, wd_1541, wd_21, wd_93, wd_1542, by decide +kernel, by decide⟩
def T_X10_isEnd : List (Nat × Instr × Nat) := [(0, .aload_n 0, 1), (1, .getfield 136, 3), (4, .ifCond .ne 16, 3), (7, .aload_n 0, 1), (8, .getfield 105, 3), (11, .iconst 2, 1), (12, .if_icmp .eq 8, 3), (15, .aload_n 0, 1), (16, .iconst 1, 1), (17, .invokevirtual 145, 3), (20, .aload_n 0, 1), (21, .getfield 136, 3), (24, .ifCond .ne 7, 3), (27, .iconst 1, 1), (28, .goto 4, 3), (31, .iconst 0, 1), (32, .ireturn, 1)]
theorem D_X10_isEnd : dchk cX10_isEnd T_X10_isEnd = true := by decide +kernel
def Mo_isEnd (σ : ST)  : Option (Int32 × ST) :=
  lk_ (fun kk2 => (if (gF σ 863 0) = 0 then (if (gF σ 860 0) = 2 then kk2 (σ) else bd_ (Mo_wrong (σ) 1) (fun q4 => kk2 q4)) else kk2 (σ))) (fun (j1 : ST) => (if (gF j1 863 0) = 0 then some (1, j1) else some (0, j1)))
set_option maxHeartbeats 4000000 in
set_option maxRecDepth 100000 in
theorem c_X10_isEnd {G : GW} (hG : Good G) {l : Launch} (σ : ST)  : Ctr G l yX10_isEnd cX10_isEnd 1 (some .boolean) 1 [.ref (ga G 131 0)] σ oP (Mo_isEnd σ ) := by
  refine ctr_of hG (by decide) (Nat.le_of_ble_eq_true rfl) ?_
  intro X hXl hR hX
  have hX : Ok G X cX10_isEnd 1 RX10 1 := hX
  unfold Mo_isEnd
  show Sim G X 1 (MQX G X oP) σ 0 [(0, .ref (ga G 131 0))] [] _
  refine s_aload_n 0 (n := 1) hX (dec_of D_X10_isEnd (i := 0) rfl) rfl rfl rfl ?_
  refine s_getI (c := 10) (p := 23) (id := 863) (n := 4) hX cls10 (vk131 (by omega)) (dec_of D_X10_isEnd (i := 1) rfl) rfl rfl wd_1369 ?_
  refine s_lk (pcj := 20) (Sf := fun (j1 : ST) => j1) (lvf := fun (j1 : ST) => [(0, .ref (ga G 131 0))]) (stf := fun (j1 : ST) => []) (fun j1 => ?_) (fun kk2 hkk3 => ?_)
  · refine s_aload_n 0 (n := 21) hX (dec_of D_X10_isEnd (i := 10) rfl) rfl rfl rfl ?_
    refine s_getI (c := 10) (p := 23) (id := 863) (n := 24) hX cls10 (vk131 (by omega)) (dec_of D_X10_isEnd (i := 11) rfl) rfl rfl wd_1369 ?_
    refine s_if_ne (tgt := 31) (n := 27) hX (dec_of D_X10_isEnd (i := 12) rfl) rfl rfl ?_ ?_
    · refine s_iconst (v := 0) (n := 32) hX (dec_of D_X10_isEnd (i := 15) rfl) rfl (by decide) ?_
      exact s_zret hX hR (dec_of D_X10_isEnd (i := 16) rfl) rfl rfl
    · refine s_iconst (v := 1) (n := 28) hX (dec_of D_X10_isEnd (i := 13) rfl) rfl (by decide) ?_
      refine s_goto (n := 32) hX (dec_of D_X10_isEnd (i := 14) rfl) rfl ?_
      exact s_zret hX hR (dec_of D_X10_isEnd (i := 16) rfl) rfl rfl
  · refine s_if_ne (tgt := 20) (n := 7) hX (dec_of D_X10_isEnd (i := 2) rfl) rfl rfl ?_ ?_
    · exact s_sub [0] rfl (hkk3 (σ))
    · refine s_aload_n 0 (n := 8) hX (dec_of D_X10_isEnd (i := 3) rfl) rfl rfl rfl ?_
      refine s_getI (c := 10) (p := 20) (id := 860) (n := 11) hX cls10 (vk131 (by omega)) (dec_of D_X10_isEnd (i := 4) rfl) rfl rfl wd_1366 ?_
      refine s_iconst (v := 2) (n := 12) hX (dec_of D_X10_isEnd (i := 5) rfl) rfl (by decide) ?_
      refine s_icmp_eq (tgt := 20) (n := 15) hX (dec_of D_X10_isEnd (i := 6) rfl) rfl rfl ?_ ?_
      · exact s_sub [0] rfl (hkk3 (σ))
      · refine s_aload_n 0 (n := 16) hX (dec_of D_X10_isEnd (i := 7) rfl) rfl rfl rfl ?_
        refine s_iconst (v := 1) (n := 17) hX (dec_of D_X10_isEnd (i := 8) rfl) rfl (by decide) ?_
        refine s_callVV (c := 10) (n := 20) hX cls10 (vk131 (by omega)) lk_RX10_145 (dec_of D_X10_isEnd (i := 9) rfl) rfl (by decide) (c_X10_wrong (l := _) hG _ _) rfl rfl (Nat.le_of_ble_eq_true rfl) (fun q4 => ?_)
        exact s_sub [0] rfl (hkk3 q4)
theorem lk_RX10_83 : LkV RX10 83 RX10 yX10_opens cX10_opens 2 none 0 := ⟨wd_1342, wd_1344, wd_15, wd_93, wd_1345, by decide +kernel, by decide⟩
def T_X10_takesText : List (Nat × Instr × Nat) := [(0, .iconst 0, 1), (1, .istore_n 1, 1), (2, .iload_n 1, 1), (3, .sipush 2689, 3), (6, .if_icmp .ge 16, 3), (9, .aload_n 0, 1), (10, .getfield 28, 3), (13, .iload_n 1, 1), (14, .iconst 0, 1), (15, .iastore, 1), (16, .iinc 1 1, 3), (19, .goto (-17), 3), (22, .aload_n 0, 1), (23, .invokevirtual 83, 3), (26, .iconst 0, 1), (27, .istore_n 1, 1), (28, .iload_n 1, 1), (29, .aload_n 0, 1), (30, .getfield 156, 3), (33, .if_icmp .ge 53, 3), (36, .aload_n 0, 1), (37, .getfield 13, 3), (40, .iload_n 1, 1), (41, .aload_n 0, 1), (42, .getfield 53, 3), (45, .iload_n 1, 1), (46, .iaload, 1), (47, .iastore, 1), (48, .aload_n 0, 1), (49, .getfield 28, 3), (52, .sipush 2660, 3), (55, .iload_n 1, 1), (56, .iadd, 1), (57, .aload_n 0, 1), (58, .getfield 47, 3), (61, .iload_n 1, 1), (62, .iaload, 1), (63, .iastore, 1), (64, .aload_n 0, 1), (65, .getfield 28, 3), (68, .sipush 2666, 3), (71, .iload_n 1, 1), (72, .iadd, 1), (73, .aload_n 0, 1), (74, .getfield 50, 3), (77, .iload_n 1, 1), (78, .iaload, 1), (79, .iastore, 1), (80, .iinc 1 1, 3), (83, .goto (-55), 3), (86, .iconst 0, 1), (87, .istore_n 1, 1), (88, .iload_n 1, 1), (89, .aload_n 0, 1), (90, .getfield 163, 3), (93, .if_icmp .ge 25, 3), (96, .aload_n 0, 1), (97, .getfield 28, 3), (100, .sipush 2672, 3), (103, .iload_n 1, 1), (104, .iadd, 1), (105, .aload_n 0, 1), (106, .getfield 56, 3), (109, .iload_n 1, 1), (110, .iaload, 1), (111, .iastore, 1), (112, .iinc 1 1, 3), (115, .goto (-27), 3), (118, .iconst 0, 1), (119, .istore_n 1, 1), (120, .iload_n 1, 1), (121, .bipush 64, 2), (123, .if_icmp .ge 33, 3), (126, .aload_n 0, 1), (127, .getfield 16, 3), (130, .iload_n 1, 1), (131, .aload_n 0, 1), (132, .getfield 59, 3), (135, .iload_n 1, 1), (136, .iaload, 1), (137, .iastore, 1), (138, .aload_n 0, 1), (139, .getfield 19, 3), (142, .iload_n 1, 1), (143, .aload_n 0, 1), (144, .getfield 62, 3), (147, .iload_n 1, 1), (148, .iaload, 1), (149, .iastore, 1), (150, .iinc 1 1, 3), (153, .goto (-33), 3), (156, .iconst 0, 1), (157, .istore_n 1, 1), (158, .iload_n 1, 1), (159, .bipush 8, 2), (161, .if_icmp .ge 33, 3), (164, .aload_n 0, 1), (165, .getfield 22, 3), (168, .iload_n 1, 1), (169, .aload_n 0, 1), (170, .getfield 65, 3), (173, .iload_n 1, 1), (174, .iaload, 1), (175, .iastore, 1), (176, .aload_n 0, 1), (177, .getfield 25, 3), (180, .iload_n 1, 1), (181, .aload_n 0, 1), (182, .getfield 68, 3), (185, .iload_n 1, 1), (186, .iaload, 1), (187, .iastore, 1), (188, .iinc 1 1, 3), (191, .goto (-33), 3), (194, .aload_n 0, 1), (195, .aload_n 0, 1), (196, .getfield 156, 3), (199, .putfield 229, 3), (202, .aload_n 0, 1), (203, .aload_n 0, 1), (204, .getfield 163, 3), (207, .putfield 232, 3), (210, .aload_n 0, 1), (211, .aload_n 0, 1), (212, .getfield 166, 3), (215, .putfield 235, 3), (218, .aload_n 0, 1), (219, .aload_n 0, 1), (220, .getfield 214, 3), (223, .putfield 226, 3), (226, .aload_n 0, 1), (227, .aload_n 0, 1), (228, .getfield 190, 3), (231, .putfield 77, 3), (234, .aload_n 0, 1), (235, .aload_n 0, 1), (236, .getfield 196, 3), (239, .putfield 80, 3), (242, .aload_n 0, 1), (243, .iconst 0, 1), (244, .putfield 238, 3), (247, .return_, 1)]
theorem D_X10_takesText : dchk cX10_takesText T_X10_takesText = true := by decide +kernel
def Mo_takesText (σ : ST)  : Option ST :=
  lp_ (fun rec2 (z1 : ST × Int32) => (if 2689 ≤ z1.2 then bd_ (Mo_opens z1.1) (fun q4 => lp_ (fun rec6 (z5 : ST × Int32) => (if (gF z5.1 867 0) ≤ z5.2 then lp_ (fun rec9 (z8 : ST × Int32) => (if (gF z8.1 868 0) ≤ z8.2 then lp_ (fun rec12 (z11 : ST × Int32) => (if 64 ≤ z11.2 then lp_ (fun rec15 (z14 : ST × Int32) => (if 8 ≤ z14.2 then lt_ (setF z14.1 850 0 (gF z14.1 867 0)) (fun s17 => lt_ (setF s17 851 0 (gF s17 868 0)) (fun s18 => lt_ (setF s18 852 0 (gF s18 869 0)) (fun s19 => lt_ (setF s19 853 0 (gF s19 870 0)) (fun s20 => lt_ (setF s20 848 0 (gF s20 871 0)) (fun s21 => lt_ (setF s21 849 0 (gF s21 872 0)) (fun s22 => lt_ (setF s22 856 0 0) (fun s23 => some s23))))))) else bd_ (ldI z14.1 45 0 z14.2) (fun v24 => bd_ (stI z14.1 32 0 z14.2 v24) (fun s25 => bd_ (ldI s25 46 0 z14.2) (fun v26 => bd_ (stI s25 33 0 z14.2 v26) (fun s27 => rec15 (s27, (z14.2 + 1)))))))) FU (z11.1, 0) else bd_ (ldI z11.1 43 0 z11.2) (fun v28 => bd_ (stI z11.1 30 0 z11.2 v28) (fun s29 => bd_ (ldI s29 44 0 z11.2) (fun v30 => bd_ (stI s29 31 0 z11.2 v30) (fun s31 => rec12 (s31, (z11.2 + 1)))))))) FU (z8.1, 0) else bd_ (ldI z8.1 42 0 z8.2) (fun v32 => bd_ (stI z8.1 34 0 (2672 + z8.2) v32) (fun s33 => rec9 (s33, (z8.2 + 1)))))) FU (z5.1, 0) else bd_ (ldI z5.1 41 0 z5.2) (fun v34 => bd_ (stI z5.1 29 0 z5.2 v34) (fun s35 => bd_ (ldI s35 39 0 z5.2) (fun v36 => bd_ (stI s35 34 0 (2660 + z5.2) v36) (fun s37 => bd_ (ldI s37 40 0 z5.2) (fun v38 => bd_ (stI s37 34 0 (2666 + z5.2) v38) (fun s39 => rec6 (s39, (z5.2 + 1)))))))))) FU (q4, 0)) else bd_ (stI z1.1 34 0 z1.2 0) (fun s40 => rec2 (s40, (z1.2 + 1))))) FU (σ, 0)
set_option maxHeartbeats 4000000 in
set_option maxRecDepth 100000 in
theorem c_X10_takesText {G : GW} (hG : Good G) {l : Launch} (σ : ST)  : Ctr G l yX10_takesText cX10_takesText 2 none 1 [.ref (ga G 131 0)] σ oV (Mo_takesText σ ) := by
  refine ctr_of hG (by decide) (Nat.le_of_ble_eq_true rfl) ?_
  intro X hXl hR hX
  have hX : Ok G X cX10_takesText 2 RX10 1 := hX
  unfold Mo_takesText
  show Sim G X 2 (MQX G X oV) σ 0 [(0, .ref (ga G 131 0))] [] _
  refine s_iconst (v := 0) (n := 1) hX (dec_of D_X10_takesText (i := 0) rfl) rfl (by decide) ?_
  refine s_istore_n (lv' := [(0, _), (1, _)]) [1, 0] (n := 2) hX (dec_of D_X10_takesText (i := 1) rfl) rfl rfl (by decide) rfl ?_
  refine s_sub [0, 1] rfl (s_lp (pc := 2) (Sf := fun (z1 : ST × Int32) => z1.1) (lvf := fun (z1 : ST × Int32) => [(0, .ref (ga G 131 0)), (1, .int z1.2)]) (fun rec2 hre3 z1 => ?_) FU (σ, 0))
  refine s_iload_n 1 (n := 3) hX (dec_of D_X10_takesText (i := 2) rfl) rfl rfl rfl ?_
  refine s_sipush (v := 2689) (n := 6) hX (dec_of D_X10_takesText (i := 3) rfl) rfl (by decide) ?_
  refine s_icmp_ge (tgt := 22) (n := 9) hX (dec_of D_X10_takesText (i := 4) rfl) rfl rfl ?_ ?_
  · refine s_aload_n 0 (n := 23) hX (dec_of D_X10_takesText (i := 12) rfl) rfl rfl rfl ?_
    refine s_callVV (c := 10) (n := 26) hX cls10 (vk131 (by omega)) lk_RX10_83 (dec_of D_X10_takesText (i := 13) rfl) rfl (by decide) (c_X10_opens (l := _) hG _) rfl rfl (Nat.le_of_ble_eq_true rfl) (fun q4 => ?_)
    refine s_iconst (v := 0) (n := 27) hX (dec_of D_X10_takesText (i := 14) rfl) rfl (by decide) ?_
    refine s_istore_n (lv' := [(0, _), (1, _)]) [1, 0] (n := 28) hX (dec_of D_X10_takesText (i := 15) rfl) rfl rfl (by decide) rfl ?_
    refine s_sub [0, 1] rfl (s_lp (pc := 28) (Sf := fun (z5 : ST × Int32) => z5.1) (lvf := fun (z5 : ST × Int32) => [(0, .ref (ga G 131 0)), (1, .int z5.2)]) (fun rec6 hre7 z5 => ?_) FU (q4, 0))
    refine s_iload_n 1 (n := 29) hX (dec_of D_X10_takesText (i := 16) rfl) rfl rfl rfl ?_
    refine s_aload_n 0 (n := 30) hX (dec_of D_X10_takesText (i := 17) rfl) rfl rfl rfl ?_
    refine s_getI (c := 10) (p := 27) (id := 867) (n := 33) hX cls10 (vk131 (by omega)) (dec_of D_X10_takesText (i := 18) rfl) rfl rfl wd_1373 ?_
    refine s_icmp_ge (tgt := 86) (n := 36) hX (dec_of D_X10_takesText (i := 19) rfl) rfl rfl ?_ ?_
    · refine s_iconst (v := 0) (n := 87) hX (dec_of D_X10_takesText (i := 50) rfl) rfl (by decide) ?_
      refine s_istore_n (lv' := [(0, _), (1, _)]) [1, 0] (n := 88) hX (dec_of D_X10_takesText (i := 51) rfl) rfl rfl (by decide) rfl ?_
      refine s_sub [0, 1] rfl (s_lp (pc := 88) (Sf := fun (z8 : ST × Int32) => z8.1) (lvf := fun (z8 : ST × Int32) => [(0, .ref (ga G 131 0)), (1, .int z8.2)]) (fun rec9 hre10 z8 => ?_) FU (z5.1, 0))
      refine s_iload_n 1 (n := 89) hX (dec_of D_X10_takesText (i := 52) rfl) rfl rfl rfl ?_
      refine s_aload_n 0 (n := 90) hX (dec_of D_X10_takesText (i := 53) rfl) rfl rfl rfl ?_
      refine s_getI (c := 10) (p := 28) (id := 868) (n := 93) hX cls10 (vk131 (by omega)) (dec_of D_X10_takesText (i := 54) rfl) rfl rfl wd_1374 ?_
      refine s_icmp_ge (tgt := 118) (n := 96) hX (dec_of D_X10_takesText (i := 55) rfl) rfl rfl ?_ ?_
      · refine s_iconst (v := 0) (n := 119) hX (dec_of D_X10_takesText (i := 68) rfl) rfl (by decide) ?_
        refine s_istore_n (lv' := [(0, _), (1, _)]) [1, 0] (n := 120) hX (dec_of D_X10_takesText (i := 69) rfl) rfl rfl (by decide) rfl ?_
        refine s_sub [0, 1] rfl (s_lp (pc := 120) (Sf := fun (z11 : ST × Int32) => z11.1) (lvf := fun (z11 : ST × Int32) => [(0, .ref (ga G 131 0)), (1, .int z11.2)]) (fun rec12 hre13 z11 => ?_) FU (z8.1, 0))
        refine s_iload_n 1 (n := 121) hX (dec_of D_X10_takesText (i := 70) rfl) rfl rfl rfl ?_
        refine s_bipush (v := 64) (n := 123) hX (dec_of D_X10_takesText (i := 71) rfl) rfl (by decide) ?_
        refine s_icmp_ge (tgt := 156) (n := 126) hX (dec_of D_X10_takesText (i := 72) rfl) rfl rfl ?_ ?_
        · refine s_iconst (v := 0) (n := 157) hX (dec_of D_X10_takesText (i := 91) rfl) rfl (by decide) ?_
          refine s_istore_n (lv' := [(0, _), (1, _)]) [1, 0] (n := 158) hX (dec_of D_X10_takesText (i := 92) rfl) rfl rfl (by decide) rfl ?_
          refine s_sub [0, 1] rfl (s_lp (pc := 158) (Sf := fun (z14 : ST × Int32) => z14.1) (lvf := fun (z14 : ST × Int32) => [(0, .ref (ga G 131 0)), (1, .int z14.2)]) (fun rec15 hre16 z14 => ?_) FU (z11.1, 0))
          refine s_iload_n 1 (n := 159) hX (dec_of D_X10_takesText (i := 93) rfl) rfl rfl rfl ?_
          refine s_bipush (v := 8) (n := 161) hX (dec_of D_X10_takesText (i := 94) rfl) rfl (by decide) ?_
          refine s_icmp_ge (tgt := 194) (n := 164) hX (dec_of D_X10_takesText (i := 95) rfl) rfl rfl ?_ ?_
          · refine s_aload_n 0 (n := 195) hX (dec_of D_X10_takesText (i := 114) rfl) rfl rfl rfl ?_
            refine s_aload_n 0 (n := 196) hX (dec_of D_X10_takesText (i := 115) rfl) rfl rfl rfl ?_
            refine s_getI (c := 10) (p := 27) (id := 867) (n := 199) hX cls10 (vk131 (by omega)) (dec_of D_X10_takesText (i := 116) rfl) rfl rfl wd_1373 ?_
            refine s_putI (c := 10) (p := 10) (n := 202) hX cls10 (vk131 (by omega)) (dec_of D_X10_takesText (i := 117) rfl) rfl rfl (by decide) wd_1356 rfl rfl rfl (fun s17 => ?_)
            refine s_aload_n 0 (n := 203) hX (dec_of D_X10_takesText (i := 118) rfl) rfl rfl rfl ?_
            refine s_aload_n 0 (n := 204) hX (dec_of D_X10_takesText (i := 119) rfl) rfl rfl rfl ?_
            refine s_getI (c := 10) (p := 28) (id := 868) (n := 207) hX cls10 (vk131 (by omega)) (dec_of D_X10_takesText (i := 120) rfl) rfl rfl wd_1374 ?_
            refine s_putI (c := 10) (p := 11) (n := 210) hX cls10 (vk131 (by omega)) (dec_of D_X10_takesText (i := 121) rfl) rfl rfl (by decide) wd_1357 rfl rfl rfl (fun s18 => ?_)
            refine s_aload_n 0 (n := 211) hX (dec_of D_X10_takesText (i := 122) rfl) rfl rfl rfl ?_
            refine s_aload_n 0 (n := 212) hX (dec_of D_X10_takesText (i := 123) rfl) rfl rfl rfl ?_
            refine s_getI (c := 10) (p := 29) (id := 869) (n := 215) hX cls10 (vk131 (by omega)) (dec_of D_X10_takesText (i := 124) rfl) rfl rfl wd_1375 ?_
            refine s_putI (c := 10) (p := 12) (n := 218) hX cls10 (vk131 (by omega)) (dec_of D_X10_takesText (i := 125) rfl) rfl rfl (by decide) wd_1358 rfl rfl rfl (fun s19 => ?_)
            refine s_aload_n 0 (n := 219) hX (dec_of D_X10_takesText (i := 126) rfl) rfl rfl rfl ?_
            refine s_aload_n 0 (n := 220) hX (dec_of D_X10_takesText (i := 127) rfl) rfl rfl rfl ?_
            refine s_getI (c := 10) (p := 30) (id := 870) (n := 223) hX cls10 (vk131 (by omega)) (dec_of D_X10_takesText (i := 128) rfl) rfl rfl wd_1376 ?_
            refine s_putI (c := 10) (p := 13) (n := 226) hX cls10 (vk131 (by omega)) (dec_of D_X10_takesText (i := 129) rfl) rfl rfl (by decide) wd_1359 rfl rfl rfl (fun s20 => ?_)
            refine s_aload_n 0 (n := 227) hX (dec_of D_X10_takesText (i := 130) rfl) rfl rfl rfl ?_
            refine s_aload_n 0 (n := 228) hX (dec_of D_X10_takesText (i := 131) rfl) rfl rfl rfl ?_
            refine s_getI (c := 10) (p := 31) (id := 871) (n := 231) hX cls10 (vk131 (by omega)) (dec_of D_X10_takesText (i := 132) rfl) rfl rfl wd_1377 ?_
            refine s_putI (c := 10) (p := 8) (n := 234) hX cls10 (vk131 (by omega)) (dec_of D_X10_takesText (i := 133) rfl) rfl rfl (by decide) wd_1354 rfl rfl rfl (fun s21 => ?_)
            refine s_aload_n 0 (n := 235) hX (dec_of D_X10_takesText (i := 134) rfl) rfl rfl rfl ?_
            refine s_aload_n 0 (n := 236) hX (dec_of D_X10_takesText (i := 135) rfl) rfl rfl rfl ?_
            refine s_getI (c := 10) (p := 32) (id := 872) (n := 239) hX cls10 (vk131 (by omega)) (dec_of D_X10_takesText (i := 136) rfl) rfl rfl wd_1378 ?_
            refine s_putI (c := 10) (p := 9) (n := 242) hX cls10 (vk131 (by omega)) (dec_of D_X10_takesText (i := 137) rfl) rfl rfl (by decide) wd_1355 rfl rfl rfl (fun s22 => ?_)
            refine s_aload_n 0 (n := 243) hX (dec_of D_X10_takesText (i := 138) rfl) rfl rfl rfl ?_
            refine s_iconst (v := 0) (n := 244) hX (dec_of D_X10_takesText (i := 139) rfl) rfl (by decide) ?_
            refine s_putI (c := 10) (p := 16) (n := 247) hX cls10 (vk131 (by omega)) (dec_of D_X10_takesText (i := 140) rfl) rfl rfl (by decide) wd_1362 rfl rfl rfl (fun s23 => ?_)
            exact s_vret hX hR (dec_of D_X10_takesText (i := 141) rfl) rfl
          · refine s_aload_n 0 (n := 165) hX (dec_of D_X10_takesText (i := 96) rfl) rfl rfl rfl ?_
            refine s_getR (c := 10) (p := 6) (k' := 32) (n := 168) hX cls10 (vk131 (by omega)) (dec_of D_X10_takesText (i := 97) rfl) rfl rfl wd_1352 ?_
            refine s_iload_n 1 (n := 169) hX (dec_of D_X10_takesText (i := 98) rfl) rfl rfl rfl ?_
            refine s_aload_n 0 (n := 170) hX (dec_of D_X10_takesText (i := 99) rfl) rfl rfl rfl ?_
            refine s_getR (c := 10) (p := 44) (k' := 45) (n := 173) hX cls10 (vk131 (by omega)) (dec_of D_X10_takesText (i := 100) rfl) rfl rfl wd_1390 ?_
            refine s_iload_n 1 (n := 174) hX (dec_of D_X10_takesText (i := 101) rfl) rfl rfl rfl ?_
            refine s_iald (n := 175) hX (vk45 (by omega)) (by decide) (dec_of D_X10_takesText (i := 102) rfl) rfl (fun v24 => ?_)
            refine s_iast (n := 176) hX (vk32 (by omega)) (by decide) (dec_of D_X10_takesText (i := 103) rfl) rfl (fun s25 => ?_)
            refine s_aload_n 0 (n := 177) hX (dec_of D_X10_takesText (i := 104) rfl) rfl rfl rfl ?_
            refine s_getR (c := 10) (p := 7) (k' := 33) (n := 180) hX cls10 (vk131 (by omega)) (dec_of D_X10_takesText (i := 105) rfl) rfl rfl wd_1353 ?_
            refine s_iload_n 1 (n := 181) hX (dec_of D_X10_takesText (i := 106) rfl) rfl rfl rfl ?_
            refine s_aload_n 0 (n := 182) hX (dec_of D_X10_takesText (i := 107) rfl) rfl rfl rfl ?_
            refine s_getR (c := 10) (p := 45) (k' := 46) (n := 185) hX cls10 (vk131 (by omega)) (dec_of D_X10_takesText (i := 108) rfl) rfl rfl wd_1391 ?_
            refine s_iload_n 1 (n := 186) hX (dec_of D_X10_takesText (i := 109) rfl) rfl rfl rfl ?_
            refine s_iald (n := 187) hX (vk46 (by omega)) (by decide) (dec_of D_X10_takesText (i := 110) rfl) rfl (fun v26 => ?_)
            refine s_iast (n := 188) hX (vk33 (by omega)) (by decide) (dec_of D_X10_takesText (i := 111) rfl) rfl (fun s27 => ?_)
            refine s_iinc (v := z14.2 + 1) (lv' := [(0, _), (1, _)]) 1 [1, 0] (n := 191) hX (dec_of D_X10_takesText (i := 112) rfl) rfl rfl rfl (by decide) rfl ?_
            refine s_goto (n := 158) hX (dec_of D_X10_takesText (i := 113) rfl) rfl ?_
            exact s_sub [0, 1] rfl (hre16 (s27, (z14.2 + 1)))
        · refine s_aload_n 0 (n := 127) hX (dec_of D_X10_takesText (i := 73) rfl) rfl rfl rfl ?_
          refine s_getR (c := 10) (p := 4) (k' := 30) (n := 130) hX cls10 (vk131 (by omega)) (dec_of D_X10_takesText (i := 74) rfl) rfl rfl wd_1350 ?_
          refine s_iload_n 1 (n := 131) hX (dec_of D_X10_takesText (i := 75) rfl) rfl rfl rfl ?_
          refine s_aload_n 0 (n := 132) hX (dec_of D_X10_takesText (i := 76) rfl) rfl rfl rfl ?_
          refine s_getR (c := 10) (p := 42) (k' := 43) (n := 135) hX cls10 (vk131 (by omega)) (dec_of D_X10_takesText (i := 77) rfl) rfl rfl wd_1388 ?_
          refine s_iload_n 1 (n := 136) hX (dec_of D_X10_takesText (i := 78) rfl) rfl rfl rfl ?_
          refine s_iald (n := 137) hX (vk43 (by omega)) (by decide) (dec_of D_X10_takesText (i := 79) rfl) rfl (fun v28 => ?_)
          refine s_iast (n := 138) hX (vk30 (by omega)) (by decide) (dec_of D_X10_takesText (i := 80) rfl) rfl (fun s29 => ?_)
          refine s_aload_n 0 (n := 139) hX (dec_of D_X10_takesText (i := 81) rfl) rfl rfl rfl ?_
          refine s_getR (c := 10) (p := 5) (k' := 31) (n := 142) hX cls10 (vk131 (by omega)) (dec_of D_X10_takesText (i := 82) rfl) rfl rfl wd_1351 ?_
          refine s_iload_n 1 (n := 143) hX (dec_of D_X10_takesText (i := 83) rfl) rfl rfl rfl ?_
          refine s_aload_n 0 (n := 144) hX (dec_of D_X10_takesText (i := 84) rfl) rfl rfl rfl ?_
          refine s_getR (c := 10) (p := 43) (k' := 44) (n := 147) hX cls10 (vk131 (by omega)) (dec_of D_X10_takesText (i := 85) rfl) rfl rfl wd_1389 ?_
          refine s_iload_n 1 (n := 148) hX (dec_of D_X10_takesText (i := 86) rfl) rfl rfl rfl ?_
          refine s_iald (n := 149) hX (vk44 (by omega)) (by decide) (dec_of D_X10_takesText (i := 87) rfl) rfl (fun v30 => ?_)
          refine s_iast (n := 150) hX (vk31 (by omega)) (by decide) (dec_of D_X10_takesText (i := 88) rfl) rfl (fun s31 => ?_)
          refine s_iinc (v := z11.2 + 1) (lv' := [(0, _), (1, _)]) 1 [1, 0] (n := 153) hX (dec_of D_X10_takesText (i := 89) rfl) rfl rfl rfl (by decide) rfl ?_
          refine s_goto (n := 120) hX (dec_of D_X10_takesText (i := 90) rfl) rfl ?_
          exact s_sub [0, 1] rfl (hre13 (s31, (z11.2 + 1)))
      · refine s_aload_n 0 (n := 97) hX (dec_of D_X10_takesText (i := 56) rfl) rfl rfl rfl ?_
        refine s_getR (c := 10) (p := 14) (k' := 34) (n := 100) hX cls10 (vk131 (by omega)) (dec_of D_X10_takesText (i := 57) rfl) rfl rfl wd_1360 ?_
        refine s_sipush (v := 2672) (n := 103) hX (dec_of D_X10_takesText (i := 58) rfl) rfl (by decide) ?_
        refine s_iload_n 1 (n := 104) hX (dec_of D_X10_takesText (i := 59) rfl) rfl rfl rfl ?_
        refine s_iadd (n := 105) hX (dec_of D_X10_takesText (i := 60) rfl) rfl ?_
        refine s_aload_n 0 (n := 106) hX (dec_of D_X10_takesText (i := 61) rfl) rfl rfl rfl ?_
        refine s_getR (c := 10) (p := 41) (k' := 42) (n := 109) hX cls10 (vk131 (by omega)) (dec_of D_X10_takesText (i := 62) rfl) rfl rfl wd_1387 ?_
        refine s_iload_n 1 (n := 110) hX (dec_of D_X10_takesText (i := 63) rfl) rfl rfl rfl ?_
        refine s_iald (n := 111) hX (vk42 (by omega)) (by decide) (dec_of D_X10_takesText (i := 64) rfl) rfl (fun v32 => ?_)
        refine s_iast (n := 112) hX (vk34 (by omega)) (by decide) (dec_of D_X10_takesText (i := 65) rfl) rfl (fun s33 => ?_)
        refine s_iinc (v := z8.2 + 1) (lv' := [(0, _), (1, _)]) 1 [1, 0] (n := 115) hX (dec_of D_X10_takesText (i := 66) rfl) rfl rfl rfl (by decide) rfl ?_
        refine s_goto (n := 88) hX (dec_of D_X10_takesText (i := 67) rfl) rfl ?_
        exact s_sub [0, 1] rfl (hre10 (s33, (z8.2 + 1)))
    · refine s_aload_n 0 (n := 37) hX (dec_of D_X10_takesText (i := 20) rfl) rfl rfl rfl ?_
      refine s_getR (c := 10) (p := 3) (k' := 29) (n := 40) hX cls10 (vk131 (by omega)) (dec_of D_X10_takesText (i := 21) rfl) rfl rfl wd_1349 ?_
      refine s_iload_n 1 (n := 41) hX (dec_of D_X10_takesText (i := 22) rfl) rfl rfl rfl ?_
      refine s_aload_n 0 (n := 42) hX (dec_of D_X10_takesText (i := 23) rfl) rfl rfl rfl ?_
      refine s_getR (c := 10) (p := 40) (k' := 41) (n := 45) hX cls10 (vk131 (by omega)) (dec_of D_X10_takesText (i := 24) rfl) rfl rfl wd_1386 ?_
      refine s_iload_n 1 (n := 46) hX (dec_of D_X10_takesText (i := 25) rfl) rfl rfl rfl ?_
      refine s_iald (n := 47) hX (vk41 (by omega)) (by decide) (dec_of D_X10_takesText (i := 26) rfl) rfl (fun v34 => ?_)
      refine s_iast (n := 48) hX (vk29 (by omega)) (by decide) (dec_of D_X10_takesText (i := 27) rfl) rfl (fun s35 => ?_)
      refine s_aload_n 0 (n := 49) hX (dec_of D_X10_takesText (i := 28) rfl) rfl rfl rfl ?_
      refine s_getR (c := 10) (p := 14) (k' := 34) (n := 52) hX cls10 (vk131 (by omega)) (dec_of D_X10_takesText (i := 29) rfl) rfl rfl wd_1360 ?_
      refine s_sipush (v := 2660) (n := 55) hX (dec_of D_X10_takesText (i := 30) rfl) rfl (by decide) ?_
      refine s_iload_n 1 (n := 56) hX (dec_of D_X10_takesText (i := 31) rfl) rfl rfl rfl ?_
      refine s_iadd (n := 57) hX (dec_of D_X10_takesText (i := 32) rfl) rfl ?_
      refine s_aload_n 0 (n := 58) hX (dec_of D_X10_takesText (i := 33) rfl) rfl rfl rfl ?_
      refine s_getR (c := 10) (p := 38) (k' := 39) (n := 61) hX cls10 (vk131 (by omega)) (dec_of D_X10_takesText (i := 34) rfl) rfl rfl wd_1384 ?_
      refine s_iload_n 1 (n := 62) hX (dec_of D_X10_takesText (i := 35) rfl) rfl rfl rfl ?_
      refine s_iald (n := 63) hX (vk39 (by omega)) (by decide) (dec_of D_X10_takesText (i := 36) rfl) rfl (fun v36 => ?_)
      refine s_iast (n := 64) hX (vk34 (by omega)) (by decide) (dec_of D_X10_takesText (i := 37) rfl) rfl (fun s37 => ?_)
      refine s_aload_n 0 (n := 65) hX (dec_of D_X10_takesText (i := 38) rfl) rfl rfl rfl ?_
      refine s_getR (c := 10) (p := 14) (k' := 34) (n := 68) hX cls10 (vk131 (by omega)) (dec_of D_X10_takesText (i := 39) rfl) rfl rfl wd_1360 ?_
      refine s_sipush (v := 2666) (n := 71) hX (dec_of D_X10_takesText (i := 40) rfl) rfl (by decide) ?_
      refine s_iload_n 1 (n := 72) hX (dec_of D_X10_takesText (i := 41) rfl) rfl rfl rfl ?_
      refine s_iadd (n := 73) hX (dec_of D_X10_takesText (i := 42) rfl) rfl ?_
      refine s_aload_n 0 (n := 74) hX (dec_of D_X10_takesText (i := 43) rfl) rfl rfl rfl ?_
      refine s_getR (c := 10) (p := 39) (k' := 40) (n := 77) hX cls10 (vk131 (by omega)) (dec_of D_X10_takesText (i := 44) rfl) rfl rfl wd_1385 ?_
      refine s_iload_n 1 (n := 78) hX (dec_of D_X10_takesText (i := 45) rfl) rfl rfl rfl ?_
      refine s_iald (n := 79) hX (vk40 (by omega)) (by decide) (dec_of D_X10_takesText (i := 46) rfl) rfl (fun v38 => ?_)
      refine s_iast (n := 80) hX (vk34 (by omega)) (by decide) (dec_of D_X10_takesText (i := 47) rfl) rfl (fun s39 => ?_)
      refine s_iinc (v := z5.2 + 1) (lv' := [(0, _), (1, _)]) 1 [1, 0] (n := 83) hX (dec_of D_X10_takesText (i := 48) rfl) rfl rfl rfl (by decide) rfl ?_
      refine s_goto (n := 28) hX (dec_of D_X10_takesText (i := 49) rfl) rfl ?_
      exact s_sub [0, 1] rfl (hre7 (s39, (z5.2 + 1)))
  · refine s_aload_n 0 (n := 10) hX (dec_of D_X10_takesText (i := 5) rfl) rfl rfl rfl ?_
    refine s_getR (c := 10) (p := 14) (k' := 34) (n := 13) hX cls10 (vk131 (by omega)) (dec_of D_X10_takesText (i := 6) rfl) rfl rfl wd_1360 ?_
    refine s_iload_n 1 (n := 14) hX (dec_of D_X10_takesText (i := 7) rfl) rfl rfl rfl ?_
    refine s_iconst (v := 0) (n := 15) hX (dec_of D_X10_takesText (i := 8) rfl) rfl (by decide) ?_
    refine s_iast (n := 16) hX (vk34 (by omega)) (by decide) (dec_of D_X10_takesText (i := 9) rfl) rfl (fun s40 => ?_)
    refine s_iinc (v := z1.2 + 1) (lv' := [(0, _), (1, _)]) 1 [1, 0] (n := 19) hX (dec_of D_X10_takesText (i := 10) rfl) rfl rfl rfl (by decide) rfl ?_
    refine s_goto (n := 2) hX (dec_of D_X10_takesText (i := 11) rfl) rfl ?_
    exact s_sub [0, 1] rfl (hre3 (s40, (z1.2 + 1)))

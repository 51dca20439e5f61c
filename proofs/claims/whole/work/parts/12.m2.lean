def T_X7_append : List (Nat × Instr × Nat) := [(0, .bipush 24, 2), (2, .istore_n 2, 1), (3, .iload_n 2, 1), (4, .ifCond .lt 45, 3), (7, .aload_n 0, 1), (8, .getfield 25, 3), (11, .sipush 900, 3), (14, .if_icmp .ge 35, 3), (17, .aload_n 0, 1), (18, .getfield 9, 3), (21, .aload_n 0, 1), (22, .getfield 25, 3), (25, .iload_n 1, 1), (26, .iload_n 2, 1), (27, .ishr, 1), (28, .sipush 255, 3), (31, .iand, 1), (32, .iastore, 1), (33, .aload_n 0, 1), (34, .dup, 1), (35, .getfield 25, 3), (38, .iconst 1, 1), (39, .iadd, 1), (40, .putfield 25, 3), (43, .iinc 2 (-8), 3), (46, .goto (-43), 3), (49, .return_, 1)]
theorem D_X7_append : dchk cX7_append T_X7_append = true := by decide +kernel
def Tp_append (σ : ST) (a1 : Int32) : Option ST :=
  lp_ (fun rec2 (z1 : ST × Int32) => (if z1.2 < 0 then some z1.1 else (if 900 ≤ (gF z1.1 652 0) then some z1.1 else bd_ (stI z1.1 21 0 (gF z1.1 652 0) ((a1 >>> (z1.2 &&& 31)) &&& 255)) (fun s4 => lt_ (setF s4 652 0 ((gF s4 652 0) + 1)) (fun s5 => rec2 (s5, (z1.2 + (-8)))))))) FU (σ, 24)
set_option maxHeartbeats 4000000 in
set_option maxRecDepth 100000 in
theorem c_X7_append {G : GW} (hG : Good G) {l : Launch} (σ : ST) (a1 : Int32) : Ctr G l yX7_append cX7_append 3 none 0 [.ref (ga G 128 0), .int a1] σ oV (Tp_append σ a1) := by
  refine ctr_of hG (by decide) (Nat.le_of_ble_eq_true rfl) ?_
  intro X hXl hR hX
  have hX : Ok G X cX7_append 3 RX7 0 := hX
  unfold Tp_append
  show Sim G X 3 (MQX G X oV) σ 0 [(0, .ref (ga G 128 0)), (1, .int a1)] [] _
  refine s_bipush (v := 24) (n := 2) hX (dec_of D_X7_append (i := 0) rfl) rfl (by decide) ?_
  refine s_istore_n (lv' := [(0, _), (1, _), (2, _)]) [1, 2, 0] (n := 3) hX (dec_of D_X7_append (i := 1) rfl) rfl rfl (by decide) rfl ?_
  refine s_sub [0, 1, 2] rfl (s_lp (pc := 3) (Sf := fun (z1 : ST × Int32) => z1.1) (lvf := fun (z1 : ST × Int32) => [(0, .ref (ga G 128 0)), (1, .int a1), (2, .int z1.2)]) (fun rec2 hre3 z1 => ?_) FU (σ, 24))
  refine s_iload_n 2 (n := 4) hX (dec_of D_X7_append (i := 2) rfl) rfl rfl rfl ?_
  refine s_if_lt (tgt := 49) (n := 7) hX (dec_of D_X7_append (i := 3) rfl) rfl rfl ?_ ?_
  · exact s_vret hX hR (dec_of D_X7_append (i := 26) rfl) rfl
  · refine s_aload_n 0 (n := 8) hX (dec_of D_X7_append (i := 4) rfl) rfl rfl rfl ?_
    refine s_getI (c := 7) (p := 4) (id := 652) (n := 11) hX cls7 (vk128 (by omega)) (dec_of D_X7_append (i := 5) rfl) rfl rfl wd_135 ?_
    refine s_sipush (v := 900) (n := 14) hX (dec_of D_X7_append (i := 6) rfl) rfl (by decide) ?_
    refine s_icmp_ge (tgt := 49) (n := 17) hX (dec_of D_X7_append (i := 7) rfl) rfl rfl ?_ ?_
    · exact s_vret hX hR (dec_of D_X7_append (i := 26) rfl) rfl
    · refine s_aload_n 0 (n := 18) hX (dec_of D_X7_append (i := 8) rfl) rfl rfl rfl ?_
      refine s_getR (c := 7) (p := 0) (k' := 21) (n := 21) hX cls7 (vk128 (by omega)) (dec_of D_X7_append (i := 9) rfl) rfl rfl wd_127 ?_
      refine s_aload_n 0 (n := 22) hX (dec_of D_X7_append (i := 10) rfl) rfl rfl rfl ?_
      refine s_getI (c := 7) (p := 4) (id := 652) (n := 25) hX cls7 (vk128 (by omega)) (dec_of D_X7_append (i := 11) rfl) rfl rfl wd_135 ?_
      refine s_iload_n 1 (n := 26) hX (dec_of D_X7_append (i := 12) rfl) rfl rfl rfl ?_
      refine s_iload_n 2 (n := 27) hX (dec_of D_X7_append (i := 13) rfl) rfl rfl rfl ?_
      refine s_ishr (n := 28) hX (dec_of D_X7_append (i := 14) rfl) rfl ?_
      refine s_sipush (v := 255) (n := 31) hX (dec_of D_X7_append (i := 15) rfl) rfl (by decide) ?_
      refine s_iand (n := 32) hX (dec_of D_X7_append (i := 16) rfl) rfl ?_
      refine s_iast (n := 33) hX (vk21 (by omega)) (by decide) (dec_of D_X7_append (i := 17) rfl) rfl (fun s4 => ?_)
      refine s_aload_n 0 (n := 34) hX (dec_of D_X7_append (i := 18) rfl) rfl rfl rfl ?_
      refine s_dup (n := 35) hX (dec_of D_X7_append (i := 19) rfl) rfl rfl ?_
      refine s_getI (c := 7) (p := 4) (id := 652) (n := 38) hX cls7 (vk128 (by omega)) (dec_of D_X7_append (i := 20) rfl) rfl rfl wd_135 ?_
      refine s_iconst (v := 1) (n := 39) hX (dec_of D_X7_append (i := 21) rfl) rfl (by decide) ?_
      refine s_iadd (n := 40) hX (dec_of D_X7_append (i := 22) rfl) rfl ?_
      refine s_putI (c := 7) (p := 4) (n := 43) hX cls7 (vk128 (by omega)) (dec_of D_X7_append (i := 23) rfl) rfl rfl (by decide) wd_135 rfl rfl rfl (fun s5 => ?_)
      refine s_iinc (v := z1.2 + (-8)) (lv' := [(0, _), (1, _), (2, _)]) 2 [1, 2, 0] (n := 46) hX (dec_of D_X7_append (i := 24) rfl) rfl rfl rfl (by decide) rfl ?_
      refine s_goto (n := 3) hX (dec_of D_X7_append (i := 25) rfl) rfl ?_
      exact s_sub [0, 1, 2] rfl (hre3 (s5, (z1.2 + (-8))))
def T_X8_hasTerms : List (Nat × Instr × Nat) := [(0, .aload_n 0, 1), (1, .getfield 9, 3), (4, .iload_n 1, 1), (5, .iaload, 1), (6, .iload_n 2, 1), (7, .if_icmp .ne 17, 3), (10, .aload_n 0, 1), (11, .getfield 15, 3), (14, .iload_n 1, 1), (15, .iaload, 1), (16, .iload_n 3, 1), (17, .if_icmp .ne 7, 3), (20, .iconst 1, 1), (21, .goto 4, 3), (24, .iconst 0, 1), (25, .ireturn, 1)]
theorem D_X8_hasTerms : dchk cX8_hasTerms T_X8_hasTerms = true := by decide +kernel
def Wo_hasTerms (σ : ST) (i0 : Nat) (a1 : Int32) (a2 : Int32) (a3 : Int32) : Option Int32 :=
  bd_ (ldI σ 24 i0 a1) (fun v1 => (if v1 = a2 then bd_ (ldI σ 25 i0 a1) (fun v2 => (if v2 = a3 then some 1 else some 0)) else some 0))
set_option maxHeartbeats 4000000 in
set_option maxRecDepth 100000 in
theorem c_X8_hasTerms {G : GW} (hG : Good G) {l : Launch} (σ : ST) (i0 : Nat) (h0 : i0 < 14) (a1 : Int32) (a2 : Int32) (a3 : Int32) : Ctr G l yX8_hasTerms cX8_hasTerms 4 (some .boolean) 0 [.ref (ga G 129 i0), .int a1, .int a2, .int a3] σ (oI σ) (Wo_hasTerms σ i0 a1 a2 a3) := by
  refine ctr_of hG (by decide) (Nat.le_of_ble_eq_true rfl) ?_
  intro X hXl hR hX
  have hX : Ok G X cX8_hasTerms 4 RX8 0 := hX
  unfold Wo_hasTerms
  show Sim G X 4 (MQX G X (oI σ)) σ 0 [(0, .ref (ga G 129 i0)), (1, .int a1), (2, .int a2), (3, .int a3)] [] _
  refine s_aload_n 0 (n := 1) hX (dec_of D_X8_hasTerms (i := 0) rfl) rfl rfl rfl ?_
  refine s_getR (c := 8) (p := 0) (k' := 24) (n := 4) hX cls8 (vk129 (by omega)) (dec_of D_X8_hasTerms (i := 1) rfl) rfl rfl wd_198 ?_
  refine s_iload_n 1 (n := 5) hX (dec_of D_X8_hasTerms (i := 2) rfl) rfl rfl rfl ?_
  refine s_iald (n := 6) hX (vk24 (by omega)) (by decide) (dec_of D_X8_hasTerms (i := 3) rfl) rfl (fun v1 => ?_)
  refine s_iload_n 2 (n := 7) hX (dec_of D_X8_hasTerms (i := 4) rfl) rfl rfl rfl ?_
  refine s_icmp_ne (tgt := 24) (n := 10) hX (dec_of D_X8_hasTerms (i := 5) rfl) rfl rfl ?_ ?_
  · refine s_iconst (v := 0) (n := 25) hX (dec_of D_X8_hasTerms (i := 14) rfl) rfl (by decide) ?_
    exact s_zret hX hR (dec_of D_X8_hasTerms (i := 15) rfl) rfl rfl
  · refine s_aload_n 0 (n := 11) hX (dec_of D_X8_hasTerms (i := 6) rfl) rfl rfl rfl ?_
    refine s_getR (c := 8) (p := 1) (k' := 25) (n := 14) hX cls8 (vk129 (by omega)) (dec_of D_X8_hasTerms (i := 7) rfl) rfl rfl wd_200 ?_
    refine s_iload_n 1 (n := 15) hX (dec_of D_X8_hasTerms (i := 8) rfl) rfl rfl rfl ?_
    refine s_iald (n := 16) hX (vk25 (by omega)) (by decide) (dec_of D_X8_hasTerms (i := 9) rfl) rfl (fun v2 => ?_)
    refine s_iload_n 3 (n := 17) hX (dec_of D_X8_hasTerms (i := 10) rfl) rfl rfl rfl ?_
    refine s_icmp_ne (tgt := 24) (n := 20) hX (dec_of D_X8_hasTerms (i := 11) rfl) rfl rfl ?_ ?_
    · refine s_iconst (v := 0) (n := 25) hX (dec_of D_X8_hasTerms (i := 14) rfl) rfl (by decide) ?_
      exact s_zret hX hR (dec_of D_X8_hasTerms (i := 15) rfl) rfl rfl
    · refine s_iconst (v := 1) (n := 21) hX (dec_of D_X8_hasTerms (i := 12) rfl) rfl (by decide) ?_
      refine s_goto (n := 25) hX (dec_of D_X8_hasTerms (i := 13) rfl) rfl ?_
      exact s_zret hX hR (dec_of D_X8_hasTerms (i := 15) rfl) rfl rfl
def T_X8_setTerms : List (Nat × Instr × Nat) := [(0, .aload_n 0, 1), (1, .getfield 9, 3), (4, .iload_n 1, 1), (5, .iload_n 2, 1), (6, .iastore, 1), (7, .aload_n 0, 1), (8, .getfield 15, 3), (11, .iload_n 1, 1), (12, .iload_n 3, 1), (13, .iastore, 1), (14, .return_, 1)]
theorem D_X8_setTerms : dchk cX8_setTerms T_X8_setTerms = true := by decide +kernel
def Wo_setTerms (σ : ST) (i0 : Nat) (a1 : Int32) (a2 : Int32) (a3 : Int32) : Option ST :=
  bd_ (stI σ 24 i0 a1 a2) (fun s1 => bd_ (stI s1 25 i0 a1 a3) (fun s2 => some s2))
set_option maxHeartbeats 4000000 in
set_option maxRecDepth 100000 in
theorem c_X8_setTerms {G : GW} (hG : Good G) {l : Launch} (σ : ST) (i0 : Nat) (h0 : i0 < 14) (a1 : Int32) (a2 : Int32) (a3 : Int32) : Ctr G l yX8_setTerms cX8_setTerms 4 none 0 [.ref (ga G 129 i0), .int a1, .int a2, .int a3] σ oV (Wo_setTerms σ i0 a1 a2 a3) := by
  refine ctr_of hG (by decide) (Nat.le_of_ble_eq_true rfl) ?_
  intro X hXl hR hX
  have hX : Ok G X cX8_setTerms 4 RX8 0 := hX
  unfold Wo_setTerms
  show Sim G X 4 (MQX G X oV) σ 0 [(0, .ref (ga G 129 i0)), (1, .int a1), (2, .int a2), (3, .int a3)] [] _
  refine s_aload_n 0 (n := 1) hX (dec_of D_X8_setTerms (i := 0) rfl) rfl rfl rfl ?_
  refine s_getR (c := 8) (p := 0) (k' := 24) (n := 4) hX cls8 (vk129 (by omega)) (dec_of D_X8_setTerms (i := 1) rfl) rfl rfl wd_198 ?_
  refine s_iload_n 1 (n := 5) hX (dec_of D_X8_setTerms (i := 2) rfl) rfl rfl rfl ?_
  refine s_iload_n 2 (n := 6) hX (dec_of D_X8_setTerms (i := 3) rfl) rfl rfl rfl ?_
  refine s_iast (n := 7) hX (vk24 (by omega)) (by decide) (dec_of D_X8_setTerms (i := 4) rfl) rfl (fun s1 => ?_)
  refine s_aload_n 0 (n := 8) hX (dec_of D_X8_setTerms (i := 5) rfl) rfl rfl rfl ?_
  refine s_getR (c := 8) (p := 1) (k' := 25) (n := 11) hX cls8 (vk129 (by omega)) (dec_of D_X8_setTerms (i := 6) rfl) rfl rfl wd_200 ?_
  refine s_iload_n 1 (n := 12) hX (dec_of D_X8_setTerms (i := 7) rfl) rfl rfl rfl ?_
  refine s_iload_n 3 (n := 13) hX (dec_of D_X8_setTerms (i := 8) rfl) rfl rfl rfl ?_
  refine s_iast (n := 14) hX (vk25 (by omega)) (by decide) (dec_of D_X8_setTerms (i := 9) rfl) rfl (fun s2 => ?_)
  exact s_vret hX hR (dec_of D_X8_setTerms (i := 10) rfl) rfl
def T_X8_payers : List (Nat × Instr × Nat) := [(0, .iconst 0, 1), (1, .istore 4, 2), (3, .iconst 0, 1), (4, .istore 5, 2), (6, .iload 5, 2), (8, .aload_n 1, 1), (9, .getfield 45, 3), (12, .if_icmp .ge 23, 3), (15, .aload_n 0, 1), (16, .iload 5, 2), (18, .iload_n 2, 1), (19, .iload_n 3, 1), (20, .invokevirtual 49, 3), (23, .ifCond .eq 6, 3), (26, .iinc 4 1, 3), (29, .iinc 5 1, 3), (32, .goto (-26), 3), (35, .iload 4, 2), (37, .ireturn, 1)]
theorem D_X8_payers : dchk cX8_payers T_X8_payers = true := by decide +kernel
def Wo_payers (σ : ST) (i0 : Nat) (i1 : Nat) (a2 : Int32) (a3 : Int32) : Option Int32 :=
  lp_ (fun rec2 (z1 : Int32 × Int32) => (if (gF σ 529 i1) ≤ z1.2 then some z1.1 else bd_ (Wo_payable (σ) i0 z1.2 a2 a3) (fun q4 => (if q4 = 0 then rec2 (z1.1, (z1.2 + 1)) else rec2 ((z1.1 + 1), (z1.2 + 1)))))) FU (0, 0)
set_option maxHeartbeats 4000000 in
set_option maxRecDepth 100000 in
theorem c_X8_payers {G : GW} (hG : Good G) {l : Launch} (σ : ST) (i0 : Nat) (h0 : i0 < 14) (i1 : Nat) (h1 : i1 < 2) (a2 : Int32) (a3 : Int32) : Ctr G l yX8_payers cX8_payers 6 (some .int) 2 [.ref (ga G 129 i0), .ref (ga G 126 i1), .int a2, .int a3] σ (oI σ) (Wo_payers σ i0 i1 a2 a3) := by
  refine ctr_of hG (by decide) (Nat.le_of_ble_eq_true rfl) ?_
  intro X hXl hR hX
  have hX : Ok G X cX8_payers 6 RX8 2 := hX
  unfold Wo_payers
  show Sim G X 6 (MQX G X (oI σ)) σ 0 [(0, .ref (ga G 129 i0)), (1, .ref (ga G 126 i1)), (2, .int a2), (3, .int a3)] [] _
  refine s_iconst (v := 0) (n := 1) hX (dec_of D_X8_payers (i := 0) rfl) rfl (by decide) ?_
  refine s_istore (lv' := [(0, _), (1, _), (2, _), (3, _), (4, _)]) [1, 2, 3, 4, 0] (n := 3) hX (dec_of D_X8_payers (i := 1) rfl) rfl (by decide) rfl ?_
  refine s_iconst (v := 0) (n := 4) hX (dec_of D_X8_payers (i := 2) rfl) rfl (by decide) ?_
  refine s_istore (lv' := [(0, _), (1, _), (2, _), (3, _), (4, _), (5, _)]) [1, 2, 3, 4, 5, 0] (n := 6) hX (dec_of D_X8_payers (i := 3) rfl) rfl (by decide) rfl ?_
  refine s_sub [0, 1, 2, 3, 4, 5] rfl (s_lp (pc := 6) (Sf := fun (z1 : Int32 × Int32) => σ) (lvf := fun (z1 : Int32 × Int32) => [(0, .ref (ga G 129 i0)), (1, .ref (ga G 126 i1)), (2, .int a2), (3, .int a3), (4, .int z1.1), (5, .int z1.2)]) (fun rec2 hre3 z1 => ?_) FU (0, 0))
  refine s_iload 5 (n := 8) hX (dec_of D_X8_payers (i := 4) rfl) rfl rfl ?_
  refine s_aload_n 1 (n := 9) hX (dec_of D_X8_payers (i := 5) rfl) rfl rfl rfl ?_
  refine s_getI (c := 5) (p := 9) (id := 529) (n := 12) hX cls5 (vk126 (by omega)) (dec_of D_X8_payers (i := 6) rfl) rfl rfl wd_391 ?_
  refine s_icmp_ge (tgt := 35) (n := 15) hX (dec_of D_X8_payers (i := 7) rfl) rfl rfl ?_ ?_
  · refine s_iload 4 (n := 37) hX (dec_of D_X8_payers (i := 17) rfl) rfl rfl ?_
    exact s_iret hX hR (dec_of D_X8_payers (i := 18) rfl) rfl
  · refine s_aload_n 0 (n := 16) hX (dec_of D_X8_payers (i := 8) rfl) rfl rfl rfl ?_
    refine s_iload 5 (n := 18) hX (dec_of D_X8_payers (i := 9) rfl) rfl rfl ?_
    refine s_iload_n 2 (n := 19) hX (dec_of D_X8_payers (i := 10) rfl) rfl rfl rfl ?_
    refine s_iload_n 3 (n := 20) hX (dec_of D_X8_payers (i := 11) rfl) rfl rfl rfl ?_
    refine s_callVI (c := 8) (n := 23) hX cls8 (vk129 (by omega)) lk_RX8_49 (dec_of D_X8_payers (i := 12) rfl) rfl (by decide) (c_X8_payable (l := _) hG _ _ (by omega) _ _ _) rfl rfl (Nat.le_of_ble_eq_true rfl) (fun q4 => ?_)
    refine s_if_eq (tgt := 29) (n := 26) hX (dec_of D_X8_payers (i := 13) rfl) rfl rfl ?_ ?_
    · refine s_iinc (v := z1.2 + 1) (lv' := [(0, _), (1, _), (2, _), (3, _), (4, _), (5, _)]) 5 [1, 2, 3, 4, 5, 0] (n := 32) hX (dec_of D_X8_payers (i := 15) rfl) rfl rfl rfl (by decide) rfl ?_
      refine s_goto (n := 6) hX (dec_of D_X8_payers (i := 16) rfl) rfl ?_
      exact s_sub [0, 1, 2, 3, 4, 5] rfl (hre3 (z1.1, (z1.2 + 1)))
    · refine s_iinc (v := z1.1 + 1) (lv' := [(0, _), (1, _), (2, _), (3, _), (4, _), (5, _)]) 4 [1, 2, 3, 4, 0, 5] (n := 29) hX (dec_of D_X8_payers (i := 14) rfl) rfl rfl rfl (by decide) rfl ?_
      refine s_iinc (v := z1.2 + 1) (lv' := [(0, _), (1, _), (2, _), (3, _), (4, _), (5, _)]) 5 [1, 2, 3, 4, 5, 0] (n := 32) hX (dec_of D_X8_payers (i := 15) rfl) rfl rfl rfl (by decide) rfl ?_
      refine s_goto (n := 6) hX (dec_of D_X8_payers (i := 16) rfl) rfl ?_
      exact s_sub [0, 1, 2, 3, 4, 5] rfl (hre3 ((z1.1 + 1), (z1.2 + 1)))
def T_X8_paysSome : List (Nat × Instr × Nat) := [(0, .aload_n 0, 1), (1, .iload_n 1, 1), (2, .iload_n 2, 1), (3, .iconst 0, 1), (4, .invokevirtual 49, 3), (7, .ifCond .ne 13, 3), (10, .aload_n 0, 1), (11, .iload_n 1, 1), (12, .iload_n 2, 1), (13, .iconst 1, 1), (14, .invokevirtual 49, 3), (17, .ifCond .eq 7, 3), (20, .iconst 1, 1), (21, .goto 4, 3), (24, .iconst 0, 1), (25, .ireturn, 1)]
theorem D_X8_paysSome : dchk cX8_paysSome T_X8_paysSome = true := by decide +kernel
def Wo_paysSome (σ : ST) (i0 : Nat) (a1 : Int32) (a2 : Int32) : Option Int32 :=
  bd_ (Wo_payable (σ) i0 a1 a2 0) (fun q1 => (if q1 = 0 then bd_ (Wo_payable (σ) i0 a1 a2 1) (fun q2 => (if q2 = 0 then some 0 else some 1)) else some 1))
set_option maxHeartbeats 4000000 in
set_option maxRecDepth 100000 in
theorem c_X8_paysSome {G : GW} (hG : Good G) {l : Launch} (σ : ST) (i0 : Nat) (h0 : i0 < 14) (a1 : Int32) (a2 : Int32) : Ctr G l yX8_paysSome cX8_paysSome 3 (some .boolean) 2 [.ref (ga G 129 i0), .int a1, .int a2] σ (oI σ) (Wo_paysSome σ i0 a1 a2) := by
  refine ctr_of hG (by decide) (Nat.le_of_ble_eq_true rfl) ?_
  intro X hXl hR hX
  have hX : Ok G X cX8_paysSome 3 RX8 2 := hX
  unfold Wo_paysSome
  show Sim G X 3 (MQX G X (oI σ)) σ 0 [(0, .ref (ga G 129 i0)), (1, .int a1), (2, .int a2)] [] _
  refine s_aload_n 0 (n := 1) hX (dec_of D_X8_paysSome (i := 0) rfl) rfl rfl rfl ?_
  refine s_iload_n 1 (n := 2) hX (dec_of D_X8_paysSome (i := 1) rfl) rfl rfl rfl ?_
  refine s_iload_n 2 (n := 3) hX (dec_of D_X8_paysSome (i := 2) rfl) rfl rfl rfl ?_
  refine s_iconst (v := 0) (n := 4) hX (dec_of D_X8_paysSome (i := 3) rfl) rfl (by decide) ?_
  refine s_callVI (c := 8) (n := 7) hX cls8 (vk129 (by omega)) lk_RX8_49 (dec_of D_X8_paysSome (i := 4) rfl) rfl (by decide) (c_X8_payable (l := _) hG _ _ (by omega) _ _ _) rfl rfl (Nat.le_of_ble_eq_true rfl) (fun q1 => ?_)
  refine s_if_ne (tgt := 20) (n := 10) hX (dec_of D_X8_paysSome (i := 5) rfl) rfl rfl ?_ ?_
  · refine s_iconst (v := 1) (n := 21) hX (dec_of D_X8_paysSome (i := 12) rfl) rfl (by decide) ?_
    refine s_goto (n := 25) hX (dec_of D_X8_paysSome (i := 13) rfl) rfl ?_
    exact s_zret hX hR (dec_of D_X8_paysSome (i := 15) rfl) rfl rfl
  · refine s_aload_n 0 (n := 11) hX (dec_of D_X8_paysSome (i := 6) rfl) rfl rfl rfl ?_
    refine s_iload_n 1 (n := 12) hX (dec_of D_X8_paysSome (i := 7) rfl) rfl rfl rfl ?_
    refine s_iload_n 2 (n := 13) hX (dec_of D_X8_paysSome (i := 8) rfl) rfl rfl rfl ?_
    refine s_iconst (v := 1) (n := 14) hX (dec_of D_X8_paysSome (i := 9) rfl) rfl (by decide) ?_
    refine s_callVI (c := 8) (n := 17) hX cls8 (vk129 (by omega)) lk_RX8_49 (dec_of D_X8_paysSome (i := 10) rfl) rfl (by decide) (c_X8_payable (l := _) hG _ _ (by omega) _ _ _) rfl rfl (Nat.le_of_ble_eq_true rfl) (fun q2 => ?_)
    refine s_if_eq (tgt := 24) (n := 20) hX (dec_of D_X8_paysSome (i := 11) rfl) rfl rfl ?_ ?_
    · refine s_iconst (v := 0) (n := 25) hX (dec_of D_X8_paysSome (i := 14) rfl) rfl (by decide) ?_
      exact s_zret hX hR (dec_of D_X8_paysSome (i := 15) rfl) rfl rfl
    · refine s_iconst (v := 1) (n := 21) hX (dec_of D_X8_paysSome (i := 12) rfl) rfl (by decide) ?_
      refine s_goto (n := 25) hX (dec_of D_X8_paysSome (i := 13) rfl) rfl ?_
      exact s_zret hX hR (dec_of D_X8_paysSome (i := 15) rfl) rfl rfl
theorem lk_RX8_53 : LkV RX8 53 RX8 yX8_paysSome cX8_paysSome 3 (some .boolean) 2 := ⟨wd_775, wd_776, wd_777, wd_87, wd_778, by decide +kernel, by decide⟩
def T_X8_answerOne : List (Nat × Instr × Nat) := [(0, .iload_n 1, 1), (1, .iload_n 2, 1), (2, .if_icmp .eq 21, 3), (5, .aload_n 0, 1), (6, .iload_n 1, 1), (7, .iload_n 2, 1), (8, .invokevirtual 53, 3), (11, .ifCond .eq 16, 3), (14, .aload_n 0, 1), (15, .iload_n 2, 1), (16, .iload_n 1, 1), (17, .invokevirtual 53, 3), (20, .ifCond .eq 7, 3), (23, .iconst 1, 1), (24, .goto 4, 3), (27, .iconst 0, 1), (28, .ireturn, 1)]
theorem D_X8_answerOne : dchk cX8_answerOne T_X8_answerOne = true := by decide +kernel
def Wo_answerOne (σ : ST) (i0 : Nat) (a1 : Int32) (a2 : Int32) : Option Int32 :=
  (if a1 = a2 then some 1 else bd_ (Wo_paysSome (σ) i0 a1 a2) (fun q1 => (if q1 = 0 then some 0 else bd_ (Wo_paysSome (σ) i0 a2 a1) (fun q2 => (if q2 = 0 then some 0 else some 1)))))
set_option maxHeartbeats 4000000 in
set_option maxRecDepth 100000 in
theorem c_X8_answerOne {G : GW} (hG : Good G) {l : Launch} (σ : ST) (i0 : Nat) (h0 : i0 < 14) (a1 : Int32) (a2 : Int32) : Ctr G l yX8_answerOne cX8_answerOne 3 (some .boolean) 3 [.ref (ga G 129 i0), .int a1, .int a2] σ (oI σ) (Wo_answerOne σ i0 a1 a2) := by
  refine ctr_of hG (by decide) (Nat.le_of_ble_eq_true rfl) ?_
  intro X hXl hR hX
  have hX : Ok G X cX8_answerOne 3 RX8 3 := hX
  unfold Wo_answerOne
  show Sim G X 3 (MQX G X (oI σ)) σ 0 [(0, .ref (ga G 129 i0)), (1, .int a1), (2, .int a2)] [] _
  refine s_iload_n 1 (n := 1) hX (dec_of D_X8_answerOne (i := 0) rfl) rfl rfl rfl ?_
  refine s_iload_n 2 (n := 2) hX (dec_of D_X8_answerOne (i := 1) rfl) rfl rfl rfl ?_
  refine s_icmp_eq (tgt := 23) (n := 5) hX (dec_of D_X8_answerOne (i := 2) rfl) rfl rfl ?_ ?_
  · refine s_iconst (v := 1) (n := 24) hX (dec_of D_X8_answerOne (i := 13) rfl) rfl (by decide) ?_
    refine s_goto (n := 28) hX (dec_of D_X8_answerOne (i := 14) rfl) rfl ?_
    exact s_zret hX hR (dec_of D_X8_answerOne (i := 16) rfl) rfl rfl
  · refine s_aload_n 0 (n := 6) hX (dec_of D_X8_answerOne (i := 3) rfl) rfl rfl rfl ?_
    refine s_iload_n 1 (n := 7) hX (dec_of D_X8_answerOne (i := 4) rfl) rfl rfl rfl ?_
    refine s_iload_n 2 (n := 8) hX (dec_of D_X8_answerOne (i := 5) rfl) rfl rfl rfl ?_
    refine s_callVI (c := 8) (n := 11) hX cls8 (vk129 (by omega)) lk_RX8_53 (dec_of D_X8_answerOne (i := 6) rfl) rfl (by decide) (c_X8_paysSome (l := _) hG _ _ (by omega) _ _) rfl rfl (Nat.le_of_ble_eq_true rfl) (fun q1 => ?_)
    refine s_if_eq (tgt := 27) (n := 14) hX (dec_of D_X8_answerOne (i := 7) rfl) rfl rfl ?_ ?_
    · refine s_iconst (v := 0) (n := 28) hX (dec_of D_X8_answerOne (i := 15) rfl) rfl (by decide) ?_
      exact s_zret hX hR (dec_of D_X8_answerOne (i := 16) rfl) rfl rfl
    · refine s_aload_n 0 (n := 15) hX (dec_of D_X8_answerOne (i := 8) rfl) rfl rfl rfl ?_
      refine s_iload_n 2 (n := 16) hX (dec_of D_X8_answerOne (i := 9) rfl) rfl rfl rfl ?_
      refine s_iload_n 1 (n := 17) hX (dec_of D_X8_answerOne (i := 10) rfl) rfl rfl rfl ?_
      refine s_callVI (c := 8) (n := 20) hX cls8 (vk129 (by omega)) lk_RX8_53 (dec_of D_X8_answerOne (i := 11) rfl) rfl (by decide) (c_X8_paysSome (l := _) hG _ _ (by omega) _ _) rfl rfl (Nat.le_of_ble_eq_true rfl) (fun q2 => ?_)
      refine s_if_eq (tgt := 27) (n := 23) hX (dec_of D_X8_answerOne (i := 12) rfl) rfl rfl ?_ ?_
      · refine s_iconst (v := 0) (n := 28) hX (dec_of D_X8_answerOne (i := 15) rfl) rfl (by decide) ?_
        exact s_zret hX hR (dec_of D_X8_answerOne (i := 16) rfl) rfl rfl
      · refine s_iconst (v := 1) (n := 24) hX (dec_of D_X8_answerOne (i := 13) rfl) rfl (by decide) ?_
        refine s_goto (n := 28) hX (dec_of D_X8_answerOne (i := 14) rfl) rfl ?_
        exact s_zret hX hR (dec_of D_X8_answerOne (i := 16) rfl) rfl rfl
theorem lk_RX8_56 : LkV RX8 56 RX8 yX8_answerOne cX8_answerOne 3 (some .boolean) 2 := ⟨wd_787, wd_772, wd_773, wd_87, wd_774, by decide +kernel, by decide⟩
def T_X8_answerBits : List (Nat × Instr × Nat) := [(0, .iconst 0, 1), (1, .istore_n 3, 1), (2, .iconst 0, 1), (3, .istore 4, 2), (5, .iload 4, 2), (7, .aload_n 1, 1), (8, .getfield 45, 3), (11, .if_icmp .ge 26, 3), (14, .aload_n 0, 1), (15, .iload_n 2, 1), (16, .iload 4, 2), (18, .invokevirtual 56, 3), (21, .ifCond .eq 10, 3), (24, .iload_n 3, 1), (25, .iconst 1, 1), (26, .iload 4, 2), (28, .ishl, 1), (29, .ior, 1), (30, .istore_n 3, 1), (31, .iinc 4 1, 3), (34, .goto (-29), 3), (37, .iload_n 3, 1), (38, .ireturn, 1)]
theorem D_X8_answerBits : dchk cX8_answerBits T_X8_answerBits = true := by decide +kernel
def Wo_answerBits (σ : ST) (i0 : Nat) (i1 : Nat) (a2 : Int32) : Option Int32 :=
  lp_ (fun rec2 (z1 : Int32 × Int32) => (if (gF σ 529 i1) ≤ z1.2 then some z1.1 else bd_ (Wo_answerOne (σ) i0 a2 z1.2) (fun q4 => (if q4 = 0 then rec2 (z1.1, (z1.2 + 1)) else lt_ ((z1.1 ||| (1 <<< (z1.2 &&& 31)))) (fun x5 => rec2 (x5, (z1.2 + 1))))))) FU (0, 0)
set_option maxHeartbeats 4000000 in
set_option maxRecDepth 100000 in
theorem c_X8_answerBits {G : GW} (hG : Good G) {l : Launch} (σ : ST) (i0 : Nat) (h0 : i0 < 14) (i1 : Nat) (h1 : i1 < 2) (a2 : Int32) : Ctr G l yX8_answerBits cX8_answerBits 5 (some .int) 4 [.ref (ga G 129 i0), .ref (ga G 126 i1), .int a2] σ (oI σ) (Wo_answerBits σ i0 i1 a2) := by
  refine ctr_of hG (by decide) (Nat.le_of_ble_eq_true rfl) ?_
  intro X hXl hR hX
  have hX : Ok G X cX8_answerBits 5 RX8 4 := hX
  unfold Wo_answerBits
  show Sim G X 5 (MQX G X (oI σ)) σ 0 [(0, .ref (ga G 129 i0)), (1, .ref (ga G 126 i1)), (2, .int a2)] [] _
  refine s_iconst (v := 0) (n := 1) hX (dec_of D_X8_answerBits (i := 0) rfl) rfl (by decide) ?_
  refine s_istore_n (lv' := [(0, _), (1, _), (2, _), (3, _)]) [1, 2, 3, 0] (n := 2) hX (dec_of D_X8_answerBits (i := 1) rfl) rfl rfl (by decide) rfl ?_
  refine s_iconst (v := 0) (n := 3) hX (dec_of D_X8_answerBits (i := 2) rfl) rfl (by decide) ?_
  refine s_istore (lv' := [(0, _), (1, _), (2, _), (3, _), (4, _)]) [1, 2, 3, 4, 0] (n := 5) hX (dec_of D_X8_answerBits (i := 3) rfl) rfl (by decide) rfl ?_
  refine s_sub [0, 1, 2, 3, 4] rfl (s_lp (pc := 5) (Sf := fun (z1 : Int32 × Int32) => σ) (lvf := fun (z1 : Int32 × Int32) => [(0, .ref (ga G 129 i0)), (1, .ref (ga G 126 i1)), (2, .int a2), (3, .int z1.1), (4, .int z1.2)]) (fun rec2 hre3 z1 => ?_) FU (0, 0))
  refine s_iload 4 (n := 7) hX (dec_of D_X8_answerBits (i := 4) rfl) rfl rfl ?_
  refine s_aload_n 1 (n := 8) hX (dec_of D_X8_answerBits (i := 5) rfl) rfl rfl rfl ?_
  refine s_getI (c := 5) (p := 9) (id := 529) (n := 11) hX cls5 (vk126 (by omega)) (dec_of D_X8_answerBits (i := 6) rfl) rfl rfl wd_391 ?_
  refine s_icmp_ge (tgt := 37) (n := 14) hX (dec_of D_X8_answerBits (i := 7) rfl) rfl rfl ?_ ?_
  · refine s_iload_n 3 (n := 38) hX (dec_of D_X8_answerBits (i := 21) rfl) rfl rfl rfl ?_
    exact s_iret hX hR (dec_of D_X8_answerBits (i := 22) rfl) rfl
  · refine s_aload_n 0 (n := 15) hX (dec_of D_X8_answerBits (i := 8) rfl) rfl rfl rfl ?_
    refine s_iload_n 2 (n := 16) hX (dec_of D_X8_answerBits (i := 9) rfl) rfl rfl rfl ?_
    refine s_iload 4 (n := 18) hX (dec_of D_X8_answerBits (i := 10) rfl) rfl rfl ?_
    refine s_callVI (c := 8) (n := 21) hX cls8 (vk129 (by omega)) lk_RX8_56 (dec_of D_X8_answerBits (i := 11) rfl) rfl (by decide) (c_X8_answerOne (l := _) hG _ _ (by omega) _ _) rfl rfl (Nat.le_of_ble_eq_true rfl) (fun q4 => ?_)
    refine s_if_eq (tgt := 31) (n := 24) hX (dec_of D_X8_answerBits (i := 12) rfl) rfl rfl ?_ ?_
    · refine s_iinc (v := z1.2 + 1) (lv' := [(0, _), (1, _), (2, _), (3, _), (4, _)]) 4 [1, 2, 3, 4, 0] (n := 34) hX (dec_of D_X8_answerBits (i := 19) rfl) rfl rfl rfl (by decide) rfl ?_
      refine s_goto (n := 5) hX (dec_of D_X8_answerBits (i := 20) rfl) rfl ?_
      exact s_sub [0, 1, 2, 3, 4] rfl (hre3 (z1.1, (z1.2 + 1)))
    · refine s_iload_n 3 (n := 25) hX (dec_of D_X8_answerBits (i := 13) rfl) rfl rfl rfl ?_
      refine s_iconst (v := 1) (n := 26) hX (dec_of D_X8_answerBits (i := 14) rfl) rfl (by decide) ?_
      refine s_iload 4 (n := 28) hX (dec_of D_X8_answerBits (i := 15) rfl) rfl rfl ?_
      refine s_ishl (n := 29) hX (dec_of D_X8_answerBits (i := 16) rfl) rfl ?_
      refine s_ior (n := 30) hX (dec_of D_X8_answerBits (i := 17) rfl) rfl ?_
      refine s_topi (fun x5 => ?_)
      refine s_istore_n (lv' := [(0, _), (1, _), (2, _), (3, _), (4, _)]) [1, 2, 3, 0, 4] (n := 31) hX (dec_of D_X8_answerBits (i := 18) rfl) rfl rfl (by decide) rfl ?_
      refine s_iinc (v := z1.2 + 1) (lv' := [(0, _), (1, _), (2, _), (3, _), (4, _)]) 4 [1, 2, 3, 4, 0] (n := 34) hX (dec_of D_X8_answerBits (i := 19) rfl) rfl rfl rfl (by decide) rfl ?_
      refine s_goto (n := 5) hX (dec_of D_X8_answerBits (i := 20) rfl) rfl ?_
      exact s_sub [0, 1, 2, 3, 4] rfl (hre3 (x5, (z1.2 + 1)))
theorem lk_RX8_59 : LkV RX8 59 RX8 yX8_answerBits cX8_answerBits 5 (some .int) 2 := ⟨wd_796, wd_784, wd_785, wd_87, wd_786, by decide +kernel, by decide⟩
def T_X8_ringBits : List (Nat × Instr × Nat) := [(0, .iconst 1, 1), (1, .iload_n 2, 1), (2, .ishl, 1), (3, .istore_n 3, 1), (4, .iconst 0, 1), (5, .istore 4, 2), (7, .iload 4, 2), (9, .aload_n 1, 1), (10, .getfield 45, 3), (13, .if_icmp .ge 47, 3), (16, .iconst 0, 1), (17, .istore 5, 2), (19, .iload 5, 2), (21, .aload_n 1, 1), (22, .getfield 45, 3), (25, .if_icmp .ge 29, 3), (28, .iload_n 3, 1), (29, .iload 5, 2), (31, .ishr, 1), (32, .iconst 1, 1), (33, .iand, 1), (34, .iconst 1, 1), (35, .if_icmp .ne 13, 3), (38, .iload_n 3, 1), (39, .aload_n 0, 1), (40, .aload_n 1, 1), (41, .iload 5, 2), (43, .invokevirtual 59, 3), (46, .ior, 1), (47, .istore_n 3, 1), (48, .iinc 5 1, 3), (51, .goto (-32), 3), (54, .iinc 4 1, 3), (57, .goto (-50), 3), (60, .iload_n 3, 1), (61, .ireturn, 1)]
theorem D_X8_ringBits : dchk cX8_ringBits T_X8_ringBits = true := by decide +kernel
def Wo_ringBits (σ : ST) (i0 : Nat) (i1 : Nat) (a2 : Int32) : Option Int32 :=
  lt_ ((1 <<< (a2 &&& 31))) (fun x1 => lp_ (fun rec3 (z2 : Int32 × Int32) => (if (gF σ 529 i1) ≤ z2.2 then some z2.1 else lp_ (fun rec6 (z5 : Int32 × Int32) => (if (gF σ 529 i1) ≤ z5.2 then rec3 (z5.1, (z2.2 + 1)) else (if ((z5.1 >>> (z5.2 &&& 31)) &&& 1) = 1 then bd_ (Wo_answerBits (σ) i0 i1 z5.2) (fun q8 => lt_ ((z5.1 ||| q8)) (fun x9 => rec6 (x9, (z5.2 + 1)))) else rec6 (z5.1, (z5.2 + 1))))) FU (z2.1, 0))) FU (x1, 0))
set_option maxHeartbeats 4000000 in
set_option maxRecDepth 100000 in
theorem c_X8_ringBits {G : GW} (hG : Good G) {l : Launch} (σ : ST) (i0 : Nat) (h0 : i0 < 14) (i1 : Nat) (h1 : i1 < 2) (a2 : Int32) : Ctr G l yX8_ringBits cX8_ringBits 6 (some .int) 5 [.ref (ga G 129 i0), .ref (ga G 126 i1), .int a2] σ (oI σ) (Wo_ringBits σ i0 i1 a2) := by
  refine ctr_of hG (by decide) (Nat.le_of_ble_eq_true rfl) ?_
  intro X hXl hR hX
  have hX : Ok G X cX8_ringBits 6 RX8 5 := hX
  unfold Wo_ringBits
  show Sim G X 6 (MQX G X (oI σ)) σ 0 [(0, .ref (ga G 129 i0)), (1, .ref (ga G 126 i1)), (2, .int a2)] [] _
  refine s_iconst (v := 1) (n := 1) hX (dec_of D_X8_ringBits (i := 0) rfl) rfl (by decide) ?_
  refine s_iload_n 2 (n := 2) hX (dec_of D_X8_ringBits (i := 1) rfl) rfl rfl rfl ?_
  refine s_ishl (n := 3) hX (dec_of D_X8_ringBits (i := 2) rfl) rfl ?_
  refine s_topi (fun x1 => ?_)
  refine s_istore_n (lv' := [(0, _), (1, _), (2, _), (3, _)]) [1, 2, 3, 0] (n := 4) hX (dec_of D_X8_ringBits (i := 3) rfl) rfl rfl (by decide) rfl ?_
  refine s_iconst (v := 0) (n := 5) hX (dec_of D_X8_ringBits (i := 4) rfl) rfl (by decide) ?_
  refine s_istore (lv' := [(0, _), (1, _), (2, _), (3, _), (4, _)]) [1, 2, 3, 4, 0] (n := 7) hX (dec_of D_X8_ringBits (i := 5) rfl) rfl (by decide) rfl ?_
  refine s_sub [0, 1, 3, 4] rfl (s_lp (pc := 7) (Sf := fun (z2 : Int32 × Int32) => σ) (lvf := fun (z2 : Int32 × Int32) => [(0, .ref (ga G 129 i0)), (1, .ref (ga G 126 i1)), (3, .int z2.1), (4, .int z2.2)]) (fun rec3 hre4 z2 => ?_) FU (x1, 0))
  refine s_iload 3 (n := 9) hX (dec_of D_X8_ringBits (i := 6) rfl) rfl rfl ?_
  refine s_aload_n 1 (n := 10) hX (dec_of D_X8_ringBits (i := 7) rfl) rfl rfl rfl ?_
  refine s_getI (c := 5) (p := 9) (id := 529) (n := 13) hX cls5 (vk126 (by omega)) (dec_of D_X8_ringBits (i := 8) rfl) rfl rfl wd_391 ?_
  refine s_icmp_ge (tgt := 60) (n := 16) hX (dec_of D_X8_ringBits (i := 9) rfl) rfl rfl ?_ ?_
  · refine s_iload_n 2 (n := 61) hX (dec_of D_X8_ringBits (i := 34) rfl) rfl rfl rfl ?_
    exact s_iret hX hR (dec_of D_X8_ringBits (i := 35) rfl) rfl
  · refine s_iconst (v := 0) (n := 17) hX (dec_of D_X8_ringBits (i := 10) rfl) rfl (by decide) ?_
    refine s_istore (lv' := [(0, _), (1, _), (3, _), (4, _), (5, _)]) [1, 2, 3, 4, 0] (n := 19) hX (dec_of D_X8_ringBits (i := 11) rfl) rfl (by decide) rfl ?_
    refine s_sub [0, 1, 2, 3, 4] rfl (s_lp (pc := 19) (Sf := fun (z5 : Int32 × Int32) => σ) (lvf := fun (z5 : Int32 × Int32) => [(0, .ref (ga G 129 i0)), (1, .ref (ga G 126 i1)), (3, .int z5.1), (4, .int z2.2), (5, .int z5.2)]) (fun rec6 hre7 z5 => ?_) FU (z2.1, 0))
    refine s_iload 4 (n := 21) hX (dec_of D_X8_ringBits (i := 12) rfl) rfl rfl ?_
    refine s_aload_n 1 (n := 22) hX (dec_of D_X8_ringBits (i := 13) rfl) rfl rfl rfl ?_
    refine s_getI (c := 5) (p := 9) (id := 529) (n := 25) hX cls5 (vk126 (by omega)) (dec_of D_X8_ringBits (i := 14) rfl) rfl rfl wd_391 ?_
    refine s_icmp_ge (tgt := 54) (n := 28) hX (dec_of D_X8_ringBits (i := 15) rfl) rfl rfl ?_ ?_
    · refine s_iinc (v := z2.2 + 1) (lv' := [(0, _), (1, _), (3, _), (4, _), (5, _)]) 3 [1, 2, 3, 0, 4] (n := 57) hX (dec_of D_X8_ringBits (i := 32) rfl) rfl rfl rfl (by decide) rfl ?_
      refine s_goto (n := 7) hX (dec_of D_X8_ringBits (i := 33) rfl) rfl ?_
      exact s_sub [0, 1, 2, 3] rfl (hre4 (z5.1, (z2.2 + 1)))
    · refine s_iload_n 2 (n := 29) hX (dec_of D_X8_ringBits (i := 16) rfl) rfl rfl rfl ?_
      refine s_iload 4 (n := 31) hX (dec_of D_X8_ringBits (i := 17) rfl) rfl rfl ?_
      refine s_ishr (n := 32) hX (dec_of D_X8_ringBits (i := 18) rfl) rfl ?_
      refine s_iconst (v := 1) (n := 33) hX (dec_of D_X8_ringBits (i := 19) rfl) rfl (by decide) ?_
      refine s_iand (n := 34) hX (dec_of D_X8_ringBits (i := 20) rfl) rfl ?_
      refine s_iconst (v := 1) (n := 35) hX (dec_of D_X8_ringBits (i := 21) rfl) rfl (by decide) ?_
      refine s_icmp_ne (tgt := 48) (n := 38) hX (dec_of D_X8_ringBits (i := 22) rfl) rfl rfl ?_ ?_
      · refine s_iinc (v := z5.2 + 1) (lv' := [(0, _), (1, _), (3, _), (4, _), (5, _)]) 4 [1, 2, 3, 4, 0] (n := 51) hX (dec_of D_X8_ringBits (i := 30) rfl) rfl rfl rfl (by decide) rfl ?_
        refine s_goto (n := 19) hX (dec_of D_X8_ringBits (i := 31) rfl) rfl ?_
        exact s_sub [0, 1, 2, 3, 4] rfl (hre7 (z5.1, (z5.2 + 1)))
      · refine s_iload_n 2 (n := 39) hX (dec_of D_X8_ringBits (i := 23) rfl) rfl rfl rfl ?_
        refine s_aload_n 0 (n := 40) hX (dec_of D_X8_ringBits (i := 24) rfl) rfl rfl rfl ?_
        refine s_aload_n 1 (n := 41) hX (dec_of D_X8_ringBits (i := 25) rfl) rfl rfl rfl ?_
        refine s_iload 4 (n := 43) hX (dec_of D_X8_ringBits (i := 26) rfl) rfl rfl ?_
        refine s_callVI (c := 8) (n := 46) hX cls8 (vk129 (by omega)) lk_RX8_59 (dec_of D_X8_ringBits (i := 27) rfl) rfl (by decide) (c_X8_answerBits (l := _) hG _ _ (by omega) _ (by omega) _) rfl rfl (Nat.le_of_ble_eq_true rfl) (fun q8 => ?_)
        refine s_ior (n := 47) hX (dec_of D_X8_ringBits (i := 28) rfl) rfl ?_
        refine s_topi (fun x9 => ?_)
        refine s_istore_n (lv' := [(0, _), (1, _), (3, _), (4, _), (5, _)]) [1, 2, 0, 3, 4] (n := 48) hX (dec_of D_X8_ringBits (i := 29) rfl) rfl rfl (by decide) rfl ?_
        refine s_iinc (v := z5.2 + 1) (lv' := [(0, _), (1, _), (3, _), (4, _), (5, _)]) 4 [1, 2, 3, 4, 0] (n := 51) hX (dec_of D_X8_ringBits (i := 30) rfl) rfl rfl rfl (by decide) rfl ?_
        refine s_goto (n := 19) hX (dec_of D_X8_ringBits (i := 31) rfl) rfl ?_
        exact s_sub [0, 1, 2, 3, 4] rfl (hre7 (x9, (z5.2 + 1)))
def T_X8_playersOf : List (Nat × Instr × Nat) := [(0, .iconst 0, 1), (1, .istore_n 3, 1), (2, .iconst 0, 1), (3, .istore 4, 2), (5, .iload 4, 2), (7, .aload_n 1, 1), (8, .getfield 63, 3), (11, .if_icmp .ge 23, 3), (14, .aload_n 0, 1), (15, .getfield 18, 3), (18, .iload 4, 2), (20, .iaload, 1), (21, .iload_n 2, 1), (22, .if_icmp .ne 6, 3), (25, .iinc 3 1, 3), (28, .iinc 4 1, 3), (31, .goto (-26), 3), (34, .iload_n 3, 1), (35, .ireturn, 1)]
theorem D_X8_playersOf : dchk cX8_playersOf T_X8_playersOf = true := by decide +kernel
def Wo_playersOf (σ : ST) (i0 : Nat) (i1 : Nat) (a2 : Int32) : Option Int32 :=
  lp_ (fun rec2 (z1 : Int32 × Int32) => (if (gF σ 530 i1) ≤ z1.2 then some z1.1 else bd_ (ldI σ 26 i0 z1.2) (fun v4 => (if v4 = a2 then rec2 ((z1.1 + 1), (z1.2 + 1)) else rec2 (z1.1, (z1.2 + 1)))))) FU (0, 0)
set_option maxHeartbeats 4000000 in
set_option maxRecDepth 100000 in
theorem c_X8_playersOf {G : GW} (hG : Good G) {l : Launch} (σ : ST) (i0 : Nat) (h0 : i0 < 14) (i1 : Nat) (h1 : i1 < 2) (a2 : Int32) : Ctr G l yX8_playersOf cX8_playersOf 5 (some .int) 0 [.ref (ga G 129 i0), .ref (ga G 126 i1), .int a2] σ (oI σ) (Wo_playersOf σ i0 i1 a2) := by
  refine ctr_of hG (by decide) (Nat.le_of_ble_eq_true rfl) ?_
  intro X hXl hR hX
  have hX : Ok G X cX8_playersOf 5 RX8 0 := hX
  unfold Wo_playersOf
  show Sim G X 5 (MQX G X (oI σ)) σ 0 [(0, .ref (ga G 129 i0)), (1, .ref (ga G 126 i1)), (2, .int a2)] [] _
  refine s_iconst (v := 0) (n := 1) hX (dec_of D_X8_playersOf (i := 0) rfl) rfl (by decide) ?_
  refine s_istore_n (lv' := [(0, _), (1, _), (2, _), (3, _)]) [1, 2, 3, 0] (n := 2) hX (dec_of D_X8_playersOf (i := 1) rfl) rfl rfl (by decide) rfl ?_
  refine s_iconst (v := 0) (n := 3) hX (dec_of D_X8_playersOf (i := 2) rfl) rfl (by decide) ?_
  refine s_istore (lv' := [(0, _), (1, _), (2, _), (3, _), (4, _)]) [1, 2, 3, 4, 0] (n := 5) hX (dec_of D_X8_playersOf (i := 3) rfl) rfl (by decide) rfl ?_
  refine s_sub [0, 1, 2, 3, 4] rfl (s_lp (pc := 5) (Sf := fun (z1 : Int32 × Int32) => σ) (lvf := fun (z1 : Int32 × Int32) => [(0, .ref (ga G 129 i0)), (1, .ref (ga G 126 i1)), (2, .int a2), (3, .int z1.1), (4, .int z1.2)]) (fun rec2 hre3 z1 => ?_) FU (0, 0))
  refine s_iload 4 (n := 7) hX (dec_of D_X8_playersOf (i := 4) rfl) rfl rfl ?_
  refine s_aload_n 1 (n := 8) hX (dec_of D_X8_playersOf (i := 5) rfl) rfl rfl rfl ?_
  refine s_getI (c := 5) (p := 10) (id := 530) (n := 11) hX cls5 (vk126 (by omega)) (dec_of D_X8_playersOf (i := 6) rfl) rfl rfl wd_398 ?_
  refine s_icmp_ge (tgt := 34) (n := 14) hX (dec_of D_X8_playersOf (i := 7) rfl) rfl rfl ?_ ?_
  · refine s_iload_n 3 (n := 35) hX (dec_of D_X8_playersOf (i := 17) rfl) rfl rfl rfl ?_
    exact s_iret hX hR (dec_of D_X8_playersOf (i := 18) rfl) rfl
  · refine s_aload_n 0 (n := 15) hX (dec_of D_X8_playersOf (i := 8) rfl) rfl rfl rfl ?_
    refine s_getR (c := 8) (p := 2) (k' := 26) (n := 18) hX cls8 (vk129 (by omega)) (dec_of D_X8_playersOf (i := 9) rfl) rfl rfl wd_202 ?_
    refine s_iload 4 (n := 20) hX (dec_of D_X8_playersOf (i := 10) rfl) rfl rfl ?_
    refine s_iald (n := 21) hX (vk26 (by omega)) (by decide) (dec_of D_X8_playersOf (i := 11) rfl) rfl (fun v4 => ?_)
    refine s_iload_n 2 (n := 22) hX (dec_of D_X8_playersOf (i := 12) rfl) rfl rfl rfl ?_
    refine s_icmp_ne (tgt := 28) (n := 25) hX (dec_of D_X8_playersOf (i := 13) rfl) rfl rfl ?_ ?_
    · refine s_iinc (v := z1.2 + 1) (lv' := [(0, _), (1, _), (2, _), (3, _), (4, _)]) 4 [1, 2, 3, 4, 0] (n := 31) hX (dec_of D_X8_playersOf (i := 15) rfl) rfl rfl rfl (by decide) rfl ?_
      refine s_goto (n := 5) hX (dec_of D_X8_playersOf (i := 16) rfl) rfl ?_
      exact s_sub [0, 1, 2, 3, 4] rfl (hre3 (z1.1, (z1.2 + 1)))
    · refine s_iinc (v := z1.1 + 1) (lv' := [(0, _), (1, _), (2, _), (3, _), (4, _)]) 3 [1, 2, 3, 0, 4] (n := 28) hX (dec_of D_X8_playersOf (i := 14) rfl) rfl rfl rfl (by decide) rfl ?_
      refine s_iinc (v := z1.2 + 1) (lv' := [(0, _), (1, _), (2, _), (3, _), (4, _)]) 4 [1, 2, 3, 4, 0] (n := 31) hX (dec_of D_X8_playersOf (i := 15) rfl) rfl rfl rfl (by decide) rfl ?_
      refine s_goto (n := 5) hX (dec_of D_X8_playersOf (i := 16) rfl) rfl ?_
      exact s_sub [0, 1, 2, 3, 4] rfl (hre3 ((z1.1 + 1), (z1.2 + 1)))
theorem lk_RX8_69 : LkV RX8 69 RX5 yX5_roleTold cX5_roleTold 4 (some .int) 2 := ⟨wd_701, wd_631, wd_632, wd_92, wd_633, by decide +kernel, by decide⟩
def T_X8_roleIn : List (Nat × Instr × Nat) := [(0, .iconst 0, 1), (1, .istore 4, 2), (3, .iload 4, 2), (5, .aload_n 1, 1), (6, .getfield 66, 3), (9, .iload_n 3, 1), (10, .iaload, 1), (11, .if_icmp .ge 26, 3), (14, .aload_n 0, 1), (15, .getfield 21, 3), (18, .iload_n 3, 1), (19, .iconst 5, 1), (20, .imul, 1), (21, .iload 4, 2), (23, .iadd, 1), (24, .iaload, 1), (25, .iload_n 2, 1), (26, .if_icmp .ne 5, 3), (29, .iconst 2, 1), (30, .ireturn, 1), (31, .iinc 4 1, 3), (34, .goto (-31), 3), (37, .aload_n 1, 1), (38, .iload_n 2, 1), (39, .iload_n 3, 1), (40, .invokevirtual 69, 3), (43, .ireturn, 1)]
theorem D_X8_roleIn : dchk cX8_roleIn T_X8_roleIn = true := by decide +kernel
def Wo_roleIn (σ : ST) (i0 : Nat) (i1 : Nat) (a2 : Int32) (a3 : Int32) : Option Int32 :=
  lp_ (fun rec2 (z1 : Int32) => bd_ (ldI σ 18 i1 a3) (fun v4 => (if v4 ≤ z1 then bd_ (Rl_roleTold (σ) i1 a2 a3) (fun q5 => some q5) else bd_ (ldI σ 27 i0 ((a3 * 5) + z1)) (fun v6 => (if v6 = a2 then some 2 else rec2 (z1 + 1)))))) FU 0
set_option maxHeartbeats 4000000 in
set_option maxRecDepth 100000 in
theorem c_X8_roleIn {G : GW} (hG : Good G) {l : Launch} (σ : ST) (i0 : Nat) (h0 : i0 < 14) (i1 : Nat) (h1 : i1 < 2) (a2 : Int32) (a3 : Int32) : Ctr G l yX8_roleIn cX8_roleIn 5 (some .int) 1 [.ref (ga G 129 i0), .ref (ga G 126 i1), .int a2, .int a3] σ (oI σ) (Wo_roleIn σ i0 i1 a2 a3) := by
  refine ctr_of hG (by decide) (Nat.le_of_ble_eq_true rfl) ?_
  intro X hXl hR hX
  have hX : Ok G X cX8_roleIn 5 RX8 1 := hX
  unfold Wo_roleIn
  show Sim G X 5 (MQX G X (oI σ)) σ 0 [(0, .ref (ga G 129 i0)), (1, .ref (ga G 126 i1)), (2, .int a2), (3, .int a3)] [] _
  refine s_iconst (v := 0) (n := 1) hX (dec_of D_X8_roleIn (i := 0) rfl) rfl (by decide) ?_
  refine s_istore (lv' := [(0, _), (1, _), (2, _), (3, _), (4, _)]) [1, 2, 3, 4, 0] (n := 3) hX (dec_of D_X8_roleIn (i := 1) rfl) rfl (by decide) rfl ?_
  refine s_sub [0, 1, 2, 3, 4] rfl (s_lp (pc := 3) (Sf := fun (z1 : Int32) => σ) (lvf := fun (z1 : Int32) => [(0, .ref (ga G 129 i0)), (1, .ref (ga G 126 i1)), (2, .int a2), (3, .int a3), (4, .int z1)]) (fun rec2 hre3 z1 => ?_) FU 0)
  refine s_iload 4 (n := 5) hX (dec_of D_X8_roleIn (i := 2) rfl) rfl rfl ?_
  refine s_aload_n 1 (n := 6) hX (dec_of D_X8_roleIn (i := 3) rfl) rfl rfl rfl ?_
  refine s_getR (c := 5) (p := 5) (k' := 18) (n := 9) hX cls5 (vk126 (by omega)) (dec_of D_X8_roleIn (i := 4) rfl) rfl rfl wd_375 ?_
  refine s_iload_n 3 (n := 10) hX (dec_of D_X8_roleIn (i := 5) rfl) rfl rfl rfl ?_
  refine s_iald (n := 11) hX (vk18 (by omega)) (by decide) (dec_of D_X8_roleIn (i := 6) rfl) rfl (fun v4 => ?_)
  refine s_icmp_ge (tgt := 37) (n := 14) hX (dec_of D_X8_roleIn (i := 7) rfl) rfl rfl ?_ ?_
  · refine s_aload_n 1 (n := 38) hX (dec_of D_X8_roleIn (i := 22) rfl) rfl rfl rfl ?_
    refine s_iload_n 2 (n := 39) hX (dec_of D_X8_roleIn (i := 23) rfl) rfl rfl rfl ?_
    refine s_iload_n 3 (n := 40) hX (dec_of D_X8_roleIn (i := 24) rfl) rfl rfl rfl ?_
    refine s_callVI (c := 5) (n := 43) hX cls5 (vk126 (by omega)) lk_RX8_69 (dec_of D_X8_roleIn (i := 25) rfl) rfl (by decide) (c_X5_roleTold (l := _) hG _ _ (by omega) _ _) rfl rfl (Nat.le_of_ble_eq_true rfl) (fun q5 => ?_)
    exact s_iret hX hR (dec_of D_X8_roleIn (i := 26) rfl) rfl
  · refine s_aload_n 0 (n := 15) hX (dec_of D_X8_roleIn (i := 8) rfl) rfl rfl rfl ?_
    refine s_getR (c := 8) (p := 3) (k' := 27) (n := 18) hX cls8 (vk129 (by omega)) (dec_of D_X8_roleIn (i := 9) rfl) rfl rfl wd_206 ?_
    refine s_iload_n 3 (n := 19) hX (dec_of D_X8_roleIn (i := 10) rfl) rfl rfl rfl ?_
    refine s_iconst (v := 5) (n := 20) hX (dec_of D_X8_roleIn (i := 11) rfl) rfl (by decide) ?_
    refine s_imul (n := 21) hX (dec_of D_X8_roleIn (i := 12) rfl) rfl ?_
    refine s_iload 4 (n := 23) hX (dec_of D_X8_roleIn (i := 13) rfl) rfl rfl ?_
    refine s_iadd (n := 24) hX (dec_of D_X8_roleIn (i := 14) rfl) rfl ?_
    refine s_iald (n := 25) hX (vk27 (by omega)) (by decide) (dec_of D_X8_roleIn (i := 15) rfl) rfl (fun v6 => ?_)
    refine s_iload_n 2 (n := 26) hX (dec_of D_X8_roleIn (i := 16) rfl) rfl rfl rfl ?_
    refine s_icmp_ne (tgt := 31) (n := 29) hX (dec_of D_X8_roleIn (i := 17) rfl) rfl rfl ?_ ?_
    · refine s_iinc (v := z1 + 1) (lv' := [(0, _), (1, _), (2, _), (3, _), (4, _)]) 4 [1, 2, 3, 4, 0] (n := 34) hX (dec_of D_X8_roleIn (i := 20) rfl) rfl rfl rfl (by decide) rfl ?_
      refine s_goto (n := 3) hX (dec_of D_X8_roleIn (i := 21) rfl) rfl ?_
      exact s_sub [0, 1, 2, 3, 4] rfl (hre3 (z1 + 1))
    · refine s_iconst (v := 2) (n := 30) hX (dec_of D_X8_roleIn (i := 18) rfl) rfl (by decide) ?_
      exact s_iret hX hR (dec_of D_X8_roleIn (i := 19) rfl) rfl
theorem lk_RX8_76 : LkV RX8 76 RX8 yX8_roleIn cX8_roleIn 5 (some .int) 3 := ⟨wd_718, wd_698, wd_699, wd_87, wd_700, by decide +kernel, by decide⟩
def T_X8_sessionsOf : List (Nat × Instr × Nat) := [(0, .iconst 0, 1), (1, .istore_n 3, 1), (2, .iconst 0, 1), (3, .istore 4, 2), (5, .iload 4, 2), (7, .aload_n 1, 1), (8, .getfield 73, 3), (11, .if_icmp .ge 23, 3), (14, .aload_n 0, 1), (15, .aload_n 1, 1), (16, .iload_n 2, 1), (17, .iload 4, 2), (19, .invokevirtual 76, 3), (22, .ifCond .lt 6, 3), (25, .iinc 3 1, 3), (28, .iinc 4 1, 3), (31, .goto (-26), 3), (34, .iload_n 3, 1), (35, .ireturn, 1)]
theorem D_X8_sessionsOf : dchk cX8_sessionsOf T_X8_sessionsOf = true := by decide +kernel
def Wo_sessionsOf (σ : ST) (i0 : Nat) (i1 : Nat) (a2 : Int32) : Option Int32 :=
  lp_ (fun rec2 (z1 : Int32 × Int32) => (if (gF σ 531 i1) ≤ z1.2 then some z1.1 else bd_ (Wo_roleIn (σ) i0 i1 a2 z1.2) (fun q4 => (if q4 < 0 then rec2 (z1.1, (z1.2 + 1)) else rec2 ((z1.1 + 1), (z1.2 + 1)))))) FU (0, 0)
set_option maxHeartbeats 4000000 in
set_option maxRecDepth 100000 in
theorem c_X8_sessionsOf {G : GW} (hG : Good G) {l : Launch} (σ : ST) (i0 : Nat) (h0 : i0 < 14) (i1 : Nat) (h1 : i1 < 2) (a2 : Int32) : Ctr G l yX8_sessionsOf cX8_sessionsOf 5 (some .int) 2 [.ref (ga G 129 i0), .ref (ga G 126 i1), .int a2] σ (oI σ) (Wo_sessionsOf σ i0 i1 a2) := by
  refine ctr_of hG (by decide) (Nat.le_of_ble_eq_true rfl) ?_
  intro X hXl hR hX
  have hX : Ok G X cX8_sessionsOf 5 RX8 2 := hX
  unfold Wo_sessionsOf
  show Sim G X 5 (MQX G X (oI σ)) σ 0 [(0, .ref (ga G 129 i0)), (1, .ref (ga G 126 i1)), (2, .int a2)] [] _
  refine s_iconst (v := 0) (n := 1) hX (dec_of D_X8_sessionsOf (i := 0) rfl) rfl (by decide) ?_
  refine s_istore_n (lv' := [(0, _), (1, _), (2, _), (3, _)]) [1, 2, 3, 0] (n := 2) hX (dec_of D_X8_sessionsOf (i := 1) rfl) rfl rfl (by decide) rfl ?_
  refine s_iconst (v := 0) (n := 3) hX (dec_of D_X8_sessionsOf (i := 2) rfl) rfl (by decide) ?_
  refine s_istore (lv' := [(0, _), (1, _), (2, _), (3, _), (4, _)]) [1, 2, 3, 4, 0] (n := 5) hX (dec_of D_X8_sessionsOf (i := 3) rfl) rfl (by decide) rfl ?_
  refine s_sub [0, 1, 2, 3, 4] rfl (s_lp (pc := 5) (Sf := fun (z1 : Int32 × Int32) => σ) (lvf := fun (z1 : Int32 × Int32) => [(0, .ref (ga G 129 i0)), (1, .ref (ga G 126 i1)), (2, .int a2), (3, .int z1.1), (4, .int z1.2)]) (fun rec2 hre3 z1 => ?_) FU (0, 0))
  refine s_iload 4 (n := 7) hX (dec_of D_X8_sessionsOf (i := 4) rfl) rfl rfl ?_
  refine s_aload_n 1 (n := 8) hX (dec_of D_X8_sessionsOf (i := 5) rfl) rfl rfl rfl ?_
  refine s_getI (c := 5) (p := 11) (id := 531) (n := 11) hX cls5 (vk126 (by omega)) (dec_of D_X8_sessionsOf (i := 6) rfl) rfl rfl wd_403 ?_
  refine s_icmp_ge (tgt := 34) (n := 14) hX (dec_of D_X8_sessionsOf (i := 7) rfl) rfl rfl ?_ ?_
  · refine s_iload_n 3 (n := 35) hX (dec_of D_X8_sessionsOf (i := 17) rfl) rfl rfl rfl ?_
    exact s_iret hX hR (dec_of D_X8_sessionsOf (i := 18) rfl) rfl
  · refine s_aload_n 0 (n := 15) hX (dec_of D_X8_sessionsOf (i := 8) rfl) rfl rfl rfl ?_
    refine s_aload_n 1 (n := 16) hX (dec_of D_X8_sessionsOf (i := 9) rfl) rfl rfl rfl ?_
    refine s_iload_n 2 (n := 17) hX (dec_of D_X8_sessionsOf (i := 10) rfl) rfl rfl rfl ?_
    refine s_iload 4 (n := 19) hX (dec_of D_X8_sessionsOf (i := 11) rfl) rfl rfl ?_
    refine s_callVI (c := 8) (n := 22) hX cls8 (vk129 (by omega)) lk_RX8_76 (dec_of D_X8_sessionsOf (i := 12) rfl) rfl (by decide) (c_X8_roleIn (l := _) hG _ _ (by omega) _ (by omega) _ _) rfl rfl (Nat.le_of_ble_eq_true rfl) (fun q4 => ?_)
    refine s_if_lt (tgt := 28) (n := 25) hX (dec_of D_X8_sessionsOf (i := 13) rfl) rfl rfl ?_ ?_
    · refine s_iinc (v := z1.2 + 1) (lv' := [(0, _), (1, _), (2, _), (3, _), (4, _)]) 4 [1, 2, 3, 4, 0] (n := 31) hX (dec_of D_X8_sessionsOf (i := 15) rfl) rfl rfl rfl (by decide) rfl ?_
      refine s_goto (n := 5) hX (dec_of D_X8_sessionsOf (i := 16) rfl) rfl ?_
      exact s_sub [0, 1, 2, 3, 4] rfl (hre3 (z1.1, (z1.2 + 1)))
    · refine s_iinc (v := z1.1 + 1) (lv' := [(0, _), (1, _), (2, _), (3, _), (4, _)]) 3 [1, 2, 3, 0, 4] (n := 28) hX (dec_of D_X8_sessionsOf (i := 14) rfl) rfl rfl rfl (by decide) rfl ?_
      refine s_iinc (v := z1.2 + 1) (lv' := [(0, _), (1, _), (2, _), (3, _), (4, _)]) 4 [1, 2, 3, 4, 0] (n := 31) hX (dec_of D_X8_sessionsOf (i := 15) rfl) rfl rfl rfl (by decide) rfl ?_
      refine s_goto (n := 5) hX (dec_of D_X8_sessionsOf (i := 16) rfl) rfl ?_
      exact s_sub [0, 1, 2, 3, 4] rfl (hre3 ((z1.1 + 1), (z1.2 + 1)))
def T_X8_leadsOf : List (Nat × Instr × Nat) := [(0, .iconst 0, 1), (1, .istore_n 3, 1), (2, .iconst 0, 1), (3, .istore 4, 2), (5, .iload 4, 2), (7, .aload_n 1, 1), (8, .getfield 73, 3), (11, .if_icmp .ge 23, 3), (14, .aload_n 0, 1), (15, .aload_n 1, 1), (16, .iload_n 2, 1), (17, .iload 4, 2), (19, .invokevirtual 76, 3), (22, .ifCond .ne 6, 3), (25, .iinc 3 1, 3), (28, .iinc 4 1, 3), (31, .goto (-26), 3), (34, .iload_n 3, 1), (35, .ireturn, 1)]
theorem D_X8_leadsOf : dchk cX8_leadsOf T_X8_leadsOf = true := by decide +kernel
def Wo_leadsOf (σ : ST) (i0 : Nat) (i1 : Nat) (a2 : Int32) : Option Int32 :=
  lp_ (fun rec2 (z1 : Int32 × Int32) => (if (gF σ 531 i1) ≤ z1.2 then some z1.1 else bd_ (Wo_roleIn (σ) i0 i1 a2 z1.2) (fun q4 => (if q4 = 0 then rec2 ((z1.1 + 1), (z1.2 + 1)) else rec2 (z1.1, (z1.2 + 1)))))) FU (0, 0)
set_option maxHeartbeats 4000000 in
set_option maxRecDepth 100000 in
theorem c_X8_leadsOf {G : GW} (hG : Good G) {l : Launch} (σ : ST) (i0 : Nat) (h0 : i0 < 14) (i1 : Nat) (h1 : i1 < 2) (a2 : Int32) : Ctr G l yX8_leadsOf cX8_leadsOf 5 (some .int) 2 [.ref (ga G 129 i0), .ref (ga G 126 i1), .int a2] σ (oI σ) (Wo_leadsOf σ i0 i1 a2) := by
  refine ctr_of hG (by decide) (Nat.le_of_ble_eq_true rfl) ?_
  intro X hXl hR hX
  have hX : Ok G X cX8_leadsOf 5 RX8 2 := hX
  unfold Wo_leadsOf
  show Sim G X 5 (MQX G X (oI σ)) σ 0 [(0, .ref (ga G 129 i0)), (1, .ref (ga G 126 i1)), (2, .int a2)] [] _
  refine s_iconst (v := 0) (n := 1) hX (dec_of D_X8_leadsOf (i := 0) rfl) rfl (by decide) ?_
  refine s_istore_n (lv' := [(0, _), (1, _), (2, _), (3, _)]) [1, 2, 3, 0] (n := 2) hX (dec_of D_X8_leadsOf (i := 1) rfl) rfl rfl (by decide) rfl ?_
  refine s_iconst (v := 0) (n := 3) hX (dec_of D_X8_leadsOf (i := 2) rfl) rfl (by decide) ?_
  refine s_istore (lv' := [(0, _), (1, _), (2, _), (3, _), (4, _)]) [1, 2, 3, 4, 0] (n := 5) hX (dec_of D_X8_leadsOf (i := 3) rfl) rfl (by decide) rfl ?_
  refine s_sub [0, 1, 2, 3, 4] rfl (s_lp (pc := 5) (Sf := fun (z1 : Int32 × Int32) => σ) (lvf := fun (z1 : Int32 × Int32) => [(0, .ref (ga G 129 i0)), (1, .ref (ga G 126 i1)), (2, .int a2), (3, .int z1.1), (4, .int z1.2)]) (fun rec2 hre3 z1 => ?_) FU (0, 0))
  refine s_iload 4 (n := 7) hX (dec_of D_X8_leadsOf (i := 4) rfl) rfl rfl ?_
  refine s_aload_n 1 (n := 8) hX (dec_of D_X8_leadsOf (i := 5) rfl) rfl rfl rfl ?_
  refine s_getI (c := 5) (p := 11) (id := 531) (n := 11) hX cls5 (vk126 (by omega)) (dec_of D_X8_leadsOf (i := 6) rfl) rfl rfl wd_403 ?_
  refine s_icmp_ge (tgt := 34) (n := 14) hX (dec_of D_X8_leadsOf (i := 7) rfl) rfl rfl ?_ ?_
  · refine s_iload_n 3 (n := 35) hX (dec_of D_X8_leadsOf (i := 17) rfl) rfl rfl rfl ?_
    exact s_iret hX hR (dec_of D_X8_leadsOf (i := 18) rfl) rfl
  · refine s_aload_n 0 (n := 15) hX (dec_of D_X8_leadsOf (i := 8) rfl) rfl rfl rfl ?_
    refine s_aload_n 1 (n := 16) hX (dec_of D_X8_leadsOf (i := 9) rfl) rfl rfl rfl ?_
    refine s_iload_n 2 (n := 17) hX (dec_of D_X8_leadsOf (i := 10) rfl) rfl rfl rfl ?_
    refine s_iload 4 (n := 19) hX (dec_of D_X8_leadsOf (i := 11) rfl) rfl rfl ?_
    refine s_callVI (c := 8) (n := 22) hX cls8 (vk129 (by omega)) lk_RX8_76 (dec_of D_X8_leadsOf (i := 12) rfl) rfl (by decide) (c_X8_roleIn (l := _) hG _ _ (by omega) _ (by omega) _ _) rfl rfl (Nat.le_of_ble_eq_true rfl) (fun q4 => ?_)
    refine s_if_ne (tgt := 28) (n := 25) hX (dec_of D_X8_leadsOf (i := 13) rfl) rfl rfl ?_ ?_
    · refine s_iinc (v := z1.2 + 1) (lv' := [(0, _), (1, _), (2, _), (3, _), (4, _)]) 4 [1, 2, 3, 4, 0] (n := 31) hX (dec_of D_X8_leadsOf (i := 15) rfl) rfl rfl rfl (by decide) rfl ?_
      refine s_goto (n := 5) hX (dec_of D_X8_leadsOf (i := 16) rfl) rfl ?_
      exact s_sub [0, 1, 2, 3, 4] rfl (hre3 (z1.1, (z1.2 + 1)))
    · refine s_iinc (v := z1.1 + 1) (lv' := [(0, _), (1, _), (2, _), (3, _), (4, _)]) 3 [1, 2, 3, 0, 4] (n := 28) hX (dec_of D_X8_leadsOf (i := 14) rfl) rfl rfl rfl (by decide) rfl ?_
      refine s_iinc (v := z1.2 + 1) (lv' := [(0, _), (1, _), (2, _), (3, _), (4, _)]) 4 [1, 2, 3, 4, 0] (n := 31) hX (dec_of D_X8_leadsOf (i := 15) rfl) rfl rfl rfl (by decide) rfl ?_
      refine s_goto (n := 5) hX (dec_of D_X8_leadsOf (i := 16) rfl) rfl ?_
      exact s_sub [0, 1, 2, 3, 4] rfl (hre3 ((z1.1 + 1), (z1.2 + 1)))
def T_X8_openBits : List (Nat × Instr × Nat) := [(0, .iconst 0, 1), (1, .istore_n 3, 1), (2, .iconst 0, 1), (3, .istore 4, 2), (5, .iload 4, 2), (7, .aload_n 1, 1), (8, .getfield 66, 3), (11, .iload_n 2, 1), (12, .iaload, 1), (13, .if_icmp .ge 32, 3), (16, .aload_n 0, 1), (17, .getfield 21, 3), (20, .iload_n 2, 1), (21, .iconst 5, 1), (22, .imul, 1), (23, .iload 4, 2), (25, .iadd, 1), (26, .iaload, 1), (27, .bipush (-2), 2), (29, .if_icmp .ne 10, 3), (32, .iload_n 3, 1), (33, .iconst 1, 1), (34, .iload 4, 2), (36, .ishl, 1), (37, .ior, 1), (38, .istore_n 3, 1), (39, .iinc 4 1, 3), (42, .goto (-37), 3), (45, .iload_n 3, 1), (46, .ireturn, 1)]
theorem D_X8_openBits : dchk cX8_openBits T_X8_openBits = true := by decide +kernel
def Wo_openBits (σ : ST) (i0 : Nat) (i1 : Nat) (a2 : Int32) : Option Int32 :=
  lp_ (fun rec2 (z1 : Int32 × Int32) => bd_ (ldI σ 18 i1 a2) (fun v4 => (if v4 ≤ z1.2 then some z1.1 else bd_ (ldI σ 27 i0 ((a2 * 5) + z1.2)) (fun v5 => (if v5 = (-2) then lt_ ((z1.1 ||| (1 <<< (z1.2 &&& 31)))) (fun x6 => rec2 (x6, (z1.2 + 1))) else rec2 (z1.1, (z1.2 + 1))))))) FU (0, 0)
set_option maxHeartbeats 4000000 in
set_option maxRecDepth 100000 in
theorem c_X8_openBits {G : GW} (hG : Good G) {l : Launch} (σ : ST) (i0 : Nat) (h0 : i0 < 14) (i1 : Nat) (h1 : i1 < 2) (a2 : Int32) : Ctr G l yX8_openBits cX8_openBits 5 (some .int) 0 [.ref (ga G 129 i0), .ref (ga G 126 i1), .int a2] σ (oI σ) (Wo_openBits σ i0 i1 a2) := by
  refine ctr_of hG (by decide) (Nat.le_of_ble_eq_true rfl) ?_
  intro X hXl hR hX
  have hX : Ok G X cX8_openBits 5 RX8 0 := hX
  unfold Wo_openBits
  show Sim G X 5 (MQX G X (oI σ)) σ 0 [(0, .ref (ga G 129 i0)), (1, .ref (ga G 126 i1)), (2, .int a2)] [] _
  refine s_iconst (v := 0) (n := 1) hX (dec_of D_X8_openBits (i := 0) rfl) rfl (by decide) ?_
  refine s_istore_n (lv' := [(0, _), (1, _), (2, _), (3, _)]) [1, 2, 3, 0] (n := 2) hX (dec_of D_X8_openBits (i := 1) rfl) rfl rfl (by decide) rfl ?_
  refine s_iconst (v := 0) (n := 3) hX (dec_of D_X8_openBits (i := 2) rfl) rfl (by decide) ?_
  refine s_istore (lv' := [(0, _), (1, _), (2, _), (3, _), (4, _)]) [1, 2, 3, 4, 0] (n := 5) hX (dec_of D_X8_openBits (i := 3) rfl) rfl (by decide) rfl ?_
  refine s_sub [0, 1, 2, 3, 4] rfl (s_lp (pc := 5) (Sf := fun (z1 : Int32 × Int32) => σ) (lvf := fun (z1 : Int32 × Int32) => [(0, .ref (ga G 129 i0)), (1, .ref (ga G 126 i1)), (2, .int a2), (3, .int z1.1), (4, .int z1.2)]) (fun rec2 hre3 z1 => ?_) FU (0, 0))
  refine s_iload 4 (n := 7) hX (dec_of D_X8_openBits (i := 4) rfl) rfl rfl ?_
  refine s_aload_n 1 (n := 8) hX (dec_of D_X8_openBits (i := 5) rfl) rfl rfl rfl ?_
  refine s_getR (c := 5) (p := 5) (k' := 18) (n := 11) hX cls5 (vk126 (by omega)) (dec_of D_X8_openBits (i := 6) rfl) rfl rfl wd_375 ?_
  refine s_iload_n 2 (n := 12) hX (dec_of D_X8_openBits (i := 7) rfl) rfl rfl rfl ?_
  refine s_iald (n := 13) hX (vk18 (by omega)) (by decide) (dec_of D_X8_openBits (i := 8) rfl) rfl (fun v4 => ?_)
  refine s_icmp_ge (tgt := 45) (n := 16) hX (dec_of D_X8_openBits (i := 9) rfl) rfl rfl ?_ ?_
  · refine s_iload_n 3 (n := 46) hX (dec_of D_X8_openBits (i := 28) rfl) rfl rfl rfl ?_
    exact s_iret hX hR (dec_of D_X8_openBits (i := 29) rfl) rfl
  · refine s_aload_n 0 (n := 17) hX (dec_of D_X8_openBits (i := 10) rfl) rfl rfl rfl ?_
    refine s_getR (c := 8) (p := 3) (k' := 27) (n := 20) hX cls8 (vk129 (by omega)) (dec_of D_X8_openBits (i := 11) rfl) rfl rfl wd_206 ?_
    refine s_iload_n 2 (n := 21) hX (dec_of D_X8_openBits (i := 12) rfl) rfl rfl rfl ?_
    refine s_iconst (v := 5) (n := 22) hX (dec_of D_X8_openBits (i := 13) rfl) rfl (by decide) ?_
    refine s_imul (n := 23) hX (dec_of D_X8_openBits (i := 14) rfl) rfl ?_
    refine s_iload 4 (n := 25) hX (dec_of D_X8_openBits (i := 15) rfl) rfl rfl ?_
    refine s_iadd (n := 26) hX (dec_of D_X8_openBits (i := 16) rfl) rfl ?_
    refine s_iald (n := 27) hX (vk27 (by omega)) (by decide) (dec_of D_X8_openBits (i := 17) rfl) rfl (fun v5 => ?_)
    refine s_bipush (v := (-2)) (n := 29) hX (dec_of D_X8_openBits (i := 18) rfl) rfl (by decide) ?_
    refine s_icmp_ne (tgt := 39) (n := 32) hX (dec_of D_X8_openBits (i := 19) rfl) rfl rfl ?_ ?_
    · refine s_iinc (v := z1.2 + 1) (lv' := [(0, _), (1, _), (2, _), (3, _), (4, _)]) 4 [1, 2, 3, 4, 0] (n := 42) hX (dec_of D_X8_openBits (i := 26) rfl) rfl rfl rfl (by decide) rfl ?_
      refine s_goto (n := 5) hX (dec_of D_X8_openBits (i := 27) rfl) rfl ?_
      exact s_sub [0, 1, 2, 3, 4] rfl (hre3 (z1.1, (z1.2 + 1)))
    · refine s_iload_n 3 (n := 33) hX (dec_of D_X8_openBits (i := 20) rfl) rfl rfl rfl ?_
      refine s_iconst (v := 1) (n := 34) hX (dec_of D_X8_openBits (i := 21) rfl) rfl (by decide) ?_
      refine s_iload 4 (n := 36) hX (dec_of D_X8_openBits (i := 22) rfl) rfl rfl ?_
      refine s_ishl (n := 37) hX (dec_of D_X8_openBits (i := 23) rfl) rfl ?_
      refine s_ior (n := 38) hX (dec_of D_X8_openBits (i := 24) rfl) rfl ?_
      refine s_topi (fun x6 => ?_)
      refine s_istore_n (lv' := [(0, _), (1, _), (2, _), (3, _), (4, _)]) [1, 2, 3, 0, 4] (n := 39) hX (dec_of D_X8_openBits (i := 25) rfl) rfl rfl (by decide) rfl ?_
      refine s_iinc (v := z1.2 + 1) (lv' := [(0, _), (1, _), (2, _), (3, _), (4, _)]) 4 [1, 2, 3, 4, 0] (n := 42) hX (dec_of D_X8_openBits (i := 26) rfl) rfl rfl rfl (by decide) rfl ?_
      refine s_goto (n := 5) hX (dec_of D_X8_openBits (i := 27) rfl) rfl ?_
      exact s_sub [0, 1, 2, 3, 4] rfl (hre3 (x6, (z1.2 + 1)))
def T_J6_bitCount_0f7a4 : List (Nat × Instr × Nat) := [(0, .iload_n 0, 1), (1, .iload_n 0, 1), (2, .iconst 1, 1), (3, .iushr, 1), (4, .ldc_w 265, 3), (7, .iand, 1), (8, .isub, 1), (9, .istore_n 0, 1), (10, .iload_n 0, 1), (11, .ldc_w 266, 3), (14, .iand, 1), (15, .iload_n 0, 1), (16, .iconst 2, 1), (17, .iushr, 1), (18, .ldc_w 266, 3), (21, .iand, 1), (22, .iadd, 1), (23, .istore_n 0, 1), (24, .iload_n 0, 1), (25, .iload_n 0, 1), (26, .iconst 4, 1), (27, .iushr, 1), (28, .iadd, 1), (29, .ldc_w 267, 3), (32, .iand, 1), (33, .istore_n 0, 1), (34, .iload_n 0, 1), (35, .iload_n 0, 1), (36, .bipush 8, 2), (38, .iushr, 1), (39, .iadd, 1), (40, .istore_n 0, 1), (41, .iload_n 0, 1), (42, .iload_n 0, 1), (43, .bipush 16, 2), (45, .iushr, 1), (46, .iadd, 1), (47, .istore_n 0, 1), (48, .iload_n 0, 1), (49, .bipush 63, 2), (51, .iand, 1), (52, .ireturn, 1)]
theorem D_J6_bitCount_0f7a4 : dchk cJ6_bitCount_0f7a4 T_J6_bitCount_0f7a4 = true := by decide +kernel
def Jk_bitCount (σ : ST) (a0 : Int32) : Option Int32 :=
  lt_ ((a0 - ((ushr a0 1) &&& 1431655765))) (fun x1 => lt_ (((x1 &&& 858993459) + ((ushr x1 2) &&& 858993459))) (fun x2 => lt_ (((x2 + (ushr x2 4)) &&& 252645135)) (fun x3 => lt_ ((x3 + (ushr x3 8))) (fun x4 => lt_ ((x4 + (ushr x4 16))) (fun x5 => some (x5 &&& 63))))))
set_option maxHeartbeats 4000000 in
set_option maxRecDepth 100000 in
theorem c_J6_bitCount_0f7a4 {G : GW} (hG : Good G) {l : Launch} (σ : ST) (a0 : Int32) : Ctr G l yJ6_bitCount_0f7a4 cJ6_bitCount_0f7a4 1 (some .int) 0 [.int a0] σ (oI σ) (Jk_bitCount σ a0) := by
  refine ctr_of hG (by decide) (Nat.le_of_ble_eq_true rfl) ?_
  intro X hXl hR hX
  have hX : Ok G X cJ6_bitCount_0f7a4 1 RJ6 0 := hX
  unfold Jk_bitCount
  show Sim G X 1 (MQX G X (oI σ)) σ 0 [(0, .int a0)] [] _
  refine s_iload_n 0 (n := 1) hX (dec_of D_J6_bitCount_0f7a4 (i := 0) rfl) rfl rfl rfl ?_
  refine s_iload_n 0 (n := 2) hX (dec_of D_J6_bitCount_0f7a4 (i := 1) rfl) rfl rfl rfl ?_
  refine s_iconst (v := 1) (n := 3) hX (dec_of D_J6_bitCount_0f7a4 (i := 2) rfl) rfl (by decide) ?_
  refine s_iushr (n := 4) hX (dec_of D_J6_bitCount_0f7a4 (i := 3) rfl) rfl ?_
  refine s_ldcw (v := 1431655765) (n := 7) hX (dec_of D_J6_bitCount_0f7a4 (i := 4) rfl) rfl wd_739 ?_
  refine s_iand (n := 8) hX (dec_of D_J6_bitCount_0f7a4 (i := 5) rfl) rfl ?_
  refine s_isub (n := 9) hX (dec_of D_J6_bitCount_0f7a4 (i := 6) rfl) rfl ?_
  refine s_topi (fun x1 => ?_)
  refine s_istore_n (lv' := [(0, _)]) [0] (n := 10) hX (dec_of D_J6_bitCount_0f7a4 (i := 7) rfl) rfl rfl (by decide) rfl ?_
  refine s_iload_n 0 (n := 11) hX (dec_of D_J6_bitCount_0f7a4 (i := 8) rfl) rfl rfl rfl ?_
  refine s_ldcw (v := 858993459) (n := 14) hX (dec_of D_J6_bitCount_0f7a4 (i := 9) rfl) rfl wd_740 ?_
  refine s_iand (n := 15) hX (dec_of D_J6_bitCount_0f7a4 (i := 10) rfl) rfl ?_
  refine s_iload_n 0 (n := 16) hX (dec_of D_J6_bitCount_0f7a4 (i := 11) rfl) rfl rfl rfl ?_
  refine s_iconst (v := 2) (n := 17) hX (dec_of D_J6_bitCount_0f7a4 (i := 12) rfl) rfl (by decide) ?_
  refine s_iushr (n := 18) hX (dec_of D_J6_bitCount_0f7a4 (i := 13) rfl) rfl ?_
  refine s_ldcw (v := 858993459) (n := 21) hX (dec_of D_J6_bitCount_0f7a4 (i := 14) rfl) rfl wd_740 ?_
  refine s_iand (n := 22) hX (dec_of D_J6_bitCount_0f7a4 (i := 15) rfl) rfl ?_
  refine s_iadd (n := 23) hX (dec_of D_J6_bitCount_0f7a4 (i := 16) rfl) rfl ?_
  refine s_topi (fun x2 => ?_)
  refine s_istore_n (lv' := [(0, _)]) [0] (n := 24) hX (dec_of D_J6_bitCount_0f7a4 (i := 17) rfl) rfl rfl (by decide) rfl ?_
  refine s_iload_n 0 (n := 25) hX (dec_of D_J6_bitCount_0f7a4 (i := 18) rfl) rfl rfl rfl ?_
  refine s_iload_n 0 (n := 26) hX (dec_of D_J6_bitCount_0f7a4 (i := 19) rfl) rfl rfl rfl ?_
  refine s_iconst (v := 4) (n := 27) hX (dec_of D_J6_bitCount_0f7a4 (i := 20) rfl) rfl (by decide) ?_
  refine s_iushr (n := 28) hX (dec_of D_J6_bitCount_0f7a4 (i := 21) rfl) rfl ?_
  refine s_iadd (n := 29) hX (dec_of D_J6_bitCount_0f7a4 (i := 22) rfl) rfl ?_
  refine s_ldcw (v := 252645135) (n := 32) hX (dec_of D_J6_bitCount_0f7a4 (i := 23) rfl) rfl wd_741 ?_
  refine s_iand (n := 33) hX (dec_of D_J6_bitCount_0f7a4 (i := 24) rfl) rfl ?_
  refine s_topi (fun x3 => ?_)
  refine s_istore_n (lv' := [(0, _)]) [0] (n := 34) hX (dec_of D_J6_bitCount_0f7a4 (i := 25) rfl) rfl rfl (by decide) rfl ?_
  refine s_iload_n 0 (n := 35) hX (dec_of D_J6_bitCount_0f7a4 (i := 26) rfl) rfl rfl rfl ?_
  refine s_iload_n 0 (n := 36) hX (dec_of D_J6_bitCount_0f7a4 (i := 27) rfl) rfl rfl rfl ?_
  refine s_bipush (v := 8) (n := 38) hX (dec_of D_J6_bitCount_0f7a4 (i := 28) rfl) rfl (by decide) ?_
  refine s_iushr (n := 39) hX (dec_of D_J6_bitCount_0f7a4 (i := 29) rfl) rfl ?_
  refine s_iadd (n := 40) hX (dec_of D_J6_bitCount_0f7a4 (i := 30) rfl) rfl ?_
  refine s_topi (fun x4 => ?_)
  refine s_istore_n (lv' := [(0, _)]) [0] (n := 41) hX (dec_of D_J6_bitCount_0f7a4 (i := 31) rfl) rfl rfl (by decide) rfl ?_
  refine s_iload_n 0 (n := 42) hX (dec_of D_J6_bitCount_0f7a4 (i := 32) rfl) rfl rfl rfl ?_
  refine s_iload_n 0 (n := 43) hX (dec_of D_J6_bitCount_0f7a4 (i := 33) rfl) rfl rfl rfl ?_
  refine s_bipush (v := 16) (n := 45) hX (dec_of D_J6_bitCount_0f7a4 (i := 34) rfl) rfl (by decide) ?_
  refine s_iushr (n := 46) hX (dec_of D_J6_bitCount_0f7a4 (i := 35) rfl) rfl ?_
  refine s_iadd (n := 47) hX (dec_of D_J6_bitCount_0f7a4 (i := 36) rfl) rfl ?_
  refine s_topi (fun x5 => ?_)
  refine s_istore_n (lv' := [(0, _)]) [0] (n := 48) hX (dec_of D_J6_bitCount_0f7a4 (i := 37) rfl) rfl rfl (by decide) rfl ?_
  refine s_iload_n 0 (n := 49) hX (dec_of D_J6_bitCount_0f7a4 (i := 38) rfl) rfl rfl rfl ?_
  refine s_bipush (v := 63) (n := 51) hX (dec_of D_J6_bitCount_0f7a4 (i := 39) rfl) rfl (by decide) ?_
  refine s_iand (n := 52) hX (dec_of D_J6_bitCount_0f7a4 (i := 40) rfl) rfl ?_
  exact s_iret hX hR (dec_of D_J6_bitCount_0f7a4 (i := 41) rfl) rfl
theorem lk_RX8_80 : LkV RX8 80 RX8 yX8_openBits cX8_openBits 5 (some .int) 2 := ⟨wd_735, wd_707, wd_708, wd_87, wd_709, by decide +kernel, by decide⟩
theorem lk_RX8_83 : LkS RX8 83 yJ6_bitCount_0f7a4 cJ6_bitCount_0f7a4 1 (some .int) 1 := ⟨wd_736, wd_737, wd_106, wd_738, by decide +kernel, by decide⟩
def T_X8_openInAll : List (Nat × Instr × Nat) := [(0, .iconst 0, 1), (1, .istore_n 2, 1), (2, .iconst 0, 1), (3, .istore_n 3, 1), (4, .iload_n 3, 1), (5, .aload_n 1, 1), (6, .getfield 73, 3), (9, .if_icmp .ge 21, 3), (12, .iload_n 2, 1), (13, .aload_n 0, 1), (14, .aload_n 1, 1), (15, .iload_n 3, 1), (16, .invokevirtual 80, 3), (19, .invokestatic 83, 3), (22, .iadd, 1), (23, .istore_n 2, 1), (24, .iinc 3 1, 3), (27, .goto (-23), 3), (30, .iload_n 2, 1), (31, .ireturn, 1)]
theorem D_X8_openInAll : dchk cX8_openInAll T_X8_openInAll = true := by decide +kernel
def Wo_openInAll (σ : ST) (i0 : Nat) (i1 : Nat) : Option Int32 :=
  lp_ (fun rec2 (z1 : Int32 × Int32) => (if (gF σ 531 i1) ≤ z1.2 then some z1.1 else bd_ (Wo_openBits (σ) i0 i1 z1.2) (fun q4 => bd_ (Jk_bitCount (σ) q4) (fun q5 => lt_ ((z1.1 + q5)) (fun x6 => rec2 (x6, (z1.2 + 1))))))) FU (0, 0)
set_option maxHeartbeats 4000000 in
set_option maxRecDepth 100000 in
theorem c_X8_openInAll {G : GW} (hG : Good G) {l : Launch} (σ : ST) (i0 : Nat) (h0 : i0 < 14) (i1 : Nat) (h1 : i1 < 2) : Ctr G l yX8_openInAll cX8_openInAll 4 (some .int) 1 [.ref (ga G 129 i0), .ref (ga G 126 i1)] σ (oI σ) (Wo_openInAll σ i0 i1) := by
  refine ctr_of hG (by decide) (Nat.le_of_ble_eq_true rfl) ?_
  intro X hXl hR hX
  have hX : Ok G X cX8_openInAll 4 RX8 1 := hX
  unfold Wo_openInAll
  show Sim G X 4 (MQX G X (oI σ)) σ 0 [(0, .ref (ga G 129 i0)), (1, .ref (ga G 126 i1))] [] _
  refine s_iconst (v := 0) (n := 1) hX (dec_of D_X8_openInAll (i := 0) rfl) rfl (by decide) ?_
  refine s_istore_n (lv' := [(0, _), (1, _), (2, _)]) [1, 2, 0] (n := 2) hX (dec_of D_X8_openInAll (i := 1) rfl) rfl rfl (by decide) rfl ?_
  refine s_iconst (v := 0) (n := 3) hX (dec_of D_X8_openInAll (i := 2) rfl) rfl (by decide) ?_
  refine s_istore_n (lv' := [(0, _), (1, _), (2, _), (3, _)]) [1, 2, 3, 0] (n := 4) hX (dec_of D_X8_openInAll (i := 3) rfl) rfl rfl (by decide) rfl ?_
  refine s_sub [0, 1, 2, 3] rfl (s_lp (pc := 4) (Sf := fun (z1 : Int32 × Int32) => σ) (lvf := fun (z1 : Int32 × Int32) => [(0, .ref (ga G 129 i0)), (1, .ref (ga G 126 i1)), (2, .int z1.1), (3, .int z1.2)]) (fun rec2 hre3 z1 => ?_) FU (0, 0))
  refine s_iload_n 3 (n := 5) hX (dec_of D_X8_openInAll (i := 4) rfl) rfl rfl rfl ?_
  refine s_aload_n 1 (n := 6) hX (dec_of D_X8_openInAll (i := 5) rfl) rfl rfl rfl ?_
  refine s_getI (c := 5) (p := 11) (id := 531) (n := 9) hX cls5 (vk126 (by omega)) (dec_of D_X8_openInAll (i := 6) rfl) rfl rfl wd_403 ?_
  refine s_icmp_ge (tgt := 30) (n := 12) hX (dec_of D_X8_openInAll (i := 7) rfl) rfl rfl ?_ ?_
  · refine s_iload_n 2 (n := 31) hX (dec_of D_X8_openInAll (i := 18) rfl) rfl rfl rfl ?_
    exact s_iret hX hR (dec_of D_X8_openInAll (i := 19) rfl) rfl
  · refine s_iload_n 2 (n := 13) hX (dec_of D_X8_openInAll (i := 8) rfl) rfl rfl rfl ?_
    refine s_aload_n 0 (n := 14) hX (dec_of D_X8_openInAll (i := 9) rfl) rfl rfl rfl ?_
    refine s_aload_n 1 (n := 15) hX (dec_of D_X8_openInAll (i := 10) rfl) rfl rfl rfl ?_
    refine s_iload_n 3 (n := 16) hX (dec_of D_X8_openInAll (i := 11) rfl) rfl rfl rfl ?_
    refine s_callVI (c := 8) (n := 19) hX cls8 (vk129 (by omega)) lk_RX8_80 (dec_of D_X8_openInAll (i := 12) rfl) rfl (by decide) (c_X8_openBits (l := _) hG _ _ (by omega) _ (by omega) _) rfl rfl (Nat.le_of_ble_eq_true rfl) (fun q4 => ?_)
    refine s_callSI (n := 22) hX lk_RX8_83 (dec_of D_X8_openInAll (i := 13) rfl) rfl (by decide) (c_J6_bitCount_0f7a4 (l := _) hG _ _) rfl rfl (Nat.le_of_ble_eq_true rfl) (fun q5 => ?_)
    refine s_iadd (n := 23) hX (dec_of D_X8_openInAll (i := 14) rfl) rfl ?_
    refine s_topi (fun x6 => ?_)
    refine s_istore_n (lv' := [(0, _), (1, _), (2, _), (3, _)]) [1, 2, 0, 3] (n := 24) hX (dec_of D_X8_openInAll (i := 15) rfl) rfl rfl (by decide) rfl ?_
    refine s_iinc (v := z1.2 + 1) (lv' := [(0, _), (1, _), (2, _), (3, _)]) 3 [1, 2, 3, 0] (n := 27) hX (dec_of D_X8_openInAll (i := 16) rfl) rfl rfl rfl (by decide) rfl ?_
    refine s_goto (n := 4) hX (dec_of D_X8_openInAll (i := 17) rfl) rfl ?_
    exact s_sub [0, 1, 2, 3] rfl (hre3 (x6, (z1.2 + 1)))
def T_X8_firstOpen : List (Nat × Instr × Nat) := [(0, .iconst 0, 1), (1, .istore_n 3, 1), (2, .iload_n 3, 1), (3, .aload_n 1, 1), (4, .getfield 66, 3), (7, .iload_n 2, 1), (8, .iaload, 1), (9, .if_icmp .ge 26, 3), (12, .aload_n 0, 1), (13, .getfield 21, 3), (16, .iload_n 2, 1), (17, .iconst 5, 1), (18, .imul, 1), (19, .iload_n 3, 1), (20, .iadd, 1), (21, .iaload, 1), (22, .bipush (-2), 2), (24, .if_icmp .ne 5, 3), (27, .iload_n 3, 1), (28, .ireturn, 1), (29, .iinc 3 1, 3), (32, .goto (-30), 3), (35, .iconst (-1), 1), (36, .ireturn, 1)]
theorem D_X8_firstOpen : dchk cX8_firstOpen T_X8_firstOpen = true := by decide +kernel
def Wo_firstOpen (σ : ST) (i0 : Nat) (i1 : Nat) (a2 : Int32) : Option Int32 :=
  lp_ (fun rec2 (z1 : Int32) => bd_ (ldI σ 18 i1 a2) (fun v4 => (if v4 ≤ z1 then some (-1) else bd_ (ldI σ 27 i0 ((a2 * 5) + z1)) (fun v5 => (if v5 = (-2) then some z1 else rec2 (z1 + 1)))))) FU 0
set_option maxHeartbeats 4000000 in
set_option maxRecDepth 100000 in
theorem c_X8_firstOpen {G : GW} (hG : Good G) {l : Launch} (σ : ST) (i0 : Nat) (h0 : i0 < 14) (i1 : Nat) (h1 : i1 < 2) (a2 : Int32) : Ctr G l yX8_firstOpen cX8_firstOpen 4 (some .int) 0 [.ref (ga G 129 i0), .ref (ga G 126 i1), .int a2] σ (oI σ) (Wo_firstOpen σ i0 i1 a2) := by
  refine ctr_of hG (by decide) (Nat.le_of_ble_eq_true rfl) ?_
  intro X hXl hR hX
  have hX : Ok G X cX8_firstOpen 4 RX8 0 := hX
  unfold Wo_firstOpen
  show Sim G X 4 (MQX G X (oI σ)) σ 0 [(0, .ref (ga G 129 i0)), (1, .ref (ga G 126 i1)), (2, .int a2)] [] _
  refine s_iconst (v := 0) (n := 1) hX (dec_of D_X8_firstOpen (i := 0) rfl) rfl (by decide) ?_
  refine s_istore_n (lv' := [(0, _), (1, _), (2, _), (3, _)]) [1, 2, 3, 0] (n := 2) hX (dec_of D_X8_firstOpen (i := 1) rfl) rfl rfl (by decide) rfl ?_
  refine s_sub [0, 1, 2, 3] rfl (s_lp (pc := 2) (Sf := fun (z1 : Int32) => σ) (lvf := fun (z1 : Int32) => [(0, .ref (ga G 129 i0)), (1, .ref (ga G 126 i1)), (2, .int a2), (3, .int z1)]) (fun rec2 hre3 z1 => ?_) FU 0)
  refine s_iload_n 3 (n := 3) hX (dec_of D_X8_firstOpen (i := 2) rfl) rfl rfl rfl ?_
  refine s_aload_n 1 (n := 4) hX (dec_of D_X8_firstOpen (i := 3) rfl) rfl rfl rfl ?_
  refine s_getR (c := 5) (p := 5) (k' := 18) (n := 7) hX cls5 (vk126 (by omega)) (dec_of D_X8_firstOpen (i := 4) rfl) rfl rfl wd_375 ?_
  refine s_iload_n 2 (n := 8) hX (dec_of D_X8_firstOpen (i := 5) rfl) rfl rfl rfl ?_
  refine s_iald (n := 9) hX (vk18 (by omega)) (by decide) (dec_of D_X8_firstOpen (i := 6) rfl) rfl (fun v4 => ?_)
  refine s_icmp_ge (tgt := 35) (n := 12) hX (dec_of D_X8_firstOpen (i := 7) rfl) rfl rfl ?_ ?_
  · refine s_iconst (v := (-1)) (n := 36) hX (dec_of D_X8_firstOpen (i := 22) rfl) rfl (by decide) ?_
    exact s_iret hX hR (dec_of D_X8_firstOpen (i := 23) rfl) rfl
  · refine s_aload_n 0 (n := 13) hX (dec_of D_X8_firstOpen (i := 8) rfl) rfl rfl rfl ?_
    refine s_getR (c := 8) (p := 3) (k' := 27) (n := 16) hX cls8 (vk129 (by omega)) (dec_of D_X8_firstOpen (i := 9) rfl) rfl rfl wd_206 ?_
    refine s_iload_n 2 (n := 17) hX (dec_of D_X8_firstOpen (i := 10) rfl) rfl rfl rfl ?_
    refine s_iconst (v := 5) (n := 18) hX (dec_of D_X8_firstOpen (i := 11) rfl) rfl (by decide) ?_
    refine s_imul (n := 19) hX (dec_of D_X8_firstOpen (i := 12) rfl) rfl ?_
    refine s_iload_n 3 (n := 20) hX (dec_of D_X8_firstOpen (i := 13) rfl) rfl rfl rfl ?_
    refine s_iadd (n := 21) hX (dec_of D_X8_firstOpen (i := 14) rfl) rfl ?_
    refine s_iald (n := 22) hX (vk27 (by omega)) (by decide) (dec_of D_X8_firstOpen (i := 15) rfl) rfl (fun v5 => ?_)
    refine s_bipush (v := (-2)) (n := 24) hX (dec_of D_X8_firstOpen (i := 16) rfl) rfl (by decide) ?_
    refine s_icmp_ne (tgt := 29) (n := 27) hX (dec_of D_X8_firstOpen (i := 17) rfl) rfl rfl ?_ ?_
    · refine s_iinc (v := z1 + 1) (lv' := [(0, _), (1, _), (2, _), (3, _)]) 3 [1, 2, 3, 0] (n := 32) hX (dec_of D_X8_firstOpen (i := 20) rfl) rfl rfl rfl (by decide) rfl ?_
      refine s_goto (n := 2) hX (dec_of D_X8_firstOpen (i := 21) rfl) rfl ?_
      exact s_sub [0, 1, 2, 3] rfl (hre3 (z1 + 1))
    · refine s_iload_n 3 (n := 28) hX (dec_of D_X8_firstOpen (i := 18) rfl) rfl rfl rfl ?_
      exact s_iret hX hR (dec_of D_X8_firstOpen (i := 19) rfl) rfl
theorem lk_RX9_78 : LkV RX9 78 RX7 yX7_append cX7_append 3 none 1 := ⟨wd_473, wd_474, wd_475, wd_85, wd_476, by decide +kernel, by decide⟩
def T_X9_feed : List (Nat × Instr × Nat) := [(0, .aload_n 0, 1), (1, .getfield 10, 3), (4, .getfield 68, 3), (7, .getfield 72, 3), (10, .bipush 20, 2), (12, .iadd, 1), (13, .sipush 900, 3), (16, .if_icmp .le 5, 3), (19, .iconst (-1), 1), (20, .ireturn, 1), (21, .aload_n 0, 1), (22, .getfield 10, 3), (25, .getfield 68, 3), (28, .iload_n 1, 1), (29, .invokevirtual 78, 3), (32, .aload_n 0, 1), (33, .getfield 10, 3), (36, .getfield 68, 3), (39, .iload_n 2, 1), (40, .invokevirtual 78, 3), (43, .aload_n 0, 1), (44, .getfield 10, 3), (47, .getfield 68, 3), (50, .iload_n 3, 1), (51, .invokevirtual 78, 3), (54, .aload_n 0, 1), (55, .getfield 10, 3), (58, .getfield 68, 3), (61, .iload 4, 2), (63, .invokevirtual 78, 3), (66, .aload_n 0, 1), (67, .getfield 10, 3), (70, .getfield 68, 3), (73, .iload 5, 2), (75, .invokevirtual 78, 3), (78, .aload_n 0, 1), (79, .getfield 10, 3), (82, .getfield 68, 3), (85, .getfield 72, 3), (88, .ireturn, 1)]
theorem D_X9_feed : dchk cX9_feed T_X9_feed = true := by decide +kernel
def Rp_feed (σ : ST) (a1 : Int32) (a2 : Int32) (a3 : Int32) (a4 : Int32) (a5 : Int32) : Option (Int32 × ST) :=
  (if ((gF σ 652 0) + 20) ≤ 900 then bd_ (Tp_append (σ) a1) (fun q1 => bd_ (Tp_append q1 a2) (fun q2 => bd_ (Tp_append q2 a3) (fun q3 => bd_ (Tp_append q3 a4) (fun q4 => bd_ (Tp_append q4 a5) (fun q5 => some ((gF q5 652 0), q5)))))) else some ((-1), σ))
set_option maxHeartbeats 4000000 in
set_option maxRecDepth 100000 in
theorem c_X9_feed {G : GW} (hG : Good G) {l : Launch} (σ : ST) (a1 : Int32) (a2 : Int32) (a3 : Int32) (a4 : Int32) (a5 : Int32) : Ctr G l yX9_feed cX9_feed 6 (some .int) 1 [.ref (ga G 130 0), .int a1, .int a2, .int a3, .int a4, .int a5] σ oP (Rp_feed σ a1 a2 a3 a4 a5) := by
  refine ctr_of hG (by decide) (Nat.le_of_ble_eq_true rfl) ?_
  intro X hXl hR hX
  have hX : Ok G X cX9_feed 6 RX9 1 := hX
  unfold Rp_feed
  show Sim G X 6 (MQX G X oP) σ 0 [(0, .ref (ga G 130 0)), (1, .int a1), (2, .int a2), (3, .int a3), (4, .int a4), (5, .int a5)] [] _
  refine s_aload_n 0 (n := 1) hX (dec_of D_X9_feed (i := 0) rfl) rfl rfl rfl ?_
  refine s_getC (c := 9) (p := 0) (n := 4) 125 0 hX cls9 (vk130 (by omega)) (dec_of D_X9_feed (i := 1) rfl) rfl rfl (by decide) wd_441 ?_
  refine s_getR (c := 4) (p := 0) (k' := 128) (n := 7) hX cls4 (vk125 (by omega)) (dec_of D_X9_feed (i := 2) rfl) rfl rfl wd_156 ?_
  refine s_getI (c := 7) (p := 4) (id := 652) (n := 10) hX cls7 (vk128 (by omega)) (dec_of D_X9_feed (i := 3) rfl) rfl rfl wd_134 ?_
  refine s_bipush (v := 20) (n := 12) hX (dec_of D_X9_feed (i := 4) rfl) rfl (by decide) ?_
  refine s_iadd (n := 13) hX (dec_of D_X9_feed (i := 5) rfl) rfl ?_
  refine s_sipush (v := 900) (n := 16) hX (dec_of D_X9_feed (i := 6) rfl) rfl (by decide) ?_
  refine s_icmp_le (tgt := 21) (n := 19) hX (dec_of D_X9_feed (i := 7) rfl) rfl rfl ?_ ?_
  · refine s_aload_n 0 (n := 22) hX (dec_of D_X9_feed (i := 10) rfl) rfl rfl rfl ?_
    refine s_getC (c := 9) (p := 0) (n := 25) 125 0 hX cls9 (vk130 (by omega)) (dec_of D_X9_feed (i := 11) rfl) rfl rfl (by decide) wd_441 ?_
    refine s_getR (c := 4) (p := 0) (k' := 128) (n := 28) hX cls4 (vk125 (by omega)) (dec_of D_X9_feed (i := 12) rfl) rfl rfl wd_156 ?_
    refine s_iload_n 1 (n := 29) hX (dec_of D_X9_feed (i := 13) rfl) rfl rfl rfl ?_
    refine s_callVV (c := 7) (n := 32) hX cls7 (vk128 (by omega)) lk_RX9_78 (dec_of D_X9_feed (i := 14) rfl) rfl (by decide) (c_X7_append (l := _) hG _ _) rfl rfl (Nat.le_of_ble_eq_true rfl) (fun q1 => ?_)
    refine s_aload_n 0 (n := 33) hX (dec_of D_X9_feed (i := 15) rfl) rfl rfl rfl ?_
    refine s_getC (c := 9) (p := 0) (n := 36) 125 0 hX cls9 (vk130 (by omega)) (dec_of D_X9_feed (i := 16) rfl) rfl rfl (by decide) wd_441 ?_
    refine s_getR (c := 4) (p := 0) (k' := 128) (n := 39) hX cls4 (vk125 (by omega)) (dec_of D_X9_feed (i := 17) rfl) rfl rfl wd_156 ?_
    refine s_iload_n 2 (n := 40) hX (dec_of D_X9_feed (i := 18) rfl) rfl rfl rfl ?_
    refine s_callVV (c := 7) (n := 43) hX cls7 (vk128 (by omega)) lk_RX9_78 (dec_of D_X9_feed (i := 19) rfl) rfl (by decide) (c_X7_append (l := _) hG _ _) rfl rfl (Nat.le_of_ble_eq_true rfl) (fun q2 => ?_)
    refine s_aload_n 0 (n := 44) hX (dec_of D_X9_feed (i := 20) rfl) rfl rfl rfl ?_
    refine s_getC (c := 9) (p := 0) (n := 47) 125 0 hX cls9 (vk130 (by omega)) (dec_of D_X9_feed (i := 21) rfl) rfl rfl (by decide) wd_441 ?_
    refine s_getR (c := 4) (p := 0) (k' := 128) (n := 50) hX cls4 (vk125 (by omega)) (dec_of D_X9_feed (i := 22) rfl) rfl rfl wd_156 ?_
    refine s_iload_n 3 (n := 51) hX (dec_of D_X9_feed (i := 23) rfl) rfl rfl rfl ?_
    refine s_callVV (c := 7) (n := 54) hX cls7 (vk128 (by omega)) lk_RX9_78 (dec_of D_X9_feed (i := 24) rfl) rfl (by decide) (c_X7_append (l := _) hG _ _) rfl rfl (Nat.le_of_ble_eq_true rfl) (fun q3 => ?_)
    refine s_aload_n 0 (n := 55) hX (dec_of D_X9_feed (i := 25) rfl) rfl rfl rfl ?_
    refine s_getC (c := 9) (p := 0) (n := 58) 125 0 hX cls9 (vk130 (by omega)) (dec_of D_X9_feed (i := 26) rfl) rfl rfl (by decide) wd_441 ?_
    refine s_getR (c := 4) (p := 0) (k' := 128) (n := 61) hX cls4 (vk125 (by omega)) (dec_of D_X9_feed (i := 27) rfl) rfl rfl wd_156 ?_
    refine s_iload 4 (n := 63) hX (dec_of D_X9_feed (i := 28) rfl) rfl rfl ?_
    refine s_callVV (c := 7) (n := 66) hX cls7 (vk128 (by omega)) lk_RX9_78 (dec_of D_X9_feed (i := 29) rfl) rfl (by decide) (c_X7_append (l := _) hG _ _) rfl rfl (Nat.le_of_ble_eq_true rfl) (fun q4 => ?_)
    refine s_aload_n 0 (n := 67) hX (dec_of D_X9_feed (i := 30) rfl) rfl rfl rfl ?_
    refine s_getC (c := 9) (p := 0) (n := 70) 125 0 hX cls9 (vk130 (by omega)) (dec_of D_X9_feed (i := 31) rfl) rfl rfl (by decide) wd_441 ?_
    refine s_getR (c := 4) (p := 0) (k' := 128) (n := 73) hX cls4 (vk125 (by omega)) (dec_of D_X9_feed (i := 32) rfl) rfl rfl wd_156 ?_
    refine s_iload 5 (n := 75) hX (dec_of D_X9_feed (i := 33) rfl) rfl rfl ?_
    refine s_callVV (c := 7) (n := 78) hX cls7 (vk128 (by omega)) lk_RX9_78 (dec_of D_X9_feed (i := 34) rfl) rfl (by decide) (c_X7_append (l := _) hG _ _) rfl rfl (Nat.le_of_ble_eq_true rfl) (fun q5 => ?_)
    refine s_aload_n 0 (n := 79) hX (dec_of D_X9_feed (i := 35) rfl) rfl rfl rfl ?_
    refine s_getC (c := 9) (p := 0) (n := 82) 125 0 hX cls9 (vk130 (by omega)) (dec_of D_X9_feed (i := 36) rfl) rfl rfl (by decide) wd_441 ?_
    refine s_getR (c := 4) (p := 0) (k' := 128) (n := 85) hX cls4 (vk125 (by omega)) (dec_of D_X9_feed (i := 37) rfl) rfl rfl wd_156 ?_
    refine s_getI (c := 7) (p := 4) (id := 652) (n := 88) hX cls7 (vk128 (by omega)) (dec_of D_X9_feed (i := 38) rfl) rfl rfl wd_134 ?_
    exact s_iret hX hR (dec_of D_X9_feed (i := 39) rfl) rfl
  · refine s_iconst (v := (-1)) (n := 20) hX (dec_of D_X9_feed (i := 8) rfl) rfl (by decide) ?_
    exact s_iret hX hR (dec_of D_X9_feed (i := 9) rfl) rfl
theorem lk_RX9_82 : LkV RX9 82 RX4 yX4_readText cX4_readText 4 (some .boolean) 2 := ⟨wd_481, wd_482, wd_483, wd_84, wd_484, by decide +kernel, by decide⟩
theorem lk_RX9_86 : LkV RX9 86 RX0 yX0_open cX0_open 2 none 1 := ⟨wd_646, wd_647, wd_648, wd_86, wd_649, by decide +kernel, by decide⟩
theorem lk_RX9_90 : LkV RX9 90 RX2 yX2_forget cX2_forget 1 none 0 := ⟨wd_661, wd_662, wd_663, wd_88, wd_664, by decide +kernel, by decide⟩
def T_X9_text : List (Nat × Instr × Nat) := [(0, .iload_n 1, 1), (1, .ifCond .lt 17, 3), (4, .iload_n 1, 1), (5, .aload_n 0, 1), (6, .getfield 10, 3), (9, .getfield 68, 3), (12, .getfield 72, 3), (15, .if_icmp .le 6, 3), (18, .bipush (-2), 2), (20, .ireturn, 1), (21, .aload_n 0, 1), (22, .getfield 10, 3), (25, .aload_n 0, 1), (26, .getfield 65, 3), (29, .iload_n 1, 1), (30, .invokevirtual 82, 3), (33, .ifCond .ne 5, 3), (36, .iconst (-1), 1), (37, .ireturn, 1), (38, .aload_n 0, 1), (39, .getfield 61, 3), (42, .astore_n 2, 1), (43, .aload_n 0, 1), (44, .aload_n 0, 1), (45, .getfield 65, 3), (48, .putfield 61, 3), (51, .aload_n 0, 1), (52, .aload_n 2, 1), (53, .putfield 65, 3), (56, .aload_n 0, 1), (57, .getfield 19, 3), (60, .aload_n 0, 1), (61, .getfield 61, 3), (64, .invokevirtual 86, 3), (67, .aload_n 0, 1), (68, .getfield 26, 3), (71, .invokevirtual 90, 3), (74, .aload_n 0, 1), (75, .getfield 61, 3), (78, .getfield 93, 3), (81, .ireturn, 1)]
theorem D_X9_text : dchk cX9_text T_X9_text = true := by decide +kernel
def Rp_text (σ : ST) (a1 : Int32) : Option (Int32 × ST) :=
  (if a1 < 0 then some ((-2), σ) else (if a1 ≤ (gF σ 652 0) then bd_ (ldQ σ 1) (fun rr1 => bd_ (Rd_readText (σ) rr1 a1) (fun q2 => (if q2.1 = 0 then some ((-1), q2.2) else bd_ (ldQ q2.2 0) (fun rr3 => bd_ (ldQ q2.2 1) (fun rr4 => lt_ (setQ q2.2 0 rr4) (fun s5 => lt_ (setQ s5 1 rr3) (fun s6 => bd_ (ldQ s6 0) (fun rr7 => bd_ (Bk_open s6 0 rr7) (fun q8 => bd_ (Hi_forget q8) (fun q9 => bd_ (ldQ q9 0) (fun rr10 => some ((gF q9 528 rr10), q9)))))))))))) else some ((-2), σ)))
set_option maxHeartbeats 4000000 in
set_option maxRecDepth 100000 in
theorem c_X9_text {G : GW} (hG : Good G) {l : Launch} (σ : ST) (a1 : Int32) : Ctr G l yX9_text cX9_text 3 (some .int) 11 [.ref (ga G 130 0), .int a1] σ oP (Rp_text σ a1) := by
  refine ctr_of hG (by decide) (Nat.le_of_ble_eq_true rfl) ?_
  intro X hXl hR hX
  have hX : Ok G X cX9_text 3 RX9 11 := hX
  unfold Rp_text
  show Sim G X 3 (MQX G X oP) σ 0 [(0, .ref (ga G 130 0)), (1, .int a1)] [] _
  refine s_iload_n 1 (n := 1) hX (dec_of D_X9_text (i := 0) rfl) rfl rfl rfl ?_
  refine s_if_lt (tgt := 18) (n := 4) hX (dec_of D_X9_text (i := 1) rfl) rfl rfl ?_ ?_
  · refine s_bipush (v := (-2)) (n := 20) hX (dec_of D_X9_text (i := 8) rfl) rfl (by decide) ?_
    exact s_iret hX hR (dec_of D_X9_text (i := 9) rfl) rfl
  · refine s_iload_n 1 (n := 5) hX (dec_of D_X9_text (i := 2) rfl) rfl rfl rfl ?_
    refine s_aload_n 0 (n := 6) hX (dec_of D_X9_text (i := 3) rfl) rfl rfl rfl ?_
    refine s_getC (c := 9) (p := 0) (n := 9) 125 0 hX cls9 (vk130 (by omega)) (dec_of D_X9_text (i := 4) rfl) rfl rfl (by decide) wd_441 ?_
    refine s_getR (c := 4) (p := 0) (k' := 128) (n := 12) hX cls4 (vk125 (by omega)) (dec_of D_X9_text (i := 5) rfl) rfl rfl wd_156 ?_
    refine s_getI (c := 7) (p := 4) (id := 652) (n := 15) hX cls7 (vk128 (by omega)) (dec_of D_X9_text (i := 6) rfl) rfl rfl wd_134 ?_
    refine s_icmp_le (tgt := 21) (n := 18) hX (dec_of D_X9_text (i := 7) rfl) rfl rfl ?_ ?_
    · refine s_aload_n 0 (n := 22) hX (dec_of D_X9_text (i := 10) rfl) rfl rfl rfl ?_
      refine s_getC (c := 9) (p := 0) (n := 25) 125 0 hX cls9 (vk130 (by omega)) (dec_of D_X9_text (i := 11) rfl) rfl rfl (by decide) wd_441 ?_
      refine s_aload_n 0 (n := 26) hX (dec_of D_X9_text (i := 12) rfl) rfl rfl rfl ?_
      refine s_getQ (c := 9) (p := 8) (j := 1) (n := 29) hX cls9 (vk130 (by omega)) (dec_of D_X9_text (i := 13) rfl) rfl rfl wd_449 (fun rr1 hrr1 => ?_)
      refine s_iload_n 1 (n := 30) hX (dec_of D_X9_text (i := 14) rfl) rfl rfl rfl ?_
      refine s_callVP (c := 4) (n := 33) hX cls4 (vk125 (by omega)) lk_RX9_82 (dec_of D_X9_text (i := 15) rfl) rfl (by decide) (c_X4_readText (l := _) hG _ _ (by omega) _) rfl rfl (Nat.le_of_ble_eq_true rfl) (fun q2 => ?_)
      refine s_if_ne (tgt := 38) (n := 36) hX (dec_of D_X9_text (i := 16) rfl) rfl rfl ?_ ?_
      · refine s_aload_n 0 (n := 39) hX (dec_of D_X9_text (i := 19) rfl) rfl rfl rfl ?_
        refine s_getQ (c := 9) (p := 7) (j := 0) (n := 42) hX cls9 (vk130 (by omega)) (dec_of D_X9_text (i := 20) rfl) rfl rfl wd_448 (fun rr3 hrr3 => ?_)
        refine s_astore_n (lv' := [(0, _), (1, _), (2, _)]) [1, 2, 0] (n := 43) hX (dec_of D_X9_text (i := 21) rfl) rfl rfl (by decide) rfl ?_
        refine s_aload_n 0 (n := 44) hX (dec_of D_X9_text (i := 22) rfl) rfl rfl rfl ?_
        refine s_aload_n 0 (n := 45) hX (dec_of D_X9_text (i := 23) rfl) rfl rfl rfl ?_
        refine s_getQ (c := 9) (p := 8) (j := 1) (n := 48) hX cls9 (vk130 (by omega)) (dec_of D_X9_text (i := 24) rfl) rfl rfl wd_449 (fun rr4 hrr4 => ?_)
        refine s_putQ (j := 0) (n := 51) hX (by decide) (dec_of D_X9_text (i := 25) rfl) rfl wd_448 cls9 (fun s5 => ?_)
        refine s_aload_n 0 (n := 52) hX (dec_of D_X9_text (i := 26) rfl) rfl rfl rfl ?_
        refine s_aload_n 2 (n := 53) hX (dec_of D_X9_text (i := 27) rfl) rfl rfl rfl ?_
        refine s_putQ (j := 1) (n := 56) hX (by decide) (dec_of D_X9_text (i := 28) rfl) rfl wd_449 cls9 (fun s6 => ?_)
        refine s_aload_n 0 (n := 57) hX (dec_of D_X9_text (i := 29) rfl) rfl rfl rfl ?_
        refine s_getC (c := 9) (p := 1) (n := 60) 121 0 hX cls9 (vk130 (by omega)) (dec_of D_X9_text (i := 30) rfl) rfl rfl (by decide) wd_442 ?_
        refine s_aload_n 0 (n := 61) hX (dec_of D_X9_text (i := 31) rfl) rfl rfl rfl ?_
        refine s_getQ (c := 9) (p := 7) (j := 0) (n := 64) hX cls9 (vk130 (by omega)) (dec_of D_X9_text (i := 32) rfl) rfl rfl wd_448 (fun rr7 hrr7 => ?_)
        refine s_callVV (c := 0) (n := 67) hX cls0 (vk121 (by omega)) lk_RX9_86 (dec_of D_X9_text (i := 33) rfl) rfl (by decide) (c_X0_open (l := _) hG _ _ (by omega) _ (by omega)) rfl rfl (Nat.le_of_ble_eq_true rfl) (fun q8 => ?_)
        refine s_aload_n 0 (n := 68) hX (dec_of D_X9_text (i := 34) rfl) rfl rfl rfl ?_
        refine s_getC (c := 9) (p := 2) (n := 71) 123 0 hX cls9 (vk130 (by omega)) (dec_of D_X9_text (i := 35) rfl) rfl rfl (by decide) wd_443 ?_
        refine s_callVV (c := 2) (n := 74) hX cls2 (vk123 (by omega)) lk_RX9_90 (dec_of D_X9_text (i := 36) rfl) rfl (by decide) (c_X2_forget (l := _) hG _) rfl rfl (Nat.le_of_ble_eq_true rfl) (fun q9 => ?_)
        refine s_aload_n 0 (n := 75) hX (dec_of D_X9_text (i := 37) rfl) rfl rfl rfl ?_
        refine s_getQ (c := 9) (p := 7) (j := 0) (n := 78) hX cls9 (vk130 (by omega)) (dec_of D_X9_text (i := 38) rfl) rfl rfl wd_448 (fun rr10 hrr10 => ?_)
        refine s_getI (c := 5) (p := 8) (id := 528) (n := 81) hX cls5 (vk126 (by omega)) (dec_of D_X9_text (i := 39) rfl) rfl rfl wd_385 ?_
        exact s_iret hX hR (dec_of D_X9_text (i := 40) rfl) rfl
      · refine s_iconst (v := (-1)) (n := 37) hX (dec_of D_X9_text (i := 17) rfl) rfl (by decide) ?_
        exact s_iret hX hR (dec_of D_X9_text (i := 18) rfl) rfl
    · refine s_bipush (v := (-2)) (n := 20) hX (dec_of D_X9_text (i := 8) rfl) rfl (by decide) ?_
      exact s_iret hX hR (dec_of D_X9_text (i := 9) rfl) rfl
def T_X9_fault : List (Nat × Instr × Nat) := [(0, .iload_n 1, 1), (1, .lookupswitch 43 #[(0, 27), (1, 35)], 27), (28, .aload_n 0, 1), (29, .getfield 10, 3), (32, .getfield 96, 3), (35, .ireturn, 1), (36, .aload_n 0, 1), (37, .getfield 10, 3), (40, .getfield 99, 3), (43, .ireturn, 1), (44, .iconst (-1), 1), (45, .ireturn, 1)]
theorem D_X9_fault : dchk cX9_fault T_X9_fault = true := by decide +kernel
def Rp_fault (σ : ST) (a1 : Int32) : Option Int32 :=
  sw_ a1 0 [some (gF σ 463 0), some (gF σ 464 0)] (some (-1))
set_option maxHeartbeats 4000000 in
set_option maxRecDepth 100000 in
theorem c_X9_fault {G : GW} (hG : Good G) {l : Launch} (σ : ST) (a1 : Int32) : Ctr G l yX9_fault cX9_fault 2 (some .int) 0 [.ref (ga G 130 0), .int a1] σ (oI σ) (Rp_fault σ a1) := by
  refine ctr_of hG (by decide) (Nat.le_of_ble_eq_true rfl) ?_
  intro X hXl hR hX
  have hX : Ok G X cX9_fault 2 RX9 0 := hX
  unfold Rp_fault
  show Sim G X 2 (MQX G X (oI σ)) σ 0 [(0, .ref (ga G 130 0)), (1, .int a1)] [] _
  refine s_iload_n 1 (n := 1) hX (dec_of D_X9_fault (i := 0) rfl) rfl rfl rfl ?_
  refine s_lsw (t0 := 28) (t1 := 36) (td := 44) hX (dec_of D_X9_fault (i := 1) rfl) rfl rfl rfl ?_ ?_ ?_
  · refine s_aload_n 0 (n := 29) hX (dec_of D_X9_fault (i := 2) rfl) rfl rfl rfl ?_
    refine s_getC (c := 9) (p := 0) (n := 32) 125 0 hX cls9 (vk130 (by omega)) (dec_of D_X9_fault (i := 3) rfl) rfl rfl (by decide) wd_441 ?_
    refine s_getI (c := 4) (p := 7) (id := 463) (n := 35) hX cls4 (vk125 (by omega)) (dec_of D_X9_fault (i := 4) rfl) rfl rfl wd_164 ?_
    exact s_iret hX hR (dec_of D_X9_fault (i := 5) rfl) rfl
  · refine s_aload_n 0 (n := 37) hX (dec_of D_X9_fault (i := 6) rfl) rfl rfl rfl ?_
    refine s_getC (c := 9) (p := 0) (n := 40) 125 0 hX cls9 (vk130 (by omega)) (dec_of D_X9_fault (i := 7) rfl) rfl rfl (by decide) wd_441 ?_
    refine s_getI (c := 4) (p := 8) (id := 464) (n := 43) hX cls4 (vk125 (by omega)) (dec_of D_X9_fault (i := 8) rfl) rfl rfl wd_166 ?_
    exact s_iret hX hR (dec_of D_X9_fault (i := 9) rfl) rfl
  · refine s_iconst (v := (-1)) (n := 45) hX (dec_of D_X9_fault (i := 10) rfl) rfl (by decide) ?_
    exact s_iret hX hR (dec_of D_X9_fault (i := 11) rfl) rfl
def T_X9_isLand : List (Nat × Instr × Nat) := [(0, .iload_n 1, 1), (1, .ifCond .lt 18, 3), (4, .iload_n 1, 1), (5, .aload_n 0, 1), (6, .getfield 61, 3), (9, .getfield 229, 3), (12, .if_icmp .ge 7, 3), (15, .iconst 1, 1), (16, .goto 4, 3), (19, .iconst 0, 1), (20, .ireturn, 1)]
theorem D_X9_isLand : dchk cX9_isLand T_X9_isLand = true := by decide +kernel
def Rp_isLand (σ : ST) (a1 : Int32) : Option Int32 :=
  (if a1 < 0 then some 0 else bd_ (ldQ σ 0) (fun rr1 => (if (gF σ 529 rr1) ≤ a1 then some 0 else some 1)))
set_option maxHeartbeats 4000000 in
set_option maxRecDepth 100000 in
theorem c_X9_isLand {G : GW} (hG : Good G) {l : Launch} (σ : ST) (a1 : Int32) : Ctr G l yX9_isLand cX9_isLand 2 (some .boolean) 0 [.ref (ga G 130 0), .int a1] σ (oI σ) (Rp_isLand σ a1) := by
  refine ctr_of hG (by decide) (Nat.le_of_ble_eq_true rfl) ?_
  intro X hXl hR hX
  have hX : Ok G X cX9_isLand 2 RX9 0 := hX
  unfold Rp_isLand
  show Sim G X 2 (MQX G X (oI σ)) σ 0 [(0, .ref (ga G 130 0)), (1, .int a1)] [] _
  refine s_iload_n 1 (n := 1) hX (dec_of D_X9_isLand (i := 0) rfl) rfl rfl rfl ?_
  refine s_if_lt (tgt := 19) (n := 4) hX (dec_of D_X9_isLand (i := 1) rfl) rfl rfl ?_ ?_
  · refine s_iconst (v := 0) (n := 20) hX (dec_of D_X9_isLand (i := 9) rfl) rfl (by decide) ?_
    exact s_zret hX hR (dec_of D_X9_isLand (i := 10) rfl) rfl rfl
  · refine s_iload_n 1 (n := 5) hX (dec_of D_X9_isLand (i := 2) rfl) rfl rfl rfl ?_
    refine s_aload_n 0 (n := 6) hX (dec_of D_X9_isLand (i := 3) rfl) rfl rfl rfl ?_
    refine s_getQ (c := 9) (p := 7) (j := 0) (n := 9) hX cls9 (vk130 (by omega)) (dec_of D_X9_isLand (i := 4) rfl) rfl rfl wd_448 (fun rr1 hrr1 => ?_)
    refine s_getI (c := 5) (p := 9) (id := 529) (n := 12) hX cls5 (vk126 (by omega)) (dec_of D_X9_isLand (i := 5) rfl) rfl rfl wd_392 ?_
    refine s_icmp_ge (tgt := 19) (n := 15) hX (dec_of D_X9_isLand (i := 6) rfl) rfl rfl ?_ ?_
    · refine s_iconst (v := 0) (n := 20) hX (dec_of D_X9_isLand (i := 9) rfl) rfl (by decide) ?_
      exact s_zret hX hR (dec_of D_X9_isLand (i := 10) rfl) rfl rfl
    · refine s_iconst (v := 1) (n := 16) hX (dec_of D_X9_isLand (i := 7) rfl) rfl (by decide) ?_
      refine s_goto (n := 20) hX (dec_of D_X9_isLand (i := 8) rfl) rfl ?_
      exact s_zret hX hR (dec_of D_X9_isLand (i := 10) rfl) rfl rfl
theorem lk_RX9_102 : LkV RX9 102 RX9 yX9_isLand cX9_isLand 2 (some .boolean) 1 := ⟨wd_746, wd_748, wd_3, wd_83, wd_749, by decide +kernel, by decide⟩
theorem lk_RX9_132 : LkV RX9 132 RX0 yX0_paidIn cX0_paidIn 3 (some .int) 2 := ⟨wd_1094, wd_1095, wd_1096, wd_86, wd_1097, by decide +kernel, by decide⟩
theorem lk_RX9_136 : LkV RX9 136 RX0 yX0_keptIn cX0_keptIn 2 (some .int) 1 := ⟨wd_1103, wd_1104, wd_1105, wd_86, wd_1106, by decide +kernel, by decide⟩
theorem lk_RX9_140 : LkV RX9 140 RX8 yX8_playersOf cX8_playersOf 5 (some .int) 2 := ⟨wd_1284, wd_1285, wd_1286, wd_87, wd_1287, by decide +kernel, by decide⟩
def T_X9_land : List (Nat × Instr × Nat) := [(0, .aload_n 0, 1), (1, .iload_n 1, 1), (2, .invokevirtual 102, 3), (5, .ifCond .ne 13, 3), (8, .new 106, 3), (11, .dup, 1), (12, .ldc 108, 2), (14, .invokespecial 110, 3), (17, .athrow, 1), (18, .iload_n 2, 1), (19, .tableswitch 139 0 7 #[45, 58, 71, 81, 91, 101, 114, 123], 45), (64, .aload_n 0, 1), (65, .getfield 19, 3), (68, .getfield 113, 3), (71, .getfield 116, 3), (74, .iload_n 1, 1), (75, .iaload, 1), (76, .ireturn, 1), (77, .aload_n 0, 1), (78, .getfield 19, 3), (81, .getfield 113, 3), (84, .getfield 120, 3), (87, .iload_n 1, 1), (88, .iaload, 1), (89, .ireturn, 1), (90, .aload_n 0, 1), (91, .getfield 61, 3), (94, .getfield 123, 3), (97, .iload_n 1, 1), (98, .iaload, 1), (99, .ireturn, 1), (100, .aload_n 0, 1), (101, .getfield 19, 3), (104, .getfield 126, 3), (107, .iload_n 1, 1), (108, .iaload, 1), (109, .ireturn, 1), (110, .aload_n 0, 1), (111, .getfield 19, 3), (114, .getfield 129, 3), (117, .iload_n 1, 1), (118, .iaload, 1), (119, .ireturn, 1), (120, .aload_n 0, 1), (121, .getfield 19, 3), (124, .aload_n 0, 1), (125, .getfield 61, 3), (128, .iload_n 1, 1), (129, .invokevirtual 132, 3), (132, .ireturn, 1), (133, .aload_n 0, 1), (134, .getfield 19, 3), (137, .iload_n 1, 1), (138, .invokevirtual 136, 3), (141, .ireturn, 1), (142, .aload_n 0, 1), (143, .getfield 19, 3), (146, .getfield 113, 3), (149, .aload_n 0, 1), (150, .getfield 61, 3), (153, .iload_n 1, 1), (154, .invokevirtual 140, 3), (157, .ireturn, 1), (158, .new 143, 3), (161, .dup, 1), (162, .ldc 145, 2), (164, .invokespecial 147, 3), (167, .athrow, 1)]
theorem D_X9_land : dchk cX9_land T_X9_land = true := by decide +kernel
def Rp_land (σ : ST) (a1 : Int32) (a2 : Int32) : Option (Int32 × Int32) :=
  bd_ (Rp_isLand (σ) a1) (fun q1 => (if q1 = 0 then some (1, 0) else sw_ a2 0 [bd_ (ldI σ 24 0 a1) (fun v2 => some (0, v2)), bd_ (ldI σ 25 0 a1) (fun v3 => some (0, v3)), bd_ (ldQ σ 0) (fun rr4 => bd_ (ldI σ 13 rr4 a1) (fun v5 => some (0, v5))), bd_ (ldI σ 0 0 a1) (fun v6 => some (0, v6)), bd_ (ldI σ 1 0 a1) (fun v7 => some (0, v7)), bd_ (ldQ σ 0) (fun rr8 => bd_ (Bk_paidIn (σ) 0 rr8 a1) (fun q9 => some (0, q9))), bd_ (Bk_keptIn (σ) 0 a1) (fun q10 => some (0, q10)), bd_ (ldQ σ 0) (fun rr11 => bd_ (Wo_playersOf (σ) 0 rr11 a1) (fun q12 => some (0, q12)))] (some (2, 0))))
set_option maxHeartbeats 4000000 in
set_option maxRecDepth 100000 in
theorem c_X9_land {G : GW} (hG : Good G) {l : Launch} (hl0 : l.stackTraces = false) (σ : ST) (a1 : Int32) (a2 : Int32) : CtrX G l yX9_land cX9_land 3 (some .int) 6 [.ref (ga G 130 0), .int a1, .int a2] σ (Rp_land σ a1 a2) := by
  refine ctrX_of hG hl0 (by decide) (Nat.le_of_ble_eq_true rfl) ?_
  intro X hXl hR hB hX
  have hX : Ok G X cX9_land 3 RX9 6 := hX
  unfold Rp_land
  show Sim G X 3 (MQT G X σ) σ 0 [(0, .ref (ga G 130 0)), (1, .int a1), (2, .int a2)] [] _
  refine s_aload_n 0 (n := 1) hX (dec_of D_X9_land (i := 0) rfl) rfl rfl rfl ?_
  refine s_iload_n 1 (n := 2) hX (dec_of D_X9_land (i := 1) rfl) rfl rfl rfl ?_
  refine s_callVI (c := 9) (n := 5) hX cls9 (vk130 (by omega)) lk_RX9_102 (dec_of D_X9_land (i := 2) rfl) rfl (by decide) (c_X9_isLand (l := _) hG _ _) rfl rfl (Nat.le_of_ble_eq_true rfl) (fun q1 => ?_)
  refine s_if_ne (tgt := 18) (n := 8) hX (dec_of D_X9_land (i := 3) rfl) rfl rfl ?_ ?_
  · refine s_iload_n 2 (n := 19) hX (dec_of D_X9_land (i := 9) rfl) rfl rfl rfl ?_
    refine s_tsw (lo' := 0) (Ps := [_, _, _, _, _, _, _, _]) hX (dec_of D_X9_land (i := 10) rfl) rfl 8 rfl (by decide) (by decide) [64, 77, 90, 100, 110, 120, 133, 142] 158 rfl rfl (by decide +kernel) ?_ ?_
    · skip
      refine swS_cons ?_ ?_
      · refine s_aload_n 0 (n := 65) hX (dec_of D_X9_land (i := 11) rfl) rfl rfl rfl ?_
        refine s_getC (c := 9) (p := 1) (n := 68) 121 0 hX cls9 (vk130 (by omega)) (dec_of D_X9_land (i := 12) rfl) rfl rfl (by decide) wd_442 ?_
        refine s_getR (c := 0) (p := 0) (k' := 129) (n := 71) hX cls0 (vk121 (by omega)) (dec_of D_X9_land (i := 13) rfl) rfl rfl wd_219 ?_
        refine s_getR (c := 8) (p := 0) (k' := 24) (n := 74) hX cls8 (vk129 (by omega)) (dec_of D_X9_land (i := 14) rfl) rfl rfl wd_199 ?_
        refine s_iload_n 1 (n := 75) hX (dec_of D_X9_land (i := 15) rfl) rfl rfl rfl ?_
        refine s_iald (n := 76) hX (vk24 (by omega)) (by decide) (dec_of D_X9_land (i := 16) rfl) rfl (fun v2 => ?_)
        exact s_iretX hX hB hR (dec_of D_X9_land (i := 17) rfl)
      refine swS_cons ?_ ?_
      · refine s_aload_n 0 (n := 78) hX (dec_of D_X9_land (i := 18) rfl) rfl rfl rfl ?_
        refine s_getC (c := 9) (p := 1) (n := 81) 121 0 hX cls9 (vk130 (by omega)) (dec_of D_X9_land (i := 19) rfl) rfl rfl (by decide) wd_442 ?_
        refine s_getR (c := 0) (p := 0) (k' := 129) (n := 84) hX cls0 (vk121 (by omega)) (dec_of D_X9_land (i := 20) rfl) rfl rfl wd_219 ?_
        refine s_getR (c := 8) (p := 1) (k' := 25) (n := 87) hX cls8 (vk129 (by omega)) (dec_of D_X9_land (i := 21) rfl) rfl rfl wd_201 ?_
        refine s_iload_n 1 (n := 88) hX (dec_of D_X9_land (i := 22) rfl) rfl rfl rfl ?_
        refine s_iald (n := 89) hX (vk25 (by omega)) (by decide) (dec_of D_X9_land (i := 23) rfl) rfl (fun v3 => ?_)
        exact s_iretX hX hB hR (dec_of D_X9_land (i := 24) rfl)
      refine swS_cons ?_ ?_
      · refine s_aload_n 0 (n := 91) hX (dec_of D_X9_land (i := 25) rfl) rfl rfl rfl ?_
        refine s_getQ (c := 9) (p := 7) (j := 0) (n := 94) hX cls9 (vk130 (by omega)) (dec_of D_X9_land (i := 26) rfl) rfl rfl wd_448 (fun rr4 hrr4 => ?_)
        refine s_getR (c := 5) (p := 0) (k' := 13) (n := 97) hX cls5 (vk126 (by omega)) (dec_of D_X9_land (i := 27) rfl) rfl rfl wd_357 ?_
        refine s_iload_n 1 (n := 98) hX (dec_of D_X9_land (i := 28) rfl) rfl rfl rfl ?_
        refine s_iald (n := 99) hX (vk13 (by omega)) (by decide) (dec_of D_X9_land (i := 29) rfl) rfl (fun v5 => ?_)
        exact s_iretX hX hB hR (dec_of D_X9_land (i := 30) rfl)
      refine swS_cons ?_ ?_
      · refine s_aload_n 0 (n := 101) hX (dec_of D_X9_land (i := 31) rfl) rfl rfl rfl ?_
        refine s_getC (c := 9) (p := 1) (n := 104) 121 0 hX cls9 (vk130 (by omega)) (dec_of D_X9_land (i := 32) rfl) rfl rfl (by decide) wd_442 ?_
        refine s_getR (c := 0) (p := 1) (k' := 0) (n := 107) hX cls0 (vk121 (by omega)) (dec_of D_X9_land (i := 33) rfl) rfl rfl wd_222 ?_
        refine s_iload_n 1 (n := 108) hX (dec_of D_X9_land (i := 34) rfl) rfl rfl rfl ?_
        refine s_iald (n := 109) hX (vk0 (by omega)) (by decide) (dec_of D_X9_land (i := 35) rfl) rfl (fun v6 => ?_)
        exact s_iretX hX hB hR (dec_of D_X9_land (i := 36) rfl)
      refine swS_cons ?_ ?_
      · refine s_aload_n 0 (n := 111) hX (dec_of D_X9_land (i := 37) rfl) rfl rfl rfl ?_
        refine s_getC (c := 9) (p := 1) (n := 114) 121 0 hX cls9 (vk130 (by omega)) (dec_of D_X9_land (i := 38) rfl) rfl rfl (by decide) wd_442 ?_
        refine s_getR (c := 0) (p := 2) (k' := 1) (n := 117) hX cls0 (vk121 (by omega)) (dec_of D_X9_land (i := 39) rfl) rfl rfl wd_224 ?_
        refine s_iload_n 1 (n := 118) hX (dec_of D_X9_land (i := 40) rfl) rfl rfl rfl ?_
        refine s_iald (n := 119) hX (vk1 (by omega)) (by decide) (dec_of D_X9_land (i := 41) rfl) rfl (fun v7 => ?_)
        exact s_iretX hX hB hR (dec_of D_X9_land (i := 42) rfl)
      refine swS_cons ?_ ?_
      · refine s_aload_n 0 (n := 121) hX (dec_of D_X9_land (i := 43) rfl) rfl rfl rfl ?_
        refine s_getC (c := 9) (p := 1) (n := 124) 121 0 hX cls9 (vk130 (by omega)) (dec_of D_X9_land (i := 44) rfl) rfl rfl (by decide) wd_442 ?_
        refine s_aload_n 0 (n := 125) hX (dec_of D_X9_land (i := 45) rfl) rfl rfl rfl ?_
        refine s_getQ (c := 9) (p := 7) (j := 0) (n := 128) hX cls9 (vk130 (by omega)) (dec_of D_X9_land (i := 46) rfl) rfl rfl wd_448 (fun rr8 hrr8 => ?_)
        refine s_iload_n 1 (n := 129) hX (dec_of D_X9_land (i := 47) rfl) rfl rfl rfl ?_
        refine s_callVI (c := 0) (n := 132) hX cls0 (vk121 (by omega)) lk_RX9_132 (dec_of D_X9_land (i := 48) rfl) rfl (by decide) (c_X0_paidIn (l := _) hG _ _ (by omega) _ (by omega) _) rfl rfl (Nat.le_of_ble_eq_true rfl) (fun q9 => ?_)
        exact s_iretX hX hB hR (dec_of D_X9_land (i := 49) rfl)
      refine swS_cons ?_ ?_
      · refine s_aload_n 0 (n := 134) hX (dec_of D_X9_land (i := 50) rfl) rfl rfl rfl ?_
        refine s_getC (c := 9) (p := 1) (n := 137) 121 0 hX cls9 (vk130 (by omega)) (dec_of D_X9_land (i := 51) rfl) rfl rfl (by decide) wd_442 ?_
        refine s_iload_n 1 (n := 138) hX (dec_of D_X9_land (i := 52) rfl) rfl rfl rfl ?_
        refine s_callVI (c := 0) (n := 141) hX cls0 (vk121 (by omega)) lk_RX9_136 (dec_of D_X9_land (i := 53) rfl) rfl (by decide) (c_X0_keptIn (l := _) hG _ _ (by omega) _) rfl rfl (Nat.le_of_ble_eq_true rfl) (fun q10 => ?_)
        exact s_iretX hX hB hR (dec_of D_X9_land (i := 54) rfl)
      refine swS_cons ?_ ?_
      · refine s_aload_n 0 (n := 143) hX (dec_of D_X9_land (i := 55) rfl) rfl rfl rfl ?_
        refine s_getC (c := 9) (p := 1) (n := 146) 121 0 hX cls9 (vk130 (by omega)) (dec_of D_X9_land (i := 56) rfl) rfl rfl (by decide) wd_442 ?_
        refine s_getR (c := 0) (p := 0) (k' := 129) (n := 149) hX cls0 (vk121 (by omega)) (dec_of D_X9_land (i := 57) rfl) rfl rfl wd_219 ?_
        refine s_aload_n 0 (n := 150) hX (dec_of D_X9_land (i := 58) rfl) rfl rfl rfl ?_
        refine s_getQ (c := 9) (p := 7) (j := 0) (n := 153) hX cls9 (vk130 (by omega)) (dec_of D_X9_land (i := 59) rfl) rfl rfl wd_448 (fun rr11 hrr11 => ?_)
        refine s_iload_n 1 (n := 154) hX (dec_of D_X9_land (i := 60) rfl) rfl rfl rfl ?_
        refine s_callVI (c := 8) (n := 157) hX cls8 (vk129 (by omega)) lk_RX9_140 (dec_of D_X9_land (i := 61) rfl) rfl (by decide) (c_X8_playersOf (l := _) hG _ _ (by omega) _ (by omega) _) rfl rfl (Nat.le_of_ble_eq_true rfl) (fun q12 => ?_)
        exact s_iretX hX hB hR (dec_of D_X9_land (i := 62) rfl)
      exact swS_nil
    · exact s_throwN hX hB hR (by decide) (Or.inr ⟨rfl, rfl⟩) (by decide +kernel) wd_1288 wd_105 hX.2.2.2.2.2.1.2.2.2.2.2.2.2.2.1 atx2 aty2 atz2 (dec_of D_X9_land (i := 63) rfl) (dec_of D_X9_land (i := 64) rfl) (dec_of D_X9_land (i := 65) rfl) (dec_of D_X9_land (i := 66) rfl) (dec_of D_X9_land (i := 67) rfl)
  · exact s_throw hX hB hR (by decide) (Or.inl ⟨rfl, rfl⟩) (by decide +kernel) wd_1218 wd_104 hX.2.2.2.2.2.1.2.2.2.2.2.2.2.1 atx1 aty1 atz1 (dec_of D_X9_land (i := 4) rfl) (dec_of D_X9_land (i := 5) rfl) (dec_of D_X9_land (i := 6) rfl) (dec_of D_X9_land (i := 7) rfl) (dec_of D_X9_land (i := 8) rfl)
def T_X9_isPlayer : List (Nat × Instr × Nat) := [(0, .iload_n 1, 1), (1, .ifCond .lt 18, 3), (4, .iload_n 1, 1), (5, .aload_n 0, 1), (6, .getfield 61, 3), (9, .getfield 226, 3), (12, .if_icmp .ge 7, 3), (15, .iconst 1, 1), (16, .goto 4, 3), (19, .iconst 0, 1), (20, .ireturn, 1)]
theorem D_X9_isPlayer : dchk cX9_isPlayer T_X9_isPlayer = true := by decide +kernel
def Rp_isPlayer (σ : ST) (a1 : Int32) : Option Int32 :=
  (if a1 < 0 then some 0 else bd_ (ldQ σ 0) (fun rr1 => (if (gF σ 530 rr1) ≤ a1 then some 0 else some 1)))
set_option maxHeartbeats 4000000 in
set_option maxRecDepth 100000 in
theorem c_X9_isPlayer {G : GW} (hG : Good G) {l : Launch} (σ : ST) (a1 : Int32) : Ctr G l yX9_isPlayer cX9_isPlayer 2 (some .boolean) 0 [.ref (ga G 130 0), .int a1] σ (oI σ) (Rp_isPlayer σ a1) := by
  refine ctr_of hG (by decide) (Nat.le_of_ble_eq_true rfl) ?_
  intro X hXl hR hX
  have hX : Ok G X cX9_isPlayer 2 RX9 0 := hX
  unfold Rp_isPlayer
  show Sim G X 2 (MQX G X (oI σ)) σ 0 [(0, .ref (ga G 130 0)), (1, .int a1)] [] _
  refine s_iload_n 1 (n := 1) hX (dec_of D_X9_isPlayer (i := 0) rfl) rfl rfl rfl ?_
  refine s_if_lt (tgt := 19) (n := 4) hX (dec_of D_X9_isPlayer (i := 1) rfl) rfl rfl ?_ ?_
  · refine s_iconst (v := 0) (n := 20) hX (dec_of D_X9_isPlayer (i := 9) rfl) rfl (by decide) ?_
    exact s_zret hX hR (dec_of D_X9_isPlayer (i := 10) rfl) rfl rfl
  · refine s_iload_n 1 (n := 5) hX (dec_of D_X9_isPlayer (i := 2) rfl) rfl rfl rfl ?_
    refine s_aload_n 0 (n := 6) hX (dec_of D_X9_isPlayer (i := 3) rfl) rfl rfl rfl ?_
    refine s_getQ (c := 9) (p := 7) (j := 0) (n := 9) hX cls9 (vk130 (by omega)) (dec_of D_X9_isPlayer (i := 4) rfl) rfl rfl wd_448 (fun rr1 hrr1 => ?_)
    refine s_getI (c := 5) (p := 10) (id := 530) (n := 12) hX cls5 (vk126 (by omega)) (dec_of D_X9_isPlayer (i := 5) rfl) rfl rfl wd_397 ?_
    refine s_icmp_ge (tgt := 19) (n := 15) hX (dec_of D_X9_isPlayer (i := 6) rfl) rfl rfl ?_ ?_
    · refine s_iconst (v := 0) (n := 20) hX (dec_of D_X9_isPlayer (i := 9) rfl) rfl (by decide) ?_
      exact s_zret hX hR (dec_of D_X9_isPlayer (i := 10) rfl) rfl rfl
    · refine s_iconst (v := 1) (n := 16) hX (dec_of D_X9_isPlayer (i := 7) rfl) rfl (by decide) ?_
      refine s_goto (n := 20) hX (dec_of D_X9_isPlayer (i := 8) rfl) rfl ?_
      exact s_zret hX hR (dec_of D_X9_isPlayer (i := 10) rfl) rfl rfl
theorem lk_RX9_148 : LkV RX9 148 RX9 yX9_isPlayer cX9_isPlayer 2 (some .boolean) 1 := ⟨wd_693, wd_695, wd_2, wd_83, wd_696, by decide +kernel, by decide⟩
theorem lk_RX9_156 : LkV RX9 156 RX0 yX0_paidTo cX0_paidTo 5 (some .int) 2 := ⟨wd_719, wd_720, wd_721, wd_86, wd_722, by decide +kernel, by decide⟩
theorem lk_RX9_159 : LkV RX9 159 RX0 yX0_partsTo cX0_partsTo 5 (some .int) 2 := ⟨wd_1312, wd_1313, wd_1314, wd_86, wd_1315, by decide +kernel, by decide⟩
theorem lk_RX9_162 : LkV RX9 162 RX8 yX8_sessionsOf cX8_sessionsOf 5 (some .int) 2 := ⟨wd_714, wd_715, wd_716, wd_87, wd_717, by decide +kernel, by decide⟩
theorem lk_RX9_165 : LkV RX9 165 RX8 yX8_leadsOf cX8_leadsOf 5 (some .int) 2 := ⟨wd_1316, wd_1317, wd_1318, wd_87, wd_1319, by decide +kernel, by decide⟩
theorem lk_RX9_168 : LkV RX9 168 RX8 yX8_payers cX8_payers 6 (some .int) 3 := ⟨wd_762, wd_763, wd_764, wd_87, wd_765, by decide +kernel, by decide⟩
def T_X9_player : List (Nat × Instr × Nat) := [(0, .aload_n 0, 1), (1, .iload_n 1, 1), (2, .invokevirtual 148, 3), (5, .ifCond .ne 13, 3), (8, .new 106, 3), (11, .dup, 1), (12, .ldc 151, 2), (14, .invokespecial 110, 3), (17, .athrow, 1), (18, .iload_n 2, 1), (19, .tableswitch 168 0 6 #[41, 54, 67, 80, 96, 112, 140], 41), (60, .aload_n 0, 1), (61, .getfield 19, 3), (64, .getfield 113, 3), (67, .getfield 153, 3), (70, .iload_n 1, 1), (71, .iaload, 1), (72, .ireturn, 1), (73, .aload_n 0, 1), (74, .getfield 19, 3), (77, .aload_n 0, 1), (78, .getfield 61, 3), (81, .iload_n 1, 1), (82, .invokevirtual 156, 3), (85, .ireturn, 1), (86, .aload_n 0, 1), (87, .getfield 19, 3), (90, .aload_n 0, 1), (91, .getfield 61, 3), (94, .iload_n 1, 1), (95, .invokevirtual 159, 3), (98, .ireturn, 1), (99, .aload_n 0, 1), (100, .getfield 19, 3), (103, .getfield 113, 3), (106, .aload_n 0, 1), (107, .getfield 61, 3), (110, .iload_n 1, 1), (111, .invokevirtual 162, 3), (114, .ireturn, 1), (115, .aload_n 0, 1), (116, .getfield 19, 3), (119, .getfield 113, 3), (122, .aload_n 0, 1), (123, .getfield 61, 3), (126, .iload_n 1, 1), (127, .invokevirtual 165, 3), (130, .ireturn, 1), (131, .aload_n 0, 1), (132, .getfield 19, 3), (135, .getfield 113, 3), (138, .aload_n 0, 1), (139, .getfield 61, 3), (142, .aload_n 0, 1), (143, .getfield 19, 3), (146, .getfield 113, 3), (149, .getfield 153, 3), (152, .iload_n 1, 1), (153, .iaload, 1), (154, .iconst 1, 1), (155, .invokevirtual 168, 3), (158, .ireturn, 1), (159, .aload_n 0, 1), (160, .getfield 19, 3), (163, .getfield 113, 3), (166, .aload_n 0, 1), (167, .getfield 61, 3), (170, .aload_n 0, 1), (171, .getfield 19, 3), (174, .getfield 113, 3), (177, .getfield 153, 3), (180, .iload_n 1, 1), (181, .iaload, 1), (182, .iconst 0, 1), (183, .invokevirtual 168, 3), (186, .ireturn, 1), (187, .new 143, 3), (190, .dup, 1), (191, .ldc 172, 2), (193, .invokespecial 147, 3), (196, .athrow, 1)]
theorem D_X9_player : dchk cX9_player T_X9_player = true := by decide +kernel
def Rp_player (σ : ST) (a1 : Int32) (a2 : Int32) : Option (Int32 × Int32) :=
  bd_ (Rp_isPlayer (σ) a1) (fun q1 => (if q1 = 0 then some (1, 0) else sw_ a2 0 [bd_ (ldI σ 26 0 a1) (fun v2 => some (0, v2)), bd_ (ldQ σ 0) (fun rr3 => bd_ (Bk_paidTo (σ) 0 rr3 a1) (fun q4 => some (0, q4))), bd_ (ldQ σ 0) (fun rr5 => bd_ (Bk_partsTo (σ) 0 rr5 a1) (fun q6 => some (0, q6))), bd_ (ldQ σ 0) (fun rr7 => bd_ (Wo_sessionsOf (σ) 0 rr7 a1) (fun q8 => some (0, q8))), bd_ (ldQ σ 0) (fun rr9 => bd_ (Wo_leadsOf (σ) 0 rr9 a1) (fun q10 => some (0, q10))), bd_ (ldQ σ 0) (fun rr11 => bd_ (ldI σ 26 0 a1) (fun v12 => bd_ (Wo_payers (σ) 0 rr11 v12 1) (fun q13 => some (0, q13)))), bd_ (ldQ σ 0) (fun rr14 => bd_ (ldI σ 26 0 a1) (fun v15 => bd_ (Wo_payers (σ) 0 rr14 v15 0) (fun q16 => some (0, q16))))] (some (2, 0))))
set_option maxHeartbeats 4000000 in
set_option maxRecDepth 100000 in
theorem c_X9_player {G : GW} (hG : Good G) {l : Launch} (hl0 : l.stackTraces = false) (σ : ST) (a1 : Int32) (a2 : Int32) : CtrX G l yX9_player cX9_player 3 (some .int) 6 [.ref (ga G 130 0), .int a1, .int a2] σ (Rp_player σ a1 a2) := by
  refine ctrX_of hG hl0 (by decide) (Nat.le_of_ble_eq_true rfl) ?_
  intro X hXl hR hB hX
  have hX : Ok G X cX9_player 3 RX9 6 := hX
  unfold Rp_player
  show Sim G X 3 (MQT G X σ) σ 0 [(0, .ref (ga G 130 0)), (1, .int a1), (2, .int a2)] [] _
  refine s_aload_n 0 (n := 1) hX (dec_of D_X9_player (i := 0) rfl) rfl rfl rfl ?_
  refine s_iload_n 1 (n := 2) hX (dec_of D_X9_player (i := 1) rfl) rfl rfl rfl ?_
  refine s_callVI (c := 9) (n := 5) hX cls9 (vk130 (by omega)) lk_RX9_148 (dec_of D_X9_player (i := 2) rfl) rfl (by decide) (c_X9_isPlayer (l := _) hG _ _) rfl rfl (Nat.le_of_ble_eq_true rfl) (fun q1 => ?_)
  refine s_if_ne (tgt := 18) (n := 8) hX (dec_of D_X9_player (i := 3) rfl) rfl rfl ?_ ?_
  · refine s_iload_n 2 (n := 19) hX (dec_of D_X9_player (i := 9) rfl) rfl rfl rfl ?_
    refine s_tsw (lo' := 0) (Ps := [_, _, _, _, _, _, _]) hX (dec_of D_X9_player (i := 10) rfl) rfl 7 rfl (by decide) (by decide) [60, 73, 86, 99, 115, 131, 159] 187 rfl rfl (by decide +kernel) ?_ ?_
    · skip
      refine swS_cons ?_ ?_
      · refine s_aload_n 0 (n := 61) hX (dec_of D_X9_player (i := 11) rfl) rfl rfl rfl ?_
        refine s_getC (c := 9) (p := 1) (n := 64) 121 0 hX cls9 (vk130 (by omega)) (dec_of D_X9_player (i := 12) rfl) rfl rfl (by decide) wd_442 ?_
        refine s_getR (c := 0) (p := 0) (k' := 129) (n := 67) hX cls0 (vk121 (by omega)) (dec_of D_X9_player (i := 13) rfl) rfl rfl wd_219 ?_
        refine s_getR (c := 8) (p := 2) (k' := 26) (n := 70) hX cls8 (vk129 (by omega)) (dec_of D_X9_player (i := 14) rfl) rfl rfl wd_203 ?_
        refine s_iload_n 1 (n := 71) hX (dec_of D_X9_player (i := 15) rfl) rfl rfl rfl ?_
        refine s_iald (n := 72) hX (vk26 (by omega)) (by decide) (dec_of D_X9_player (i := 16) rfl) rfl (fun v2 => ?_)
        exact s_iretX hX hB hR (dec_of D_X9_player (i := 17) rfl)
      refine swS_cons ?_ ?_
      · refine s_aload_n 0 (n := 74) hX (dec_of D_X9_player (i := 18) rfl) rfl rfl rfl ?_
        refine s_getC (c := 9) (p := 1) (n := 77) 121 0 hX cls9 (vk130 (by omega)) (dec_of D_X9_player (i := 19) rfl) rfl rfl (by decide) wd_442 ?_
        refine s_aload_n 0 (n := 78) hX (dec_of D_X9_player (i := 20) rfl) rfl rfl rfl ?_
        refine s_getQ (c := 9) (p := 7) (j := 0) (n := 81) hX cls9 (vk130 (by omega)) (dec_of D_X9_player (i := 21) rfl) rfl rfl wd_448 (fun rr3 hrr3 => ?_)
        refine s_iload_n 1 (n := 82) hX (dec_of D_X9_player (i := 22) rfl) rfl rfl rfl ?_
        refine s_callVI (c := 0) (n := 85) hX cls0 (vk121 (by omega)) lk_RX9_156 (dec_of D_X9_player (i := 23) rfl) rfl (by decide) (c_X0_paidTo (l := _) hG _ _ (by omega) _ (by omega) _) rfl rfl (Nat.le_of_ble_eq_true rfl) (fun q4 => ?_)
        exact s_iretX hX hB hR (dec_of D_X9_player (i := 24) rfl)
      refine swS_cons ?_ ?_
      · refine s_aload_n 0 (n := 87) hX (dec_of D_X9_player (i := 25) rfl) rfl rfl rfl ?_
        refine s_getC (c := 9) (p := 1) (n := 90) 121 0 hX cls9 (vk130 (by omega)) (dec_of D_X9_player (i := 26) rfl) rfl rfl (by decide) wd_442 ?_
        refine s_aload_n 0 (n := 91) hX (dec_of D_X9_player (i := 27) rfl) rfl rfl rfl ?_
        refine s_getQ (c := 9) (p := 7) (j := 0) (n := 94) hX cls9 (vk130 (by omega)) (dec_of D_X9_player (i := 28) rfl) rfl rfl wd_448 (fun rr5 hrr5 => ?_)
        refine s_iload_n 1 (n := 95) hX (dec_of D_X9_player (i := 29) rfl) rfl rfl rfl ?_
        refine s_callVI (c := 0) (n := 98) hX cls0 (vk121 (by omega)) lk_RX9_159 (dec_of D_X9_player (i := 30) rfl) rfl (by decide) (c_X0_partsTo (l := _) hG _ _ (by omega) _ (by omega) _) rfl rfl (Nat.le_of_ble_eq_true rfl) (fun q6 => ?_)
        exact s_iretX hX hB hR (dec_of D_X9_player (i := 31) rfl)
      refine swS_cons ?_ ?_
      · refine s_aload_n 0 (n := 100) hX (dec_of D_X9_player (i := 32) rfl) rfl rfl rfl ?_
        refine s_getC (c := 9) (p := 1) (n := 103) 121 0 hX cls9 (vk130 (by omega)) (dec_of D_X9_player (i := 33) rfl) rfl rfl (by decide) wd_442 ?_
        refine s_getR (c := 0) (p := 0) (k' := 129) (n := 106) hX cls0 (vk121 (by omega)) (dec_of D_X9_player (i := 34) rfl) rfl rfl wd_219 ?_
        refine s_aload_n 0 (n := 107) hX (dec_of D_X9_player (i := 35) rfl) rfl rfl rfl ?_
        refine s_getQ (c := 9) (p := 7) (j := 0) (n := 110) hX cls9 (vk130 (by omega)) (dec_of D_X9_player (i := 36) rfl) rfl rfl wd_448 (fun rr7 hrr7 => ?_)
        refine s_iload_n 1 (n := 111) hX (dec_of D_X9_player (i := 37) rfl) rfl rfl rfl ?_
        refine s_callVI (c := 8) (n := 114) hX cls8 (vk129 (by omega)) lk_RX9_162 (dec_of D_X9_player (i := 38) rfl) rfl (by decide) (c_X8_sessionsOf (l := _) hG _ _ (by omega) _ (by omega) _) rfl rfl (Nat.le_of_ble_eq_true rfl) (fun q8 => ?_)
        exact s_iretX hX hB hR (dec_of D_X9_player (i := 39) rfl)
      refine swS_cons ?_ ?_
      · refine s_aload_n 0 (n := 116) hX (dec_of D_X9_player (i := 40) rfl) rfl rfl rfl ?_
        refine s_getC (c := 9) (p := 1) (n := 119) 121 0 hX cls9 (vk130 (by omega)) (dec_of D_X9_player (i := 41) rfl) rfl rfl (by decide) wd_442 ?_
        refine s_getR (c := 0) (p := 0) (k' := 129) (n := 122) hX cls0 (vk121 (by omega)) (dec_of D_X9_player (i := 42) rfl) rfl rfl wd_219 ?_
        refine s_aload_n 0 (n := 123) hX (dec_of D_X9_player (i := 43) rfl) rfl rfl rfl ?_
        refine s_getQ (c := 9) (p := 7) (j := 0) (n := 126) hX cls9 (vk130 (by omega)) (dec_of D_X9_player (i := 44) rfl) rfl rfl wd_448 (fun rr9 hrr9 => ?_)
        refine s_iload_n 1 (n := 127) hX (dec_of D_X9_player (i := 45) rfl) rfl rfl rfl ?_
        refine s_callVI (c := 8) (n := 130) hX cls8 (vk129 (by omega)) lk_RX9_165 (dec_of D_X9_player (i := 46) rfl) rfl (by decide) (c_X8_leadsOf (l := _) hG _ _ (by omega) _ (by omega) _) rfl rfl (Nat.le_of_ble_eq_true rfl) (fun q10 => ?_)
        exact s_iretX hX hB hR (dec_of D_X9_player (i := 47) rfl)
      refine swS_cons ?_ ?_
      · refine s_aload_n 0 (n := 132) hX (dec_of D_X9_player (i := 48) rfl) rfl rfl rfl ?_
        refine s_getC (c := 9) (p := 1) (n := 135) 121 0 hX cls9 (vk130 (by omega)) (dec_of D_X9_player (i := 49) rfl) rfl rfl (by decide) wd_442 ?_
        refine s_getR (c := 0) (p := 0) (k' := 129) (n := 138) hX cls0 (vk121 (by omega)) (dec_of D_X9_player (i := 50) rfl) rfl rfl wd_219 ?_
        refine s_aload_n 0 (n := 139) hX (dec_of D_X9_player (i := 51) rfl) rfl rfl rfl ?_
        refine s_getQ (c := 9) (p := 7) (j := 0) (n := 142) hX cls9 (vk130 (by omega)) (dec_of D_X9_player (i := 52) rfl) rfl rfl wd_448 (fun rr11 hrr11 => ?_)
        refine s_aload_n 0 (n := 143) hX (dec_of D_X9_player (i := 53) rfl) rfl rfl rfl ?_
        refine s_getC (c := 9) (p := 1) (n := 146) 121 0 hX cls9 (vk130 (by omega)) (dec_of D_X9_player (i := 54) rfl) rfl rfl (by decide) wd_442 ?_
        refine s_getR (c := 0) (p := 0) (k' := 129) (n := 149) hX cls0 (vk121 (by omega)) (dec_of D_X9_player (i := 55) rfl) rfl rfl wd_219 ?_
        refine s_getR (c := 8) (p := 2) (k' := 26) (n := 152) hX cls8 (vk129 (by omega)) (dec_of D_X9_player (i := 56) rfl) rfl rfl wd_203 ?_
        refine s_iload_n 1 (n := 153) hX (dec_of D_X9_player (i := 57) rfl) rfl rfl rfl ?_
        refine s_iald (n := 154) hX (vk26 (by omega)) (by decide) (dec_of D_X9_player (i := 58) rfl) rfl (fun v12 => ?_)
        refine s_iconst (v := 1) (n := 155) hX (dec_of D_X9_player (i := 59) rfl) rfl (by decide) ?_
        refine s_callVI (c := 8) (n := 158) hX cls8 (vk129 (by omega)) lk_RX9_168 (dec_of D_X9_player (i := 60) rfl) rfl (by decide) (c_X8_payers (l := _) hG _ _ (by omega) _ (by omega) _ _) rfl rfl (Nat.le_of_ble_eq_true rfl) (fun q13 => ?_)
        exact s_iretX hX hB hR (dec_of D_X9_player (i := 61) rfl)
      refine swS_cons ?_ ?_
      · refine s_aload_n 0 (n := 160) hX (dec_of D_X9_player (i := 62) rfl) rfl rfl rfl ?_
        refine s_getC (c := 9) (p := 1) (n := 163) 121 0 hX cls9 (vk130 (by omega)) (dec_of D_X9_player (i := 63) rfl) rfl rfl (by decide) wd_442 ?_
        refine s_getR (c := 0) (p := 0) (k' := 129) (n := 166) hX cls0 (vk121 (by omega)) (dec_of D_X9_player (i := 64) rfl) rfl rfl wd_219 ?_
        refine s_aload_n 0 (n := 167) hX (dec_of D_X9_player (i := 65) rfl) rfl rfl rfl ?_
        refine s_getQ (c := 9) (p := 7) (j := 0) (n := 170) hX cls9 (vk130 (by omega)) (dec_of D_X9_player (i := 66) rfl) rfl rfl wd_448 (fun rr14 hrr14 => ?_)
        refine s_aload_n 0 (n := 171) hX (dec_of D_X9_player (i := 67) rfl) rfl rfl rfl ?_
        refine s_getC (c := 9) (p := 1) (n := 174) 121 0 hX cls9 (vk130 (by omega)) (dec_of D_X9_player (i := 68) rfl) rfl rfl (by decide) wd_442 ?_
        refine s_getR (c := 0) (p := 0) (k' := 129) (n := 177) hX cls0 (vk121 (by omega)) (dec_of D_X9_player (i := 69) rfl) rfl rfl wd_219 ?_
        refine s_getR (c := 8) (p := 2) (k' := 26) (n := 180) hX cls8 (vk129 (by omega)) (dec_of D_X9_player (i := 70) rfl) rfl rfl wd_203 ?_
        refine s_iload_n 1 (n := 181) hX (dec_of D_X9_player (i := 71) rfl) rfl rfl rfl ?_
        refine s_iald (n := 182) hX (vk26 (by omega)) (by decide) (dec_of D_X9_player (i := 72) rfl) rfl (fun v15 => ?_)
        refine s_iconst (v := 0) (n := 183) hX (dec_of D_X9_player (i := 73) rfl) rfl (by decide) ?_
        refine s_callVI (c := 8) (n := 186) hX cls8 (vk129 (by omega)) lk_RX9_168 (dec_of D_X9_player (i := 74) rfl) rfl (by decide) (c_X8_payers (l := _) hG _ _ (by omega) _ (by omega) _ _) rfl rfl (Nat.le_of_ble_eq_true rfl) (fun q16 => ?_)
        exact s_iretX hX hB hR (dec_of D_X9_player (i := 75) rfl)
      exact swS_nil
    · exact s_throwN hX hB hR (by decide) (Or.inr ⟨rfl, rfl⟩) (by decide +kernel) wd_1288 wd_105 hX.2.2.2.2.2.1.2.2.2.2.2.2.2.2.2.2.1 atx2 aty2 atz2 (dec_of D_X9_player (i := 76) rfl) (dec_of D_X9_player (i := 77) rfl) (dec_of D_X9_player (i := 78) rfl) (dec_of D_X9_player (i := 79) rfl) (dec_of D_X9_player (i := 80) rfl)
  · exact s_throw hX hB hR (by decide) (Or.inl ⟨rfl, rfl⟩) (by decide +kernel) wd_1218 wd_104 hX.2.2.2.2.2.1.2.2.2.2.2.2.2.2.2.1 atx1 aty1 atz1 (dec_of D_X9_player (i := 4) rfl) (dec_of D_X9_player (i := 5) rfl) (dec_of D_X9_player (i := 6) rfl) (dec_of D_X9_player (i := 7) rfl) (dec_of D_X9_player (i := 8) rfl)
def T_X9_isSession : List (Nat × Instr × Nat) := [(0, .iload_n 1, 1), (1, .ifCond .lt 18, 3), (4, .iload_n 1, 1), (5, .aload_n 0, 1), (6, .getfield 61, 3), (9, .getfield 232, 3), (12, .if_icmp .ge 7, 3), (15, .iconst 1, 1), (16, .goto 4, 3), (19, .iconst 0, 1), (20, .ireturn, 1)]
theorem D_X9_isSession : dchk cX9_isSession T_X9_isSession = true := by decide +kernel
def Rp_isSession (σ : ST) (a1 : Int32) : Option Int32 :=
  (if a1 < 0 then some 0 else bd_ (ldQ σ 0) (fun rr1 => (if (gF σ 531 rr1) ≤ a1 then some 0 else some 1)))
set_option maxHeartbeats 4000000 in
set_option maxRecDepth 100000 in
theorem c_X9_isSession {G : GW} (hG : Good G) {l : Launch} (σ : ST) (a1 : Int32) : Ctr G l yX9_isSession cX9_isSession 2 (some .boolean) 0 [.ref (ga G 130 0), .int a1] σ (oI σ) (Rp_isSession σ a1) := by
  refine ctr_of hG (by decide) (Nat.le_of_ble_eq_true rfl) ?_
  intro X hXl hR hX
  have hX : Ok G X cX9_isSession 2 RX9 0 := hX
  unfold Rp_isSession
  show Sim G X 2 (MQX G X (oI σ)) σ 0 [(0, .ref (ga G 130 0)), (1, .int a1)] [] _
  refine s_iload_n 1 (n := 1) hX (dec_of D_X9_isSession (i := 0) rfl) rfl rfl rfl ?_
  refine s_if_lt (tgt := 19) (n := 4) hX (dec_of D_X9_isSession (i := 1) rfl) rfl rfl ?_ ?_
  · refine s_iconst (v := 0) (n := 20) hX (dec_of D_X9_isSession (i := 9) rfl) rfl (by decide) ?_
    exact s_zret hX hR (dec_of D_X9_isSession (i := 10) rfl) rfl rfl
  · refine s_iload_n 1 (n := 5) hX (dec_of D_X9_isSession (i := 2) rfl) rfl rfl rfl ?_
    refine s_aload_n 0 (n := 6) hX (dec_of D_X9_isSession (i := 3) rfl) rfl rfl rfl ?_
    refine s_getQ (c := 9) (p := 7) (j := 0) (n := 9) hX cls9 (vk130 (by omega)) (dec_of D_X9_isSession (i := 4) rfl) rfl rfl wd_448 (fun rr1 hrr1 => ?_)
    refine s_getI (c := 5) (p := 11) (id := 531) (n := 12) hX cls5 (vk126 (by omega)) (dec_of D_X9_isSession (i := 5) rfl) rfl rfl wd_402 ?_
    refine s_icmp_ge (tgt := 19) (n := 15) hX (dec_of D_X9_isSession (i := 6) rfl) rfl rfl ?_ ?_
    · refine s_iconst (v := 0) (n := 20) hX (dec_of D_X9_isSession (i := 9) rfl) rfl (by decide) ?_
      exact s_zret hX hR (dec_of D_X9_isSession (i := 10) rfl) rfl rfl
    · refine s_iconst (v := 1) (n := 16) hX (dec_of D_X9_isSession (i := 7) rfl) rfl (by decide) ?_
      refine s_goto (n := 20) hX (dec_of D_X9_isSession (i := 8) rfl) rfl ?_
      exact s_zret hX hR (dec_of D_X9_isSession (i := 10) rfl) rfl rfl
theorem lk_RX9_174 : LkV RX9 174 RX9 yX9_isSession cX9_isSession 2 (some .boolean) 1 := ⟨wd_674, wd_676, wd_0, wd_83, wd_677, by decide +kernel, by decide⟩
theorem lk_RX9_179 : LkV RX9 179 RX5 yX5_leadsIn cX5_leadsIn 4 (some .int) 1 := ⟨wd_1329, wd_834, wd_835, wd_92, wd_836, by decide +kernel, by decide⟩
theorem lk_RX9_188 : LkV RX9 188 RX8 yX8_openBits cX8_openBits 5 (some .int) 2 := ⟨wd_706, wd_707, wd_708, wd_87, wd_709, by decide +kernel, by decide⟩
theorem lk_RX9_191 : LkS RX9 191 yJ6_bitCount_0f7a4 cJ6_bitCount_0f7a4 1 (some .int) 1 := ⟨wd_1330, wd_737, wd_106, wd_738, by decide +kernel, by decide⟩
theorem lk_RX9_202 : LkV RX9 202 RX0 yX0_keptOfSession cX0_keptOfSession 6 (some .int) 2 := ⟨wd_1331, wd_1332, wd_1333, wd_86, wd_1334, by decide +kernel, by decide⟩
def T_X9_session : List (Nat × Instr × Nat) := [(0, .aload_n 0, 1), (1, .iload_n 1, 1), (2, .invokevirtual 174, 3), (5, .ifCond .ne 13, 3), (8, .new 106, 3), (11, .dup, 1), (12, .ldc 177, 2), (14, .invokespecial 110, 3), (17, .athrow, 1), (18, .iload_n 2, 1), (19, .tableswitch 131 0 6 #[41, 50, 69, 79, 98, 108, 118], 41), (60, .aload_n 0, 1), (61, .getfield 61, 3), (64, .iload_n 1, 1), (65, .invokevirtual 179, 3), (68, .ireturn, 1), (69, .aload_n 0, 1), (70, .getfield 61, 3), (73, .getfield 182, 3), (76, .iload_n 1, 1), (77, .iaload, 1), (78, .aload_n 0, 1), (79, .getfield 61, 3), (82, .iload_n 1, 1), (83, .invokevirtual 179, 3), (86, .isub, 1), (87, .ireturn, 1), (88, .aload_n 0, 1), (89, .getfield 61, 3), (92, .getfield 185, 3), (95, .iload_n 1, 1), (96, .iaload, 1), (97, .ireturn, 1), (98, .aload_n 0, 1), (99, .getfield 19, 3), (102, .getfield 113, 3), (105, .aload_n 0, 1), (106, .getfield 61, 3), (109, .iload_n 1, 1), (110, .invokevirtual 188, 3), (113, .invokestatic 191, 3), (116, .ireturn, 1), (117, .aload_n 0, 1), (118, .getfield 19, 3), (121, .getfield 196, 3), (124, .iload_n 1, 1), (125, .iaload, 1), (126, .ireturn, 1), (127, .aload_n 0, 1), (128, .getfield 19, 3), (131, .getfield 199, 3), (134, .iload_n 1, 1), (135, .iaload, 1), (136, .ireturn, 1), (137, .aload_n 0, 1), (138, .getfield 19, 3), (141, .aload_n 0, 1), (142, .getfield 61, 3), (145, .iload_n 1, 1), (146, .invokevirtual 202, 3), (149, .ireturn, 1), (150, .new 143, 3), (153, .dup, 1), (154, .ldc 205, 2), (156, .invokespecial 147, 3), (159, .athrow, 1)]
theorem D_X9_session : dchk cX9_session T_X9_session = true := by decide +kernel
def Rp_session (σ : ST) (a1 : Int32) (a2 : Int32) : Option (Int32 × Int32) :=
  bd_ (Rp_isSession (σ) a1) (fun q1 => (if q1 = 0 then some (1, 0) else sw_ a2 0 [bd_ (ldQ σ 0) (fun rr2 => bd_ (Rl_leadsIn (σ) rr2 a1) (fun q3 => some (0, q3))), bd_ (ldQ σ 0) (fun rr4 => bd_ (ldI σ 17 rr4 a1) (fun v5 => bd_ (ldQ σ 0) (fun rr6 => bd_ (Rl_leadsIn (σ) rr6 a1) (fun q7 => some (0, (v5 - q7)))))), bd_ (ldQ σ 0) (fun rr8 => bd_ (ldI σ 18 rr8 a1) (fun v9 => some (0, v9))), bd_ (ldQ σ 0) (fun rr10 => bd_ (Wo_openBits (σ) 0 rr10 a1) (fun q11 => bd_ (Jk_bitCount (σ) q11) (fun q12 => some (0, q12)))), bd_ (ldI σ 3 0 a1) (fun v13 => some (0, v13)), bd_ (ldI σ 2 0 a1) (fun v14 => some (0, v14)), bd_ (ldQ σ 0) (fun rr15 => bd_ (Bk_keptOfSession (σ) 0 rr15 a1) (fun q16 => some (0, q16)))] (some (2, 0))))
set_option maxHeartbeats 4000000 in
set_option maxRecDepth 100000 in
theorem c_X9_session {G : GW} (hG : Good G) {l : Launch} (hl0 : l.stackTraces = false) (σ : ST) (a1 : Int32) (a2 : Int32) : CtrX G l yX9_session cX9_session 3 (some .int) 6 [.ref (ga G 130 0), .int a1, .int a2] σ (Rp_session σ a1 a2) := by
  refine ctrX_of hG hl0 (by decide) (Nat.le_of_ble_eq_true rfl) ?_
  intro X hXl hR hB hX
  have hX : Ok G X cX9_session 3 RX9 6 := hX
  unfold Rp_session
  show Sim G X 3 (MQT G X σ) σ 0 [(0, .ref (ga G 130 0)), (1, .int a1), (2, .int a2)] [] _
  refine s_aload_n 0 (n := 1) hX (dec_of D_X9_session (i := 0) rfl) rfl rfl rfl ?_
  refine s_iload_n 1 (n := 2) hX (dec_of D_X9_session (i := 1) rfl) rfl rfl rfl ?_
  refine s_callVI (c := 9) (n := 5) hX cls9 (vk130 (by omega)) lk_RX9_174 (dec_of D_X9_session (i := 2) rfl) rfl (by decide) (c_X9_isSession (l := _) hG _ _) rfl rfl (Nat.le_of_ble_eq_true rfl) (fun q1 => ?_)
  refine s_if_ne (tgt := 18) (n := 8) hX (dec_of D_X9_session (i := 3) rfl) rfl rfl ?_ ?_
  · refine s_iload_n 2 (n := 19) hX (dec_of D_X9_session (i := 9) rfl) rfl rfl rfl ?_
    refine s_tsw (lo' := 0) (Ps := [_, _, _, _, _, _, _]) hX (dec_of D_X9_session (i := 10) rfl) rfl 7 rfl (by decide) (by decide) [60, 69, 88, 98, 117, 127, 137] 150 rfl rfl (by decide +kernel) ?_ ?_
    · skip
      refine swS_cons ?_ ?_
      · refine s_aload_n 0 (n := 61) hX (dec_of D_X9_session (i := 11) rfl) rfl rfl rfl ?_
        refine s_getQ (c := 9) (p := 7) (j := 0) (n := 64) hX cls9 (vk130 (by omega)) (dec_of D_X9_session (i := 12) rfl) rfl rfl wd_448 (fun rr2 hrr2 => ?_)
        refine s_iload_n 1 (n := 65) hX (dec_of D_X9_session (i := 13) rfl) rfl rfl rfl ?_
        refine s_callVI (c := 5) (n := 68) hX cls5 (vk126 (by omega)) lk_RX9_179 (dec_of D_X9_session (i := 14) rfl) rfl (by decide) (c_X5_leadsIn (l := _) hG _ _ (by omega) _) rfl rfl (Nat.le_of_ble_eq_true rfl) (fun q3 => ?_)
        exact s_iretX hX hB hR (dec_of D_X9_session (i := 15) rfl)
      refine swS_cons ?_ ?_
      · refine s_aload_n 0 (n := 70) hX (dec_of D_X9_session (i := 16) rfl) rfl rfl rfl ?_
        refine s_getQ (c := 9) (p := 7) (j := 0) (n := 73) hX cls9 (vk130 (by omega)) (dec_of D_X9_session (i := 17) rfl) rfl rfl wd_448 (fun rr4 hrr4 => ?_)
        refine s_getR (c := 5) (p := 4) (k' := 17) (n := 76) hX cls5 (vk126 (by omega)) (dec_of D_X9_session (i := 18) rfl) rfl rfl wd_370 ?_
        refine s_iload_n 1 (n := 77) hX (dec_of D_X9_session (i := 19) rfl) rfl rfl rfl ?_
        refine s_iald (n := 78) hX (vk17 (by omega)) (by decide) (dec_of D_X9_session (i := 20) rfl) rfl (fun v5 => ?_)
        refine s_aload_n 0 (n := 79) hX (dec_of D_X9_session (i := 21) rfl) rfl rfl rfl ?_
        refine s_getQ (c := 9) (p := 7) (j := 0) (n := 82) hX cls9 (vk130 (by omega)) (dec_of D_X9_session (i := 22) rfl) rfl rfl wd_448 (fun rr6 hrr6 => ?_)
        refine s_iload_n 1 (n := 83) hX (dec_of D_X9_session (i := 23) rfl) rfl rfl rfl ?_
        refine s_callVI (c := 5) (n := 86) hX cls5 (vk126 (by omega)) lk_RX9_179 (dec_of D_X9_session (i := 24) rfl) rfl (by decide) (c_X5_leadsIn (l := _) hG _ _ (by omega) _) rfl rfl (Nat.le_of_ble_eq_true rfl) (fun q7 => ?_)
        refine s_isub (n := 87) hX (dec_of D_X9_session (i := 25) rfl) rfl ?_
        exact s_iretX hX hB hR (dec_of D_X9_session (i := 26) rfl)
      refine swS_cons ?_ ?_
      · refine s_aload_n 0 (n := 89) hX (dec_of D_X9_session (i := 27) rfl) rfl rfl rfl ?_
        refine s_getQ (c := 9) (p := 7) (j := 0) (n := 92) hX cls9 (vk130 (by omega)) (dec_of D_X9_session (i := 28) rfl) rfl rfl wd_448 (fun rr8 hrr8 => ?_)
        refine s_getR (c := 5) (p := 5) (k' := 18) (n := 95) hX cls5 (vk126 (by omega)) (dec_of D_X9_session (i := 29) rfl) rfl rfl wd_374 ?_
        refine s_iload_n 1 (n := 96) hX (dec_of D_X9_session (i := 30) rfl) rfl rfl rfl ?_
        refine s_iald (n := 97) hX (vk18 (by omega)) (by decide) (dec_of D_X9_session (i := 31) rfl) rfl (fun v9 => ?_)
        exact s_iretX hX hB hR (dec_of D_X9_session (i := 32) rfl)
      refine swS_cons ?_ ?_
      · refine s_aload_n 0 (n := 99) hX (dec_of D_X9_session (i := 33) rfl) rfl rfl rfl ?_
        refine s_getC (c := 9) (p := 1) (n := 102) 121 0 hX cls9 (vk130 (by omega)) (dec_of D_X9_session (i := 34) rfl) rfl rfl (by decide) wd_442 ?_
        refine s_getR (c := 0) (p := 0) (k' := 129) (n := 105) hX cls0 (vk121 (by omega)) (dec_of D_X9_session (i := 35) rfl) rfl rfl wd_219 ?_
        refine s_aload_n 0 (n := 106) hX (dec_of D_X9_session (i := 36) rfl) rfl rfl rfl ?_
        refine s_getQ (c := 9) (p := 7) (j := 0) (n := 109) hX cls9 (vk130 (by omega)) (dec_of D_X9_session (i := 37) rfl) rfl rfl wd_448 (fun rr10 hrr10 => ?_)
        refine s_iload_n 1 (n := 110) hX (dec_of D_X9_session (i := 38) rfl) rfl rfl rfl ?_
        refine s_callVI (c := 8) (n := 113) hX cls8 (vk129 (by omega)) lk_RX9_188 (dec_of D_X9_session (i := 39) rfl) rfl (by decide) (c_X8_openBits (l := _) hG _ _ (by omega) _ (by omega) _) rfl rfl (Nat.le_of_ble_eq_true rfl) (fun q11 => ?_)
        refine s_callSI (n := 116) hX lk_RX9_191 (dec_of D_X9_session (i := 40) rfl) rfl (by decide) (c_J6_bitCount_0f7a4 (l := _) hG _ _) rfl rfl (Nat.le_of_ble_eq_true rfl) (fun q12 => ?_)
        exact s_iretX hX hB hR (dec_of D_X9_session (i := 41) rfl)
      refine swS_cons ?_ ?_
      · refine s_aload_n 0 (n := 118) hX (dec_of D_X9_session (i := 42) rfl) rfl rfl rfl ?_
        refine s_getC (c := 9) (p := 1) (n := 121) 121 0 hX cls9 (vk130 (by omega)) (dec_of D_X9_session (i := 43) rfl) rfl rfl (by decide) wd_442 ?_
        refine s_getR (c := 0) (p := 4) (k' := 3) (n := 124) hX cls0 (vk121 (by omega)) (dec_of D_X9_session (i := 44) rfl) rfl rfl wd_228 ?_
        refine s_iload_n 1 (n := 125) hX (dec_of D_X9_session (i := 45) rfl) rfl rfl rfl ?_
        refine s_iald (n := 126) hX (vk3 (by omega)) (by decide) (dec_of D_X9_session (i := 46) rfl) rfl (fun v13 => ?_)
        exact s_iretX hX hB hR (dec_of D_X9_session (i := 47) rfl)
      refine swS_cons ?_ ?_
      · refine s_aload_n 0 (n := 128) hX (dec_of D_X9_session (i := 48) rfl) rfl rfl rfl ?_
        refine s_getC (c := 9) (p := 1) (n := 131) 121 0 hX cls9 (vk130 (by omega)) (dec_of D_X9_session (i := 49) rfl) rfl rfl (by decide) wd_442 ?_
        refine s_getR (c := 0) (p := 3) (k' := 2) (n := 134) hX cls0 (vk121 (by omega)) (dec_of D_X9_session (i := 50) rfl) rfl rfl wd_226 ?_
        refine s_iload_n 1 (n := 135) hX (dec_of D_X9_session (i := 51) rfl) rfl rfl rfl ?_
        refine s_iald (n := 136) hX (vk2 (by omega)) (by decide) (dec_of D_X9_session (i := 52) rfl) rfl (fun v14 => ?_)
        exact s_iretX hX hB hR (dec_of D_X9_session (i := 53) rfl)
      refine swS_cons ?_ ?_
      · refine s_aload_n 0 (n := 138) hX (dec_of D_X9_session (i := 54) rfl) rfl rfl rfl ?_
        refine s_getC (c := 9) (p := 1) (n := 141) 121 0 hX cls9 (vk130 (by omega)) (dec_of D_X9_session (i := 55) rfl) rfl rfl (by decide) wd_442 ?_
        refine s_aload_n 0 (n := 142) hX (dec_of D_X9_session (i := 56) rfl) rfl rfl rfl ?_
        refine s_getQ (c := 9) (p := 7) (j := 0) (n := 145) hX cls9 (vk130 (by omega)) (dec_of D_X9_session (i := 57) rfl) rfl rfl wd_448 (fun rr15 hrr15 => ?_)
        refine s_iload_n 1 (n := 146) hX (dec_of D_X9_session (i := 58) rfl) rfl rfl rfl ?_
        refine s_callVI (c := 0) (n := 149) hX cls0 (vk121 (by omega)) lk_RX9_202 (dec_of D_X9_session (i := 59) rfl) rfl (by decide) (c_X0_keptOfSession (l := _) hG _ _ (by omega) _ (by omega) _) rfl rfl (Nat.le_of_ble_eq_true rfl) (fun q16 => ?_)
        exact s_iretX hX hB hR (dec_of D_X9_session (i := 60) rfl)
      exact swS_nil
    · exact s_throwN hX hB hR (by decide) (Or.inr ⟨rfl, rfl⟩) (by decide +kernel) wd_1288 wd_105 hX.2.2.2.2.2.1.2.2.2.2.2.2.2.2.2.2.2.2.1 atx2 aty2 atz2 (dec_of D_X9_session (i := 61) rfl) (dec_of D_X9_session (i := 62) rfl) (dec_of D_X9_session (i := 63) rfl) (dec_of D_X9_session (i := 64) rfl) (dec_of D_X9_session (i := 65) rfl)
  · exact s_throw hX hB hR (by decide) (Or.inl ⟨rfl, rfl⟩) (by decide +kernel) wd_1218 wd_104 hX.2.2.2.2.2.1.2.2.2.2.2.2.2.2.2.2.2.1 atx1 aty1 atz1 (dec_of D_X9_session (i := 4) rfl) (dec_of D_X9_session (i := 5) rfl) (dec_of D_X9_session (i := 6) rfl) (dec_of D_X9_session (i := 7) rfl) (dec_of D_X9_session (i := 8) rfl)
def T_X9_isChoice : List (Nat × Instr × Nat) := [(0, .iload_n 0, 1), (1, .ifCond .lt 12, 3), (4, .iload_n 0, 1), (5, .iload_n 1, 1), (6, .if_icmp .ge 7, 3), (9, .iconst 1, 1), (10, .goto 4, 3), (13, .iconst 0, 1), (14, .ireturn, 1)]
theorem D_X9_isChoice : dchk cX9_isChoice T_X9_isChoice = true := by decide +kernel
def Rp_isChoice (σ : ST) (a0 : Int32) (a1 : Int32) : Option Int32 :=
  (if a0 < 0 then some 0 else (if a1 ≤ a0 then some 0 else some 1))
set_option maxHeartbeats 4000000 in
set_option maxRecDepth 100000 in
theorem c_X9_isChoice {G : GW} (hG : Good G) {l : Launch} (σ : ST) (a0 : Int32) (a1 : Int32) : Ctr G l yX9_isChoice cX9_isChoice 2 (some .boolean) 0 [.int a0, .int a1] σ (oI σ) (Rp_isChoice σ a0 a1) := by
  refine ctr_of hG (by decide) (Nat.le_of_ble_eq_true rfl) ?_
  intro X hXl hR hX
  have hX : Ok G X cX9_isChoice 2 RX9 0 := hX
  unfold Rp_isChoice
  show Sim G X 2 (MQX G X (oI σ)) σ 0 [(0, .int a0), (1, .int a1)] [] _
  refine s_iload_n 0 (n := 1) hX (dec_of D_X9_isChoice (i := 0) rfl) rfl rfl rfl ?_
  refine s_if_lt (tgt := 13) (n := 4) hX (dec_of D_X9_isChoice (i := 1) rfl) rfl rfl ?_ ?_
  · refine s_iconst (v := 0) (n := 14) hX (dec_of D_X9_isChoice (i := 7) rfl) rfl (by decide) ?_
    exact s_zret hX hR (dec_of D_X9_isChoice (i := 8) rfl) rfl rfl
  · refine s_iload_n 0 (n := 5) hX (dec_of D_X9_isChoice (i := 2) rfl) rfl rfl rfl ?_
    refine s_iload_n 1 (n := 6) hX (dec_of D_X9_isChoice (i := 3) rfl) rfl rfl rfl ?_
    refine s_icmp_ge (tgt := 13) (n := 9) hX (dec_of D_X9_isChoice (i := 4) rfl) rfl rfl ?_ ?_
    · refine s_iconst (v := 0) (n := 14) hX (dec_of D_X9_isChoice (i := 7) rfl) rfl (by decide) ?_
      exact s_zret hX hR (dec_of D_X9_isChoice (i := 8) rfl) rfl rfl
    · refine s_iconst (v := 1) (n := 10) hX (dec_of D_X9_isChoice (i := 5) rfl) rfl (by decide) ?_
      refine s_goto (n := 14) hX (dec_of D_X9_isChoice (i := 6) rfl) rfl ?_
      exact s_zret hX hR (dec_of D_X9_isChoice (i := 8) rfl) rfl rfl
theorem lk_RX9_207 : LkS RX9 207 yX9_isChoice cX9_isChoice 2 (some .boolean) 2 := ⟨wd_678, wd_679, wd_83, wd_680, by decide +kernel, by decide⟩
def T_X9_of : List (Nat × Instr × Nat) := [(0, .aload_n 0, 1), (1, .iload_n 1, 1), (2, .invokevirtual 174, 3), (5, .ifCond .eq 15, 3), (8, .iload_n 2, 1), (9, .ifCond .lt 11, 3), (12, .iload_n 3, 1), (13, .iconst 2, 1), (14, .invokestatic 207, 3), (17, .ifCond .ne 5, 3), (20, .iconst (-1), 1), (21, .ireturn, 1), (22, .iload_n 2, 1), (23, .aload_n 0, 1), (24, .getfield 61, 3), (27, .getfield 182, 3), (30, .iload_n 1, 1), (31, .iaload, 1), (32, .if_icmp .lt 6, 3), (35, .bipush (-2), 2), (37, .ireturn, 1), (38, .iload_n 1, 1), (39, .bipush 8, 2), (41, .imul, 1), (42, .iload_n 2, 1), (43, .iadd, 1), (44, .istore 4, 2), (46, .iload_n 3, 1), (47, .ifCond .ne 16, 3), (50, .aload_n 0, 1), (51, .getfield 61, 3), (54, .getfield 211, 3), (57, .iload 4, 2), (59, .iaload, 1), (60, .goto 13, 3), (63, .aload_n 0, 1), (64, .getfield 61, 3), (67, .getfield 214, 3), (70, .iload 4, 2), (72, .iaload, 1), (73, .ireturn, 1)]
theorem D_X9_of : dchk cX9_of T_X9_of = true := by decide +kernel
def Rp_of (σ : ST) (a1 : Int32) (a2 : Int32) (a3 : Int32) : Option Int32 :=
  bd_ (Rp_isSession (σ) a1) (fun q1 => (if q1 = 0 then some (-1) else (if a2 < 0 then some (-1) else bd_ (Rp_isChoice (σ) a3 2) (fun q2 => (if q2 = 0 then some (-1) else bd_ (ldQ σ 0) (fun rr3 => bd_ (ldI σ 17 rr3 a1) (fun v4 => (if a2 < v4 then lt_ (((a1 * 8) + a2)) (fun x5 => (if a3 = 0 then bd_ (ldQ σ 0) (fun rr8 => bd_ (ldI σ 19 rr8 x5) (fun v9 => some v9)) else bd_ (ldQ σ 0) (fun rr6 => bd_ (ldI σ 20 rr6 x5) (fun v7 => some v7)))) else some (-2)))))))))
set_option maxHeartbeats 4000000 in
set_option maxRecDepth 100000 in
theorem c_X9_of {G : GW} (hG : Good G) {l : Launch} (σ : ST) (a1 : Int32) (a2 : Int32) (a3 : Int32) : Ctr G l yX9_of cX9_of 5 (some .int) 1 [.ref (ga G 130 0), .int a1, .int a2, .int a3] σ (oI σ) (Rp_of σ a1 a2 a3) := by
  refine ctr_of hG (by decide) (Nat.le_of_ble_eq_true rfl) ?_
  intro X hXl hR hX
  have hX : Ok G X cX9_of 5 RX9 1 := hX
  unfold Rp_of
  show Sim G X 5 (MQX G X (oI σ)) σ 0 [(0, .ref (ga G 130 0)), (1, .int a1), (2, .int a2), (3, .int a3)] [] _
  refine s_aload_n 0 (n := 1) hX (dec_of D_X9_of (i := 0) rfl) rfl rfl rfl ?_
  refine s_iload_n 1 (n := 2) hX (dec_of D_X9_of (i := 1) rfl) rfl rfl rfl ?_
  refine s_callVI (c := 9) (n := 5) hX cls9 (vk130 (by omega)) lk_RX9_174 (dec_of D_X9_of (i := 2) rfl) rfl (by decide) (c_X9_isSession (l := _) hG _ _) rfl rfl (Nat.le_of_ble_eq_true rfl) (fun q1 => ?_)
  refine s_if_eq (tgt := 20) (n := 8) hX (dec_of D_X9_of (i := 3) rfl) rfl rfl ?_ ?_
  · refine s_iconst (v := (-1)) (n := 21) hX (dec_of D_X9_of (i := 10) rfl) rfl (by decide) ?_
    exact s_iret hX hR (dec_of D_X9_of (i := 11) rfl) rfl
  · refine s_iload_n 2 (n := 9) hX (dec_of D_X9_of (i := 4) rfl) rfl rfl rfl ?_
    refine s_if_lt (tgt := 20) (n := 12) hX (dec_of D_X9_of (i := 5) rfl) rfl rfl ?_ ?_
    · refine s_iconst (v := (-1)) (n := 21) hX (dec_of D_X9_of (i := 10) rfl) rfl (by decide) ?_
      exact s_iret hX hR (dec_of D_X9_of (i := 11) rfl) rfl
    · refine s_iload_n 3 (n := 13) hX (dec_of D_X9_of (i := 6) rfl) rfl rfl rfl ?_
      refine s_iconst (v := 2) (n := 14) hX (dec_of D_X9_of (i := 7) rfl) rfl (by decide) ?_
      refine s_callSI (n := 17) hX lk_RX9_207 (dec_of D_X9_of (i := 8) rfl) rfl (by decide) (c_X9_isChoice (l := _) hG _ _ _) rfl rfl (Nat.le_of_ble_eq_true rfl) (fun q2 => ?_)
      refine s_if_ne (tgt := 22) (n := 20) hX (dec_of D_X9_of (i := 9) rfl) rfl rfl ?_ ?_
      · refine s_iload_n 2 (n := 23) hX (dec_of D_X9_of (i := 12) rfl) rfl rfl rfl ?_
        refine s_aload_n 0 (n := 24) hX (dec_of D_X9_of (i := 13) rfl) rfl rfl rfl ?_
        refine s_getQ (c := 9) (p := 7) (j := 0) (n := 27) hX cls9 (vk130 (by omega)) (dec_of D_X9_of (i := 14) rfl) rfl rfl wd_448 (fun rr3 hrr3 => ?_)
        refine s_getR (c := 5) (p := 4) (k' := 17) (n := 30) hX cls5 (vk126 (by omega)) (dec_of D_X9_of (i := 15) rfl) rfl rfl wd_370 ?_
        refine s_iload_n 1 (n := 31) hX (dec_of D_X9_of (i := 16) rfl) rfl rfl rfl ?_
        refine s_iald (n := 32) hX (vk17 (by omega)) (by decide) (dec_of D_X9_of (i := 17) rfl) rfl (fun v4 => ?_)
        refine s_icmp_lt (tgt := 38) (n := 35) hX (dec_of D_X9_of (i := 18) rfl) rfl rfl ?_ ?_
        · refine s_iload_n 1 (n := 39) hX (dec_of D_X9_of (i := 21) rfl) rfl rfl rfl ?_
          refine s_bipush (v := 8) (n := 41) hX (dec_of D_X9_of (i := 22) rfl) rfl (by decide) ?_
          refine s_imul (n := 42) hX (dec_of D_X9_of (i := 23) rfl) rfl ?_
          refine s_iload_n 2 (n := 43) hX (dec_of D_X9_of (i := 24) rfl) rfl rfl rfl ?_
          refine s_iadd (n := 44) hX (dec_of D_X9_of (i := 25) rfl) rfl ?_
          refine s_topi (fun x5 => ?_)
          refine s_istore (lv' := [(0, _), (1, _), (2, _), (3, _), (4, _)]) [1, 2, 3, 4, 0] (n := 46) hX (dec_of D_X9_of (i := 26) rfl) rfl (by decide) rfl ?_
          refine s_iload_n 3 (n := 47) hX (dec_of D_X9_of (i := 27) rfl) rfl rfl rfl ?_
          refine s_if_ne (tgt := 63) (n := 50) hX (dec_of D_X9_of (i := 28) rfl) rfl rfl ?_ ?_
          · refine s_aload_n 0 (n := 64) hX (dec_of D_X9_of (i := 35) rfl) rfl rfl rfl ?_
            refine s_getQ (c := 9) (p := 7) (j := 0) (n := 67) hX cls9 (vk130 (by omega)) (dec_of D_X9_of (i := 36) rfl) rfl rfl wd_448 (fun rr6 hrr6 => ?_)
            refine s_getR (c := 5) (p := 7) (k' := 20) (n := 70) hX cls5 (vk126 (by omega)) (dec_of D_X9_of (i := 37) rfl) rfl rfl wd_383 ?_
            refine s_iload 4 (n := 72) hX (dec_of D_X9_of (i := 38) rfl) rfl rfl ?_
            refine s_iald (n := 73) hX (vk20 (by omega)) (by decide) (dec_of D_X9_of (i := 39) rfl) rfl (fun v7 => ?_)
            exact s_iret hX hR (dec_of D_X9_of (i := 40) rfl) rfl
          · refine s_aload_n 0 (n := 51) hX (dec_of D_X9_of (i := 29) rfl) rfl rfl rfl ?_
            refine s_getQ (c := 9) (p := 7) (j := 0) (n := 54) hX cls9 (vk130 (by omega)) (dec_of D_X9_of (i := 30) rfl) rfl rfl wd_448 (fun rr8 hrr8 => ?_)
            refine s_getR (c := 5) (p := 6) (k' := 19) (n := 57) hX cls5 (vk126 (by omega)) (dec_of D_X9_of (i := 31) rfl) rfl rfl wd_379 ?_
            refine s_iload 4 (n := 59) hX (dec_of D_X9_of (i := 32) rfl) rfl rfl ?_
            refine s_iald (n := 60) hX (vk19 (by omega)) (by decide) (dec_of D_X9_of (i := 33) rfl) rfl (fun v9 => ?_)
            refine s_goto (n := 73) hX (dec_of D_X9_of (i := 34) rfl) rfl ?_
            exact s_iret hX hR (dec_of D_X9_of (i := 40) rfl) rfl
        · refine s_bipush (v := (-2)) (n := 37) hX (dec_of D_X9_of (i := 19) rfl) rfl (by decide) ?_
          exact s_iret hX hR (dec_of D_X9_of (i := 20) rfl) rfl
      · refine s_iconst (v := (-1)) (n := 21) hX (dec_of D_X9_of (i := 10) rfl) rfl (by decide) ?_
        exact s_iret hX hR (dec_of D_X9_of (i := 11) rfl) rfl
def T_X9_isSeat : List (Nat × Instr × Nat) := [(0, .aload_n 0, 1), (1, .iload_n 1, 1), (2, .invokevirtual 174, 3), (5, .ifCond .eq 24, 3), (8, .iload_n 2, 1), (9, .ifCond .lt 20, 3), (12, .iload_n 2, 1), (13, .aload_n 0, 1), (14, .getfield 61, 3), (17, .getfield 185, 3), (20, .iload_n 1, 1), (21, .iaload, 1), (22, .if_icmp .ge 7, 3), (25, .iconst 1, 1), (26, .goto 4, 3), (29, .iconst 0, 1), (30, .ireturn, 1)]
theorem D_X9_isSeat : dchk cX9_isSeat T_X9_isSeat = true := by decide +kernel
def Rp_isSeat (σ : ST) (a1 : Int32) (a2 : Int32) : Option Int32 :=
  bd_ (Rp_isSession (σ) a1) (fun q1 => (if q1 = 0 then some 0 else (if a2 < 0 then some 0 else bd_ (ldQ σ 0) (fun rr2 => bd_ (ldI σ 18 rr2 a1) (fun v3 => (if v3 ≤ a2 then some 0 else some 1))))))
set_option maxHeartbeats 4000000 in
set_option maxRecDepth 100000 in
theorem c_X9_isSeat {G : GW} (hG : Good G) {l : Launch} (σ : ST) (a1 : Int32) (a2 : Int32) : Ctr G l yX9_isSeat cX9_isSeat 3 (some .boolean) 1 [.ref (ga G 130 0), .int a1, .int a2] σ (oI σ) (Rp_isSeat σ a1 a2) := by
  refine ctr_of hG (by decide) (Nat.le_of_ble_eq_true rfl) ?_
  intro X hXl hR hX
  have hX : Ok G X cX9_isSeat 3 RX9 1 := hX
  unfold Rp_isSeat
  show Sim G X 3 (MQX G X (oI σ)) σ 0 [(0, .ref (ga G 130 0)), (1, .int a1), (2, .int a2)] [] _
  refine s_aload_n 0 (n := 1) hX (dec_of D_X9_isSeat (i := 0) rfl) rfl rfl rfl ?_
  refine s_iload_n 1 (n := 2) hX (dec_of D_X9_isSeat (i := 1) rfl) rfl rfl rfl ?_
  refine s_callVI (c := 9) (n := 5) hX cls9 (vk130 (by omega)) lk_RX9_174 (dec_of D_X9_isSeat (i := 2) rfl) rfl (by decide) (c_X9_isSession (l := _) hG _ _) rfl rfl (Nat.le_of_ble_eq_true rfl) (fun q1 => ?_)
  refine s_if_eq (tgt := 29) (n := 8) hX (dec_of D_X9_isSeat (i := 3) rfl) rfl rfl ?_ ?_
  · refine s_iconst (v := 0) (n := 30) hX (dec_of D_X9_isSeat (i := 15) rfl) rfl (by decide) ?_
    exact s_zret hX hR (dec_of D_X9_isSeat (i := 16) rfl) rfl rfl
  · refine s_iload_n 2 (n := 9) hX (dec_of D_X9_isSeat (i := 4) rfl) rfl rfl rfl ?_
    refine s_if_lt (tgt := 29) (n := 12) hX (dec_of D_X9_isSeat (i := 5) rfl) rfl rfl ?_ ?_
    · refine s_iconst (v := 0) (n := 30) hX (dec_of D_X9_isSeat (i := 15) rfl) rfl (by decide) ?_
      exact s_zret hX hR (dec_of D_X9_isSeat (i := 16) rfl) rfl rfl
    · refine s_iload_n 2 (n := 13) hX (dec_of D_X9_isSeat (i := 6) rfl) rfl rfl rfl ?_
      refine s_aload_n 0 (n := 14) hX (dec_of D_X9_isSeat (i := 7) rfl) rfl rfl rfl ?_
      refine s_getQ (c := 9) (p := 7) (j := 0) (n := 17) hX cls9 (vk130 (by omega)) (dec_of D_X9_isSeat (i := 8) rfl) rfl rfl wd_448 (fun rr2 hrr2 => ?_)
      refine s_getR (c := 5) (p := 5) (k' := 18) (n := 20) hX cls5 (vk126 (by omega)) (dec_of D_X9_isSeat (i := 9) rfl) rfl rfl wd_374 ?_
      refine s_iload_n 1 (n := 21) hX (dec_of D_X9_isSeat (i := 10) rfl) rfl rfl rfl ?_
      refine s_iald (n := 22) hX (vk18 (by omega)) (by decide) (dec_of D_X9_isSeat (i := 11) rfl) rfl (fun v3 => ?_)
      refine s_icmp_ge (tgt := 29) (n := 25) hX (dec_of D_X9_isSeat (i := 12) rfl) rfl rfl ?_ ?_
      · refine s_iconst (v := 0) (n := 30) hX (dec_of D_X9_isSeat (i := 15) rfl) rfl (by decide) ?_
        exact s_zret hX hR (dec_of D_X9_isSeat (i := 16) rfl) rfl rfl
      · refine s_iconst (v := 1) (n := 26) hX (dec_of D_X9_isSeat (i := 13) rfl) rfl (by decide) ?_
        refine s_goto (n := 30) hX (dec_of D_X9_isSeat (i := 14) rfl) rfl ?_
        exact s_zret hX hR (dec_of D_X9_isSeat (i := 16) rfl) rfl rfl
theorem lk_RX9_217 : LkV RX9 217 RX9 yX9_isSeat cX9_isSeat 3 (some .boolean) 2 := ⟨wd_685, wd_687, wd_1, wd_83, wd_688, by decide +kernel, by decide⟩
def T_X9_seat : List (Nat × Instr × Nat) := [(0, .aload_n 0, 1), (1, .iload_n 1, 1), (2, .iload_n 2, 1), (3, .invokevirtual 217, 3), (6, .ifCond .ne 5, 3), (9, .iconst (-1), 1), (10, .ireturn, 1), (11, .aload_n 0, 1), (12, .getfield 19, 3), (15, .getfield 113, 3), (18, .getfield 220, 3), (21, .iload_n 1, 1), (22, .iconst 5, 1), (23, .imul, 1), (24, .iload_n 2, 1), (25, .iadd, 1), (26, .iaload, 1), (27, .ireturn, 1)]
theorem D_X9_seat : dchk cX9_seat T_X9_seat = true := by decide +kernel
def Rp_seat (σ : ST) (a1 : Int32) (a2 : Int32) : Option Int32 :=
  bd_ (Rp_isSeat (σ) a1 a2) (fun q1 => (if q1 = 0 then some (-1) else bd_ (ldI σ 27 0 ((a1 * 5) + a2)) (fun v2 => some v2)))
set_option maxHeartbeats 4000000 in
set_option maxRecDepth 100000 in
theorem c_X9_seat {G : GW} (hG : Good G) {l : Launch} (σ : ST) (a1 : Int32) (a2 : Int32) : Ctr G l yX9_seat cX9_seat 3 (some .int) 2 [.ref (ga G 130 0), .int a1, .int a2] σ (oI σ) (Rp_seat σ a1 a2) := by
  refine ctr_of hG (by decide) (Nat.le_of_ble_eq_true rfl) ?_
  intro X hXl hR hX
  have hX : Ok G X cX9_seat 3 RX9 2 := hX
  unfold Rp_seat
  show Sim G X 3 (MQX G X (oI σ)) σ 0 [(0, .ref (ga G 130 0)), (1, .int a1), (2, .int a2)] [] _
  refine s_aload_n 0 (n := 1) hX (dec_of D_X9_seat (i := 0) rfl) rfl rfl rfl ?_
  refine s_iload_n 1 (n := 2) hX (dec_of D_X9_seat (i := 1) rfl) rfl rfl rfl ?_
  refine s_iload_n 2 (n := 3) hX (dec_of D_X9_seat (i := 2) rfl) rfl rfl rfl ?_
  refine s_callVI (c := 9) (n := 6) hX cls9 (vk130 (by omega)) lk_RX9_217 (dec_of D_X9_seat (i := 3) rfl) rfl (by decide) (c_X9_isSeat (l := _) hG _ _ _) rfl rfl (Nat.le_of_ble_eq_true rfl) (fun q1 => ?_)
  refine s_if_ne (tgt := 11) (n := 9) hX (dec_of D_X9_seat (i := 4) rfl) rfl rfl ?_ ?_
  · refine s_aload_n 0 (n := 12) hX (dec_of D_X9_seat (i := 7) rfl) rfl rfl rfl ?_
    refine s_getC (c := 9) (p := 1) (n := 15) 121 0 hX cls9 (vk130 (by omega)) (dec_of D_X9_seat (i := 8) rfl) rfl rfl (by decide) wd_442 ?_
    refine s_getR (c := 0) (p := 0) (k' := 129) (n := 18) hX cls0 (vk121 (by omega)) (dec_of D_X9_seat (i := 9) rfl) rfl rfl wd_219 ?_
    refine s_getR (c := 8) (p := 3) (k' := 27) (n := 21) hX cls8 (vk129 (by omega)) (dec_of D_X9_seat (i := 10) rfl) rfl rfl wd_208 ?_
    refine s_iload_n 1 (n := 22) hX (dec_of D_X9_seat (i := 11) rfl) rfl rfl rfl ?_
    refine s_iconst (v := 5) (n := 23) hX (dec_of D_X9_seat (i := 12) rfl) rfl (by decide) ?_
    refine s_imul (n := 24) hX (dec_of D_X9_seat (i := 13) rfl) rfl ?_
    refine s_iload_n 2 (n := 25) hX (dec_of D_X9_seat (i := 14) rfl) rfl rfl rfl ?_
    refine s_iadd (n := 26) hX (dec_of D_X9_seat (i := 15) rfl) rfl ?_
    refine s_iald (n := 27) hX (vk27 (by omega)) (by decide) (dec_of D_X9_seat (i := 16) rfl) rfl (fun v2 => ?_)
    exact s_iret hX hR (dec_of D_X9_seat (i := 17) rfl) rfl
  · refine s_iconst (v := (-1)) (n := 10) hX (dec_of D_X9_seat (i := 5) rfl) rfl (by decide) ?_
    exact s_iret hX hR (dec_of D_X9_seat (i := 6) rfl) rfl
theorem lk_RX9_223 : LkV RX9 223 RX8 yX8_roleIn cX8_roleIn 5 (some .int) 3 := ⟨wd_697, wd_698, wd_699, wd_87, wd_700, by decide +kernel, by decide⟩
def T_X9_role : List (Nat × Instr × Nat) := [(0, .aload_n 0, 1), (1, .iload_n 1, 1), (2, .invokevirtual 148, 3), (5, .ifCond .eq 11, 3), (8, .aload_n 0, 1), (9, .iload_n 2, 1), (10, .invokevirtual 174, 3), (13, .ifCond .ne 5, 3), (16, .iconst (-1), 1), (17, .ireturn, 1), (18, .aload_n 0, 1), (19, .getfield 19, 3), (22, .getfield 113, 3), (25, .aload_n 0, 1), (26, .getfield 61, 3), (29, .iload_n 1, 1), (30, .iload_n 2, 1), (31, .invokevirtual 223, 3), (34, .ireturn, 1)]
theorem D_X9_role : dchk cX9_role T_X9_role = true := by decide +kernel
def Rp_role (σ : ST) (a1 : Int32) (a2 : Int32) : Option Int32 :=
  bd_ (Rp_isPlayer (σ) a1) (fun q1 => (if q1 = 0 then some (-1) else bd_ (Rp_isSession (σ) a2) (fun q2 => (if q2 = 0 then some (-1) else bd_ (ldQ σ 0) (fun rr3 => bd_ (Wo_roleIn (σ) 0 rr3 a1 a2) (fun q4 => some q4))))))
set_option maxHeartbeats 4000000 in
set_option maxRecDepth 100000 in
theorem c_X9_role {G : GW} (hG : Good G) {l : Launch} (σ : ST) (a1 : Int32) (a2 : Int32) : Ctr G l yX9_role cX9_role 3 (some .int) 2 [.ref (ga G 130 0), .int a1, .int a2] σ (oI σ) (Rp_role σ a1 a2) := by
  refine ctr_of hG (by decide) (Nat.le_of_ble_eq_true rfl) ?_
  intro X hXl hR hX
  have hX : Ok G X cX9_role 3 RX9 2 := hX
  unfold Rp_role
  show Sim G X 3 (MQX G X (oI σ)) σ 0 [(0, .ref (ga G 130 0)), (1, .int a1), (2, .int a2)] [] _
  refine s_aload_n 0 (n := 1) hX (dec_of D_X9_role (i := 0) rfl) rfl rfl rfl ?_
  refine s_iload_n 1 (n := 2) hX (dec_of D_X9_role (i := 1) rfl) rfl rfl rfl ?_
  refine s_callVI (c := 9) (n := 5) hX cls9 (vk130 (by omega)) lk_RX9_148 (dec_of D_X9_role (i := 2) rfl) rfl (by decide) (c_X9_isPlayer (l := _) hG _ _) rfl rfl (Nat.le_of_ble_eq_true rfl) (fun q1 => ?_)
  refine s_if_eq (tgt := 16) (n := 8) hX (dec_of D_X9_role (i := 3) rfl) rfl rfl ?_ ?_
  · refine s_iconst (v := (-1)) (n := 17) hX (dec_of D_X9_role (i := 8) rfl) rfl (by decide) ?_
    exact s_iret hX hR (dec_of D_X9_role (i := 9) rfl) rfl
  · refine s_aload_n 0 (n := 9) hX (dec_of D_X9_role (i := 4) rfl) rfl rfl rfl ?_
    refine s_iload_n 2 (n := 10) hX (dec_of D_X9_role (i := 5) rfl) rfl rfl rfl ?_
    refine s_callVI (c := 9) (n := 13) hX cls9 (vk130 (by omega)) lk_RX9_174 (dec_of D_X9_role (i := 6) rfl) rfl (by decide) (c_X9_isSession (l := _) hG _ _) rfl rfl (Nat.le_of_ble_eq_true rfl) (fun q2 => ?_)
    refine s_if_ne (tgt := 18) (n := 16) hX (dec_of D_X9_role (i := 7) rfl) rfl rfl ?_ ?_
    · refine s_aload_n 0 (n := 19) hX (dec_of D_X9_role (i := 10) rfl) rfl rfl rfl ?_
      refine s_getC (c := 9) (p := 1) (n := 22) 121 0 hX cls9 (vk130 (by omega)) (dec_of D_X9_role (i := 11) rfl) rfl rfl (by decide) wd_442 ?_
      refine s_getR (c := 0) (p := 0) (k' := 129) (n := 25) hX cls0 (vk121 (by omega)) (dec_of D_X9_role (i := 12) rfl) rfl rfl wd_219 ?_
      refine s_aload_n 0 (n := 26) hX (dec_of D_X9_role (i := 13) rfl) rfl rfl rfl ?_
      refine s_getQ (c := 9) (p := 7) (j := 0) (n := 29) hX cls9 (vk130 (by omega)) (dec_of D_X9_role (i := 14) rfl) rfl rfl wd_448 (fun rr3 hrr3 => ?_)
      refine s_iload_n 1 (n := 30) hX (dec_of D_X9_role (i := 15) rfl) rfl rfl rfl ?_
      refine s_iload_n 2 (n := 31) hX (dec_of D_X9_role (i := 16) rfl) rfl rfl rfl ?_
      refine s_callVI (c := 8) (n := 34) hX cls8 (vk129 (by omega)) lk_RX9_223 (dec_of D_X9_role (i := 17) rfl) rfl (by decide) (c_X8_roleIn (l := _) hG _ _ (by omega) _ (by omega) _ _) rfl rfl (Nat.le_of_ble_eq_true rfl) (fun q4 => ?_)
      exact s_iret hX hR (dec_of D_X9_role (i := 18) rfl) rfl
    · refine s_iconst (v := (-1)) (n := 17) hX (dec_of D_X9_role (i := 8) rfl) rfl (by decide) ?_
      exact s_iret hX hR (dec_of D_X9_role (i := 9) rfl) rfl
def T_X9_openSeats : List (Nat × Instr × Nat) := [(0, .aload_n 0, 1), (1, .iload_n 1, 1), (2, .invokevirtual 174, 3), (5, .ifCond .eq 21, 3), (8, .aload_n 0, 1), (9, .getfield 19, 3), (12, .getfield 113, 3), (15, .aload_n 0, 1), (16, .getfield 61, 3), (19, .iload_n 1, 1), (20, .invokevirtual 188, 3), (23, .goto 4, 3), (26, .iconst (-1), 1), (27, .ireturn, 1)]
theorem D_X9_openSeats : dchk cX9_openSeats T_X9_openSeats = true := by decide +kernel
def Rp_openSeats (σ : ST) (a1 : Int32) : Option Int32 :=
  bd_ (Rp_isSession (σ) a1) (fun q1 => (if q1 = 0 then some (-1) else bd_ (ldQ σ 0) (fun rr2 => bd_ (Wo_openBits (σ) 0 rr2 a1) (fun q3 => some q3))))
set_option maxHeartbeats 4000000 in
set_option maxRecDepth 100000 in
theorem c_X9_openSeats {G : GW} (hG : Good G) {l : Launch} (σ : ST) (a1 : Int32) : Ctr G l yX9_openSeats cX9_openSeats 2 (some .int) 1 [.ref (ga G 130 0), .int a1] σ (oI σ) (Rp_openSeats σ a1) := by
  refine ctr_of hG (by decide) (Nat.le_of_ble_eq_true rfl) ?_
  intro X hXl hR hX
  have hX : Ok G X cX9_openSeats 2 RX9 1 := hX
  unfold Rp_openSeats
  show Sim G X 2 (MQX G X (oI σ)) σ 0 [(0, .ref (ga G 130 0)), (1, .int a1)] [] _
  refine s_aload_n 0 (n := 1) hX (dec_of D_X9_openSeats (i := 0) rfl) rfl rfl rfl ?_
  refine s_iload_n 1 (n := 2) hX (dec_of D_X9_openSeats (i := 1) rfl) rfl rfl rfl ?_
  refine s_callVI (c := 9) (n := 5) hX cls9 (vk130 (by omega)) lk_RX9_174 (dec_of D_X9_openSeats (i := 2) rfl) rfl (by decide) (c_X9_isSession (l := _) hG _ _) rfl rfl (Nat.le_of_ble_eq_true rfl) (fun q1 => ?_)
  refine s_if_eq (tgt := 26) (n := 8) hX (dec_of D_X9_openSeats (i := 3) rfl) rfl rfl ?_ ?_
  · refine s_iconst (v := (-1)) (n := 27) hX (dec_of D_X9_openSeats (i := 12) rfl) rfl (by decide) ?_
    exact s_iret hX hR (dec_of D_X9_openSeats (i := 13) rfl) rfl
  · refine s_aload_n 0 (n := 9) hX (dec_of D_X9_openSeats (i := 4) rfl) rfl rfl rfl ?_
    refine s_getC (c := 9) (p := 1) (n := 12) 121 0 hX cls9 (vk130 (by omega)) (dec_of D_X9_openSeats (i := 5) rfl) rfl rfl (by decide) wd_442 ?_
    refine s_getR (c := 0) (p := 0) (k' := 129) (n := 15) hX cls0 (vk121 (by omega)) (dec_of D_X9_openSeats (i := 6) rfl) rfl rfl wd_219 ?_
    refine s_aload_n 0 (n := 16) hX (dec_of D_X9_openSeats (i := 7) rfl) rfl rfl rfl ?_
    refine s_getQ (c := 9) (p := 7) (j := 0) (n := 19) hX cls9 (vk130 (by omega)) (dec_of D_X9_openSeats (i := 8) rfl) rfl rfl wd_448 (fun rr2 hrr2 => ?_)
    refine s_iload_n 1 (n := 20) hX (dec_of D_X9_openSeats (i := 9) rfl) rfl rfl rfl ?_
    refine s_callVI (c := 8) (n := 23) hX cls8 (vk129 (by omega)) lk_RX9_188 (dec_of D_X9_openSeats (i := 10) rfl) rfl (by decide) (c_X8_openBits (l := _) hG _ _ (by omega) _ (by omega) _) rfl rfl (Nat.le_of_ble_eq_true rfl) (fun q3 => ?_)
    refine s_goto (n := 27) hX (dec_of D_X9_openSeats (i := 11) rfl) rfl ?_
    exact s_iret hX hR (dec_of D_X9_openSeats (i := 13) rfl) rfl
def T_X9_idle : List (Nat × Instr × Nat) := [(0, .iconst 0, 1), (1, .istore_n 1, 1), (2, .iconst 0, 1), (3, .istore_n 2, 1), (4, .iload_n 2, 1), (5, .aload_n 0, 1), (6, .getfield 61, 3), (9, .getfield 226, 3), (12, .if_icmp .ge 48, 3), (15, .aload_n 0, 1), (16, .getfield 19, 3), (19, .getfield 113, 3), (22, .aload_n 0, 1), (23, .getfield 61, 3), (26, .iload_n 2, 1), (27, .invokevirtual 162, 3), (30, .ifCond .ne 24, 3), (33, .aload_n 0, 1), (34, .getfield 19, 3), (37, .aload_n 0, 1), (38, .getfield 61, 3), (41, .iload_n 2, 1), (42, .invokevirtual 156, 3), (45, .ifCond .ne 9, 3), (48, .iload_n 1, 1), (49, .iconst 1, 1), (50, .iload_n 2, 1), (51, .ishl, 1), (52, .ior, 1), (53, .istore_n 1, 1), (54, .iinc 2 1, 3), (57, .goto (-53), 3), (60, .iload_n 1, 1), (61, .ireturn, 1)]
theorem D_X9_idle : dchk cX9_idle T_X9_idle = true := by decide +kernel
def Rp_idle (σ : ST)  : Option Int32 :=
  lp_ (fun rec2 (z1 : Int32 × Int32) => bd_ (ldQ σ 0) (fun rr4 => (if (gF σ 530 rr4) ≤ z1.2 then some z1.1 else bd_ (ldQ σ 0) (fun rr5 => bd_ (Wo_sessionsOf (σ) 0 rr5 z1.2) (fun q6 => (if q6 = 0 then bd_ (ldQ σ 0) (fun rr7 => bd_ (Bk_paidTo (σ) 0 rr7 z1.2) (fun q8 => (if q8 = 0 then lt_ ((z1.1 ||| (1 <<< (z1.2 &&& 31)))) (fun x9 => rec2 (x9, (z1.2 + 1))) else rec2 (z1.1, (z1.2 + 1))))) else rec2 (z1.1, (z1.2 + 1)))))))) FU (0, 0)
set_option maxHeartbeats 4000000 in
set_option maxRecDepth 100000 in
theorem c_X9_idle {G : GW} (hG : Good G) {l : Launch} (σ : ST)  : Ctr G l yX9_idle cX9_idle 3 (some .int) 3 [.ref (ga G 130 0)] σ (oI σ) (Rp_idle σ ) := by
  refine ctr_of hG (by decide) (Nat.le_of_ble_eq_true rfl) ?_
  intro X hXl hR hX
  have hX : Ok G X cX9_idle 3 RX9 3 := hX
  unfold Rp_idle
  show Sim G X 3 (MQX G X (oI σ)) σ 0 [(0, .ref (ga G 130 0))] [] _
  refine s_iconst (v := 0) (n := 1) hX (dec_of D_X9_idle (i := 0) rfl) rfl (by decide) ?_
  refine s_istore_n (lv' := [(0, _), (1, _)]) [1, 0] (n := 2) hX (dec_of D_X9_idle (i := 1) rfl) rfl rfl (by decide) rfl ?_
  refine s_iconst (v := 0) (n := 3) hX (dec_of D_X9_idle (i := 2) rfl) rfl (by decide) ?_
  refine s_istore_n (lv' := [(0, _), (1, _), (2, _)]) [1, 2, 0] (n := 4) hX (dec_of D_X9_idle (i := 3) rfl) rfl rfl (by decide) rfl ?_
  refine s_sub [0, 1, 2] rfl (s_lp (pc := 4) (Sf := fun (z1 : Int32 × Int32) => σ) (lvf := fun (z1 : Int32 × Int32) => [(0, .ref (ga G 130 0)), (1, .int z1.1), (2, .int z1.2)]) (fun rec2 hre3 z1 => ?_) FU (0, 0))
  refine s_iload_n 2 (n := 5) hX (dec_of D_X9_idle (i := 4) rfl) rfl rfl rfl ?_
  refine s_aload_n 0 (n := 6) hX (dec_of D_X9_idle (i := 5) rfl) rfl rfl rfl ?_
  refine s_getQ (c := 9) (p := 7) (j := 0) (n := 9) hX cls9 (vk130 (by omega)) (dec_of D_X9_idle (i := 6) rfl) rfl rfl wd_448 (fun rr4 hrr4 => ?_)
  refine s_getI (c := 5) (p := 10) (id := 530) (n := 12) hX cls5 (vk126 (by omega)) (dec_of D_X9_idle (i := 7) rfl) rfl rfl wd_397 ?_
  refine s_icmp_ge (tgt := 60) (n := 15) hX (dec_of D_X9_idle (i := 8) rfl) rfl rfl ?_ ?_
  · refine s_iload_n 1 (n := 61) hX (dec_of D_X9_idle (i := 32) rfl) rfl rfl rfl ?_
    exact s_iret hX hR (dec_of D_X9_idle (i := 33) rfl) rfl
  · refine s_aload_n 0 (n := 16) hX (dec_of D_X9_idle (i := 9) rfl) rfl rfl rfl ?_
    refine s_getC (c := 9) (p := 1) (n := 19) 121 0 hX cls9 (vk130 (by omega)) (dec_of D_X9_idle (i := 10) rfl) rfl rfl (by decide) wd_442 ?_
    refine s_getR (c := 0) (p := 0) (k' := 129) (n := 22) hX cls0 (vk121 (by omega)) (dec_of D_X9_idle (i := 11) rfl) rfl rfl wd_219 ?_
    refine s_aload_n 0 (n := 23) hX (dec_of D_X9_idle (i := 12) rfl) rfl rfl rfl ?_
    refine s_getQ (c := 9) (p := 7) (j := 0) (n := 26) hX cls9 (vk130 (by omega)) (dec_of D_X9_idle (i := 13) rfl) rfl rfl wd_448 (fun rr5 hrr5 => ?_)
    refine s_iload_n 2 (n := 27) hX (dec_of D_X9_idle (i := 14) rfl) rfl rfl rfl ?_
    refine s_callVI (c := 8) (n := 30) hX cls8 (vk129 (by omega)) lk_RX9_162 (dec_of D_X9_idle (i := 15) rfl) rfl (by decide) (c_X8_sessionsOf (l := _) hG _ _ (by omega) _ (by omega) _) rfl rfl (Nat.le_of_ble_eq_true rfl) (fun q6 => ?_)
    refine s_if_ne (tgt := 54) (n := 33) hX (dec_of D_X9_idle (i := 16) rfl) rfl rfl ?_ ?_
    · refine s_iinc (v := z1.2 + 1) (lv' := [(0, _), (1, _), (2, _)]) 2 [1, 2, 0] (n := 57) hX (dec_of D_X9_idle (i := 30) rfl) rfl rfl rfl (by decide) rfl ?_
      refine s_goto (n := 4) hX (dec_of D_X9_idle (i := 31) rfl) rfl ?_
      exact s_sub [0, 1, 2] rfl (hre3 (z1.1, (z1.2 + 1)))
    · refine s_aload_n 0 (n := 34) hX (dec_of D_X9_idle (i := 17) rfl) rfl rfl rfl ?_
      refine s_getC (c := 9) (p := 1) (n := 37) 121 0 hX cls9 (vk130 (by omega)) (dec_of D_X9_idle (i := 18) rfl) rfl rfl (by decide) wd_442 ?_
      refine s_aload_n 0 (n := 38) hX (dec_of D_X9_idle (i := 19) rfl) rfl rfl rfl ?_
      refine s_getQ (c := 9) (p := 7) (j := 0) (n := 41) hX cls9 (vk130 (by omega)) (dec_of D_X9_idle (i := 20) rfl) rfl rfl wd_448 (fun rr7 hrr7 => ?_)
      refine s_iload_n 2 (n := 42) hX (dec_of D_X9_idle (i := 21) rfl) rfl rfl rfl ?_
      refine s_callVI (c := 0) (n := 45) hX cls0 (vk121 (by omega)) lk_RX9_156 (dec_of D_X9_idle (i := 22) rfl) rfl (by decide) (c_X0_paidTo (l := _) hG _ _ (by omega) _ (by omega) _) rfl rfl (Nat.le_of_ble_eq_true rfl) (fun q8 => ?_)
      refine s_if_ne (tgt := 54) (n := 48) hX (dec_of D_X9_idle (i := 23) rfl) rfl rfl ?_ ?_
      · refine s_iinc (v := z1.2 + 1) (lv' := [(0, _), (1, _), (2, _)]) 2 [1, 2, 0] (n := 57) hX (dec_of D_X9_idle (i := 30) rfl) rfl rfl rfl (by decide) rfl ?_
        refine s_goto (n := 4) hX (dec_of D_X9_idle (i := 31) rfl) rfl ?_
        exact s_sub [0, 1, 2] rfl (hre3 (z1.1, (z1.2 + 1)))
      · refine s_iload_n 1 (n := 49) hX (dec_of D_X9_idle (i := 24) rfl) rfl rfl rfl ?_
        refine s_iconst (v := 1) (n := 50) hX (dec_of D_X9_idle (i := 25) rfl) rfl (by decide) ?_
        refine s_iload_n 2 (n := 51) hX (dec_of D_X9_idle (i := 26) rfl) rfl rfl rfl ?_
        refine s_ishl (n := 52) hX (dec_of D_X9_idle (i := 27) rfl) rfl ?_
        refine s_ior (n := 53) hX (dec_of D_X9_idle (i := 28) rfl) rfl ?_
        refine s_topi (fun x9 => ?_)
        refine s_istore_n (lv' := [(0, _), (1, _), (2, _)]) [1, 0, 2] (n := 54) hX (dec_of D_X9_idle (i := 29) rfl) rfl rfl (by decide) rfl ?_
        refine s_iinc (v := z1.2 + 1) (lv' := [(0, _), (1, _), (2, _)]) 2 [1, 2, 0] (n := 57) hX (dec_of D_X9_idle (i := 30) rfl) rfl rfl rfl (by decide) rfl ?_
        refine s_goto (n := 4) hX (dec_of D_X9_idle (i := 31) rfl) rfl ?_
        exact s_sub [0, 1, 2] rfl (hre3 (x9, (z1.2 + 1)))
theorem lk_RX9_244 : LkV RX9 244 RX8 yX8_openInAll cX8_openInAll 4 (some .int) 1 := ⟨wd_731, wd_732, wd_733, wd_87, wd_734, by decide +kernel, by decide⟩
def T_X9_count : List (Nat × Instr × Nat) := [(0, .iload_n 1, 1), (1, .tableswitch 145 0 9 #[55, 63, 71, 79, 87, 95, 103, 111, 126, 134], 55), (56, .aload_n 0, 1), (57, .getfield 61, 3), (60, .getfield 93, 3), (63, .ireturn, 1), (64, .aload_n 0, 1), (65, .getfield 61, 3), (68, .getfield 229, 3), (71, .ireturn, 1), (72, .aload_n 0, 1), (73, .getfield 61, 3), (76, .getfield 226, 3), (79, .ireturn, 1), (80, .aload_n 0, 1), (81, .getfield 61, 3), (84, .getfield 232, 3), (87, .ireturn, 1), (88, .aload_n 0, 1), (89, .getfield 61, 3), (92, .getfield 235, 3), (95, .ireturn, 1), (96, .aload_n 0, 1), (97, .getfield 61, 3), (100, .getfield 238, 3), (103, .ireturn, 1), (104, .aload_n 0, 1), (105, .getfield 19, 3), (108, .getfield 241, 3), (111, .ireturn, 1), (112, .aload_n 0, 1), (113, .getfield 19, 3), (116, .getfield 113, 3), (119, .aload_n 0, 1), (120, .getfield 61, 3), (123, .invokevirtual 244, 3), (126, .ireturn, 1), (127, .aload_n 0, 1), (128, .getfield 26, 3), (131, .getfield 248, 3), (134, .ireturn, 1), (135, .aload_n 0, 1), (136, .getfield 10, 3), (139, .getfield 68, 3), (142, .getfield 72, 3), (145, .ireturn, 1), (146, .iconst (-1), 1), (147, .ireturn, 1)]
theorem D_X9_count : dchk cX9_count T_X9_count = true := by decide +kernel
def Rp_count (σ : ST) (a1 : Int32) : Option Int32 :=
  sw_ a1 0 [bd_ (ldQ σ 0) (fun rr1 => some (gF σ 528 rr1)), bd_ (ldQ σ 0) (fun rr2 => some (gF σ 529 rr2)), bd_ (ldQ σ 0) (fun rr3 => some (gF σ 530 rr3)), bd_ (ldQ σ 0) (fun rr4 => some (gF σ 531 rr4)), bd_ (ldQ σ 0) (fun rr5 => some (gF σ 532 rr5)), bd_ (ldQ σ 0) (fun rr6 => some (gF σ 533 rr6)), some (gF σ 209 0), bd_ (ldQ σ 0) (fun rr7 => bd_ (Wo_openInAll (σ) 0 rr7) (fun q8 => some q8)), some (gF σ 330 0), some (gF σ 652 0)] (some (-1))
set_option maxHeartbeats 4000000 in
set_option maxRecDepth 100000 in
theorem c_X9_count {G : GW} (hG : Good G) {l : Launch} (σ : ST) (a1 : Int32) : Ctr G l yX9_count cX9_count 2 (some .int) 2 [.ref (ga G 130 0), .int a1] σ (oI σ) (Rp_count σ a1) := by
  refine ctr_of hG (by decide) (Nat.le_of_ble_eq_true rfl) ?_
  intro X hXl hR hX
  have hX : Ok G X cX9_count 2 RX9 2 := hX
  unfold Rp_count
  show Sim G X 2 (MQX G X (oI σ)) σ 0 [(0, .ref (ga G 130 0)), (1, .int a1)] [] _
  refine s_iload_n 1 (n := 1) hX (dec_of D_X9_count (i := 0) rfl) rfl rfl rfl ?_
  refine s_tsw (lo' := 0) (Ps := [_, _, _, _, _, _, _, _, _, _]) hX (dec_of D_X9_count (i := 1) rfl) rfl 10 rfl (by decide) (by decide) [56, 64, 72, 80, 88, 96, 104, 112, 127, 135] 146 rfl rfl (by decide +kernel) ?_ ?_
  · skip
    refine swS_cons ?_ ?_
    · refine s_aload_n 0 (n := 57) hX (dec_of D_X9_count (i := 2) rfl) rfl rfl rfl ?_
      refine s_getQ (c := 9) (p := 7) (j := 0) (n := 60) hX cls9 (vk130 (by omega)) (dec_of D_X9_count (i := 3) rfl) rfl rfl wd_448 (fun rr1 hrr1 => ?_)
      refine s_getI (c := 5) (p := 8) (id := 528) (n := 63) hX cls5 (vk126 (by omega)) (dec_of D_X9_count (i := 4) rfl) rfl rfl wd_385 ?_
      exact s_iret hX hR (dec_of D_X9_count (i := 5) rfl) rfl
    refine swS_cons ?_ ?_
    · refine s_aload_n 0 (n := 65) hX (dec_of D_X9_count (i := 6) rfl) rfl rfl rfl ?_
      refine s_getQ (c := 9) (p := 7) (j := 0) (n := 68) hX cls9 (vk130 (by omega)) (dec_of D_X9_count (i := 7) rfl) rfl rfl wd_448 (fun rr2 hrr2 => ?_)
      refine s_getI (c := 5) (p := 9) (id := 529) (n := 71) hX cls5 (vk126 (by omega)) (dec_of D_X9_count (i := 8) rfl) rfl rfl wd_392 ?_
      exact s_iret hX hR (dec_of D_X9_count (i := 9) rfl) rfl
    refine swS_cons ?_ ?_
    · refine s_aload_n 0 (n := 73) hX (dec_of D_X9_count (i := 10) rfl) rfl rfl rfl ?_
      refine s_getQ (c := 9) (p := 7) (j := 0) (n := 76) hX cls9 (vk130 (by omega)) (dec_of D_X9_count (i := 11) rfl) rfl rfl wd_448 (fun rr3 hrr3 => ?_)
      refine s_getI (c := 5) (p := 10) (id := 530) (n := 79) hX cls5 (vk126 (by omega)) (dec_of D_X9_count (i := 12) rfl) rfl rfl wd_397 ?_
      exact s_iret hX hR (dec_of D_X9_count (i := 13) rfl) rfl
    refine swS_cons ?_ ?_
    · refine s_aload_n 0 (n := 81) hX (dec_of D_X9_count (i := 14) rfl) rfl rfl rfl ?_
      refine s_getQ (c := 9) (p := 7) (j := 0) (n := 84) hX cls9 (vk130 (by omega)) (dec_of D_X9_count (i := 15) rfl) rfl rfl wd_448 (fun rr4 hrr4 => ?_)
      refine s_getI (c := 5) (p := 11) (id := 531) (n := 87) hX cls5 (vk126 (by omega)) (dec_of D_X9_count (i := 16) rfl) rfl rfl wd_402 ?_
      exact s_iret hX hR (dec_of D_X9_count (i := 17) rfl) rfl
    refine swS_cons ?_ ?_
    · refine s_aload_n 0 (n := 89) hX (dec_of D_X9_count (i := 18) rfl) rfl rfl rfl ?_
      refine s_getQ (c := 9) (p := 7) (j := 0) (n := 92) hX cls9 (vk130 (by omega)) (dec_of D_X9_count (i := 19) rfl) rfl rfl wd_448 (fun rr5 hrr5 => ?_)
      refine s_getI (c := 5) (p := 12) (id := 532) (n := 95) hX cls5 (vk126 (by omega)) (dec_of D_X9_count (i := 20) rfl) rfl rfl wd_407 ?_
      exact s_iret hX hR (dec_of D_X9_count (i := 21) rfl) rfl
    refine swS_cons ?_ ?_
    · refine s_aload_n 0 (n := 97) hX (dec_of D_X9_count (i := 22) rfl) rfl rfl rfl ?_
      refine s_getQ (c := 9) (p := 7) (j := 0) (n := 100) hX cls9 (vk130 (by omega)) (dec_of D_X9_count (i := 23) rfl) rfl rfl wd_448 (fun rr6 hrr6 => ?_)
      refine s_getI (c := 5) (p := 13) (id := 533) (n := 103) hX cls5 (vk126 (by omega)) (dec_of D_X9_count (i := 24) rfl) rfl rfl wd_411 ?_
      exact s_iret hX hR (dec_of D_X9_count (i := 25) rfl) rfl
    refine swS_cons ?_ ?_
    · refine s_aload_n 0 (n := 105) hX (dec_of D_X9_count (i := 26) rfl) rfl rfl rfl ?_
      refine s_getC (c := 9) (p := 1) (n := 108) 121 0 hX cls9 (vk130 (by omega)) (dec_of D_X9_count (i := 27) rfl) rfl rfl (by decide) wd_442 ?_
      refine s_getI (c := 0) (p := 9) (id := 209) (n := 111) hX cls0 (vk121 (by omega)) (dec_of D_X9_count (i := 28) rfl) rfl rfl wd_239 ?_
      exact s_iret hX hR (dec_of D_X9_count (i := 29) rfl) rfl
    refine swS_cons ?_ ?_
    · refine s_aload_n 0 (n := 113) hX (dec_of D_X9_count (i := 30) rfl) rfl rfl rfl ?_
      refine s_getC (c := 9) (p := 1) (n := 116) 121 0 hX cls9 (vk130 (by omega)) (dec_of D_X9_count (i := 31) rfl) rfl rfl (by decide) wd_442 ?_
      refine s_getR (c := 0) (p := 0) (k' := 129) (n := 119) hX cls0 (vk121 (by omega)) (dec_of D_X9_count (i := 32) rfl) rfl rfl wd_219 ?_
      refine s_aload_n 0 (n := 120) hX (dec_of D_X9_count (i := 33) rfl) rfl rfl rfl ?_
      refine s_getQ (c := 9) (p := 7) (j := 0) (n := 123) hX cls9 (vk130 (by omega)) (dec_of D_X9_count (i := 34) rfl) rfl rfl wd_448 (fun rr7 hrr7 => ?_)
      refine s_callVI (c := 8) (n := 126) hX cls8 (vk129 (by omega)) lk_RX9_244 (dec_of D_X9_count (i := 35) rfl) rfl (by decide) (c_X8_openInAll (l := _) hG _ _ (by omega) _ (by omega)) rfl rfl (Nat.le_of_ble_eq_true rfl) (fun q8 => ?_)
      exact s_iret hX hR (dec_of D_X9_count (i := 36) rfl) rfl
    refine swS_cons ?_ ?_
    · refine s_aload_n 0 (n := 128) hX (dec_of D_X9_count (i := 37) rfl) rfl rfl rfl ?_
      refine s_getC (c := 9) (p := 2) (n := 131) 123 0 hX cls9 (vk130 (by omega)) (dec_of D_X9_count (i := 38) rfl) rfl rfl (by decide) wd_443 ?_
      refine s_getI (c := 2) (p := 2) (id := 330) (n := 134) hX cls2 (vk123 (by omega)) (dec_of D_X9_count (i := 39) rfl) rfl rfl wd_273 ?_
      exact s_iret hX hR (dec_of D_X9_count (i := 40) rfl) rfl
    refine swS_cons ?_ ?_
    · refine s_aload_n 0 (n := 136) hX (dec_of D_X9_count (i := 41) rfl) rfl rfl rfl ?_
      refine s_getC (c := 9) (p := 0) (n := 139) 125 0 hX cls9 (vk130 (by omega)) (dec_of D_X9_count (i := 42) rfl) rfl rfl (by decide) wd_441 ?_
      refine s_getR (c := 4) (p := 0) (k' := 128) (n := 142) hX cls4 (vk125 (by omega)) (dec_of D_X9_count (i := 43) rfl) rfl rfl wd_156 ?_
      refine s_getI (c := 7) (p := 4) (id := 652) (n := 145) hX cls7 (vk128 (by omega)) (dec_of D_X9_count (i := 44) rfl) rfl rfl wd_134 ?_
      exact s_iret hX hR (dec_of D_X9_count (i := 45) rfl) rfl
    exact swS_nil
  · refine s_iconst (v := (-1)) (n := 147) hX (dec_of D_X9_count (i := 46) rfl) rfl (by decide) ?_
    exact s_iret hX hR (dec_of D_X9_count (i := 47) rfl) rfl
theorem lk_RX9_251 : LkV RX9 251 RX8 yX8_payable cX8_payable 4 (some .boolean) 3 := ⟨wd_750, wd_751, wd_752, wd_87, wd_753, by decide +kernel, by decide⟩
def T_X9_pays : List (Nat × Instr × Nat) := [(0, .aload_n 0, 1), (1, .iload_n 1, 1), (2, .invokevirtual 102, 3), (5, .ifCond .eq 19, 3), (8, .aload_n 0, 1), (9, .iload_n 2, 1), (10, .invokevirtual 102, 3), (13, .ifCond .eq 11, 3), (16, .iload_n 3, 1), (17, .iconst 2, 1), (18, .invokestatic 207, 3), (21, .ifCond .ne 5, 3), (24, .iconst (-1), 1), (25, .ireturn, 1), (26, .aload_n 0, 1), (27, .getfield 19, 3), (30, .getfield 113, 3), (33, .iload_n 1, 1), (34, .iload_n 2, 1), (35, .iload_n 3, 1), (36, .invokevirtual 251, 3), (39, .ifCond .eq 7, 3), (42, .iconst 1, 1), (43, .goto 4, 3), (46, .iconst 0, 1), (47, .ireturn, 1)]
theorem D_X9_pays : dchk cX9_pays T_X9_pays = true := by decide +kernel
def Rp_pays (σ : ST) (a1 : Int32) (a2 : Int32) (a3 : Int32) : Option Int32 :=
  bd_ (Rp_isLand (σ) a1) (fun q1 => (if q1 = 0 then some (-1) else bd_ (Rp_isLand (σ) a2) (fun q2 => (if q2 = 0 then some (-1) else bd_ (Rp_isChoice (σ) a3 2) (fun q3 => (if q3 = 0 then some (-1) else bd_ (Wo_payable (σ) 0 a1 a2 a3) (fun q4 => (if q4 = 0 then some 0 else some 1))))))))
set_option maxHeartbeats 4000000 in
set_option maxRecDepth 100000 in
theorem c_X9_pays {G : GW} (hG : Good G) {l : Launch} (σ : ST) (a1 : Int32) (a2 : Int32) (a3 : Int32) : Ctr G l yX9_pays cX9_pays 4 (some .int) 2 [.ref (ga G 130 0), .int a1, .int a2, .int a3] σ (oI σ) (Rp_pays σ a1 a2 a3) := by
  refine ctr_of hG (by decide) (Nat.le_of_ble_eq_true rfl) ?_
  intro X hXl hR hX
  have hX : Ok G X cX9_pays 4 RX9 2 := hX
  unfold Rp_pays
  show Sim G X 4 (MQX G X (oI σ)) σ 0 [(0, .ref (ga G 130 0)), (1, .int a1), (2, .int a2), (3, .int a3)] [] _
  refine s_aload_n 0 (n := 1) hX (dec_of D_X9_pays (i := 0) rfl) rfl rfl rfl ?_
  refine s_iload_n 1 (n := 2) hX (dec_of D_X9_pays (i := 1) rfl) rfl rfl rfl ?_
  refine s_callVI (c := 9) (n := 5) hX cls9 (vk130 (by omega)) lk_RX9_102 (dec_of D_X9_pays (i := 2) rfl) rfl (by decide) (c_X9_isLand (l := _) hG _ _) rfl rfl (Nat.le_of_ble_eq_true rfl) (fun q1 => ?_)
  refine s_if_eq (tgt := 24) (n := 8) hX (dec_of D_X9_pays (i := 3) rfl) rfl rfl ?_ ?_
  · refine s_iconst (v := (-1)) (n := 25) hX (dec_of D_X9_pays (i := 12) rfl) rfl (by decide) ?_
    exact s_iret hX hR (dec_of D_X9_pays (i := 13) rfl) rfl
  · refine s_aload_n 0 (n := 9) hX (dec_of D_X9_pays (i := 4) rfl) rfl rfl rfl ?_
    refine s_iload_n 2 (n := 10) hX (dec_of D_X9_pays (i := 5) rfl) rfl rfl rfl ?_
    refine s_callVI (c := 9) (n := 13) hX cls9 (vk130 (by omega)) lk_RX9_102 (dec_of D_X9_pays (i := 6) rfl) rfl (by decide) (c_X9_isLand (l := _) hG _ _) rfl rfl (Nat.le_of_ble_eq_true rfl) (fun q2 => ?_)
    refine s_if_eq (tgt := 24) (n := 16) hX (dec_of D_X9_pays (i := 7) rfl) rfl rfl ?_ ?_
    · refine s_iconst (v := (-1)) (n := 25) hX (dec_of D_X9_pays (i := 12) rfl) rfl (by decide) ?_
      exact s_iret hX hR (dec_of D_X9_pays (i := 13) rfl) rfl
    · refine s_iload_n 3 (n := 17) hX (dec_of D_X9_pays (i := 8) rfl) rfl rfl rfl ?_
      refine s_iconst (v := 2) (n := 18) hX (dec_of D_X9_pays (i := 9) rfl) rfl (by decide) ?_
      refine s_callSI (n := 21) hX lk_RX9_207 (dec_of D_X9_pays (i := 10) rfl) rfl (by decide) (c_X9_isChoice (l := _) hG _ _ _) rfl rfl (Nat.le_of_ble_eq_true rfl) (fun q3 => ?_)
      refine s_if_ne (tgt := 26) (n := 24) hX (dec_of D_X9_pays (i := 11) rfl) rfl rfl ?_ ?_
      · refine s_aload_n 0 (n := 27) hX (dec_of D_X9_pays (i := 14) rfl) rfl rfl rfl ?_
        refine s_getC (c := 9) (p := 1) (n := 30) 121 0 hX cls9 (vk130 (by omega)) (dec_of D_X9_pays (i := 15) rfl) rfl rfl (by decide) wd_442 ?_
        refine s_getR (c := 0) (p := 0) (k' := 129) (n := 33) hX cls0 (vk121 (by omega)) (dec_of D_X9_pays (i := 16) rfl) rfl rfl wd_219 ?_
        refine s_iload_n 1 (n := 34) hX (dec_of D_X9_pays (i := 17) rfl) rfl rfl rfl ?_
        refine s_iload_n 2 (n := 35) hX (dec_of D_X9_pays (i := 18) rfl) rfl rfl rfl ?_
        refine s_iload_n 3 (n := 36) hX (dec_of D_X9_pays (i := 19) rfl) rfl rfl rfl ?_
        refine s_callVI (c := 8) (n := 39) hX cls8 (vk129 (by omega)) lk_RX9_251 (dec_of D_X9_pays (i := 20) rfl) rfl (by decide) (c_X8_payable (l := _) hG _ _ (by omega) _ _ _) rfl rfl (Nat.le_of_ble_eq_true rfl) (fun q4 => ?_)
        refine s_if_eq (tgt := 46) (n := 42) hX (dec_of D_X9_pays (i := 21) rfl) rfl rfl ?_ ?_
        · refine s_iconst (v := 0) (n := 47) hX (dec_of D_X9_pays (i := 24) rfl) rfl (by decide) ?_
          exact s_iret hX hR (dec_of D_X9_pays (i := 25) rfl) rfl
        · refine s_iconst (v := 1) (n := 43) hX (dec_of D_X9_pays (i := 22) rfl) rfl (by decide) ?_
          refine s_goto (n := 47) hX (dec_of D_X9_pays (i := 23) rfl) rfl ?_
          exact s_iret hX hR (dec_of D_X9_pays (i := 25) rfl) rfl
      · refine s_iconst (v := (-1)) (n := 25) hX (dec_of D_X9_pays (i := 12) rfl) rfl (by decide) ?_
        exact s_iret hX hR (dec_of D_X9_pays (i := 13) rfl) rfl
def T_X9_paidBy : List (Nat × Instr × Nat) := [(0, .aload_n 0, 1), (1, .iload_n 1, 1), (2, .invokevirtual 102, 3), (5, .ifCond .eq 11, 3), (8, .iload_n 2, 1), (9, .iconst 2, 1), (10, .invokestatic 207, 3), (13, .ifCond .ne 5, 3), (16, .iconst (-1), 1), (17, .ireturn, 1), (18, .aload_n 0, 1), (19, .getfield 19, 3), (22, .getfield 113, 3), (25, .aload_n 0, 1), (26, .getfield 61, 3), (29, .iload_n 1, 1), (30, .iload_n 2, 1), (31, .invokevirtual 168, 3), (34, .ireturn, 1)]
theorem D_X9_paidBy : dchk cX9_paidBy T_X9_paidBy = true := by decide +kernel
def Rp_paidBy (σ : ST) (a1 : Int32) (a2 : Int32) : Option Int32 :=
  bd_ (Rp_isLand (σ) a1) (fun q1 => (if q1 = 0 then some (-1) else bd_ (Rp_isChoice (σ) a2 2) (fun q2 => (if q2 = 0 then some (-1) else bd_ (ldQ σ 0) (fun rr3 => bd_ (Wo_payers (σ) 0 rr3 a1 a2) (fun q4 => some q4))))))
set_option maxHeartbeats 4000000 in
set_option maxRecDepth 100000 in
theorem c_X9_paidBy {G : GW} (hG : Good G) {l : Launch} (σ : ST) (a1 : Int32) (a2 : Int32) : Ctr G l yX9_paidBy cX9_paidBy 3 (some .int) 3 [.ref (ga G 130 0), .int a1, .int a2] σ (oI σ) (Rp_paidBy σ a1 a2) := by
  refine ctr_of hG (by decide) (Nat.le_of_ble_eq_true rfl) ?_
  intro X hXl hR hX
  have hX : Ok G X cX9_paidBy 3 RX9 3 := hX
  unfold Rp_paidBy
  show Sim G X 3 (MQX G X (oI σ)) σ 0 [(0, .ref (ga G 130 0)), (1, .int a1), (2, .int a2)] [] _
  refine s_aload_n 0 (n := 1) hX (dec_of D_X9_paidBy (i := 0) rfl) rfl rfl rfl ?_
  refine s_iload_n 1 (n := 2) hX (dec_of D_X9_paidBy (i := 1) rfl) rfl rfl rfl ?_
  refine s_callVI (c := 9) (n := 5) hX cls9 (vk130 (by omega)) lk_RX9_102 (dec_of D_X9_paidBy (i := 2) rfl) rfl (by decide) (c_X9_isLand (l := _) hG _ _) rfl rfl (Nat.le_of_ble_eq_true rfl) (fun q1 => ?_)
  refine s_if_eq (tgt := 16) (n := 8) hX (dec_of D_X9_paidBy (i := 3) rfl) rfl rfl ?_ ?_
  · refine s_iconst (v := (-1)) (n := 17) hX (dec_of D_X9_paidBy (i := 8) rfl) rfl (by decide) ?_
    exact s_iret hX hR (dec_of D_X9_paidBy (i := 9) rfl) rfl
  · refine s_iload_n 2 (n := 9) hX (dec_of D_X9_paidBy (i := 4) rfl) rfl rfl rfl ?_
    refine s_iconst (v := 2) (n := 10) hX (dec_of D_X9_paidBy (i := 5) rfl) rfl (by decide) ?_
    refine s_callSI (n := 13) hX lk_RX9_207 (dec_of D_X9_paidBy (i := 6) rfl) rfl (by decide) (c_X9_isChoice (l := _) hG _ _ _) rfl rfl (Nat.le_of_ble_eq_true rfl) (fun q2 => ?_)
    refine s_if_ne (tgt := 18) (n := 16) hX (dec_of D_X9_paidBy (i := 7) rfl) rfl rfl ?_ ?_
    · refine s_aload_n 0 (n := 19) hX (dec_of D_X9_paidBy (i := 10) rfl) rfl rfl rfl ?_
      refine s_getC (c := 9) (p := 1) (n := 22) 121 0 hX cls9 (vk130 (by omega)) (dec_of D_X9_paidBy (i := 11) rfl) rfl rfl (by decide) wd_442 ?_
      refine s_getR (c := 0) (p := 0) (k' := 129) (n := 25) hX cls0 (vk121 (by omega)) (dec_of D_X9_paidBy (i := 12) rfl) rfl rfl wd_219 ?_
      refine s_aload_n 0 (n := 26) hX (dec_of D_X9_paidBy (i := 13) rfl) rfl rfl rfl ?_
      refine s_getQ (c := 9) (p := 7) (j := 0) (n := 29) hX cls9 (vk130 (by omega)) (dec_of D_X9_paidBy (i := 14) rfl) rfl rfl wd_448 (fun rr3 hrr3 => ?_)
      refine s_iload_n 1 (n := 30) hX (dec_of D_X9_paidBy (i := 15) rfl) rfl rfl rfl ?_
      refine s_iload_n 2 (n := 31) hX (dec_of D_X9_paidBy (i := 16) rfl) rfl rfl rfl ?_
      refine s_callVI (c := 8) (n := 34) hX cls8 (vk129 (by omega)) lk_RX9_168 (dec_of D_X9_paidBy (i := 17) rfl) rfl (by decide) (c_X8_payers (l := _) hG _ _ (by omega) _ (by omega) _ _) rfl rfl (Nat.le_of_ble_eq_true rfl) (fun q4 => ?_)
      exact s_iret hX hR (dec_of D_X9_paidBy (i := 18) rfl) rfl
    · refine s_iconst (v := (-1)) (n := 17) hX (dec_of D_X9_paidBy (i := 8) rfl) rfl (by decide) ?_
      exact s_iret hX hR (dec_of D_X9_paidBy (i := 9) rfl) rfl
theorem lk_RX9_255 : LkV RX9 255 RX8 yX8_answerOne cX8_answerOne 3 (some .boolean) 2 := ⟨wd_771, wd_772, wd_773, wd_87, wd_774, by decide +kernel, by decide⟩
def T_X9_answer : List (Nat × Instr × Nat) := [(0, .aload_n 0, 1), (1, .iload_n 1, 1), (2, .invokevirtual 102, 3), (5, .ifCond .eq 11, 3), (8, .aload_n 0, 1), (9, .iload_n 2, 1), (10, .invokevirtual 102, 3), (13, .ifCond .ne 5, 3), (16, .iconst (-1), 1), (17, .ireturn, 1), (18, .aload_n 0, 1), (19, .getfield 19, 3), (22, .getfield 113, 3), (25, .iload_n 1, 1), (26, .iload_n 2, 1), (27, .invokevirtual 255, 3), (30, .ifCond .eq 7, 3), (33, .iconst 1, 1), (34, .goto 4, 3), (37, .iconst 0, 1), (38, .ireturn, 1)]
theorem D_X9_answer : dchk cX9_answer T_X9_answer = true := by decide +kernel
def Rp_answer (σ : ST) (a1 : Int32) (a2 : Int32) : Option Int32 :=
  bd_ (Rp_isLand (σ) a1) (fun q1 => (if q1 = 0 then some (-1) else bd_ (Rp_isLand (σ) a2) (fun q2 => (if q2 = 0 then some (-1) else bd_ (Wo_answerOne (σ) 0 a1 a2) (fun q3 => (if q3 = 0 then some 0 else some 1))))))
set_option maxHeartbeats 4000000 in
set_option maxRecDepth 100000 in
theorem c_X9_answer {G : GW} (hG : Good G) {l : Launch} (σ : ST) (a1 : Int32) (a2 : Int32) : Ctr G l yX9_answer cX9_answer 3 (some .int) 4 [.ref (ga G 130 0), .int a1, .int a2] σ (oI σ) (Rp_answer σ a1 a2) := by
  refine ctr_of hG (by decide) (Nat.le_of_ble_eq_true rfl) ?_
  intro X hXl hR hX
  have hX : Ok G X cX9_answer 3 RX9 4 := hX
  unfold Rp_answer
  show Sim G X 3 (MQX G X (oI σ)) σ 0 [(0, .ref (ga G 130 0)), (1, .int a1), (2, .int a2)] [] _
  refine s_aload_n 0 (n := 1) hX (dec_of D_X9_answer (i := 0) rfl) rfl rfl rfl ?_
  refine s_iload_n 1 (n := 2) hX (dec_of D_X9_answer (i := 1) rfl) rfl rfl rfl ?_
  refine s_callVI (c := 9) (n := 5) hX cls9 (vk130 (by omega)) lk_RX9_102 (dec_of D_X9_answer (i := 2) rfl) rfl (by decide) (c_X9_isLand (l := _) hG _ _) rfl rfl (Nat.le_of_ble_eq_true rfl) (fun q1 => ?_)
  refine s_if_eq (tgt := 16) (n := 8) hX (dec_of D_X9_answer (i := 3) rfl) rfl rfl ?_ ?_
  · refine s_iconst (v := (-1)) (n := 17) hX (dec_of D_X9_answer (i := 8) rfl) rfl (by decide) ?_
    exact s_iret hX hR (dec_of D_X9_answer (i := 9) rfl) rfl
  · refine s_aload_n 0 (n := 9) hX (dec_of D_X9_answer (i := 4) rfl) rfl rfl rfl ?_
    refine s_iload_n 2 (n := 10) hX (dec_of D_X9_answer (i := 5) rfl) rfl rfl rfl ?_
    refine s_callVI (c := 9) (n := 13) hX cls9 (vk130 (by omega)) lk_RX9_102 (dec_of D_X9_answer (i := 6) rfl) rfl (by decide) (c_X9_isLand (l := _) hG _ _) rfl rfl (Nat.le_of_ble_eq_true rfl) (fun q2 => ?_)
    refine s_if_ne (tgt := 18) (n := 16) hX (dec_of D_X9_answer (i := 7) rfl) rfl rfl ?_ ?_
    · refine s_aload_n 0 (n := 19) hX (dec_of D_X9_answer (i := 10) rfl) rfl rfl rfl ?_
      refine s_getC (c := 9) (p := 1) (n := 22) 121 0 hX cls9 (vk130 (by omega)) (dec_of D_X9_answer (i := 11) rfl) rfl rfl (by decide) wd_442 ?_
      refine s_getR (c := 0) (p := 0) (k' := 129) (n := 25) hX cls0 (vk121 (by omega)) (dec_of D_X9_answer (i := 12) rfl) rfl rfl wd_219 ?_
      refine s_iload_n 1 (n := 26) hX (dec_of D_X9_answer (i := 13) rfl) rfl rfl rfl ?_
      refine s_iload_n 2 (n := 27) hX (dec_of D_X9_answer (i := 14) rfl) rfl rfl rfl ?_
      refine s_callVI (c := 8) (n := 30) hX cls8 (vk129 (by omega)) lk_RX9_255 (dec_of D_X9_answer (i := 15) rfl) rfl (by decide) (c_X8_answerOne (l := _) hG _ _ (by omega) _ _) rfl rfl (Nat.le_of_ble_eq_true rfl) (fun q3 => ?_)
      refine s_if_eq (tgt := 37) (n := 33) hX (dec_of D_X9_answer (i := 16) rfl) rfl rfl ?_ ?_
      · refine s_iconst (v := 0) (n := 38) hX (dec_of D_X9_answer (i := 19) rfl) rfl (by decide) ?_
        exact s_iret hX hR (dec_of D_X9_answer (i := 20) rfl) rfl
      · refine s_iconst (v := 1) (n := 34) hX (dec_of D_X9_answer (i := 17) rfl) rfl (by decide) ?_
        refine s_goto (n := 38) hX (dec_of D_X9_answer (i := 18) rfl) rfl ?_
        exact s_iret hX hR (dec_of D_X9_answer (i := 20) rfl) rfl
    · refine s_iconst (v := (-1)) (n := 17) hX (dec_of D_X9_answer (i := 8) rfl) rfl (by decide) ?_
      exact s_iret hX hR (dec_of D_X9_answer (i := 9) rfl) rfl
theorem lk_RX9_258 : LkV RX9 258 RX8 yX8_answerBits cX8_answerBits 5 (some .int) 2 := ⟨wd_783, wd_784, wd_785, wd_87, wd_786, by decide +kernel, by decide⟩
def T_X9_answers : List (Nat × Instr × Nat) := [(0, .aload_n 0, 1), (1, .iload_n 1, 1), (2, .invokevirtual 102, 3), (5, .ifCond .eq 27, 3), (8, .aload_n 0, 1), (9, .getfield 19, 3), (12, .getfield 113, 3), (15, .aload_n 0, 1), (16, .getfield 61, 3), (19, .iload_n 1, 1), (20, .invokevirtual 258, 3), (23, .iconst 1, 1), (24, .iload_n 1, 1), (25, .ishl, 1), (26, .iconst (-1), 1), (27, .ixor, 1), (28, .iand, 1), (29, .goto 4, 3), (32, .iconst (-1), 1), (33, .ireturn, 1)]
theorem D_X9_answers : dchk cX9_answers T_X9_answers = true := by decide +kernel
def Rp_answers (σ : ST) (a1 : Int32) : Option Int32 :=
  bd_ (Rp_isLand (σ) a1) (fun q1 => (if q1 = 0 then some (-1) else bd_ (ldQ σ 0) (fun rr2 => bd_ (Wo_answerBits (σ) 0 rr2 a1) (fun q3 => some (q3 &&& ((1 <<< (a1 &&& 31)) ^^^ (-1)))))))
set_option maxHeartbeats 4000000 in
set_option maxRecDepth 100000 in
theorem c_X9_answers {G : GW} (hG : Good G) {l : Launch} (σ : ST) (a1 : Int32) : Ctr G l yX9_answers cX9_answers 2 (some .int) 5 [.ref (ga G 130 0), .int a1] σ (oI σ) (Rp_answers σ a1) := by
  refine ctr_of hG (by decide) (Nat.le_of_ble_eq_true rfl) ?_
  intro X hXl hR hX
  have hX : Ok G X cX9_answers 2 RX9 5 := hX
  unfold Rp_answers
  show Sim G X 2 (MQX G X (oI σ)) σ 0 [(0, .ref (ga G 130 0)), (1, .int a1)] [] _
  refine s_aload_n 0 (n := 1) hX (dec_of D_X9_answers (i := 0) rfl) rfl rfl rfl ?_
  refine s_iload_n 1 (n := 2) hX (dec_of D_X9_answers (i := 1) rfl) rfl rfl rfl ?_
  refine s_callVI (c := 9) (n := 5) hX cls9 (vk130 (by omega)) lk_RX9_102 (dec_of D_X9_answers (i := 2) rfl) rfl (by decide) (c_X9_isLand (l := _) hG _ _) rfl rfl (Nat.le_of_ble_eq_true rfl) (fun q1 => ?_)
  refine s_if_eq (tgt := 32) (n := 8) hX (dec_of D_X9_answers (i := 3) rfl) rfl rfl ?_ ?_
  · refine s_iconst (v := (-1)) (n := 33) hX (dec_of D_X9_answers (i := 18) rfl) rfl (by decide) ?_
    exact s_iret hX hR (dec_of D_X9_answers (i := 19) rfl) rfl
  · refine s_aload_n 0 (n := 9) hX (dec_of D_X9_answers (i := 4) rfl) rfl rfl rfl ?_
    refine s_getC (c := 9) (p := 1) (n := 12) 121 0 hX cls9 (vk130 (by omega)) (dec_of D_X9_answers (i := 5) rfl) rfl rfl (by decide) wd_442 ?_
    refine s_getR (c := 0) (p := 0) (k' := 129) (n := 15) hX cls0 (vk121 (by omega)) (dec_of D_X9_answers (i := 6) rfl) rfl rfl wd_219 ?_
    refine s_aload_n 0 (n := 16) hX (dec_of D_X9_answers (i := 7) rfl) rfl rfl rfl ?_
    refine s_getQ (c := 9) (p := 7) (j := 0) (n := 19) hX cls9 (vk130 (by omega)) (dec_of D_X9_answers (i := 8) rfl) rfl rfl wd_448 (fun rr2 hrr2 => ?_)
    refine s_iload_n 1 (n := 20) hX (dec_of D_X9_answers (i := 9) rfl) rfl rfl rfl ?_
    refine s_callVI (c := 8) (n := 23) hX cls8 (vk129 (by omega)) lk_RX9_258 (dec_of D_X9_answers (i := 10) rfl) rfl (by decide) (c_X8_answerBits (l := _) hG _ _ (by omega) _ (by omega) _) rfl rfl (Nat.le_of_ble_eq_true rfl) (fun q3 => ?_)
    refine s_iconst (v := 1) (n := 24) hX (dec_of D_X9_answers (i := 11) rfl) rfl (by decide) ?_
    refine s_iload_n 1 (n := 25) hX (dec_of D_X9_answers (i := 12) rfl) rfl rfl rfl ?_
    refine s_ishl (n := 26) hX (dec_of D_X9_answers (i := 13) rfl) rfl ?_
    refine s_iconst (v := (-1)) (n := 27) hX (dec_of D_X9_answers (i := 14) rfl) rfl (by decide) ?_
    refine s_ixor (n := 28) hX (dec_of D_X9_answers (i := 15) rfl) rfl ?_
    refine s_iand (n := 29) hX (dec_of D_X9_answers (i := 16) rfl) rfl ?_
    refine s_goto (n := 33) hX (dec_of D_X9_answers (i := 17) rfl) rfl ?_
    exact s_iret hX hR (dec_of D_X9_answers (i := 19) rfl) rfl
theorem lk_RX9_261 : LkV RX9 261 RX8 yX8_ringBits cX8_ringBits 6 (some .int) 2 := ⟨wd_792, wd_793, wd_794, wd_87, wd_795, by decide +kernel, by decide⟩
def T_X9_ring : List (Nat × Instr × Nat) := [(0, .aload_n 0, 1), (1, .iload_n 1, 1), (2, .invokevirtual 102, 3), (5, .ifCond .eq 21, 3), (8, .aload_n 0, 1), (9, .getfield 19, 3), (12, .getfield 113, 3), (15, .aload_n 0, 1), (16, .getfield 61, 3), (19, .iload_n 1, 1), (20, .invokevirtual 261, 3), (23, .goto 4, 3), (26, .iconst (-1), 1), (27, .ireturn, 1)]
theorem D_X9_ring : dchk cX9_ring T_X9_ring = true := by decide +kernel
def Rp_ring (σ : ST) (a1 : Int32) : Option Int32 :=
  bd_ (Rp_isLand (σ) a1) (fun q1 => (if q1 = 0 then some (-1) else bd_ (ldQ σ 0) (fun rr2 => bd_ (Wo_ringBits (σ) 0 rr2 a1) (fun q3 => some q3))))
set_option maxHeartbeats 4000000 in
set_option maxRecDepth 100000 in
theorem c_X9_ring {G : GW} (hG : Good G) {l : Launch} (σ : ST) (a1 : Int32) : Ctr G l yX9_ring cX9_ring 2 (some .int) 6 [.ref (ga G 130 0), .int a1] σ (oI σ) (Rp_ring σ a1) := by
  refine ctr_of hG (by decide) (Nat.le_of_ble_eq_true rfl) ?_
  intro X hXl hR hX
  have hX : Ok G X cX9_ring 2 RX9 6 := hX
  unfold Rp_ring
  show Sim G X 2 (MQX G X (oI σ)) σ 0 [(0, .ref (ga G 130 0)), (1, .int a1)] [] _
  refine s_aload_n 0 (n := 1) hX (dec_of D_X9_ring (i := 0) rfl) rfl rfl rfl ?_
  refine s_iload_n 1 (n := 2) hX (dec_of D_X9_ring (i := 1) rfl) rfl rfl rfl ?_
  refine s_callVI (c := 9) (n := 5) hX cls9 (vk130 (by omega)) lk_RX9_102 (dec_of D_X9_ring (i := 2) rfl) rfl (by decide) (c_X9_isLand (l := _) hG _ _) rfl rfl (Nat.le_of_ble_eq_true rfl) (fun q1 => ?_)
  refine s_if_eq (tgt := 26) (n := 8) hX (dec_of D_X9_ring (i := 3) rfl) rfl rfl ?_ ?_
  · refine s_iconst (v := (-1)) (n := 27) hX (dec_of D_X9_ring (i := 12) rfl) rfl (by decide) ?_
    exact s_iret hX hR (dec_of D_X9_ring (i := 13) rfl) rfl
  · refine s_aload_n 0 (n := 9) hX (dec_of D_X9_ring (i := 4) rfl) rfl rfl rfl ?_
    refine s_getC (c := 9) (p := 1) (n := 12) 121 0 hX cls9 (vk130 (by omega)) (dec_of D_X9_ring (i := 5) rfl) rfl rfl (by decide) wd_442 ?_
    refine s_getR (c := 0) (p := 0) (k' := 129) (n := 15) hX cls0 (vk121 (by omega)) (dec_of D_X9_ring (i := 6) rfl) rfl rfl wd_219 ?_
    refine s_aload_n 0 (n := 16) hX (dec_of D_X9_ring (i := 7) rfl) rfl rfl rfl ?_
    refine s_getQ (c := 9) (p := 7) (j := 0) (n := 19) hX cls9 (vk130 (by omega)) (dec_of D_X9_ring (i := 8) rfl) rfl rfl wd_448 (fun rr2 hrr2 => ?_)
    refine s_iload_n 1 (n := 20) hX (dec_of D_X9_ring (i := 9) rfl) rfl rfl rfl ?_
    refine s_callVI (c := 8) (n := 23) hX cls8 (vk129 (by omega)) lk_RX9_261 (dec_of D_X9_ring (i := 10) rfl) rfl (by decide) (c_X8_ringBits (l := _) hG _ _ (by omega) _ (by omega) _) rfl rfl (Nat.le_of_ble_eq_true rfl) (fun q3 => ?_)
    refine s_goto (n := 27) hX (dec_of D_X9_ring (i := 11) rfl) rfl ?_
    exact s_iret hX hR (dec_of D_X9_ring (i := 13) rfl) rfl
def T_J6_numberOfTrailingZeros_0f7a4 : List (Nat × Instr × Nat) := [(0, .iload_n 0, 1), (1, .iconst (-1), 1), (2, .ixor, 1), (3, .iload_n 0, 1), (4, .iconst 1, 1), (5, .isub, 1), (6, .iand, 1), (7, .istore_n 0, 1), (8, .iload_n 0, 1), (9, .ifCond .gt 8, 3), (12, .iload_n 0, 1), (13, .bipush 32, 2), (15, .iand, 1), (16, .ireturn, 1), (17, .iconst 1, 1), (18, .istore_n 1, 1), (19, .iload_n 0, 1), (20, .ldc_w 264, 3), (23, .if_icmp .le 11, 3), (26, .iinc 1 16, 3), (29, .iload_n 0, 1), (30, .bipush 16, 2), (32, .iushr, 1), (33, .istore_n 0, 1), (34, .iload_n 0, 1), (35, .sipush 256, 3), (38, .if_icmp .le 11, 3), (41, .iinc 1 8, 3), (44, .iload_n 0, 1), (45, .bipush 8, 2), (47, .iushr, 1), (48, .istore_n 0, 1), (49, .iload_n 0, 1), (50, .bipush 16, 2), (52, .if_icmp .le 10, 3), (55, .iinc 1 4, 3), (58, .iload_n 0, 1), (59, .iconst 4, 1), (60, .iushr, 1), (61, .istore_n 0, 1), (62, .iload_n 0, 1), (63, .iconst 4, 1), (64, .if_icmp .le 10, 3), (67, .iinc 1 2, 3), (70, .iload_n 0, 1), (71, .iconst 2, 1), (72, .iushr, 1), (73, .istore_n 0, 1), (74, .iload_n 1, 1), (75, .iload_n 0, 1), (76, .iconst 1, 1), (77, .iushr, 1), (78, .iadd, 1), (79, .ireturn, 1)]
theorem D_J6_numberOfTrailingZeros_0f7a4 : dchk cJ6_numberOfTrailingZeros_0f7a4 T_J6_numberOfTrailingZeros_0f7a4 = true := by decide +kernel
def Jk_numberOfTrailingZeros (σ : ST) (a0 : Int32) : Option Int32 :=
  lt_ (((a0 ^^^ (-1)) &&& (a0 - 1))) (fun x1 => (if 0 < x1 then lk_ (fun kk3 => (if x1 ≤ 65536 then kk3 (x1, 1) else lt_ ((ushr x1 16)) (fun x14 => kk3 (x14, (1 + 16))))) (fun (j2 : Int32 × Int32) => lk_ (fun kk6 => (if j2.1 ≤ 256 then kk6 (j2.1, j2.2) else lt_ ((ushr j2.1 8)) (fun x13 => kk6 (x13, (j2.2 + 8))))) (fun (j5 : Int32 × Int32) => lk_ (fun kk9 => (if j5.1 ≤ 16 then kk9 (j5.1, j5.2) else lt_ ((ushr j5.1 4)) (fun x12 => kk9 (x12, (j5.2 + 4))))) (fun (j8 : Int32 × Int32) => (if j8.1 ≤ 4 then some (j8.2 + (ushr j8.1 1)) else lt_ ((ushr j8.1 2)) (fun x11 => some ((j8.2 + 2) + (ushr x11 1))))))) else some (x1 &&& 32)))
set_option maxHeartbeats 4000000 in
set_option maxRecDepth 100000 in
theorem c_J6_numberOfTrailingZeros_0f7a4 {G : GW} (hG : Good G) {l : Launch} (σ : ST) (a0 : Int32) : Ctr G l yJ6_numberOfTrailingZeros_0f7a4 cJ6_numberOfTrailingZeros_0f7a4 2 (some .int) 0 [.int a0] σ (oI σ) (Jk_numberOfTrailingZeros σ a0) := by
  refine ctr_of hG (by decide) (Nat.le_of_ble_eq_true rfl) ?_
  intro X hXl hR hX
  have hX : Ok G X cJ6_numberOfTrailingZeros_0f7a4 2 RJ6 0 := hX
  unfold Jk_numberOfTrailingZeros
  show Sim G X 2 (MQX G X (oI σ)) σ 0 [(0, .int a0)] [] _
  refine s_iload_n 0 (n := 1) hX (dec_of D_J6_numberOfTrailingZeros_0f7a4 (i := 0) rfl) rfl rfl rfl ?_
  refine s_iconst (v := (-1)) (n := 2) hX (dec_of D_J6_numberOfTrailingZeros_0f7a4 (i := 1) rfl) rfl (by decide) ?_
  refine s_ixor (n := 3) hX (dec_of D_J6_numberOfTrailingZeros_0f7a4 (i := 2) rfl) rfl ?_
  refine s_iload_n 0 (n := 4) hX (dec_of D_J6_numberOfTrailingZeros_0f7a4 (i := 3) rfl) rfl rfl rfl ?_
  refine s_iconst (v := 1) (n := 5) hX (dec_of D_J6_numberOfTrailingZeros_0f7a4 (i := 4) rfl) rfl (by decide) ?_
  refine s_isub (n := 6) hX (dec_of D_J6_numberOfTrailingZeros_0f7a4 (i := 5) rfl) rfl ?_
  refine s_iand (n := 7) hX (dec_of D_J6_numberOfTrailingZeros_0f7a4 (i := 6) rfl) rfl ?_
  refine s_topi (fun x1 => ?_)
  refine s_istore_n (lv' := [(0, _)]) [0] (n := 8) hX (dec_of D_J6_numberOfTrailingZeros_0f7a4 (i := 7) rfl) rfl rfl (by decide) rfl ?_
  refine s_iload_n 0 (n := 9) hX (dec_of D_J6_numberOfTrailingZeros_0f7a4 (i := 8) rfl) rfl rfl rfl ?_
  refine s_if_gt (tgt := 17) (n := 12) hX (dec_of D_J6_numberOfTrailingZeros_0f7a4 (i := 9) rfl) rfl rfl ?_ ?_
  · refine s_iconst (v := 1) (n := 18) hX (dec_of D_J6_numberOfTrailingZeros_0f7a4 (i := 14) rfl) rfl (by decide) ?_
    refine s_istore_n (lv' := [(0, _), (1, _)]) [1, 0] (n := 19) hX (dec_of D_J6_numberOfTrailingZeros_0f7a4 (i := 15) rfl) rfl rfl (by decide) rfl ?_
    refine s_iload_n 0 (n := 20) hX (dec_of D_J6_numberOfTrailingZeros_0f7a4 (i := 16) rfl) rfl rfl rfl ?_
    refine s_ldcw (v := 65536) (n := 23) hX (dec_of D_J6_numberOfTrailingZeros_0f7a4 (i := 17) rfl) rfl wd_804 ?_
    refine s_lk (pcj := 34) (Sf := fun (j2 : Int32 × Int32) => σ) (lvf := fun (j2 : Int32 × Int32) => [(0, .int j2.1), (1, .int j2.2)]) (stf := fun (j2 : Int32 × Int32) => []) (fun j2 => ?_) (fun kk3 hkk4 => ?_)
    · refine s_iload_n 0 (n := 35) hX (dec_of D_J6_numberOfTrailingZeros_0f7a4 (i := 24) rfl) rfl rfl rfl ?_
      refine s_sipush (v := 256) (n := 38) hX (dec_of D_J6_numberOfTrailingZeros_0f7a4 (i := 25) rfl) rfl (by decide) ?_
      refine s_lk (pcj := 49) (Sf := fun (j5 : Int32 × Int32) => σ) (lvf := fun (j5 : Int32 × Int32) => [(0, .int j5.1), (1, .int j5.2)]) (stf := fun (j5 : Int32 × Int32) => []) (fun j5 => ?_) (fun kk6 hkk7 => ?_)
      · refine s_iload_n 0 (n := 50) hX (dec_of D_J6_numberOfTrailingZeros_0f7a4 (i := 32) rfl) rfl rfl rfl ?_
        refine s_bipush (v := 16) (n := 52) hX (dec_of D_J6_numberOfTrailingZeros_0f7a4 (i := 33) rfl) rfl (by decide) ?_
        refine s_lk (pcj := 62) (Sf := fun (j8 : Int32 × Int32) => σ) (lvf := fun (j8 : Int32 × Int32) => [(0, .int j8.1), (1, .int j8.2)]) (stf := fun (j8 : Int32 × Int32) => []) (fun j8 => ?_) (fun kk9 hkk10 => ?_)
        · refine s_iload_n 0 (n := 63) hX (dec_of D_J6_numberOfTrailingZeros_0f7a4 (i := 40) rfl) rfl rfl rfl ?_
          refine s_iconst (v := 4) (n := 64) hX (dec_of D_J6_numberOfTrailingZeros_0f7a4 (i := 41) rfl) rfl (by decide) ?_
          refine s_icmp_le (tgt := 74) (n := 67) hX (dec_of D_J6_numberOfTrailingZeros_0f7a4 (i := 42) rfl) rfl rfl ?_ ?_
          · refine s_iload_n 1 (n := 75) hX (dec_of D_J6_numberOfTrailingZeros_0f7a4 (i := 48) rfl) rfl rfl rfl ?_
            refine s_iload_n 0 (n := 76) hX (dec_of D_J6_numberOfTrailingZeros_0f7a4 (i := 49) rfl) rfl rfl rfl ?_
            refine s_iconst (v := 1) (n := 77) hX (dec_of D_J6_numberOfTrailingZeros_0f7a4 (i := 50) rfl) rfl (by decide) ?_
            refine s_iushr (n := 78) hX (dec_of D_J6_numberOfTrailingZeros_0f7a4 (i := 51) rfl) rfl ?_
            refine s_iadd (n := 79) hX (dec_of D_J6_numberOfTrailingZeros_0f7a4 (i := 52) rfl) rfl ?_
            exact s_iret hX hR (dec_of D_J6_numberOfTrailingZeros_0f7a4 (i := 53) rfl) rfl
          · refine s_iinc (v := j8.2 + 2) (lv' := [(0, _), (1, _)]) 1 [1, 0] (n := 70) hX (dec_of D_J6_numberOfTrailingZeros_0f7a4 (i := 43) rfl) rfl rfl rfl (by decide) rfl ?_
            refine s_iload_n 0 (n := 71) hX (dec_of D_J6_numberOfTrailingZeros_0f7a4 (i := 44) rfl) rfl rfl rfl ?_
            refine s_iconst (v := 2) (n := 72) hX (dec_of D_J6_numberOfTrailingZeros_0f7a4 (i := 45) rfl) rfl (by decide) ?_
            refine s_iushr (n := 73) hX (dec_of D_J6_numberOfTrailingZeros_0f7a4 (i := 46) rfl) rfl ?_
            refine s_topi (fun x11 => ?_)
            refine s_istore_n (lv' := [(0, _), (1, _)]) [0, 1] (n := 74) hX (dec_of D_J6_numberOfTrailingZeros_0f7a4 (i := 47) rfl) rfl rfl (by decide) rfl ?_
            refine s_iload_n 1 (n := 75) hX (dec_of D_J6_numberOfTrailingZeros_0f7a4 (i := 48) rfl) rfl rfl rfl ?_
            refine s_iload_n 0 (n := 76) hX (dec_of D_J6_numberOfTrailingZeros_0f7a4 (i := 49) rfl) rfl rfl rfl ?_
            refine s_iconst (v := 1) (n := 77) hX (dec_of D_J6_numberOfTrailingZeros_0f7a4 (i := 50) rfl) rfl (by decide) ?_
            refine s_iushr (n := 78) hX (dec_of D_J6_numberOfTrailingZeros_0f7a4 (i := 51) rfl) rfl ?_
            refine s_iadd (n := 79) hX (dec_of D_J6_numberOfTrailingZeros_0f7a4 (i := 52) rfl) rfl ?_
            exact s_iret hX hR (dec_of D_J6_numberOfTrailingZeros_0f7a4 (i := 53) rfl) rfl
        · refine s_icmp_le (tgt := 62) (n := 55) hX (dec_of D_J6_numberOfTrailingZeros_0f7a4 (i := 34) rfl) rfl rfl ?_ ?_
          · exact s_sub [0, 1] rfl (hkk10 (j5.1, j5.2))
          · refine s_iinc (v := j5.2 + 4) (lv' := [(0, _), (1, _)]) 1 [1, 0] (n := 58) hX (dec_of D_J6_numberOfTrailingZeros_0f7a4 (i := 35) rfl) rfl rfl rfl (by decide) rfl ?_
            refine s_iload_n 0 (n := 59) hX (dec_of D_J6_numberOfTrailingZeros_0f7a4 (i := 36) rfl) rfl rfl rfl ?_
            refine s_iconst (v := 4) (n := 60) hX (dec_of D_J6_numberOfTrailingZeros_0f7a4 (i := 37) rfl) rfl (by decide) ?_
            refine s_iushr (n := 61) hX (dec_of D_J6_numberOfTrailingZeros_0f7a4 (i := 38) rfl) rfl ?_
            refine s_topi (fun x12 => ?_)
            refine s_istore_n (lv' := [(0, _), (1, _)]) [0, 1] (n := 62) hX (dec_of D_J6_numberOfTrailingZeros_0f7a4 (i := 39) rfl) rfl rfl (by decide) rfl ?_
            exact s_sub [0, 1] rfl (hkk10 (x12, (j5.2 + 4)))
      · refine s_icmp_le (tgt := 49) (n := 41) hX (dec_of D_J6_numberOfTrailingZeros_0f7a4 (i := 26) rfl) rfl rfl ?_ ?_
        · exact s_sub [0, 1] rfl (hkk7 (j2.1, j2.2))
        · refine s_iinc (v := j2.2 + 8) (lv' := [(0, _), (1, _)]) 1 [1, 0] (n := 44) hX (dec_of D_J6_numberOfTrailingZeros_0f7a4 (i := 27) rfl) rfl rfl rfl (by decide) rfl ?_
          refine s_iload_n 0 (n := 45) hX (dec_of D_J6_numberOfTrailingZeros_0f7a4 (i := 28) rfl) rfl rfl rfl ?_
          refine s_bipush (v := 8) (n := 47) hX (dec_of D_J6_numberOfTrailingZeros_0f7a4 (i := 29) rfl) rfl (by decide) ?_
          refine s_iushr (n := 48) hX (dec_of D_J6_numberOfTrailingZeros_0f7a4 (i := 30) rfl) rfl ?_
          refine s_topi (fun x13 => ?_)
          refine s_istore_n (lv' := [(0, _), (1, _)]) [0, 1] (n := 49) hX (dec_of D_J6_numberOfTrailingZeros_0f7a4 (i := 31) rfl) rfl rfl (by decide) rfl ?_
          exact s_sub [0, 1] rfl (hkk7 (x13, (j2.2 + 8)))
    · refine s_icmp_le (tgt := 34) (n := 26) hX (dec_of D_J6_numberOfTrailingZeros_0f7a4 (i := 18) rfl) rfl rfl ?_ ?_
      · exact s_sub [0, 1] rfl (hkk4 (x1, 1))
      · refine s_iinc (v := 1 + 16) (lv' := [(0, _), (1, _)]) 1 [1, 0] (n := 29) hX (dec_of D_J6_numberOfTrailingZeros_0f7a4 (i := 19) rfl) rfl rfl rfl (by decide) rfl ?_
        refine s_iload_n 0 (n := 30) hX (dec_of D_J6_numberOfTrailingZeros_0f7a4 (i := 20) rfl) rfl rfl rfl ?_
        refine s_bipush (v := 16) (n := 32) hX (dec_of D_J6_numberOfTrailingZeros_0f7a4 (i := 21) rfl) rfl (by decide) ?_
        refine s_iushr (n := 33) hX (dec_of D_J6_numberOfTrailingZeros_0f7a4 (i := 22) rfl) rfl ?_
        refine s_topi (fun x14 => ?_)
        refine s_istore_n (lv' := [(0, _), (1, _)]) [0, 1] (n := 34) hX (dec_of D_J6_numberOfTrailingZeros_0f7a4 (i := 23) rfl) rfl rfl (by decide) rfl ?_
        exact s_sub [0, 1] rfl (hkk4 (x14, (1 + 16)))
  · refine s_iload_n 0 (n := 13) hX (dec_of D_J6_numberOfTrailingZeros_0f7a4 (i := 10) rfl) rfl rfl rfl ?_
    refine s_bipush (v := 32) (n := 15) hX (dec_of D_J6_numberOfTrailingZeros_0f7a4 (i := 11) rfl) rfl (by decide) ?_
    refine s_iand (n := 16) hX (dec_of D_J6_numberOfTrailingZeros_0f7a4 (i := 12) rfl) rfl ?_
    exact s_iret hX hR (dec_of D_J6_numberOfTrailingZeros_0f7a4 (i := 13) rfl) rfl
theorem lk_RX9_264 : LkS RX9 264 yJ6_numberOfTrailingZeros_0f7a4 cJ6_numberOfTrailingZeros_0f7a4 2 (some .int) 1 := ⟨wd_801, wd_802, wd_106, wd_803, by decide +kernel, by decide⟩
def T_X9_rings : List (Nat × Instr × Nat) := [(0, .iconst 0, 1), (1, .istore_n 1, 1), (2, .iconst 0, 1), (3, .istore_n 2, 1), (4, .iload_n 2, 1), (5, .aload_n 0, 1), (6, .getfield 61, 3), (9, .getfield 229, 3), (12, .if_icmp .ge 34, 3), (15, .aload_n 0, 1), (16, .getfield 19, 3), (19, .getfield 113, 3), (22, .aload_n 0, 1), (23, .getfield 61, 3), (26, .iload_n 2, 1), (27, .invokevirtual 261, 3), (30, .invokestatic 264, 3), (33, .iload_n 2, 1), (34, .if_icmp .ne 6, 3), (37, .iinc 1 1, 3), (40, .iinc 2 1, 3), (43, .goto (-39), 3), (46, .iload_n 1, 1), (47, .ireturn, 1)]
theorem D_X9_rings : dchk cX9_rings T_X9_rings = true := by decide +kernel
def Rp_rings (σ : ST)  : Option Int32 :=
  lp_ (fun rec2 (z1 : Int32 × Int32) => bd_ (ldQ σ 0) (fun rr4 => (if (gF σ 529 rr4) ≤ z1.2 then some z1.1 else bd_ (ldQ σ 0) (fun rr5 => bd_ (Wo_ringBits (σ) 0 rr5 z1.2) (fun q6 => bd_ (Jk_numberOfTrailingZeros (σ) q6) (fun q7 => (if q7 = z1.2 then rec2 ((z1.1 + 1), (z1.2 + 1)) else rec2 (z1.1, (z1.2 + 1))))))))) FU (0, 0)
set_option maxHeartbeats 4000000 in
set_option maxRecDepth 100000 in
theorem c_X9_rings {G : GW} (hG : Good G) {l : Launch} (σ : ST)  : Ctr G l yX9_rings cX9_rings 3 (some .int) 6 [.ref (ga G 130 0)] σ (oI σ) (Rp_rings σ ) := by
  refine ctr_of hG (by decide) (Nat.le_of_ble_eq_true rfl) ?_
  intro X hXl hR hX
  have hX : Ok G X cX9_rings 3 RX9 6 := hX
  unfold Rp_rings
  show Sim G X 3 (MQX G X (oI σ)) σ 0 [(0, .ref (ga G 130 0))] [] _
  refine s_iconst (v := 0) (n := 1) hX (dec_of D_X9_rings (i := 0) rfl) rfl (by decide) ?_
  refine s_istore_n (lv' := [(0, _), (1, _)]) [1, 0] (n := 2) hX (dec_of D_X9_rings (i := 1) rfl) rfl rfl (by decide) rfl ?_
  refine s_iconst (v := 0) (n := 3) hX (dec_of D_X9_rings (i := 2) rfl) rfl (by decide) ?_
  refine s_istore_n (lv' := [(0, _), (1, _), (2, _)]) [1, 2, 0] (n := 4) hX (dec_of D_X9_rings (i := 3) rfl) rfl rfl (by decide) rfl ?_
  refine s_sub [0, 1, 2] rfl (s_lp (pc := 4) (Sf := fun (z1 : Int32 × Int32) => σ) (lvf := fun (z1 : Int32 × Int32) => [(0, .ref (ga G 130 0)), (1, .int z1.1), (2, .int z1.2)]) (fun rec2 hre3 z1 => ?_) FU (0, 0))
  refine s_iload_n 2 (n := 5) hX (dec_of D_X9_rings (i := 4) rfl) rfl rfl rfl ?_
  refine s_aload_n 0 (n := 6) hX (dec_of D_X9_rings (i := 5) rfl) rfl rfl rfl ?_
  refine s_getQ (c := 9) (p := 7) (j := 0) (n := 9) hX cls9 (vk130 (by omega)) (dec_of D_X9_rings (i := 6) rfl) rfl rfl wd_448 (fun rr4 hrr4 => ?_)
  refine s_getI (c := 5) (p := 9) (id := 529) (n := 12) hX cls5 (vk126 (by omega)) (dec_of D_X9_rings (i := 7) rfl) rfl rfl wd_392 ?_
  refine s_icmp_ge (tgt := 46) (n := 15) hX (dec_of D_X9_rings (i := 8) rfl) rfl rfl ?_ ?_
  · refine s_iload_n 1 (n := 47) hX (dec_of D_X9_rings (i := 22) rfl) rfl rfl rfl ?_
    exact s_iret hX hR (dec_of D_X9_rings (i := 23) rfl) rfl
  · refine s_aload_n 0 (n := 16) hX (dec_of D_X9_rings (i := 9) rfl) rfl rfl rfl ?_
    refine s_getC (c := 9) (p := 1) (n := 19) 121 0 hX cls9 (vk130 (by omega)) (dec_of D_X9_rings (i := 10) rfl) rfl rfl (by decide) wd_442 ?_
    refine s_getR (c := 0) (p := 0) (k' := 129) (n := 22) hX cls0 (vk121 (by omega)) (dec_of D_X9_rings (i := 11) rfl) rfl rfl wd_219 ?_
    refine s_aload_n 0 (n := 23) hX (dec_of D_X9_rings (i := 12) rfl) rfl rfl rfl ?_
    refine s_getQ (c := 9) (p := 7) (j := 0) (n := 26) hX cls9 (vk130 (by omega)) (dec_of D_X9_rings (i := 13) rfl) rfl rfl wd_448 (fun rr5 hrr5 => ?_)
    refine s_iload_n 2 (n := 27) hX (dec_of D_X9_rings (i := 14) rfl) rfl rfl rfl ?_
    refine s_callVI (c := 8) (n := 30) hX cls8 (vk129 (by omega)) lk_RX9_261 (dec_of D_X9_rings (i := 15) rfl) rfl (by decide) (c_X8_ringBits (l := _) hG _ _ (by omega) _ (by omega) _) rfl rfl (Nat.le_of_ble_eq_true rfl) (fun q6 => ?_)
    refine s_callSI (n := 33) hX lk_RX9_264 (dec_of D_X9_rings (i := 16) rfl) rfl (by decide) (c_J6_numberOfTrailingZeros_0f7a4 (l := _) hG _ _) rfl rfl (Nat.le_of_ble_eq_true rfl) (fun q7 => ?_)
    refine s_iload_n 2 (n := 34) hX (dec_of D_X9_rings (i := 17) rfl) rfl rfl rfl ?_
    refine s_icmp_ne (tgt := 40) (n := 37) hX (dec_of D_X9_rings (i := 18) rfl) rfl rfl ?_ ?_
    · refine s_iinc (v := z1.2 + 1) (lv' := [(0, _), (1, _), (2, _)]) 2 [1, 2, 0] (n := 43) hX (dec_of D_X9_rings (i := 20) rfl) rfl rfl rfl (by decide) rfl ?_
      refine s_goto (n := 4) hX (dec_of D_X9_rings (i := 21) rfl) rfl ?_
      exact s_sub [0, 1, 2] rfl (hre3 (z1.1, (z1.2 + 1)))
    · refine s_iinc (v := z1.1 + 1) (lv' := [(0, _), (1, _), (2, _)]) 1 [1, 0, 2] (n := 40) hX (dec_of D_X9_rings (i := 19) rfl) rfl rfl rfl (by decide) rfl ?_
      refine s_iinc (v := z1.2 + 1) (lv' := [(0, _), (1, _), (2, _)]) 2 [1, 2, 0] (n := 43) hX (dec_of D_X9_rings (i := 20) rfl) rfl rfl rfl (by decide) rfl ?_
      refine s_goto (n := 4) hX (dec_of D_X9_rings (i := 21) rfl) rfl ?_
      exact s_sub [0, 1, 2] rfl (hre3 ((z1.1 + 1), (z1.2 + 1)))
def T_X9_areTerms : List (Nat × Instr × Nat) := [(0, .iload_n 0, 1), (1, .ifCond .lt 22, 3), (4, .iload_n 0, 1), (5, .iconst 2, 1), (6, .if_icmp .gt 17, 3), (9, .iload_n 1, 1), (10, .iconst 1, 1), (11, .if_icmp .lt 12, 3), (14, .iload_n 1, 1), (15, .iconst 3, 1), (16, .if_icmp .gt 7, 3), (19, .iconst 1, 1), (20, .goto 4, 3), (23, .iconst 0, 1), (24, .ireturn, 1)]
theorem D_X9_areTerms : dchk cX9_areTerms T_X9_areTerms = true := by decide +kernel
def Rp_areTerms (σ : ST) (a0 : Int32) (a1 : Int32) : Option Int32 :=
  (if a0 < 0 then some 0 else (if 2 < a0 then some 0 else (if a1 < 1 then some 0 else (if 3 < a1 then some 0 else some 1))))
set_option maxHeartbeats 4000000 in
set_option maxRecDepth 100000 in
theorem c_X9_areTerms {G : GW} (hG : Good G) {l : Launch} (σ : ST) (a0 : Int32) (a1 : Int32) : Ctr G l yX9_areTerms cX9_areTerms 2 (some .boolean) 0 [.int a0, .int a1] σ (oI σ) (Rp_areTerms σ a0 a1) := by
  refine ctr_of hG (by decide) (Nat.le_of_ble_eq_true rfl) ?_
  intro X hXl hR hX
  have hX : Ok G X cX9_areTerms 2 RX9 0 := hX
  unfold Rp_areTerms
  show Sim G X 2 (MQX G X (oI σ)) σ 0 [(0, .int a0), (1, .int a1)] [] _
  refine s_iload_n 0 (n := 1) hX (dec_of D_X9_areTerms (i := 0) rfl) rfl rfl rfl ?_
  refine s_if_lt (tgt := 23) (n := 4) hX (dec_of D_X9_areTerms (i := 1) rfl) rfl rfl ?_ ?_
  · refine s_iconst (v := 0) (n := 24) hX (dec_of D_X9_areTerms (i := 13) rfl) rfl (by decide) ?_
    exact s_zret hX hR (dec_of D_X9_areTerms (i := 14) rfl) rfl rfl
  · refine s_iload_n 0 (n := 5) hX (dec_of D_X9_areTerms (i := 2) rfl) rfl rfl rfl ?_
    refine s_iconst (v := 2) (n := 6) hX (dec_of D_X9_areTerms (i := 3) rfl) rfl (by decide) ?_
    refine s_icmp_gt (tgt := 23) (n := 9) hX (dec_of D_X9_areTerms (i := 4) rfl) rfl rfl ?_ ?_
    · refine s_iconst (v := 0) (n := 24) hX (dec_of D_X9_areTerms (i := 13) rfl) rfl (by decide) ?_
      exact s_zret hX hR (dec_of D_X9_areTerms (i := 14) rfl) rfl rfl
    · refine s_iload_n 1 (n := 10) hX (dec_of D_X9_areTerms (i := 5) rfl) rfl rfl rfl ?_
      refine s_iconst (v := 1) (n := 11) hX (dec_of D_X9_areTerms (i := 6) rfl) rfl (by decide) ?_
      refine s_icmp_lt (tgt := 23) (n := 14) hX (dec_of D_X9_areTerms (i := 7) rfl) rfl rfl ?_ ?_
      · refine s_iconst (v := 0) (n := 24) hX (dec_of D_X9_areTerms (i := 13) rfl) rfl (by decide) ?_
        exact s_zret hX hR (dec_of D_X9_areTerms (i := 14) rfl) rfl rfl
      · refine s_iload_n 1 (n := 15) hX (dec_of D_X9_areTerms (i := 8) rfl) rfl rfl rfl ?_
        refine s_iconst (v := 3) (n := 16) hX (dec_of D_X9_areTerms (i := 9) rfl) rfl (by decide) ?_
        refine s_icmp_gt (tgt := 23) (n := 19) hX (dec_of D_X9_areTerms (i := 10) rfl) rfl rfl ?_ ?_
        · refine s_iconst (v := 0) (n := 24) hX (dec_of D_X9_areTerms (i := 13) rfl) rfl (by decide) ?_
          exact s_zret hX hR (dec_of D_X9_areTerms (i := 14) rfl) rfl rfl
        · refine s_iconst (v := 1) (n := 20) hX (dec_of D_X9_areTerms (i := 11) rfl) rfl (by decide) ?_
          refine s_goto (n := 24) hX (dec_of D_X9_areTerms (i := 12) rfl) rfl ?_
          exact s_zret hX hR (dec_of D_X9_areTerms (i := 14) rfl) rfl rfl
theorem lk_RX9_267 : LkS RX9 267 yX9_areTerms cX9_areTerms 2 (some .boolean) 2 := ⟨wd_809, wd_810, wd_83, wd_811, by decide +kernel, by decide⟩
theorem lk_RX9_270 : LkV RX9 270 RX8 yX8_copyFrom cX8_copyFrom 2 none 1 := ⟨wd_812, wd_813, wd_814, wd_87, wd_815, by decide +kernel, by decide⟩
theorem lk_RX9_274 : LkV RX9 274 RX8 yX8_setTerms cX8_setTerms 4 none 3 := ⟨wd_816, wd_817, wd_818, wd_87, wd_819, by decide +kernel, by decide⟩
def T_X9_pairs : List (Nat × Instr × Nat) := [(0, .iload_n 1, 1), (1, .iconst 2, 1), (2, .invokestatic 207, 3), (5, .ifCond .eq 20, 3), (8, .aload_n 0, 1), (9, .iload_n 2, 1), (10, .invokevirtual 102, 3), (13, .ifCond .eq 12, 3), (16, .iload_n 3, 1), (17, .iload 4, 2), (19, .invokestatic 267, 3), (22, .ifCond .ne 5, 3), (25, .iconst (-1), 1), (26, .ireturn, 1), (27, .aload_n 0, 1), (28, .getfield 33, 3), (31, .aload_n 0, 1), (32, .getfield 19, 3), (35, .getfield 113, 3), (38, .invokevirtual 270, 3), (41, .aload_n 0, 1), (42, .getfield 33, 3), (45, .iload_n 2, 1), (46, .iload_n 3, 1), (47, .iload 4, 2), (49, .invokevirtual 274, 3), (52, .iconst 0, 1), (53, .istore 5, 2), (55, .iconst 0, 1), (56, .istore 6, 2), (58, .iload 6, 2), (60, .aload_n 0, 1), (61, .getfield 61, 3), (64, .getfield 229, 3), (67, .if_icmp .ge 49, 3), (70, .iload 5, 2), (72, .aload_n 0, 1), (73, .getfield 33, 3), (76, .aload_n 0, 1), (77, .getfield 61, 3), (80, .iload 6, 2), (82, .iload_n 1, 1), (83, .invokevirtual 168, 3), (86, .aload_n 0, 1), (87, .getfield 33, 3), (90, .iload 6, 2), (92, .iload 6, 2), (94, .iload_n 1, 1), (95, .invokevirtual 251, 3), (98, .ifCond .eq 7, 3), (101, .iconst 1, 1), (102, .goto 4, 3), (105, .iconst 0, 1), (106, .isub, 1), (107, .iadd, 1), (108, .istore 5, 2), (110, .iinc 6 1, 3), (113, .goto (-55), 3), (116, .iload 5, 2), (118, .ireturn, 1)]
theorem D_X9_pairs : dchk cX9_pairs T_X9_pairs = true := by decide +kernel
def Rp_pairs (σ : ST) (a1 : Int32) (a2 : Int32) (a3 : Int32) (a4 : Int32) : Option (Int32 × ST) :=
  bd_ (Rp_isChoice (σ) a1 2) (fun q1 => (if q1 = 0 then some ((-1), σ) else bd_ (Rp_isLand (σ) a2) (fun q2 => (if q2 = 0 then some ((-1), σ) else bd_ (Rp_areTerms (σ) a3 a4) (fun q3 => (if q3 = 0 then some ((-1), σ) else bd_ (Wo_copyFrom (σ) 13 0) (fun q4 => bd_ (Wo_setTerms q4 13 a2 a3 a4) (fun q5 => lp_ (fun rec7 (z6 : Int32 × Int32) => bd_ (ldQ q5 0) (fun rr9 => (if (gF q5 529 rr9) ≤ z6.2 then some (z6.1, q5) else bd_ (ldQ q5 0) (fun rr10 => bd_ (Wo_payers q5 13 rr10 z6.2 a1) (fun q11 => bd_ (Wo_payable q5 13 z6.2 z6.2 a1) (fun q12 => (if q12 = 0 then lt_ ((z6.1 + (q11 - 0))) (fun x13 => rec7 (x13, (z6.2 + 1))) else lt_ ((z6.1 + (q11 - 1))) (fun x14 => rec7 (x14, (z6.2 + 1)))))))))) FU (0, 0)))))))))
set_option maxHeartbeats 4000000 in
set_option maxRecDepth 100000 in
theorem c_X9_pairs {G : GW} (hG : Good G) {l : Launch} (σ : ST) (a1 : Int32) (a2 : Int32) (a3 : Int32) (a4 : Int32) : Ctr G l yX9_pairs cX9_pairs 7 (some .int) 3 [.ref (ga G 130 0), .int a1, .int a2, .int a3, .int a4] σ oP (Rp_pairs σ a1 a2 a3 a4) := by
  refine ctr_of hG (by decide) (Nat.le_of_ble_eq_true rfl) ?_
  intro X hXl hR hX
  have hX : Ok G X cX9_pairs 7 RX9 3 := hX
  unfold Rp_pairs
  show Sim G X 7 (MQX G X oP) σ 0 [(0, .ref (ga G 130 0)), (1, .int a1), (2, .int a2), (3, .int a3), (4, .int a4)] [] _
  refine s_iload_n 1 (n := 1) hX (dec_of D_X9_pairs (i := 0) rfl) rfl rfl rfl ?_
  refine s_iconst (v := 2) (n := 2) hX (dec_of D_X9_pairs (i := 1) rfl) rfl (by decide) ?_
  refine s_callSI (n := 5) hX lk_RX9_207 (dec_of D_X9_pairs (i := 2) rfl) rfl (by decide) (c_X9_isChoice (l := _) hG _ _ _) rfl rfl (Nat.le_of_ble_eq_true rfl) (fun q1 => ?_)
  refine s_if_eq (tgt := 25) (n := 8) hX (dec_of D_X9_pairs (i := 3) rfl) rfl rfl ?_ ?_
  · refine s_iconst (v := (-1)) (n := 26) hX (dec_of D_X9_pairs (i := 12) rfl) rfl (by decide) ?_
    exact s_iret hX hR (dec_of D_X9_pairs (i := 13) rfl) rfl
  · refine s_aload_n 0 (n := 9) hX (dec_of D_X9_pairs (i := 4) rfl) rfl rfl rfl ?_
    refine s_iload_n 2 (n := 10) hX (dec_of D_X9_pairs (i := 5) rfl) rfl rfl rfl ?_
    refine s_callVI (c := 9) (n := 13) hX cls9 (vk130 (by omega)) lk_RX9_102 (dec_of D_X9_pairs (i := 6) rfl) rfl (by decide) (c_X9_isLand (l := _) hG _ _) rfl rfl (Nat.le_of_ble_eq_true rfl) (fun q2 => ?_)
    refine s_if_eq (tgt := 25) (n := 16) hX (dec_of D_X9_pairs (i := 7) rfl) rfl rfl ?_ ?_
    · refine s_iconst (v := (-1)) (n := 26) hX (dec_of D_X9_pairs (i := 12) rfl) rfl (by decide) ?_
      exact s_iret hX hR (dec_of D_X9_pairs (i := 13) rfl) rfl
    · refine s_iload_n 3 (n := 17) hX (dec_of D_X9_pairs (i := 8) rfl) rfl rfl rfl ?_
      refine s_iload 4 (n := 19) hX (dec_of D_X9_pairs (i := 9) rfl) rfl rfl ?_
      refine s_callSI (n := 22) hX lk_RX9_267 (dec_of D_X9_pairs (i := 10) rfl) rfl (by decide) (c_X9_areTerms (l := _) hG _ _ _) rfl rfl (Nat.le_of_ble_eq_true rfl) (fun q3 => ?_)
      refine s_if_ne (tgt := 27) (n := 25) hX (dec_of D_X9_pairs (i := 11) rfl) rfl rfl ?_ ?_
      · refine s_aload_n 0 (n := 28) hX (dec_of D_X9_pairs (i := 14) rfl) rfl rfl rfl ?_
        refine s_getC (c := 9) (p := 3) (n := 31) 129 13 hX cls9 (vk130 (by omega)) (dec_of D_X9_pairs (i := 15) rfl) rfl rfl (by decide) wd_444 ?_
        refine s_aload_n 0 (n := 32) hX (dec_of D_X9_pairs (i := 16) rfl) rfl rfl rfl ?_
        refine s_getC (c := 9) (p := 1) (n := 35) 121 0 hX cls9 (vk130 (by omega)) (dec_of D_X9_pairs (i := 17) rfl) rfl rfl (by decide) wd_442 ?_
        refine s_getR (c := 0) (p := 0) (k' := 129) (n := 38) hX cls0 (vk121 (by omega)) (dec_of D_X9_pairs (i := 18) rfl) rfl rfl wd_219 ?_
        refine s_callVV (c := 8) (n := 41) hX cls8 (vk129 (by omega)) lk_RX9_270 (dec_of D_X9_pairs (i := 19) rfl) rfl (by decide) (c_X8_copyFrom (l := _) hG _ _ (by omega) _ (by omega)) rfl rfl (Nat.le_of_ble_eq_true rfl) (fun q4 => ?_)
        refine s_aload_n 0 (n := 42) hX (dec_of D_X9_pairs (i := 20) rfl) rfl rfl rfl ?_
        refine s_getC (c := 9) (p := 3) (n := 45) 129 13 hX cls9 (vk130 (by omega)) (dec_of D_X9_pairs (i := 21) rfl) rfl rfl (by decide) wd_444 ?_
        refine s_iload_n 2 (n := 46) hX (dec_of D_X9_pairs (i := 22) rfl) rfl rfl rfl ?_
        refine s_iload_n 3 (n := 47) hX (dec_of D_X9_pairs (i := 23) rfl) rfl rfl rfl ?_
        refine s_iload 4 (n := 49) hX (dec_of D_X9_pairs (i := 24) rfl) rfl rfl ?_
        refine s_callVV (c := 8) (n := 52) hX cls8 (vk129 (by omega)) lk_RX9_274 (dec_of D_X9_pairs (i := 25) rfl) rfl (by decide) (c_X8_setTerms (l := _) hG _ _ (by omega) _ _ _) rfl rfl (Nat.le_of_ble_eq_true rfl) (fun q5 => ?_)
        refine s_iconst (v := 0) (n := 53) hX (dec_of D_X9_pairs (i := 26) rfl) rfl (by decide) ?_
        refine s_istore (lv' := [(0, _), (1, _), (2, _), (3, _), (4, _), (5, _)]) [1, 2, 3, 4, 5, 0] (n := 55) hX (dec_of D_X9_pairs (i := 27) rfl) rfl (by decide) rfl ?_
        refine s_iconst (v := 0) (n := 56) hX (dec_of D_X9_pairs (i := 28) rfl) rfl (by decide) ?_
        refine s_istore (lv' := [(0, _), (1, _), (2, _), (3, _), (4, _), (5, _), (6, _)]) [1, 2, 3, 4, 5, 6, 0] (n := 58) hX (dec_of D_X9_pairs (i := 29) rfl) rfl (by decide) rfl ?_
        refine s_sub [0, 1, 5, 6] rfl (s_lp (pc := 58) (Sf := fun (z6 : Int32 × Int32) => q5) (lvf := fun (z6 : Int32 × Int32) => [(0, .ref (ga G 130 0)), (1, .int a1), (5, .int z6.1), (6, .int z6.2)]) (fun rec7 hre8 z6 => ?_) FU (0, 0))
        refine s_iload 3 (n := 60) hX (dec_of D_X9_pairs (i := 30) rfl) rfl rfl ?_
        refine s_aload_n 0 (n := 61) hX (dec_of D_X9_pairs (i := 31) rfl) rfl rfl rfl ?_
        refine s_getQ (c := 9) (p := 7) (j := 0) (n := 64) hX cls9 (vk130 (by omega)) (dec_of D_X9_pairs (i := 32) rfl) rfl rfl wd_448 (fun rr9 hrr9 => ?_)
        refine s_getI (c := 5) (p := 9) (id := 529) (n := 67) hX cls5 (vk126 (by omega)) (dec_of D_X9_pairs (i := 33) rfl) rfl rfl wd_392 ?_
        refine s_icmp_ge (tgt := 116) (n := 70) hX (dec_of D_X9_pairs (i := 34) rfl) rfl rfl ?_ ?_
        · refine s_iload 2 (n := 118) hX (dec_of D_X9_pairs (i := 58) rfl) rfl rfl ?_
          exact s_iret hX hR (dec_of D_X9_pairs (i := 59) rfl) rfl
        · refine s_iload 2 (n := 72) hX (dec_of D_X9_pairs (i := 35) rfl) rfl rfl ?_
          refine s_aload_n 0 (n := 73) hX (dec_of D_X9_pairs (i := 36) rfl) rfl rfl rfl ?_
          refine s_getC (c := 9) (p := 3) (n := 76) 129 13 hX cls9 (vk130 (by omega)) (dec_of D_X9_pairs (i := 37) rfl) rfl rfl (by decide) wd_444 ?_
          refine s_aload_n 0 (n := 77) hX (dec_of D_X9_pairs (i := 38) rfl) rfl rfl rfl ?_
          refine s_getQ (c := 9) (p := 7) (j := 0) (n := 80) hX cls9 (vk130 (by omega)) (dec_of D_X9_pairs (i := 39) rfl) rfl rfl wd_448 (fun rr10 hrr10 => ?_)
          refine s_iload 3 (n := 82) hX (dec_of D_X9_pairs (i := 40) rfl) rfl rfl ?_
          refine s_iload_n 1 (n := 83) hX (dec_of D_X9_pairs (i := 41) rfl) rfl rfl rfl ?_
          refine s_callVI (c := 8) (n := 86) hX cls8 (vk129 (by omega)) lk_RX9_168 (dec_of D_X9_pairs (i := 42) rfl) rfl (by decide) (c_X8_payers (l := _) hG _ _ (by omega) _ (by omega) _ _) rfl rfl (Nat.le_of_ble_eq_true rfl) (fun q11 => ?_)
          refine s_aload_n 0 (n := 87) hX (dec_of D_X9_pairs (i := 43) rfl) rfl rfl rfl ?_
          refine s_getC (c := 9) (p := 3) (n := 90) 129 13 hX cls9 (vk130 (by omega)) (dec_of D_X9_pairs (i := 44) rfl) rfl rfl (by decide) wd_444 ?_
          refine s_iload 3 (n := 92) hX (dec_of D_X9_pairs (i := 45) rfl) rfl rfl ?_
          refine s_iload 3 (n := 94) hX (dec_of D_X9_pairs (i := 46) rfl) rfl rfl ?_
          refine s_iload_n 1 (n := 95) hX (dec_of D_X9_pairs (i := 47) rfl) rfl rfl rfl ?_
          refine s_callVI (c := 8) (n := 98) hX cls8 (vk129 (by omega)) lk_RX9_251 (dec_of D_X9_pairs (i := 48) rfl) rfl (by decide) (c_X8_payable (l := _) hG _ _ (by omega) _ _ _) rfl rfl (Nat.le_of_ble_eq_true rfl) (fun q12 => ?_)
          refine s_if_eq (tgt := 105) (n := 101) hX (dec_of D_X9_pairs (i := 49) rfl) rfl rfl ?_ ?_
          · refine s_iconst (v := 0) (n := 106) hX (dec_of D_X9_pairs (i := 52) rfl) rfl (by decide) ?_
            refine s_isub (n := 107) hX (dec_of D_X9_pairs (i := 53) rfl) rfl ?_
            refine s_iadd (n := 108) hX (dec_of D_X9_pairs (i := 54) rfl) rfl ?_
            refine s_topi (fun x13 => ?_)
            refine s_istore (lv' := [(0, _), (1, _), (5, _), (6, _)]) [1, 2, 0, 3] (n := 110) hX (dec_of D_X9_pairs (i := 55) rfl) rfl (by decide) rfl ?_
            refine s_iinc (v := z6.2 + 1) (lv' := [(0, _), (1, _), (5, _), (6, _)]) 3 [1, 2, 3, 0] (n := 113) hX (dec_of D_X9_pairs (i := 56) rfl) rfl rfl rfl (by decide) rfl ?_
            refine s_goto (n := 58) hX (dec_of D_X9_pairs (i := 57) rfl) rfl ?_
            exact s_sub [0, 1, 2, 3] rfl (hre8 (x13, (z6.2 + 1)))
          · refine s_iconst (v := 1) (n := 102) hX (dec_of D_X9_pairs (i := 50) rfl) rfl (by decide) ?_
            refine s_goto (n := 106) hX (dec_of D_X9_pairs (i := 51) rfl) rfl ?_
            refine s_isub (n := 107) hX (dec_of D_X9_pairs (i := 53) rfl) rfl ?_
            refine s_iadd (n := 108) hX (dec_of D_X9_pairs (i := 54) rfl) rfl ?_
            refine s_topi (fun x14 => ?_)
            refine s_istore (lv' := [(0, _), (1, _), (5, _), (6, _)]) [1, 2, 0, 3] (n := 110) hX (dec_of D_X9_pairs (i := 55) rfl) rfl (by decide) rfl ?_
            refine s_iinc (v := z6.2 + 1) (lv' := [(0, _), (1, _), (5, _), (6, _)]) 3 [1, 2, 3, 0] (n := 113) hX (dec_of D_X9_pairs (i := 56) rfl) rfl rfl rfl (by decide) rfl ?_
            refine s_goto (n := 58) hX (dec_of D_X9_pairs (i := 57) rfl) rfl ?_
            exact s_sub [0, 1, 2, 3] rfl (hre8 (x14, (z6.2 + 1)))
      · refine s_iconst (v := (-1)) (n := 26) hX (dec_of D_X9_pairs (i := 12) rfl) rfl (by decide) ?_
        exact s_iret hX hR (dec_of D_X9_pairs (i := 13) rfl) rfl
theorem lk_RX9_278 : LkV RX9 278 RX3 yX3_think cX3_think 7 none 5 := ⟨wd_824, wd_825, wd_826, wd_89, wd_827, by decide +kernel, by decide⟩
theorem lk_RX9_282 : LkV RX9 282 RX3 yX3_headsPaid cX3_headsPaid 3 (some .int) 0 := ⟨wd_855, wd_856, wd_857, wd_89, wd_858, by decide +kernel, by decide⟩
def T_X9_reached : List (Nat × Instr × Nat) := [(0, .aload_n 0, 1), (1, .iload_n 1, 1), (2, .invokevirtual 102, 3), (5, .ifCond .eq 11, 3), (8, .aload_n 0, 1), (9, .iload_n 2, 1), (10, .invokevirtual 174, 3), (13, .ifCond .ne 5, 3), (16, .iconst (-1), 1), (17, .ireturn, 1), (18, .aload_n 0, 1), (19, .getfield 40, 3), (22, .aload_n 0, 1), (23, .getfield 61, 3), (26, .aload_n 0, 1), (27, .getfield 19, 3), (30, .getfield 113, 3), (33, .iload_n 1, 1), (34, .iload_n 2, 1), (35, .iconst 1, 1), (36, .invokevirtual 278, 3), (39, .aload_n 0, 1), (40, .getfield 40, 3), (43, .invokevirtual 282, 3), (46, .ireturn, 1)]
theorem D_X9_reached : dchk cX9_reached T_X9_reached = true := by decide +kernel
def Rp_reached (σ : ST) (a1 : Int32) (a2 : Int32) : Option (Int32 × ST) :=
  bd_ (Rp_isLand (σ) a1) (fun q1 => (if q1 = 0 then some ((-1), σ) else bd_ (Rp_isSession (σ) a2) (fun q2 => (if q2 = 0 then some ((-1), σ) else bd_ (ldQ σ 0) (fun rr3 => bd_ (Oc_think (σ) 0 rr3 0 a1 a2 1) (fun q4 => bd_ (Oc_headsPaid q4 0) (fun q5 => some (q5, q4))))))))
set_option maxHeartbeats 4000000 in
set_option maxRecDepth 100000 in
theorem c_X9_reached {G : GW} (hG : Good G) {l : Launch} (σ : ST) (a1 : Int32) (a2 : Int32) : Ctr G l yX9_reached cX9_reached 3 (some .int) 4 [.ref (ga G 130 0), .int a1, .int a2] σ oP (Rp_reached σ a1 a2) := by
  refine ctr_of hG (by decide) (Nat.le_of_ble_eq_true rfl) ?_
  intro X hXl hR hX
  have hX : Ok G X cX9_reached 3 RX9 4 := hX
  unfold Rp_reached
  show Sim G X 3 (MQX G X oP) σ 0 [(0, .ref (ga G 130 0)), (1, .int a1), (2, .int a2)] [] _
  refine s_aload_n 0 (n := 1) hX (dec_of D_X9_reached (i := 0) rfl) rfl rfl rfl ?_
  refine s_iload_n 1 (n := 2) hX (dec_of D_X9_reached (i := 1) rfl) rfl rfl rfl ?_
  refine s_callVI (c := 9) (n := 5) hX cls9 (vk130 (by omega)) lk_RX9_102 (dec_of D_X9_reached (i := 2) rfl) rfl (by decide) (c_X9_isLand (l := _) hG _ _) rfl rfl (Nat.le_of_ble_eq_true rfl) (fun q1 => ?_)
  refine s_if_eq (tgt := 16) (n := 8) hX (dec_of D_X9_reached (i := 3) rfl) rfl rfl ?_ ?_
  · refine s_iconst (v := (-1)) (n := 17) hX (dec_of D_X9_reached (i := 8) rfl) rfl (by decide) ?_
    exact s_iret hX hR (dec_of D_X9_reached (i := 9) rfl) rfl
  · refine s_aload_n 0 (n := 9) hX (dec_of D_X9_reached (i := 4) rfl) rfl rfl rfl ?_
    refine s_iload_n 2 (n := 10) hX (dec_of D_X9_reached (i := 5) rfl) rfl rfl rfl ?_
    refine s_callVI (c := 9) (n := 13) hX cls9 (vk130 (by omega)) lk_RX9_174 (dec_of D_X9_reached (i := 6) rfl) rfl (by decide) (c_X9_isSession (l := _) hG _ _) rfl rfl (Nat.le_of_ble_eq_true rfl) (fun q2 => ?_)
    refine s_if_ne (tgt := 18) (n := 16) hX (dec_of D_X9_reached (i := 7) rfl) rfl rfl ?_ ?_
    · refine s_aload_n 0 (n := 19) hX (dec_of D_X9_reached (i := 10) rfl) rfl rfl rfl ?_
      refine s_getC (c := 9) (p := 4) (n := 22) 124 0 hX cls9 (vk130 (by omega)) (dec_of D_X9_reached (i := 11) rfl) rfl rfl (by decide) wd_445 ?_
      refine s_aload_n 0 (n := 23) hX (dec_of D_X9_reached (i := 12) rfl) rfl rfl rfl ?_
      refine s_getQ (c := 9) (p := 7) (j := 0) (n := 26) hX cls9 (vk130 (by omega)) (dec_of D_X9_reached (i := 13) rfl) rfl rfl wd_448 (fun rr3 hrr3 => ?_)
      refine s_aload_n 0 (n := 27) hX (dec_of D_X9_reached (i := 14) rfl) rfl rfl rfl ?_
      refine s_getC (c := 9) (p := 1) (n := 30) 121 0 hX cls9 (vk130 (by omega)) (dec_of D_X9_reached (i := 15) rfl) rfl rfl (by decide) wd_442 ?_
      refine s_getR (c := 0) (p := 0) (k' := 129) (n := 33) hX cls0 (vk121 (by omega)) (dec_of D_X9_reached (i := 16) rfl) rfl rfl wd_219 ?_
      refine s_iload_n 1 (n := 34) hX (dec_of D_X9_reached (i := 17) rfl) rfl rfl rfl ?_
      refine s_iload_n 2 (n := 35) hX (dec_of D_X9_reached (i := 18) rfl) rfl rfl rfl ?_
      refine s_iconst (v := 1) (n := 36) hX (dec_of D_X9_reached (i := 19) rfl) rfl (by decide) ?_
      refine s_callVV (c := 3) (n := 39) hX cls3 (vk124 (by omega)) lk_RX9_278 (dec_of D_X9_reached (i := 20) rfl) rfl (by decide) (c_X3_think (l := _) hG _ _ (by omega) _ (by omega) _ (by omega) _ _ _) rfl rfl (Nat.le_of_ble_eq_true rfl) (fun q4 => ?_)
      refine s_aload_n 0 (n := 40) hX (dec_of D_X9_reached (i := 21) rfl) rfl rfl rfl ?_
      refine s_getC (c := 9) (p := 4) (n := 43) 124 0 hX cls9 (vk130 (by omega)) (dec_of D_X9_reached (i := 22) rfl) rfl rfl (by decide) wd_445 ?_
      refine s_callVI (c := 3) (n := 46) hX cls3 (vk124 (by omega)) lk_RX9_282 (dec_of D_X9_reached (i := 23) rfl) rfl (by decide) (c_X3_headsPaid (l := _) hG _ _ (by omega)) rfl rfl (Nat.le_of_ble_eq_true rfl) (fun q5 => ?_)
      exact s_iret hX hR (dec_of D_X9_reached (i := 24) rfl) rfl
    · refine s_iconst (v := (-1)) (n := 17) hX (dec_of D_X9_reached (i := 8) rfl) rfl (by decide) ?_
      exact s_iret hX hR (dec_of D_X9_reached (i := 9) rfl) rfl
def T_X9_isCopies : List (Nat × Instr × Nat) := [(0, .iload_n 0, 1), (1, .iconst 1, 1), (2, .if_icmp .lt 14, 3), (5, .iload_n 0, 1), (6, .ldc_w 422, 3), (9, .if_icmp .gt 7, 3), (12, .iconst 1, 1), (13, .goto 4, 3), (16, .iconst 0, 1), (17, .ireturn, 1)]
theorem D_X9_isCopies : dchk cX9_isCopies T_X9_isCopies = true := by decide +kernel
def Rp_isCopies (σ : ST) (a0 : Int32) : Option Int32 :=
  (if a0 < 1 then some 0 else (if 99999 < a0 then some 0 else some 1))
set_option maxHeartbeats 4000000 in
set_option maxRecDepth 100000 in
theorem c_X9_isCopies {G : GW} (hG : Good G) {l : Launch} (σ : ST) (a0 : Int32) : Ctr G l yX9_isCopies cX9_isCopies 1 (some .boolean) 0 [.int a0] σ (oI σ) (Rp_isCopies σ a0) := by
  refine ctr_of hG (by decide) (Nat.le_of_ble_eq_true rfl) ?_
  intro X hXl hR hX
  have hX : Ok G X cX9_isCopies 1 RX9 0 := hX
  unfold Rp_isCopies
  show Sim G X 1 (MQX G X (oI σ)) σ 0 [(0, .int a0)] [] _
  refine s_iload_n 0 (n := 1) hX (dec_of D_X9_isCopies (i := 0) rfl) rfl rfl rfl ?_
  refine s_iconst (v := 1) (n := 2) hX (dec_of D_X9_isCopies (i := 1) rfl) rfl (by decide) ?_
  refine s_icmp_lt (tgt := 16) (n := 5) hX (dec_of D_X9_isCopies (i := 2) rfl) rfl rfl ?_ ?_
  · refine s_iconst (v := 0) (n := 17) hX (dec_of D_X9_isCopies (i := 8) rfl) rfl (by decide) ?_
    exact s_zret hX hR (dec_of D_X9_isCopies (i := 9) rfl) rfl rfl
  · refine s_iload_n 0 (n := 6) hX (dec_of D_X9_isCopies (i := 3) rfl) rfl rfl rfl ?_
    refine s_ldcw (v := 99999) (n := 9) hX (dec_of D_X9_isCopies (i := 4) rfl) rfl wd_870 ?_
    refine s_icmp_gt (tgt := 16) (n := 12) hX (dec_of D_X9_isCopies (i := 5) rfl) rfl rfl ?_ ?_
    · refine s_iconst (v := 0) (n := 17) hX (dec_of D_X9_isCopies (i := 8) rfl) rfl (by decide) ?_
      exact s_zret hX hR (dec_of D_X9_isCopies (i := 9) rfl) rfl rfl
    · refine s_iconst (v := 1) (n := 13) hX (dec_of D_X9_isCopies (i := 6) rfl) rfl (by decide) ?_
      refine s_goto (n := 17) hX (dec_of D_X9_isCopies (i := 7) rfl) rfl ?_
      exact s_zret hX hR (dec_of D_X9_isCopies (i := 9) rfl) rfl rfl
theorem lk_RX9_405 : LkS RX9 405 yX9_isCopies cX9_isCopies 1 (some .boolean) 1 := ⟨wd_867, wd_868, wd_83, wd_869, by decide +kernel, by decide⟩
def T_X9_isPlay : List (Nat × Instr × Nat) := [(0, .aload_n 0, 1), (1, .iload_n 1, 1), (2, .invokevirtual 102, 3), (5, .ifCond .eq 22, 3), (8, .aload_n 0, 1), (9, .iload_n 2, 1), (10, .invokevirtual 174, 3), (13, .ifCond .eq 14, 3), (16, .iload_n 3, 1), (17, .invokestatic 405, 3), (20, .ifCond .eq 7, 3), (23, .iconst 1, 1), (24, .goto 4, 3), (27, .iconst 0, 1), (28, .ireturn, 1)]
theorem D_X9_isPlay : dchk cX9_isPlay T_X9_isPlay = true := by decide +kernel
def Rp_isPlay (σ : ST) (a1 : Int32) (a2 : Int32) (a3 : Int32) : Option Int32 :=
  bd_ (Rp_isLand (σ) a1) (fun q1 => (if q1 = 0 then some 0 else bd_ (Rp_isSession (σ) a2) (fun q2 => (if q2 = 0 then some 0 else bd_ (Rp_isCopies (σ) a3) (fun q3 => (if q3 = 0 then some 0 else some 1))))))
set_option maxHeartbeats 4000000 in
set_option maxRecDepth 100000 in
theorem c_X9_isPlay {G : GW} (hG : Good G) {l : Launch} (σ : ST) (a1 : Int32) (a2 : Int32) (a3 : Int32) : Ctr G l yX9_isPlay cX9_isPlay 4 (some .boolean) 1 [.ref (ga G 130 0), .int a1, .int a2, .int a3] σ (oI σ) (Rp_isPlay σ a1 a2 a3) := by
  refine ctr_of hG (by decide) (Nat.le_of_ble_eq_true rfl) ?_
  intro X hXl hR hX
  have hX : Ok G X cX9_isPlay 4 RX9 1 := hX
  unfold Rp_isPlay
  show Sim G X 4 (MQX G X (oI σ)) σ 0 [(0, .ref (ga G 130 0)), (1, .int a1), (2, .int a2), (3, .int a3)] [] _
  refine s_aload_n 0 (n := 1) hX (dec_of D_X9_isPlay (i := 0) rfl) rfl rfl rfl ?_
  refine s_iload_n 1 (n := 2) hX (dec_of D_X9_isPlay (i := 1) rfl) rfl rfl rfl ?_
  refine s_callVI (c := 9) (n := 5) hX cls9 (vk130 (by omega)) lk_RX9_102 (dec_of D_X9_isPlay (i := 2) rfl) rfl (by decide) (c_X9_isLand (l := _) hG _ _) rfl rfl (Nat.le_of_ble_eq_true rfl) (fun q1 => ?_)
  refine s_if_eq (tgt := 27) (n := 8) hX (dec_of D_X9_isPlay (i := 3) rfl) rfl rfl ?_ ?_
  · refine s_iconst (v := 0) (n := 28) hX (dec_of D_X9_isPlay (i := 13) rfl) rfl (by decide) ?_
    exact s_zret hX hR (dec_of D_X9_isPlay (i := 14) rfl) rfl rfl
  · refine s_aload_n 0 (n := 9) hX (dec_of D_X9_isPlay (i := 4) rfl) rfl rfl rfl ?_
    refine s_iload_n 2 (n := 10) hX (dec_of D_X9_isPlay (i := 5) rfl) rfl rfl rfl ?_
    refine s_callVI (c := 9) (n := 13) hX cls9 (vk130 (by omega)) lk_RX9_174 (dec_of D_X9_isPlay (i := 6) rfl) rfl (by decide) (c_X9_isSession (l := _) hG _ _) rfl rfl (Nat.le_of_ble_eq_true rfl) (fun q2 => ?_)
    refine s_if_eq (tgt := 27) (n := 16) hX (dec_of D_X9_isPlay (i := 7) rfl) rfl rfl ?_ ?_
    · refine s_iconst (v := 0) (n := 28) hX (dec_of D_X9_isPlay (i := 13) rfl) rfl (by decide) ?_
      exact s_zret hX hR (dec_of D_X9_isPlay (i := 14) rfl) rfl rfl
    · refine s_iload_n 3 (n := 17) hX (dec_of D_X9_isPlay (i := 8) rfl) rfl rfl rfl ?_
      refine s_callSI (n := 20) hX lk_RX9_405 (dec_of D_X9_isPlay (i := 9) rfl) rfl (by decide) (c_X9_isCopies (l := _) hG _ _) rfl rfl (Nat.le_of_ble_eq_true rfl) (fun q3 => ?_)
      refine s_if_eq (tgt := 27) (n := 23) hX (dec_of D_X9_isPlay (i := 10) rfl) rfl rfl ?_ ?_
      · refine s_iconst (v := 0) (n := 28) hX (dec_of D_X9_isPlay (i := 13) rfl) rfl (by decide) ?_
        exact s_zret hX hR (dec_of D_X9_isPlay (i := 14) rfl) rfl rfl
      · refine s_iconst (v := 1) (n := 24) hX (dec_of D_X9_isPlay (i := 11) rfl) rfl (by decide) ?_
        refine s_goto (n := 28) hX (dec_of D_X9_isPlay (i := 12) rfl) rfl ?_
        exact s_zret hX hR (dec_of D_X9_isPlay (i := 14) rfl) rfl rfl
def T_X9_isTooMuch : List (Nat × Instr × Nat) := [(0, .aload_n 0, 1), (1, .getfield 19, 3), (4, .getfield 129, 3), (7, .iload_n 1, 1), (8, .iaload, 1), (9, .iload_n 2, 1), (10, .aload_n 0, 1), (11, .getfield 61, 3), (14, .getfield 123, 3), (17, .iload_n 1, 1), (18, .iaload, 1), (19, .imul, 1), (20, .iadd, 1), (21, .ldc_w 423, 3), (24, .if_icmp .le 7, 3), (27, .iconst 1, 1), (28, .goto 4, 3), (31, .iconst 0, 1), (32, .ireturn, 1)]
theorem D_X9_isTooMuch : dchk cX9_isTooMuch T_X9_isTooMuch = true := by decide +kernel
def Rp_isTooMuch (σ : ST) (a1 : Int32) (a2 : Int32) : Option Int32 :=
  bd_ (ldI σ 1 0 a1) (fun v1 => bd_ (ldQ σ 0) (fun rr2 => bd_ (ldI σ 13 rr2 a1) (fun v3 => (if (v1 + (a2 * v3)) ≤ 300000000 then some 0 else some 1))))
set_option maxHeartbeats 4000000 in
set_option maxRecDepth 100000 in
theorem c_X9_isTooMuch {G : GW} (hG : Good G) {l : Launch} (σ : ST) (a1 : Int32) (a2 : Int32) : Ctr G l yX9_isTooMuch cX9_isTooMuch 3 (some .boolean) 0 [.ref (ga G 130 0), .int a1, .int a2] σ (oI σ) (Rp_isTooMuch σ a1 a2) := by
  refine ctr_of hG (by decide) (Nat.le_of_ble_eq_true rfl) ?_
  intro X hXl hR hX
  have hX : Ok G X cX9_isTooMuch 3 RX9 0 := hX
  unfold Rp_isTooMuch
  show Sim G X 3 (MQX G X (oI σ)) σ 0 [(0, .ref (ga G 130 0)), (1, .int a1), (2, .int a2)] [] _
  refine s_aload_n 0 (n := 1) hX (dec_of D_X9_isTooMuch (i := 0) rfl) rfl rfl rfl ?_
  refine s_getC (c := 9) (p := 1) (n := 4) 121 0 hX cls9 (vk130 (by omega)) (dec_of D_X9_isTooMuch (i := 1) rfl) rfl rfl (by decide) wd_442 ?_
  refine s_getR (c := 0) (p := 2) (k' := 1) (n := 7) hX cls0 (vk121 (by omega)) (dec_of D_X9_isTooMuch (i := 2) rfl) rfl rfl wd_224 ?_
  refine s_iload_n 1 (n := 8) hX (dec_of D_X9_isTooMuch (i := 3) rfl) rfl rfl rfl ?_
  refine s_iald (n := 9) hX (vk1 (by omega)) (by decide) (dec_of D_X9_isTooMuch (i := 4) rfl) rfl (fun v1 => ?_)
  refine s_iload_n 2 (n := 10) hX (dec_of D_X9_isTooMuch (i := 5) rfl) rfl rfl rfl ?_
  refine s_aload_n 0 (n := 11) hX (dec_of D_X9_isTooMuch (i := 6) rfl) rfl rfl rfl ?_
  refine s_getQ (c := 9) (p := 7) (j := 0) (n := 14) hX cls9 (vk130 (by omega)) (dec_of D_X9_isTooMuch (i := 7) rfl) rfl rfl wd_448 (fun rr2 hrr2 => ?_)
  refine s_getR (c := 5) (p := 0) (k' := 13) (n := 17) hX cls5 (vk126 (by omega)) (dec_of D_X9_isTooMuch (i := 8) rfl) rfl rfl wd_357 ?_
  refine s_iload_n 1 (n := 18) hX (dec_of D_X9_isTooMuch (i := 9) rfl) rfl rfl rfl ?_
  refine s_iald (n := 19) hX (vk13 (by omega)) (by decide) (dec_of D_X9_isTooMuch (i := 10) rfl) rfl (fun v3 => ?_)
  refine s_imul (n := 20) hX (dec_of D_X9_isTooMuch (i := 11) rfl) rfl ?_
  refine s_iadd (n := 21) hX (dec_of D_X9_isTooMuch (i := 12) rfl) rfl ?_
  refine s_ldcw (v := 300000000) (n := 24) hX (dec_of D_X9_isTooMuch (i := 13) rfl) rfl wd_875 ?_
  refine s_icmp_le (tgt := 31) (n := 27) hX (dec_of D_X9_isTooMuch (i := 14) rfl) rfl rfl ?_ ?_
  · refine s_iconst (v := 0) (n := 32) hX (dec_of D_X9_isTooMuch (i := 17) rfl) rfl (by decide) ?_
    exact s_zret hX hR (dec_of D_X9_isTooMuch (i := 18) rfl) rfl rfl
  · refine s_iconst (v := 1) (n := 28) hX (dec_of D_X9_isTooMuch (i := 15) rfl) rfl (by decide) ?_
    refine s_goto (n := 32) hX (dec_of D_X9_isTooMuch (i := 16) rfl) rfl ?_
    exact s_zret hX hR (dec_of D_X9_isTooMuch (i := 18) rfl) rfl rfl
theorem lk_RX9_286 : LkV RX9 286 RX9 yX9_isPlay cX9_isPlay 4 (some .boolean) 3 := ⟨wd_863, wd_865, wd_4, wd_83, wd_866, by decide +kernel, by decide⟩
theorem lk_RX9_289 : LkV RX9 289 RX9 yX9_isTooMuch cX9_isTooMuch 3 (some .boolean) 2 := ⟨wd_871, wd_873, wd_5, wd_83, wd_874, by decide +kernel, by decide⟩
theorem lk_RX9_292 : LkV RX9 292 RX2 yX2_remember cX2_remember 2 none 1 := ⟨wd_876, wd_877, wd_878, wd_88, wd_879, by decide +kernel, by decide⟩
theorem lk_RX9_296 : LkV RX9 296 RX0 yX0_enterPlay cX0_enterPlay 7 none 5 := ⟨wd_887, wd_888, wd_889, wd_86, wd_890, by decide +kernel, by decide⟩
def T_X9_play : List (Nat × Instr × Nat) := [(0, .aload_n 0, 1), (1, .iload_n 1, 1), (2, .iload_n 2, 1), (3, .iload_n 3, 1), (4, .invokevirtual 286, 3), (7, .ifCond .ne 5, 3), (10, .iconst (-1), 1), (11, .ireturn, 1), (12, .aload_n 0, 1), (13, .iload_n 1, 1), (14, .iload_n 3, 1), (15, .invokevirtual 289, 3), (18, .ifCond .eq 6, 3), (21, .bipush (-2), 2), (23, .ireturn, 1), (24, .aload_n 0, 1), (25, .getfield 26, 3), (28, .aload_n 0, 1), (29, .getfield 19, 3), (32, .invokevirtual 292, 3), (35, .aload_n 0, 1), (36, .getfield 40, 3), (39, .aload_n 0, 1), (40, .getfield 61, 3), (43, .aload_n 0, 1), (44, .getfield 19, 3), (47, .getfield 113, 3), (50, .iload_n 1, 1), (51, .iload_n 2, 1), (52, .iload_n 3, 1), (53, .invokevirtual 278, 3), (56, .aload_n 0, 1), (57, .getfield 19, 3), (60, .aload_n 0, 1), (61, .getfield 61, 3), (64, .aload_n 0, 1), (65, .getfield 40, 3), (68, .iload_n 1, 1), (69, .iload_n 2, 1), (70, .iload_n 3, 1), (71, .invokevirtual 296, 3), (74, .aload_n 0, 1), (75, .getfield 40, 3), (78, .getfield 300, 3), (81, .iconst 0, 1), (82, .iaload, 1), (83, .ireturn, 1)]
theorem D_X9_play : dchk cX9_play T_X9_play = true := by decide +kernel
def Rp_play (σ : ST) (a1 : Int32) (a2 : Int32) (a3 : Int32) : Option (Int32 × ST) :=
  bd_ (Rp_isPlay (σ) a1 a2 a3) (fun q1 => (if q1 = 0 then some ((-1), σ) else bd_ (Rp_isTooMuch (σ) a1 a3) (fun q2 => (if q2 = 0 then bd_ (Hi_remember (σ) 0) (fun q3 => bd_ (ldQ q3 0) (fun rr4 => bd_ (Oc_think q3 0 rr4 0 a1 a2 a3) (fun q5 => bd_ (ldQ q5 0) (fun rr6 => bd_ (Bk_enterPlay q5 0 rr6 0 a1 a2 a3) (fun q7 => bd_ (ldI q7 12 0 0) (fun v8 => some (v8, q7))))))) else some ((-2), σ)))))
set_option maxHeartbeats 4000000 in
set_option maxRecDepth 100000 in
theorem c_X9_play {G : GW} (hG : Good G) {l : Launch} (σ : ST) (a1 : Int32) (a2 : Int32) (a3 : Int32) : Ctr G l yX9_play cX9_play 4 (some .int) 4 [.ref (ga G 130 0), .int a1, .int a2, .int a3] σ oP (Rp_play σ a1 a2 a3) := by
  refine ctr_of hG (by decide) (Nat.le_of_ble_eq_true rfl) ?_
  intro X hXl hR hX
  have hX : Ok G X cX9_play 4 RX9 4 := hX
  unfold Rp_play
  show Sim G X 4 (MQX G X oP) σ 0 [(0, .ref (ga G 130 0)), (1, .int a1), (2, .int a2), (3, .int a3)] [] _
  refine s_aload_n 0 (n := 1) hX (dec_of D_X9_play (i := 0) rfl) rfl rfl rfl ?_
  refine s_iload_n 1 (n := 2) hX (dec_of D_X9_play (i := 1) rfl) rfl rfl rfl ?_
  refine s_iload_n 2 (n := 3) hX (dec_of D_X9_play (i := 2) rfl) rfl rfl rfl ?_
  refine s_iload_n 3 (n := 4) hX (dec_of D_X9_play (i := 3) rfl) rfl rfl rfl ?_
  refine s_callVI (c := 9) (n := 7) hX cls9 (vk130 (by omega)) lk_RX9_286 (dec_of D_X9_play (i := 4) rfl) rfl (by decide) (c_X9_isPlay (l := _) hG _ _ _ _) rfl rfl (Nat.le_of_ble_eq_true rfl) (fun q1 => ?_)
  refine s_if_ne (tgt := 12) (n := 10) hX (dec_of D_X9_play (i := 5) rfl) rfl rfl ?_ ?_
  · refine s_aload_n 0 (n := 13) hX (dec_of D_X9_play (i := 8) rfl) rfl rfl rfl ?_
    refine s_iload_n 1 (n := 14) hX (dec_of D_X9_play (i := 9) rfl) rfl rfl rfl ?_
    refine s_iload_n 3 (n := 15) hX (dec_of D_X9_play (i := 10) rfl) rfl rfl rfl ?_
    refine s_callVI (c := 9) (n := 18) hX cls9 (vk130 (by omega)) lk_RX9_289 (dec_of D_X9_play (i := 11) rfl) rfl (by decide) (c_X9_isTooMuch (l := _) hG _ _ _) rfl rfl (Nat.le_of_ble_eq_true rfl) (fun q2 => ?_)
    refine s_if_eq (tgt := 24) (n := 21) hX (dec_of D_X9_play (i := 12) rfl) rfl rfl ?_ ?_
    · refine s_aload_n 0 (n := 25) hX (dec_of D_X9_play (i := 15) rfl) rfl rfl rfl ?_
      refine s_getC (c := 9) (p := 2) (n := 28) 123 0 hX cls9 (vk130 (by omega)) (dec_of D_X9_play (i := 16) rfl) rfl rfl (by decide) wd_443 ?_
      refine s_aload_n 0 (n := 29) hX (dec_of D_X9_play (i := 17) rfl) rfl rfl rfl ?_
      refine s_getC (c := 9) (p := 1) (n := 32) 121 0 hX cls9 (vk130 (by omega)) (dec_of D_X9_play (i := 18) rfl) rfl rfl (by decide) wd_442 ?_
      refine s_callVV (c := 2) (n := 35) hX cls2 (vk123 (by omega)) lk_RX9_292 (dec_of D_X9_play (i := 19) rfl) rfl (by decide) (c_X2_remember (l := _) hG _ _ (by omega)) rfl rfl (Nat.le_of_ble_eq_true rfl) (fun q3 => ?_)
      refine s_aload_n 0 (n := 36) hX (dec_of D_X9_play (i := 20) rfl) rfl rfl rfl ?_
      refine s_getC (c := 9) (p := 4) (n := 39) 124 0 hX cls9 (vk130 (by omega)) (dec_of D_X9_play (i := 21) rfl) rfl rfl (by decide) wd_445 ?_
      refine s_aload_n 0 (n := 40) hX (dec_of D_X9_play (i := 22) rfl) rfl rfl rfl ?_
      refine s_getQ (c := 9) (p := 7) (j := 0) (n := 43) hX cls9 (vk130 (by omega)) (dec_of D_X9_play (i := 23) rfl) rfl rfl wd_448 (fun rr4 hrr4 => ?_)
      refine s_aload_n 0 (n := 44) hX (dec_of D_X9_play (i := 24) rfl) rfl rfl rfl ?_
      refine s_getC (c := 9) (p := 1) (n := 47) 121 0 hX cls9 (vk130 (by omega)) (dec_of D_X9_play (i := 25) rfl) rfl rfl (by decide) wd_442 ?_
      refine s_getR (c := 0) (p := 0) (k' := 129) (n := 50) hX cls0 (vk121 (by omega)) (dec_of D_X9_play (i := 26) rfl) rfl rfl wd_219 ?_
      refine s_iload_n 1 (n := 51) hX (dec_of D_X9_play (i := 27) rfl) rfl rfl rfl ?_
      refine s_iload_n 2 (n := 52) hX (dec_of D_X9_play (i := 28) rfl) rfl rfl rfl ?_
      refine s_iload_n 3 (n := 53) hX (dec_of D_X9_play (i := 29) rfl) rfl rfl rfl ?_
      refine s_callVV (c := 3) (n := 56) hX cls3 (vk124 (by omega)) lk_RX9_278 (dec_of D_X9_play (i := 30) rfl) rfl (by decide) (c_X3_think (l := _) hG _ _ (by omega) _ (by omega) _ (by omega) _ _ _) rfl rfl (Nat.le_of_ble_eq_true rfl) (fun q5 => ?_)
      refine s_aload_n 0 (n := 57) hX (dec_of D_X9_play (i := 31) rfl) rfl rfl rfl ?_
      refine s_getC (c := 9) (p := 1) (n := 60) 121 0 hX cls9 (vk130 (by omega)) (dec_of D_X9_play (i := 32) rfl) rfl rfl (by decide) wd_442 ?_
      refine s_aload_n 0 (n := 61) hX (dec_of D_X9_play (i := 33) rfl) rfl rfl rfl ?_
      refine s_getQ (c := 9) (p := 7) (j := 0) (n := 64) hX cls9 (vk130 (by omega)) (dec_of D_X9_play (i := 34) rfl) rfl rfl wd_448 (fun rr6 hrr6 => ?_)
      refine s_aload_n 0 (n := 65) hX (dec_of D_X9_play (i := 35) rfl) rfl rfl rfl ?_
      refine s_getC (c := 9) (p := 4) (n := 68) 124 0 hX cls9 (vk130 (by omega)) (dec_of D_X9_play (i := 36) rfl) rfl rfl (by decide) wd_445 ?_
      refine s_iload_n 1 (n := 69) hX (dec_of D_X9_play (i := 37) rfl) rfl rfl rfl ?_
      refine s_iload_n 2 (n := 70) hX (dec_of D_X9_play (i := 38) rfl) rfl rfl rfl ?_
      refine s_iload_n 3 (n := 71) hX (dec_of D_X9_play (i := 39) rfl) rfl rfl rfl ?_
      refine s_callVV (c := 0) (n := 74) hX cls0 (vk121 (by omega)) lk_RX9_296 (dec_of D_X9_play (i := 40) rfl) rfl (by decide) (c_X0_enterPlay (l := _) hG _ _ (by omega) _ (by omega) _ (by omega) _ _ _) rfl rfl (Nat.le_of_ble_eq_true rfl) (fun q7 => ?_)
      refine s_aload_n 0 (n := 75) hX (dec_of D_X9_play (i := 41) rfl) rfl rfl rfl ?_
      refine s_getC (c := 9) (p := 4) (n := 78) 124 0 hX cls9 (vk130 (by omega)) (dec_of D_X9_play (i := 42) rfl) rfl rfl (by decide) wd_445 ?_
      refine s_getR (c := 3) (p := 3) (k' := 12) (n := 81) hX cls3 (vk124 (by omega)) (dec_of D_X9_play (i := 43) rfl) rfl rfl wd_298 ?_
      refine s_iconst (v := 0) (n := 82) hX (dec_of D_X9_play (i := 44) rfl) rfl (by decide) ?_
      refine s_iald (n := 83) hX (vk12 (by omega)) (by decide) (dec_of D_X9_play (i := 45) rfl) rfl (fun v8 => ?_)
      exact s_iret hX hR (dec_of D_X9_play (i := 46) rfl) rfl
    · refine s_bipush (v := (-2)) (n := 23) hX (dec_of D_X9_play (i := 13) rfl) rfl (by decide) ?_
      exact s_iret hX hR (dec_of D_X9_play (i := 14) rfl) rfl
  · refine s_iconst (v := (-1)) (n := 11) hX (dec_of D_X9_play (i := 6) rfl) rfl (by decide) ?_
    exact s_iret hX hR (dec_of D_X9_play (i := 7) rfl) rfl

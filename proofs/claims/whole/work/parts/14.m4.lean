def T_X9_bestLand : List (Nat × Instr × Nat) := [(0, .aload_n 0, 1), (1, .iload_n 1, 1), (2, .invokevirtual 148, 3), (5, .ifCond .eq 27, 3), (8, .aload_n 0, 1), (9, .iload_n 2, 1), (10, .invokevirtual 174, 3), (13, .ifCond .eq 19, 3), (16, .iload_n 3, 1), (17, .invokestatic 405, 3), (20, .ifCond .eq 12, 3), (23, .iload 4, 2), (25, .iconst 2, 1), (26, .invokestatic 207, 3), (29, .ifCond .ne 5, 3), (32, .iconst (-1), 1), (33, .ireturn, 1), (34, .bipush (-2), 2), (36, .istore 5, 2), (38, .bipush (-2), 2), (40, .istore 6, 2), (42, .iconst 0, 1), (43, .istore 7, 2), (45, .iload 7, 2), (47, .aload_n 0, 1), (48, .getfield 61, 3), (51, .getfield 229, 3), (54, .if_icmp .ge 63, 3), (57, .aload_n 0, 1), (58, .getfield 40, 3), (61, .aload_n 0, 1), (62, .getfield 61, 3), (65, .aload_n 0, 1), (66, .getfield 19, 3), (69, .getfield 113, 3), (72, .iload 7, 2), (74, .iload_n 2, 1), (75, .iload_n 3, 1), (76, .invokevirtual 278, 3), (79, .iload 5, 2), (81, .ifCond .lt 16, 3), (84, .aload_n 0, 1), (85, .getfield 40, 3), (88, .iload_n 1, 1), (89, .invokevirtual 402, 3), (92, .iload 6, 2), (94, .if_icmp .le 17, 3), (97, .iload 7, 2), (99, .istore 5, 2), (101, .aload_n 0, 1), (102, .getfield 40, 3), (105, .iload_n 1, 1), (106, .invokevirtual 402, 3), (109, .istore 6, 2), (111, .iinc 7 1, 3), (114, .goto (-69), 3), (117, .iload 4, 2), (119, .ifCond .ne 8, 3), (122, .iload 5, 2), (124, .goto 5, 3), (127, .iload 6, 2), (129, .ireturn, 1)]
theorem D_X9_bestLand : dchk cX9_bestLand T_X9_bestLand = true := by decide +kernel
def Rp_bestLand (σ : ST) (a1 : Int32) (a2 : Int32) (a3 : Int32) (a4 : Int32) : Option (Int32 × ST) :=
  bd_ (Rp_isPlayer (σ) a1) (fun q1 => (if q1 = 0 then some ((-1), σ) else bd_ (Rp_isSession (σ) a2) (fun q2 => (if q2 = 0 then some ((-1), σ) else bd_ (Rp_isCopies (σ) a3) (fun q3 => (if q3 = 0 then some ((-1), σ) else bd_ (Rp_isChoice (σ) a4 2) (fun q4 => (if q4 = 0 then some ((-1), σ) else lp_ (fun rec6 (z5 : ST × Int32 × Int32 × Int32) => bd_ (ldQ z5.1 0) (fun rr8 => (if (gF z5.1 529 rr8) ≤ z5.2.2.2 then (if a4 = 0 then some (z5.2.1, z5.1) else some (z5.2.2.1, z5.1)) else bd_ (ldQ z5.1 0) (fun rr9 => bd_ (Oc_think z5.1 0 rr9 0 z5.2.2.2 a2 a3) (fun q10 => lk_ (fun kk12 => (if z5.2.1 < 0 then kk12 () else bd_ (Oc_paidToOne q10 0 a1) (fun q15 => (if q15 ≤ z5.2.2.1 then rec6 (q10, z5.2.1, z5.2.2.1, (z5.2.2.2 + 1)) else kk12 ())))) (fun (j11 : Unit) => bd_ (Oc_paidToOne q10 0 a1) (fun q14 => rec6 (q10, z5.2.2.2, q14, (z5.2.2.2 + 1))))))))) FU (σ, (-2), (-2), 0)))))))))
set_option maxHeartbeats 4000000 in
set_option maxRecDepth 100000 in
theorem c_X9_bestLand {G : GW} (hG : Good G) {l : Launch} (σ : ST) (a1 : Int32) (a2 : Int32) (a3 : Int32) (a4 : Int32) : Ctr G l yX9_bestLand cX9_bestLand 8 (some .int) 4 [.ref (ga G 130 0), .int a1, .int a2, .int a3, .int a4] σ oP (Rp_bestLand σ a1 a2 a3 a4) := by
  refine ctr_of hG (by decide) (Nat.le_of_ble_eq_true rfl) ?_
  intro X hXl hR hX
  have hX : Ok G X cX9_bestLand 8 RX9 4 := hX
  unfold Rp_bestLand
  show Sim G X 8 (MQX G X oP) σ 0 [(0, .ref (ga G 130 0)), (1, .int a1), (2, .int a2), (3, .int a3), (4, .int a4)] [] _
  refine s_aload_n 0 (n := 1) hX (dec_of D_X9_bestLand (i := 0) rfl) rfl rfl rfl ?_
  refine s_iload_n 1 (n := 2) hX (dec_of D_X9_bestLand (i := 1) rfl) rfl rfl rfl ?_
  refine s_callVI (c := 9) (n := 5) hX cls9 (vk130 (by omega)) lk_RX9_148 (dec_of D_X9_bestLand (i := 2) rfl) rfl (by decide) (c_X9_isPlayer (l := _) hG _ _) rfl rfl (Nat.le_of_ble_eq_true rfl) (fun q1 => ?_)
  refine s_if_eq (tgt := 32) (n := 8) hX (dec_of D_X9_bestLand (i := 3) rfl) rfl rfl ?_ ?_
  · refine s_iconst (v := (-1)) (n := 33) hX (dec_of D_X9_bestLand (i := 15) rfl) rfl (by decide) ?_
    exact s_iret hX hR (dec_of D_X9_bestLand (i := 16) rfl) rfl
  · refine s_aload_n 0 (n := 9) hX (dec_of D_X9_bestLand (i := 4) rfl) rfl rfl rfl ?_
    refine s_iload_n 2 (n := 10) hX (dec_of D_X9_bestLand (i := 5) rfl) rfl rfl rfl ?_
    refine s_callVI (c := 9) (n := 13) hX cls9 (vk130 (by omega)) lk_RX9_174 (dec_of D_X9_bestLand (i := 6) rfl) rfl (by decide) (c_X9_isSession (l := _) hG _ _) rfl rfl (Nat.le_of_ble_eq_true rfl) (fun q2 => ?_)
    refine s_if_eq (tgt := 32) (n := 16) hX (dec_of D_X9_bestLand (i := 7) rfl) rfl rfl ?_ ?_
    · refine s_iconst (v := (-1)) (n := 33) hX (dec_of D_X9_bestLand (i := 15) rfl) rfl (by decide) ?_
      exact s_iret hX hR (dec_of D_X9_bestLand (i := 16) rfl) rfl
    · refine s_iload_n 3 (n := 17) hX (dec_of D_X9_bestLand (i := 8) rfl) rfl rfl rfl ?_
      refine s_callSI (n := 20) hX lk_RX9_405 (dec_of D_X9_bestLand (i := 9) rfl) rfl (by decide) (c_X9_isCopies (l := _) hG _ _) rfl rfl (Nat.le_of_ble_eq_true rfl) (fun q3 => ?_)
      refine s_if_eq (tgt := 32) (n := 23) hX (dec_of D_X9_bestLand (i := 10) rfl) rfl rfl ?_ ?_
      · refine s_iconst (v := (-1)) (n := 33) hX (dec_of D_X9_bestLand (i := 15) rfl) rfl (by decide) ?_
        exact s_iret hX hR (dec_of D_X9_bestLand (i := 16) rfl) rfl
      · refine s_iload 4 (n := 25) hX (dec_of D_X9_bestLand (i := 11) rfl) rfl rfl ?_
        refine s_iconst (v := 2) (n := 26) hX (dec_of D_X9_bestLand (i := 12) rfl) rfl (by decide) ?_
        refine s_callSI (n := 29) hX lk_RX9_207 (dec_of D_X9_bestLand (i := 13) rfl) rfl (by decide) (c_X9_isChoice (l := _) hG _ _ _) rfl rfl (Nat.le_of_ble_eq_true rfl) (fun q4 => ?_)
        refine s_if_ne (tgt := 34) (n := 32) hX (dec_of D_X9_bestLand (i := 14) rfl) rfl rfl ?_ ?_
        · refine s_bipush (v := (-2)) (n := 36) hX (dec_of D_X9_bestLand (i := 17) rfl) rfl (by decide) ?_
          refine s_istore (lv' := [(0, _), (1, _), (2, _), (3, _), (4, _), (5, _)]) [1, 2, 3, 4, 5, 0] (n := 38) hX (dec_of D_X9_bestLand (i := 18) rfl) rfl (by decide) rfl ?_
          refine s_bipush (v := (-2)) (n := 40) hX (dec_of D_X9_bestLand (i := 19) rfl) rfl (by decide) ?_
          refine s_istore (lv' := [(0, _), (1, _), (2, _), (3, _), (4, _), (5, _), (6, _)]) [1, 2, 3, 4, 5, 6, 0] (n := 42) hX (dec_of D_X9_bestLand (i := 20) rfl) rfl (by decide) rfl ?_
          refine s_iconst (v := 0) (n := 43) hX (dec_of D_X9_bestLand (i := 21) rfl) rfl (by decide) ?_
          refine s_istore (lv' := [(0, _), (1, _), (2, _), (3, _), (4, _), (5, _), (6, _), (7, _)]) [1, 2, 3, 4, 5, 6, 7, 0] (n := 45) hX (dec_of D_X9_bestLand (i := 22) rfl) rfl (by decide) rfl ?_
          refine s_sub [0, 1, 2, 3, 4, 5, 6, 7] rfl (s_lp (pc := 45) (Sf := fun (z5 : ST × Int32 × Int32 × Int32) => z5.1) (lvf := fun (z5 : ST × Int32 × Int32 × Int32) => [(0, .ref (ga G 130 0)), (1, .int a1), (2, .int a2), (3, .int a3), (4, .int a4), (5, .int z5.2.1), (6, .int z5.2.2.1), (7, .int z5.2.2.2)]) (fun rec6 hre7 z5 => ?_) FU (σ, (-2), (-2), 0))
          refine s_iload 7 (n := 47) hX (dec_of D_X9_bestLand (i := 23) rfl) rfl rfl ?_
          refine s_aload_n 0 (n := 48) hX (dec_of D_X9_bestLand (i := 24) rfl) rfl rfl rfl ?_
          refine s_getQ (c := 9) (p := 7) (j := 0) (n := 51) hX cls9 (vk130 (by omega)) (dec_of D_X9_bestLand (i := 25) rfl) rfl rfl wd_448 (fun rr8 hrr8 => ?_)
          refine s_getI (c := 5) (p := 9) (id := 529) (n := 54) hX cls5 (vk126 (by omega)) (dec_of D_X9_bestLand (i := 26) rfl) rfl rfl wd_392 ?_
          refine s_icmp_ge (tgt := 117) (n := 57) hX (dec_of D_X9_bestLand (i := 27) rfl) rfl rfl ?_ ?_
          · refine s_iload 4 (n := 119) hX (dec_of D_X9_bestLand (i := 56) rfl) rfl rfl ?_
            refine s_if_ne (tgt := 127) (n := 122) hX (dec_of D_X9_bestLand (i := 57) rfl) rfl rfl ?_ ?_
            · refine s_iload 6 (n := 129) hX (dec_of D_X9_bestLand (i := 60) rfl) rfl rfl ?_
              exact s_iret hX hR (dec_of D_X9_bestLand (i := 61) rfl) rfl
            · refine s_iload 5 (n := 124) hX (dec_of D_X9_bestLand (i := 58) rfl) rfl rfl ?_
              refine s_goto (n := 129) hX (dec_of D_X9_bestLand (i := 59) rfl) rfl ?_
              exact s_iret hX hR (dec_of D_X9_bestLand (i := 61) rfl) rfl
          · refine s_aload_n 0 (n := 58) hX (dec_of D_X9_bestLand (i := 28) rfl) rfl rfl rfl ?_
            refine s_getC (c := 9) (p := 4) (n := 61) 124 0 hX cls9 (vk130 (by omega)) (dec_of D_X9_bestLand (i := 29) rfl) rfl rfl (by decide) wd_445 ?_
            refine s_aload_n 0 (n := 62) hX (dec_of D_X9_bestLand (i := 30) rfl) rfl rfl rfl ?_
            refine s_getQ (c := 9) (p := 7) (j := 0) (n := 65) hX cls9 (vk130 (by omega)) (dec_of D_X9_bestLand (i := 31) rfl) rfl rfl wd_448 (fun rr9 hrr9 => ?_)
            refine s_aload_n 0 (n := 66) hX (dec_of D_X9_bestLand (i := 32) rfl) rfl rfl rfl ?_
            refine s_getC (c := 9) (p := 1) (n := 69) 121 0 hX cls9 (vk130 (by omega)) (dec_of D_X9_bestLand (i := 33) rfl) rfl rfl (by decide) wd_442 ?_
            refine s_getR (c := 0) (p := 0) (k' := 129) (n := 72) hX cls0 (vk121 (by omega)) (dec_of D_X9_bestLand (i := 34) rfl) rfl rfl wd_219 ?_
            refine s_iload 7 (n := 74) hX (dec_of D_X9_bestLand (i := 35) rfl) rfl rfl ?_
            refine s_iload_n 2 (n := 75) hX (dec_of D_X9_bestLand (i := 36) rfl) rfl rfl rfl ?_
            refine s_iload_n 3 (n := 76) hX (dec_of D_X9_bestLand (i := 37) rfl) rfl rfl rfl ?_
            refine s_callVV (c := 3) (n := 79) hX cls3 (vk124 (by omega)) lk_RX9_278 (dec_of D_X9_bestLand (i := 38) rfl) rfl (by decide) (c_X3_think (l := _) hG _ _ (by omega) _ (by omega) _ (by omega) _ _ _) rfl rfl (Nat.le_of_ble_eq_true rfl) (fun q10 => ?_)
            refine s_iload 5 (n := 81) hX (dec_of D_X9_bestLand (i := 39) rfl) rfl rfl ?_
            refine s_lk (pcj := 97) (Sf := fun (j11 : Unit) => q10) (lvf := fun (j11 : Unit) => [(0, .ref (ga G 130 0)), (1, .int a1), (2, .int a2), (3, .int a3), (4, .int a4), (7, .int z5.2.2.2)]) (stf := fun (j11 : Unit) => []) (fun j11 => ?_) (fun kk12 hkk13 => ?_)
            · refine s_iload 5 (n := 99) hX (dec_of D_X9_bestLand (i := 47) rfl) rfl rfl ?_
              refine s_istore (lv' := [(0, _), (1, _), (2, _), (3, _), (4, _), (5, _), (7, _)]) [1, 2, 3, 4, 5, 0, 6] (n := 101) hX (dec_of D_X9_bestLand (i := 48) rfl) rfl (by decide) rfl ?_
              refine s_aload_n 0 (n := 102) hX (dec_of D_X9_bestLand (i := 49) rfl) rfl rfl rfl ?_
              refine s_getC (c := 9) (p := 4) (n := 105) 124 0 hX cls9 (vk130 (by omega)) (dec_of D_X9_bestLand (i := 50) rfl) rfl rfl (by decide) wd_445 ?_
              refine s_iload_n 1 (n := 106) hX (dec_of D_X9_bestLand (i := 51) rfl) rfl rfl rfl ?_
              refine s_callVI (c := 3) (n := 109) hX cls3 (vk124 (by omega)) lk_RX9_402 (dec_of D_X9_bestLand (i := 52) rfl) rfl (by decide) (c_X3_paidToOne (l := _) hG _ _ (by omega) _) rfl rfl (Nat.le_of_ble_eq_true rfl) (fun q14 => ?_)
              refine s_istore (lv' := [(0, _), (1, _), (2, _), (3, _), (4, _), (5, _), (6, _), (7, _)]) [1, 2, 3, 4, 5, 6, 0, 7] (n := 111) hX (dec_of D_X9_bestLand (i := 53) rfl) rfl (by decide) rfl ?_
              refine s_iinc (v := z5.2.2.2 + 1) (lv' := [(0, _), (1, _), (2, _), (3, _), (4, _), (5, _), (6, _), (7, _)]) 7 [1, 2, 3, 4, 5, 6, 7, 0] (n := 114) hX (dec_of D_X9_bestLand (i := 54) rfl) rfl rfl rfl (by decide) rfl ?_
              refine s_goto (n := 45) hX (dec_of D_X9_bestLand (i := 55) rfl) rfl ?_
              exact s_sub [0, 1, 2, 3, 4, 5, 6, 7] rfl (hre7 (q10, z5.2.2.2, q14, (z5.2.2.2 + 1)))
            · refine s_if_lt (tgt := 97) (n := 84) hX (dec_of D_X9_bestLand (i := 40) rfl) rfl rfl ?_ ?_
              · exact s_sub [0, 1, 2, 3, 4, 7] rfl (hkk13 ())
              · refine s_aload_n 0 (n := 85) hX (dec_of D_X9_bestLand (i := 41) rfl) rfl rfl rfl ?_
                refine s_getC (c := 9) (p := 4) (n := 88) 124 0 hX cls9 (vk130 (by omega)) (dec_of D_X9_bestLand (i := 42) rfl) rfl rfl (by decide) wd_445 ?_
                refine s_iload_n 1 (n := 89) hX (dec_of D_X9_bestLand (i := 43) rfl) rfl rfl rfl ?_
                refine s_callVI (c := 3) (n := 92) hX cls3 (vk124 (by omega)) lk_RX9_402 (dec_of D_X9_bestLand (i := 44) rfl) rfl (by decide) (c_X3_paidToOne (l := _) hG _ _ (by omega) _) rfl rfl (Nat.le_of_ble_eq_true rfl) (fun q15 => ?_)
                refine s_iload 6 (n := 94) hX (dec_of D_X9_bestLand (i := 45) rfl) rfl rfl ?_
                refine s_icmp_le (tgt := 111) (n := 97) hX (dec_of D_X9_bestLand (i := 46) rfl) rfl rfl ?_ ?_
                · refine s_iinc (v := z5.2.2.2 + 1) (lv' := [(0, _), (1, _), (2, _), (3, _), (4, _), (5, _), (6, _), (7, _)]) 7 [1, 2, 3, 4, 5, 6, 7, 0] (n := 114) hX (dec_of D_X9_bestLand (i := 54) rfl) rfl rfl rfl (by decide) rfl ?_
                  refine s_goto (n := 45) hX (dec_of D_X9_bestLand (i := 55) rfl) rfl ?_
                  exact s_sub [0, 1, 2, 3, 4, 5, 6, 7] rfl (hre7 (q10, z5.2.1, z5.2.2.1, (z5.2.2.2 + 1)))
                · exact s_sub [0, 1, 2, 3, 4, 7] rfl (hkk13 ())
        · refine s_iconst (v := (-1)) (n := 33) hX (dec_of D_X9_bestLand (i := 15) rfl) rfl (by decide) ?_
          exact s_iret hX hR (dec_of D_X9_bestLand (i := 16) rfl) rfl
theorem lk_RX9_408 : LkV RX9 408 RX6 yX6_toPlayersOf cX6_toPlayersOf 7 (some .int) 3 := ⟨wd_1166, wd_1167, wd_1168, wd_90, wd_1169, by decide +kernel, by decide⟩
theorem lk_RX9_412 : LkV RX9 412 RX6 yX6_inLand cX6_inLand 7 (some .int) 4 := ⟨wd_1175, wd_1176, wd_1177, wd_90, wd_1178, by decide +kernel, by decide⟩
def T_X9_round : List (Nat × Instr × Nat) := [(0, .aload_n 0, 1), (1, .iload_n 1, 1), (2, .invokevirtual 102, 3), (5, .ifCond .ne 5, 3), (8, .iconst (-1), 1), (9, .ireturn, 1), (10, .iload_n 2, 1), (11, .tableswitch 112 0 3 #[29, 49, 70, 91], 29), (40, .aload_n 0, 1), (41, .getfield 47, 3), (44, .aload_n 0, 1), (45, .getfield 61, 3), (48, .aload_n 0, 1), (49, .getfield 19, 3), (52, .getfield 113, 3), (55, .iload_n 1, 1), (56, .invokevirtual 408, 3), (59, .ireturn, 1), (60, .aload_n 0, 1), (61, .getfield 47, 3), (64, .aload_n 0, 1), (65, .getfield 61, 3), (68, .aload_n 0, 1), (69, .getfield 19, 3), (72, .getfield 113, 3), (75, .iload_n 1, 1), (76, .iconst 0, 1), (77, .invokevirtual 412, 3), (80, .ireturn, 1), (81, .aload_n 0, 1), (82, .getfield 47, 3), (85, .aload_n 0, 1), (86, .getfield 61, 3), (89, .aload_n 0, 1), (90, .getfield 19, 3), (93, .getfield 113, 3), (96, .iload_n 1, 1), (97, .iconst 2, 1), (98, .invokevirtual 412, 3), (101, .ireturn, 1), (102, .aload_n 0, 1), (103, .getfield 47, 3), (106, .aload_n 0, 1), (107, .getfield 61, 3), (110, .aload_n 0, 1), (111, .getfield 19, 3), (114, .getfield 113, 3), (117, .iload_n 1, 1), (118, .iconst 1, 1), (119, .invokevirtual 412, 3), (122, .ireturn, 1), (123, .iconst (-1), 1), (124, .ireturn, 1)]
theorem D_X9_round : dchk cX9_round T_X9_round = true := by decide +kernel
def Rp_round (σ : ST) (a1 : Int32) (a2 : Int32) : Option (Int32 × ST) :=
  bd_ (Rp_isLand (σ) a1) (fun q1 => (if q1 = 0 then some ((-1), σ) else sw_ a2 0 [bd_ (ldQ σ 0) (fun rr2 => bd_ (Rn_toPlayersOf (σ) rr2 0 a1) (fun q3 => some (q3.1, q3.2))), bd_ (ldQ σ 0) (fun rr4 => bd_ (Rn_inLand (σ) rr4 0 a1 0) (fun q5 => some (q5.1, q5.2))), bd_ (ldQ σ 0) (fun rr6 => bd_ (Rn_inLand (σ) rr6 0 a1 2) (fun q7 => some (q7.1, q7.2))), bd_ (ldQ σ 0) (fun rr8 => bd_ (Rn_inLand (σ) rr8 0 a1 1) (fun q9 => some (q9.1, q9.2)))] (some ((-1), σ))))
set_option maxHeartbeats 4000000 in
set_option maxRecDepth 100000 in
theorem c_X9_round {G : GW} (hG : Good G) {l : Launch} (σ : ST) (a1 : Int32) (a2 : Int32) : Ctr G l yX9_round cX9_round 3 (some .int) 5 [.ref (ga G 130 0), .int a1, .int a2] σ oP (Rp_round σ a1 a2) := by
  refine ctr_of hG (by decide) (Nat.le_of_ble_eq_true rfl) ?_
  intro X hXl hR hX
  have hX : Ok G X cX9_round 3 RX9 5 := hX
  unfold Rp_round
  show Sim G X 3 (MQX G X oP) σ 0 [(0, .ref (ga G 130 0)), (1, .int a1), (2, .int a2)] [] _
  refine s_aload_n 0 (n := 1) hX (dec_of D_X9_round (i := 0) rfl) rfl rfl rfl ?_
  refine s_iload_n 1 (n := 2) hX (dec_of D_X9_round (i := 1) rfl) rfl rfl rfl ?_
  refine s_callVI (c := 9) (n := 5) hX cls9 (vk130 (by omega)) lk_RX9_102 (dec_of D_X9_round (i := 2) rfl) rfl (by decide) (c_X9_isLand (l := _) hG _ _) rfl rfl (Nat.le_of_ble_eq_true rfl) (fun q1 => ?_)
  refine s_if_ne (tgt := 10) (n := 8) hX (dec_of D_X9_round (i := 3) rfl) rfl rfl ?_ ?_
  · refine s_iload_n 2 (n := 11) hX (dec_of D_X9_round (i := 6) rfl) rfl rfl rfl ?_
    refine s_tsw (lo' := 0) (Ps := [_, _, _, _]) hX (dec_of D_X9_round (i := 7) rfl) rfl 4 rfl (by decide) (by decide) [40, 60, 81, 102] 123 rfl rfl (by decide +kernel) ?_ ?_
    · skip
      refine swS_cons ?_ ?_
      · refine s_aload_n 0 (n := 41) hX (dec_of D_X9_round (i := 8) rfl) rfl rfl rfl ?_
        refine s_getC (c := 9) (p := 5) (n := 44) 127 0 hX cls9 (vk130 (by omega)) (dec_of D_X9_round (i := 9) rfl) rfl rfl (by decide) wd_446 ?_
        refine s_aload_n 0 (n := 45) hX (dec_of D_X9_round (i := 10) rfl) rfl rfl rfl ?_
        refine s_getQ (c := 9) (p := 7) (j := 0) (n := 48) hX cls9 (vk130 (by omega)) (dec_of D_X9_round (i := 11) rfl) rfl rfl wd_448 (fun rr2 hrr2 => ?_)
        refine s_aload_n 0 (n := 49) hX (dec_of D_X9_round (i := 12) rfl) rfl rfl rfl ?_
        refine s_getC (c := 9) (p := 1) (n := 52) 121 0 hX cls9 (vk130 (by omega)) (dec_of D_X9_round (i := 13) rfl) rfl rfl (by decide) wd_442 ?_
        refine s_getR (c := 0) (p := 0) (k' := 129) (n := 55) hX cls0 (vk121 (by omega)) (dec_of D_X9_round (i := 14) rfl) rfl rfl wd_219 ?_
        refine s_iload_n 1 (n := 56) hX (dec_of D_X9_round (i := 15) rfl) rfl rfl rfl ?_
        refine s_callVP (c := 6) (n := 59) hX cls6 (vk127 (by omega)) lk_RX9_408 (dec_of D_X9_round (i := 16) rfl) rfl (by decide) (c_X6_toPlayersOf (l := _) hG _ _ (by omega) _ (by omega) _) rfl rfl (Nat.le_of_ble_eq_true rfl) (fun q3 => ?_)
        exact s_iret hX hR (dec_of D_X9_round (i := 17) rfl) rfl
      refine swS_cons ?_ ?_
      · refine s_aload_n 0 (n := 61) hX (dec_of D_X9_round (i := 18) rfl) rfl rfl rfl ?_
        refine s_getC (c := 9) (p := 5) (n := 64) 127 0 hX cls9 (vk130 (by omega)) (dec_of D_X9_round (i := 19) rfl) rfl rfl (by decide) wd_446 ?_
        refine s_aload_n 0 (n := 65) hX (dec_of D_X9_round (i := 20) rfl) rfl rfl rfl ?_
        refine s_getQ (c := 9) (p := 7) (j := 0) (n := 68) hX cls9 (vk130 (by omega)) (dec_of D_X9_round (i := 21) rfl) rfl rfl wd_448 (fun rr4 hrr4 => ?_)
        refine s_aload_n 0 (n := 69) hX (dec_of D_X9_round (i := 22) rfl) rfl rfl rfl ?_
        refine s_getC (c := 9) (p := 1) (n := 72) 121 0 hX cls9 (vk130 (by omega)) (dec_of D_X9_round (i := 23) rfl) rfl rfl (by decide) wd_442 ?_
        refine s_getR (c := 0) (p := 0) (k' := 129) (n := 75) hX cls0 (vk121 (by omega)) (dec_of D_X9_round (i := 24) rfl) rfl rfl wd_219 ?_
        refine s_iload_n 1 (n := 76) hX (dec_of D_X9_round (i := 25) rfl) rfl rfl rfl ?_
        refine s_iconst (v := 0) (n := 77) hX (dec_of D_X9_round (i := 26) rfl) rfl (by decide) ?_
        refine s_callVP (c := 6) (n := 80) hX cls6 (vk127 (by omega)) lk_RX9_412 (dec_of D_X9_round (i := 27) rfl) rfl (by decide) (c_X6_inLand (l := _) hG _ _ (by omega) _ (by omega) _ _) rfl rfl (Nat.le_of_ble_eq_true rfl) (fun q5 => ?_)
        exact s_iret hX hR (dec_of D_X9_round (i := 28) rfl) rfl
      refine swS_cons ?_ ?_
      · refine s_aload_n 0 (n := 82) hX (dec_of D_X9_round (i := 29) rfl) rfl rfl rfl ?_
        refine s_getC (c := 9) (p := 5) (n := 85) 127 0 hX cls9 (vk130 (by omega)) (dec_of D_X9_round (i := 30) rfl) rfl rfl (by decide) wd_446 ?_
        refine s_aload_n 0 (n := 86) hX (dec_of D_X9_round (i := 31) rfl) rfl rfl rfl ?_
        refine s_getQ (c := 9) (p := 7) (j := 0) (n := 89) hX cls9 (vk130 (by omega)) (dec_of D_X9_round (i := 32) rfl) rfl rfl wd_448 (fun rr6 hrr6 => ?_)
        refine s_aload_n 0 (n := 90) hX (dec_of D_X9_round (i := 33) rfl) rfl rfl rfl ?_
        refine s_getC (c := 9) (p := 1) (n := 93) 121 0 hX cls9 (vk130 (by omega)) (dec_of D_X9_round (i := 34) rfl) rfl rfl (by decide) wd_442 ?_
        refine s_getR (c := 0) (p := 0) (k' := 129) (n := 96) hX cls0 (vk121 (by omega)) (dec_of D_X9_round (i := 35) rfl) rfl rfl wd_219 ?_
        refine s_iload_n 1 (n := 97) hX (dec_of D_X9_round (i := 36) rfl) rfl rfl rfl ?_
        refine s_iconst (v := 2) (n := 98) hX (dec_of D_X9_round (i := 37) rfl) rfl (by decide) ?_
        refine s_callVP (c := 6) (n := 101) hX cls6 (vk127 (by omega)) lk_RX9_412 (dec_of D_X9_round (i := 38) rfl) rfl (by decide) (c_X6_inLand (l := _) hG _ _ (by omega) _ (by omega) _ _) rfl rfl (Nat.le_of_ble_eq_true rfl) (fun q7 => ?_)
        exact s_iret hX hR (dec_of D_X9_round (i := 39) rfl) rfl
      refine swS_cons ?_ ?_
      · refine s_aload_n 0 (n := 103) hX (dec_of D_X9_round (i := 40) rfl) rfl rfl rfl ?_
        refine s_getC (c := 9) (p := 5) (n := 106) 127 0 hX cls9 (vk130 (by omega)) (dec_of D_X9_round (i := 41) rfl) rfl rfl (by decide) wd_446 ?_
        refine s_aload_n 0 (n := 107) hX (dec_of D_X9_round (i := 42) rfl) rfl rfl rfl ?_
        refine s_getQ (c := 9) (p := 7) (j := 0) (n := 110) hX cls9 (vk130 (by omega)) (dec_of D_X9_round (i := 43) rfl) rfl rfl wd_448 (fun rr8 hrr8 => ?_)
        refine s_aload_n 0 (n := 111) hX (dec_of D_X9_round (i := 44) rfl) rfl rfl rfl ?_
        refine s_getC (c := 9) (p := 1) (n := 114) 121 0 hX cls9 (vk130 (by omega)) (dec_of D_X9_round (i := 45) rfl) rfl rfl (by decide) wd_442 ?_
        refine s_getR (c := 0) (p := 0) (k' := 129) (n := 117) hX cls0 (vk121 (by omega)) (dec_of D_X9_round (i := 46) rfl) rfl rfl wd_219 ?_
        refine s_iload_n 1 (n := 118) hX (dec_of D_X9_round (i := 47) rfl) rfl rfl rfl ?_
        refine s_iconst (v := 1) (n := 119) hX (dec_of D_X9_round (i := 48) rfl) rfl (by decide) ?_
        refine s_callVP (c := 6) (n := 122) hX cls6 (vk127 (by omega)) lk_RX9_412 (dec_of D_X9_round (i := 49) rfl) rfl (by decide) (c_X6_inLand (l := _) hG _ _ (by omega) _ (by omega) _ _) rfl rfl (Nat.le_of_ble_eq_true rfl) (fun q9 => ?_)
        exact s_iret hX hR (dec_of D_X9_round (i := 50) rfl) rfl
      exact swS_nil
    · refine s_iconst (v := (-1)) (n := 124) hX (dec_of D_X9_round (i := 51) rfl) rfl (by decide) ?_
      exact s_iret hX hR (dec_of D_X9_round (i := 52) rfl) rfl
  · refine s_iconst (v := (-1)) (n := 9) hX (dec_of D_X9_round (i := 4) rfl) rfl (by decide) ?_
    exact s_iret hX hR (dec_of D_X9_round (i := 5) rfl) rfl
def T_X9_bestTerms : List (Nat × Instr × Nat) := [(0, .aload_n 0, 1), (1, .iload_n 1, 1), (2, .invokevirtual 102, 3), (5, .ifCond .eq 11, 3), (8, .iload_n 2, 1), (9, .iconst 3, 1), (10, .invokestatic 207, 3), (13, .ifCond .ne 5, 3), (16, .iconst (-1), 1), (17, .ireturn, 1), (18, .aload_n 0, 1), (19, .getfield 33, 3), (22, .aload_n 0, 1), (23, .getfield 19, 3), (26, .getfield 113, 3), (29, .invokevirtual 270, 3), (32, .iconst (-1), 1), (33, .istore_n 3, 1), (34, .iconst (-1), 1), (35, .istore 4, 2), (37, .iconst (-1), 1), (38, .istore 5, 2), (40, .iconst 0, 1), (41, .istore 6, 2), (43, .iload 6, 2), (45, .iconst 2, 1), (46, .if_icmp .gt 72, 3), (49, .iconst 1, 1), (50, .istore 7, 2), (52, .iload 7, 2), (54, .iconst 3, 1), (55, .if_icmp .gt 57, 3), (58, .aload_n 0, 1), (59, .getfield 33, 3), (62, .iload_n 1, 1), (63, .iload 6, 2), (65, .iload 7, 2), (67, .invokevirtual 274, 3), (70, .aload_n 0, 1), (71, .getfield 47, 3), (74, .aload_n 0, 1), (75, .getfield 61, 3), (78, .aload_n 0, 1), (79, .getfield 33, 3), (82, .iload_n 1, 1), (83, .invokevirtual 408, 3), (86, .istore 8, 2), (88, .iload 8, 2), (90, .iload 5, 2), (92, .if_icmp .le 14, 3), (95, .iload 6, 2), (97, .istore_n 3, 1), (98, .iload 7, 2), (100, .istore 4, 2), (102, .iload 8, 2), (104, .istore 5, 2), (106, .iinc 7 1, 3), (109, .goto (-57), 3), (112, .iinc 6 1, 3), (115, .goto (-72), 3), (118, .iload_n 2, 1), (119, .iconst 2, 1), (120, .if_icmp .ne 6, 3), (123, .iload 5, 2), (125, .ireturn, 1), (126, .iload_n 2, 1), (127, .ifCond .ne 7, 3), (130, .iload_n 3, 1), (131, .goto 5, 3), (134, .iload 4, 2), (136, .ireturn, 1)]
theorem D_X9_bestTerms : dchk cX9_bestTerms T_X9_bestTerms = true := by decide +kernel
def Rp_bestTerms (σ : ST) (a1 : Int32) (a2 : Int32) : Option (Int32 × ST) :=
  bd_ (Rp_isLand (σ) a1) (fun q1 => (if q1 = 0 then some ((-1), σ) else bd_ (Rp_isChoice (σ) a2 3) (fun q2 => (if q2 = 0 then some ((-1), σ) else bd_ (Wo_copyFrom (σ) 13 0) (fun q3 => lp_ (fun rec5 (z4 : ST × Int32 × Int32 × Int32 × Int32) => (if 2 < z4.2.2.2.2 then (if a2 = 2 then some (z4.2.2.2.1, z4.1) else (if a2 = 0 then some (z4.2.1, z4.1) else some (z4.2.2.1, z4.1))) else lp_ (fun rec8 (z7 : ST × Int32 × Int32 × Int32 × Int32) => (if 3 < z7.2.2.2.2 then rec5 (z7.1, z7.2.1, z7.2.2.1, z7.2.2.2.1, (z4.2.2.2.2 + 1)) else bd_ (Wo_setTerms z7.1 13 a1 z4.2.2.2.2 z7.2.2.2.2) (fun q10 => bd_ (ldQ q10 0) (fun rr11 => bd_ (Rn_toPlayersOf q10 rr11 13 a1) (fun q12 => (if q12.1 ≤ z7.2.2.2.1 then rec8 (q12.2, z7.2.1, z7.2.2.1, z7.2.2.2.1, (z7.2.2.2.2 + 1)) else rec8 (q12.2, z4.2.2.2.2, z7.2.2.2.2, q12.1, (z7.2.2.2.2 + 1)))))))) FU (z4.1, z4.2.1, z4.2.2.1, z4.2.2.2.1, 1))) FU (q3, (-1), (-1), (-1), 0))))))
set_option maxHeartbeats 4000000 in
set_option maxRecDepth 100000 in
theorem c_X9_bestTerms {G : GW} (hG : Good G) {l : Launch} (σ : ST) (a1 : Int32) (a2 : Int32) : Ctr G l yX9_bestTerms cX9_bestTerms 9 (some .int) 5 [.ref (ga G 130 0), .int a1, .int a2] σ oP (Rp_bestTerms σ a1 a2) := by
  refine ctr_of hG (by decide) (Nat.le_of_ble_eq_true rfl) ?_
  intro X hXl hR hX
  have hX : Ok G X cX9_bestTerms 9 RX9 5 := hX
  unfold Rp_bestTerms
  show Sim G X 9 (MQX G X oP) σ 0 [(0, .ref (ga G 130 0)), (1, .int a1), (2, .int a2)] [] _
  refine s_aload_n 0 (n := 1) hX (dec_of D_X9_bestTerms (i := 0) rfl) rfl rfl rfl ?_
  refine s_iload_n 1 (n := 2) hX (dec_of D_X9_bestTerms (i := 1) rfl) rfl rfl rfl ?_
  refine s_callVI (c := 9) (n := 5) hX cls9 (vk130 (by omega)) lk_RX9_102 (dec_of D_X9_bestTerms (i := 2) rfl) rfl (by decide) (c_X9_isLand (l := _) hG _ _) rfl rfl (Nat.le_of_ble_eq_true rfl) (fun q1 => ?_)
  refine s_if_eq (tgt := 16) (n := 8) hX (dec_of D_X9_bestTerms (i := 3) rfl) rfl rfl ?_ ?_
  · refine s_iconst (v := (-1)) (n := 17) hX (dec_of D_X9_bestTerms (i := 8) rfl) rfl (by decide) ?_
    exact s_iret hX hR (dec_of D_X9_bestTerms (i := 9) rfl) rfl
  · refine s_iload_n 2 (n := 9) hX (dec_of D_X9_bestTerms (i := 4) rfl) rfl rfl rfl ?_
    refine s_iconst (v := 3) (n := 10) hX (dec_of D_X9_bestTerms (i := 5) rfl) rfl (by decide) ?_
    refine s_callSI (n := 13) hX lk_RX9_207 (dec_of D_X9_bestTerms (i := 6) rfl) rfl (by decide) (c_X9_isChoice (l := _) hG _ _ _) rfl rfl (Nat.le_of_ble_eq_true rfl) (fun q2 => ?_)
    refine s_if_ne (tgt := 18) (n := 16) hX (dec_of D_X9_bestTerms (i := 7) rfl) rfl rfl ?_ ?_
    · refine s_aload_n 0 (n := 19) hX (dec_of D_X9_bestTerms (i := 10) rfl) rfl rfl rfl ?_
      refine s_getC (c := 9) (p := 3) (n := 22) 129 13 hX cls9 (vk130 (by omega)) (dec_of D_X9_bestTerms (i := 11) rfl) rfl rfl (by decide) wd_444 ?_
      refine s_aload_n 0 (n := 23) hX (dec_of D_X9_bestTerms (i := 12) rfl) rfl rfl rfl ?_
      refine s_getC (c := 9) (p := 1) (n := 26) 121 0 hX cls9 (vk130 (by omega)) (dec_of D_X9_bestTerms (i := 13) rfl) rfl rfl (by decide) wd_442 ?_
      refine s_getR (c := 0) (p := 0) (k' := 129) (n := 29) hX cls0 (vk121 (by omega)) (dec_of D_X9_bestTerms (i := 14) rfl) rfl rfl wd_219 ?_
      refine s_callVV (c := 8) (n := 32) hX cls8 (vk129 (by omega)) lk_RX9_270 (dec_of D_X9_bestTerms (i := 15) rfl) rfl (by decide) (c_X8_copyFrom (l := _) hG _ _ (by omega) _ (by omega)) rfl rfl (Nat.le_of_ble_eq_true rfl) (fun q3 => ?_)
      refine s_iconst (v := (-1)) (n := 33) hX (dec_of D_X9_bestTerms (i := 16) rfl) rfl (by decide) ?_
      refine s_istore_n (lv' := [(0, _), (1, _), (2, _), (3, _)]) [1, 2, 3, 0] (n := 34) hX (dec_of D_X9_bestTerms (i := 17) rfl) rfl rfl (by decide) rfl ?_
      refine s_iconst (v := (-1)) (n := 35) hX (dec_of D_X9_bestTerms (i := 18) rfl) rfl (by decide) ?_
      refine s_istore (lv' := [(0, _), (1, _), (2, _), (3, _), (4, _)]) [1, 2, 3, 4, 0] (n := 37) hX (dec_of D_X9_bestTerms (i := 19) rfl) rfl (by decide) rfl ?_
      refine s_iconst (v := (-1)) (n := 38) hX (dec_of D_X9_bestTerms (i := 20) rfl) rfl (by decide) ?_
      refine s_istore (lv' := [(0, _), (1, _), (2, _), (3, _), (4, _), (5, _)]) [1, 2, 3, 4, 5, 0] (n := 40) hX (dec_of D_X9_bestTerms (i := 21) rfl) rfl (by decide) rfl ?_
      refine s_iconst (v := 0) (n := 41) hX (dec_of D_X9_bestTerms (i := 22) rfl) rfl (by decide) ?_
      refine s_istore (lv' := [(0, _), (1, _), (2, _), (3, _), (4, _), (5, _), (6, _)]) [1, 2, 3, 4, 5, 6, 0] (n := 43) hX (dec_of D_X9_bestTerms (i := 23) rfl) rfl (by decide) rfl ?_
      refine s_sub [0, 1, 2, 3, 4, 5, 6] rfl (s_lp (pc := 43) (Sf := fun (z4 : ST × Int32 × Int32 × Int32 × Int32) => z4.1) (lvf := fun (z4 : ST × Int32 × Int32 × Int32 × Int32) => [(0, .ref (ga G 130 0)), (1, .int a1), (2, .int a2), (3, .int z4.2.1), (4, .int z4.2.2.1), (5, .int z4.2.2.2.1), (6, .int z4.2.2.2.2)]) (fun rec5 hre6 z4 => ?_) FU (q3, (-1), (-1), (-1), 0))
      refine s_iload 6 (n := 45) hX (dec_of D_X9_bestTerms (i := 24) rfl) rfl rfl ?_
      refine s_iconst (v := 2) (n := 46) hX (dec_of D_X9_bestTerms (i := 25) rfl) rfl (by decide) ?_
      refine s_icmp_gt (tgt := 118) (n := 49) hX (dec_of D_X9_bestTerms (i := 26) rfl) rfl rfl ?_ ?_
      · refine s_iload_n 2 (n := 119) hX (dec_of D_X9_bestTerms (i := 60) rfl) rfl rfl rfl ?_
        refine s_iconst (v := 2) (n := 120) hX (dec_of D_X9_bestTerms (i := 61) rfl) rfl (by decide) ?_
        refine s_icmp_ne (tgt := 126) (n := 123) hX (dec_of D_X9_bestTerms (i := 62) rfl) rfl rfl ?_ ?_
        · refine s_iload_n 2 (n := 127) hX (dec_of D_X9_bestTerms (i := 65) rfl) rfl rfl rfl ?_
          refine s_if_ne (tgt := 134) (n := 130) hX (dec_of D_X9_bestTerms (i := 66) rfl) rfl rfl ?_ ?_
          · refine s_iload 4 (n := 136) hX (dec_of D_X9_bestTerms (i := 69) rfl) rfl rfl ?_
            exact s_iret hX hR (dec_of D_X9_bestTerms (i := 70) rfl) rfl
          · refine s_iload_n 3 (n := 131) hX (dec_of D_X9_bestTerms (i := 67) rfl) rfl rfl rfl ?_
            refine s_goto (n := 136) hX (dec_of D_X9_bestTerms (i := 68) rfl) rfl ?_
            exact s_iret hX hR (dec_of D_X9_bestTerms (i := 70) rfl) rfl
        · refine s_iload 5 (n := 125) hX (dec_of D_X9_bestTerms (i := 63) rfl) rfl rfl ?_
          exact s_iret hX hR (dec_of D_X9_bestTerms (i := 64) rfl) rfl
      · refine s_iconst (v := 1) (n := 50) hX (dec_of D_X9_bestTerms (i := 27) rfl) rfl (by decide) ?_
        refine s_istore (lv' := [(0, _), (1, _), (2, _), (3, _), (4, _), (5, _), (6, _), (7, _)]) [1, 2, 3, 4, 5, 6, 7, 0] (n := 52) hX (dec_of D_X9_bestTerms (i := 28) rfl) rfl (by decide) rfl ?_
        refine s_sub [0, 1, 2, 3, 4, 5, 6, 7] rfl (s_lp (pc := 52) (Sf := fun (z7 : ST × Int32 × Int32 × Int32 × Int32) => z7.1) (lvf := fun (z7 : ST × Int32 × Int32 × Int32 × Int32) => [(0, .ref (ga G 130 0)), (1, .int a1), (2, .int a2), (3, .int z7.2.1), (4, .int z7.2.2.1), (5, .int z7.2.2.2.1), (6, .int z4.2.2.2.2), (7, .int z7.2.2.2.2)]) (fun rec8 hre9 z7 => ?_) FU (z4.1, z4.2.1, z4.2.2.1, z4.2.2.2.1, 1))
        refine s_iload 7 (n := 54) hX (dec_of D_X9_bestTerms (i := 29) rfl) rfl rfl ?_
        refine s_iconst (v := 3) (n := 55) hX (dec_of D_X9_bestTerms (i := 30) rfl) rfl (by decide) ?_
        refine s_icmp_gt (tgt := 112) (n := 58) hX (dec_of D_X9_bestTerms (i := 31) rfl) rfl rfl ?_ ?_
        · refine s_iinc (v := z4.2.2.2.2 + 1) (lv' := [(0, _), (1, _), (2, _), (3, _), (4, _), (5, _), (6, _), (7, _)]) 6 [1, 2, 3, 4, 5, 6, 0, 7] (n := 115) hX (dec_of D_X9_bestTerms (i := 58) rfl) rfl rfl rfl (by decide) rfl ?_
          refine s_goto (n := 43) hX (dec_of D_X9_bestTerms (i := 59) rfl) rfl ?_
          exact s_sub [0, 1, 2, 3, 4, 5, 6] rfl (hre6 (z7.1, z7.2.1, z7.2.2.1, z7.2.2.2.1, (z4.2.2.2.2 + 1)))
        · refine s_aload_n 0 (n := 59) hX (dec_of D_X9_bestTerms (i := 32) rfl) rfl rfl rfl ?_
          refine s_getC (c := 9) (p := 3) (n := 62) 129 13 hX cls9 (vk130 (by omega)) (dec_of D_X9_bestTerms (i := 33) rfl) rfl rfl (by decide) wd_444 ?_
          refine s_iload_n 1 (n := 63) hX (dec_of D_X9_bestTerms (i := 34) rfl) rfl rfl rfl ?_
          refine s_iload 6 (n := 65) hX (dec_of D_X9_bestTerms (i := 35) rfl) rfl rfl ?_
          refine s_iload 7 (n := 67) hX (dec_of D_X9_bestTerms (i := 36) rfl) rfl rfl ?_
          refine s_callVV (c := 8) (n := 70) hX cls8 (vk129 (by omega)) lk_RX9_274 (dec_of D_X9_bestTerms (i := 37) rfl) rfl (by decide) (c_X8_setTerms (l := _) hG _ _ (by omega) _ _ _) rfl rfl (Nat.le_of_ble_eq_true rfl) (fun q10 => ?_)
          refine s_aload_n 0 (n := 71) hX (dec_of D_X9_bestTerms (i := 38) rfl) rfl rfl rfl ?_
          refine s_getC (c := 9) (p := 5) (n := 74) 127 0 hX cls9 (vk130 (by omega)) (dec_of D_X9_bestTerms (i := 39) rfl) rfl rfl (by decide) wd_446 ?_
          refine s_aload_n 0 (n := 75) hX (dec_of D_X9_bestTerms (i := 40) rfl) rfl rfl rfl ?_
          refine s_getQ (c := 9) (p := 7) (j := 0) (n := 78) hX cls9 (vk130 (by omega)) (dec_of D_X9_bestTerms (i := 41) rfl) rfl rfl wd_448 (fun rr11 hrr11 => ?_)
          refine s_aload_n 0 (n := 79) hX (dec_of D_X9_bestTerms (i := 42) rfl) rfl rfl rfl ?_
          refine s_getC (c := 9) (p := 3) (n := 82) 129 13 hX cls9 (vk130 (by omega)) (dec_of D_X9_bestTerms (i := 43) rfl) rfl rfl (by decide) wd_444 ?_
          refine s_iload_n 1 (n := 83) hX (dec_of D_X9_bestTerms (i := 44) rfl) rfl rfl rfl ?_
          refine s_callVP (c := 6) (n := 86) hX cls6 (vk127 (by omega)) lk_RX9_408 (dec_of D_X9_bestTerms (i := 45) rfl) rfl (by decide) (c_X6_toPlayersOf (l := _) hG _ _ (by omega) _ (by omega) _) rfl rfl (Nat.le_of_ble_eq_true rfl) (fun q12 => ?_)
          refine s_istore (lv' := [(0, _), (1, _), (2, _), (3, _), (4, _), (5, _), (6, _), (7, _), (8, _)]) [1, 2, 3, 4, 5, 6, 7, 8, 0] (n := 88) hX (dec_of D_X9_bestTerms (i := 46) rfl) rfl (by decide) rfl ?_
          refine s_iload 8 (n := 90) hX (dec_of D_X9_bestTerms (i := 47) rfl) rfl rfl ?_
          refine s_iload 5 (n := 92) hX (dec_of D_X9_bestTerms (i := 48) rfl) rfl rfl ?_
          refine s_icmp_le (tgt := 106) (n := 95) hX (dec_of D_X9_bestTerms (i := 49) rfl) rfl rfl ?_ ?_
          · refine s_iinc (v := z7.2.2.2.2 + 1) (lv' := [(0, _), (1, _), (2, _), (3, _), (4, _), (5, _), (6, _), (7, _), (8, _)]) 7 [1, 2, 3, 4, 5, 6, 7, 0, 8] (n := 109) hX (dec_of D_X9_bestTerms (i := 56) rfl) rfl rfl rfl (by decide) rfl ?_
            refine s_goto (n := 52) hX (dec_of D_X9_bestTerms (i := 57) rfl) rfl ?_
            exact s_sub [0, 1, 2, 3, 4, 5, 6, 7] rfl (hre9 (q12.2, z7.2.1, z7.2.2.1, z7.2.2.2.1, (z7.2.2.2.2 + 1)))
          · refine s_iload 6 (n := 97) hX (dec_of D_X9_bestTerms (i := 50) rfl) rfl rfl ?_
            refine s_istore_n (lv' := [(0, _), (1, _), (2, _), (3, _), (4, _), (5, _), (6, _), (7, _), (8, _)]) [1, 2, 3, 0, 4, 5, 6, 7, 8] (n := 98) hX (dec_of D_X9_bestTerms (i := 51) rfl) rfl rfl (by decide) rfl ?_
            refine s_iload 7 (n := 100) hX (dec_of D_X9_bestTerms (i := 52) rfl) rfl rfl ?_
            refine s_istore (lv' := [(0, _), (1, _), (2, _), (3, _), (4, _), (5, _), (6, _), (7, _), (8, _)]) [1, 2, 3, 4, 0, 5, 6, 7, 8] (n := 102) hX (dec_of D_X9_bestTerms (i := 53) rfl) rfl (by decide) rfl ?_
            refine s_iload 8 (n := 104) hX (dec_of D_X9_bestTerms (i := 54) rfl) rfl rfl ?_
            refine s_istore (lv' := [(0, _), (1, _), (2, _), (3, _), (4, _), (5, _), (6, _), (7, _), (8, _)]) [1, 2, 3, 4, 5, 0, 6, 7, 8] (n := 106) hX (dec_of D_X9_bestTerms (i := 55) rfl) rfl (by decide) rfl ?_
            refine s_iinc (v := z7.2.2.2.2 + 1) (lv' := [(0, _), (1, _), (2, _), (3, _), (4, _), (5, _), (6, _), (7, _), (8, _)]) 7 [1, 2, 3, 4, 5, 6, 7, 0, 8] (n := 109) hX (dec_of D_X9_bestTerms (i := 56) rfl) rfl rfl rfl (by decide) rfl ?_
            refine s_goto (n := 52) hX (dec_of D_X9_bestTerms (i := 57) rfl) rfl ?_
            exact s_sub [0, 1, 2, 3, 4, 5, 6, 7] rfl (hre9 (q12.2, z4.2.2.2.2, z7.2.2.2.2, q12.1, (z7.2.2.2.2 + 1)))
    · refine s_iconst (v := (-1)) (n := 17) hX (dec_of D_X9_bestTerms (i := 8) rfl) rfl (by decide) ?_
      exact s_iret hX hR (dec_of D_X9_bestTerms (i := 9) rfl) rfl
theorem lk_RX9_416 : LkV RX9 416 RX6 yX6_ofOpenSeats cX6_ofOpenSeats 7 (some .int) 3 := ⟨wd_1187, wd_1188, wd_1189, wd_90, wd_1190, by decide +kernel, by decide⟩
def T_X9_unknown : List (Nat × Instr × Nat) := [(0, .iload_n 1, 1), (1, .iconst 2, 1), (2, .invokestatic 207, 3), (5, .ifCond .ne 5, 3), (8, .iconst (-1), 1), (9, .ireturn, 1), (10, .aload_n 0, 1), (11, .getfield 47, 3), (14, .aload_n 0, 1), (15, .getfield 61, 3), (18, .aload_n 0, 1), (19, .getfield 19, 3), (22, .getfield 113, 3), (25, .iload_n 1, 1), (26, .ifCond .ne 7, 3), (29, .iconst 1, 1), (30, .goto 4, 3), (33, .iconst 2, 1), (34, .invokevirtual 416, 3), (37, .ireturn, 1)]
theorem D_X9_unknown : dchk cX9_unknown T_X9_unknown = true := by decide +kernel
def Rp_unknown (σ : ST) (a1 : Int32) : Option (Int32 × ST) :=
  bd_ (Rp_isChoice (σ) a1 2) (fun q1 => (if q1 = 0 then some ((-1), σ) else bd_ (ldQ σ 0) (fun rr2 => lk_ (fun kk4 => (if a1 = 0 then kk4 1 else kk4 2)) (fun (j3 : Int32) => bd_ (Rn_ofOpenSeats (σ) rr2 0 j3) (fun q6 => some (q6.1, q6.2))))))
set_option maxHeartbeats 4000000 in
set_option maxRecDepth 100000 in
theorem c_X9_unknown {G : GW} (hG : Good G) {l : Launch} (σ : ST) (a1 : Int32) : Ctr G l yX9_unknown cX9_unknown 2 (some .int) 5 [.ref (ga G 130 0), .int a1] σ oP (Rp_unknown σ a1) := by
  refine ctr_of hG (by decide) (Nat.le_of_ble_eq_true rfl) ?_
  intro X hXl hR hX
  have hX : Ok G X cX9_unknown 2 RX9 5 := hX
  unfold Rp_unknown
  show Sim G X 2 (MQX G X oP) σ 0 [(0, .ref (ga G 130 0)), (1, .int a1)] [] _
  refine s_iload_n 1 (n := 1) hX (dec_of D_X9_unknown (i := 0) rfl) rfl rfl rfl ?_
  refine s_iconst (v := 2) (n := 2) hX (dec_of D_X9_unknown (i := 1) rfl) rfl (by decide) ?_
  refine s_callSI (n := 5) hX lk_RX9_207 (dec_of D_X9_unknown (i := 2) rfl) rfl (by decide) (c_X9_isChoice (l := _) hG _ _ _) rfl rfl (Nat.le_of_ble_eq_true rfl) (fun q1 => ?_)
  refine s_if_ne (tgt := 10) (n := 8) hX (dec_of D_X9_unknown (i := 3) rfl) rfl rfl ?_ ?_
  · refine s_aload_n 0 (n := 11) hX (dec_of D_X9_unknown (i := 6) rfl) rfl rfl rfl ?_
    refine s_getC (c := 9) (p := 5) (n := 14) 127 0 hX cls9 (vk130 (by omega)) (dec_of D_X9_unknown (i := 7) rfl) rfl rfl (by decide) wd_446 ?_
    refine s_aload_n 0 (n := 15) hX (dec_of D_X9_unknown (i := 8) rfl) rfl rfl rfl ?_
    refine s_getQ (c := 9) (p := 7) (j := 0) (n := 18) hX cls9 (vk130 (by omega)) (dec_of D_X9_unknown (i := 9) rfl) rfl rfl wd_448 (fun rr2 hrr2 => ?_)
    refine s_aload_n 0 (n := 19) hX (dec_of D_X9_unknown (i := 10) rfl) rfl rfl rfl ?_
    refine s_getC (c := 9) (p := 1) (n := 22) 121 0 hX cls9 (vk130 (by omega)) (dec_of D_X9_unknown (i := 11) rfl) rfl rfl (by decide) wd_442 ?_
    refine s_getR (c := 0) (p := 0) (k' := 129) (n := 25) hX cls0 (vk121 (by omega)) (dec_of D_X9_unknown (i := 12) rfl) rfl rfl wd_219 ?_
    refine s_iload_n 1 (n := 26) hX (dec_of D_X9_unknown (i := 13) rfl) rfl rfl rfl ?_
    refine s_lk (pcj := 34) (Sf := fun (j3 : Int32) => σ) (lvf := fun (j3 : Int32) => []) (stf := fun (j3 : Int32) => [.int j3, .ref (ga G 129 0), .ref (ga G 126 rr2), .ref (ga G 127 0)]) (fun j3 => ?_) (fun kk4 hkk5 => ?_)
    · refine s_callVP (c := 6) (n := 37) hX cls6 (vk127 (by omega)) lk_RX9_416 (dec_of D_X9_unknown (i := 18) rfl) rfl (by decide) (c_X6_ofOpenSeats (l := _) hG _ _ (by omega) _ (by omega) _) rfl rfl (Nat.le_of_ble_eq_true rfl) (fun q6 => ?_)
      exact s_iret hX hR (dec_of D_X9_unknown (i := 19) rfl) rfl
    · refine s_if_ne (tgt := 33) (n := 29) hX (dec_of D_X9_unknown (i := 14) rfl) rfl rfl ?_ ?_
      · refine s_iconst (v := 2) (n := 34) hX (dec_of D_X9_unknown (i := 17) rfl) rfl (by decide) ?_
        exact s_sub [] rfl (hkk5 2)
      · refine s_iconst (v := 1) (n := 30) hX (dec_of D_X9_unknown (i := 15) rfl) rfl (by decide) ?_
        refine s_goto (n := 34) hX (dec_of D_X9_unknown (i := 16) rfl) rfl ?_
        exact s_sub [] rfl (hkk5 1)
  · refine s_iconst (v := (-1)) (n := 9) hX (dec_of D_X9_unknown (i := 4) rfl) rfl (by decide) ?_
    exact s_iret hX hR (dec_of D_X9_unknown (i := 5) rfl) rfl
theorem lk_RX9_440 : LkV RX9 440 RX6 yX6_toPlayer cX6_toPlayer 7 (some .int) 3 := ⟨wd_1200, wd_1201, wd_1202, wd_90, wd_1203, by decide +kernel, by decide⟩
def T_X9_roundFrom : List (Nat × Instr × Nat) := [(0, .aload_n 0, 1), (1, .getfield 33, 3), (4, .aload_n 0, 1), (5, .getfield 19, 3), (8, .getfield 113, 3), (11, .invokevirtual 270, 3), (14, .aload_n 0, 1), (15, .getfield 33, 3), (18, .getfield 153, 3), (21, .iload_n 1, 1), (22, .iload_n 2, 1), (23, .iastore, 1), (24, .aload_n 0, 1), (25, .getfield 47, 3), (28, .aload_n 0, 1), (29, .getfield 61, 3), (32, .aload_n 0, 1), (33, .getfield 33, 3), (36, .iload_n 1, 1), (37, .invokevirtual 440, 3), (40, .ireturn, 1)]
theorem D_X9_roundFrom : dchk cX9_roundFrom T_X9_roundFrom = true := by decide +kernel
def Rp_roundFrom (σ : ST) (a1 : Int32) (a2 : Int32) : Option (Int32 × ST) :=
  bd_ (Wo_copyFrom (σ) 13 0) (fun q1 => bd_ (stI q1 26 13 a1 a2) (fun s2 => bd_ (ldQ s2 0) (fun rr3 => bd_ (Rn_toPlayer s2 rr3 13 a1) (fun q4 => some (q4.1, q4.2)))))
set_option maxHeartbeats 4000000 in
set_option maxRecDepth 100000 in
theorem c_X9_roundFrom {G : GW} (hG : Good G) {l : Launch} (σ : ST) (a1 : Int32) (a2 : Int32) : Ctr G l yX9_roundFrom cX9_roundFrom 3 (some .int) 5 [.ref (ga G 130 0), .int a1, .int a2] σ oP (Rp_roundFrom σ a1 a2) := by
  refine ctr_of hG (by decide) (Nat.le_of_ble_eq_true rfl) ?_
  intro X hXl hR hX
  have hX : Ok G X cX9_roundFrom 3 RX9 5 := hX
  unfold Rp_roundFrom
  show Sim G X 3 (MQX G X oP) σ 0 [(0, .ref (ga G 130 0)), (1, .int a1), (2, .int a2)] [] _
  refine s_aload_n 0 (n := 1) hX (dec_of D_X9_roundFrom (i := 0) rfl) rfl rfl rfl ?_
  refine s_getC (c := 9) (p := 3) (n := 4) 129 13 hX cls9 (vk130 (by omega)) (dec_of D_X9_roundFrom (i := 1) rfl) rfl rfl (by decide) wd_444 ?_
  refine s_aload_n 0 (n := 5) hX (dec_of D_X9_roundFrom (i := 2) rfl) rfl rfl rfl ?_
  refine s_getC (c := 9) (p := 1) (n := 8) 121 0 hX cls9 (vk130 (by omega)) (dec_of D_X9_roundFrom (i := 3) rfl) rfl rfl (by decide) wd_442 ?_
  refine s_getR (c := 0) (p := 0) (k' := 129) (n := 11) hX cls0 (vk121 (by omega)) (dec_of D_X9_roundFrom (i := 4) rfl) rfl rfl wd_219 ?_
  refine s_callVV (c := 8) (n := 14) hX cls8 (vk129 (by omega)) lk_RX9_270 (dec_of D_X9_roundFrom (i := 5) rfl) rfl (by decide) (c_X8_copyFrom (l := _) hG _ _ (by omega) _ (by omega)) rfl rfl (Nat.le_of_ble_eq_true rfl) (fun q1 => ?_)
  refine s_aload_n 0 (n := 15) hX (dec_of D_X9_roundFrom (i := 6) rfl) rfl rfl rfl ?_
  refine s_getC (c := 9) (p := 3) (n := 18) 129 13 hX cls9 (vk130 (by omega)) (dec_of D_X9_roundFrom (i := 7) rfl) rfl rfl (by decide) wd_444 ?_
  refine s_getR (c := 8) (p := 2) (k' := 26) (n := 21) hX cls8 (vk129 (by omega)) (dec_of D_X9_roundFrom (i := 8) rfl) rfl rfl wd_203 ?_
  refine s_iload_n 1 (n := 22) hX (dec_of D_X9_roundFrom (i := 9) rfl) rfl rfl rfl ?_
  refine s_iload_n 2 (n := 23) hX (dec_of D_X9_roundFrom (i := 10) rfl) rfl rfl rfl ?_
  refine s_iast (n := 24) hX (vk26 (by omega)) (by decide) (dec_of D_X9_roundFrom (i := 11) rfl) rfl (fun s2 => ?_)
  refine s_aload_n 0 (n := 25) hX (dec_of D_X9_roundFrom (i := 12) rfl) rfl rfl rfl ?_
  refine s_getC (c := 9) (p := 5) (n := 28) 127 0 hX cls9 (vk130 (by omega)) (dec_of D_X9_roundFrom (i := 13) rfl) rfl rfl (by decide) wd_446 ?_
  refine s_aload_n 0 (n := 29) hX (dec_of D_X9_roundFrom (i := 14) rfl) rfl rfl rfl ?_
  refine s_getQ (c := 9) (p := 7) (j := 0) (n := 32) hX cls9 (vk130 (by omega)) (dec_of D_X9_roundFrom (i := 15) rfl) rfl rfl wd_448 (fun rr3 hrr3 => ?_)
  refine s_aload_n 0 (n := 33) hX (dec_of D_X9_roundFrom (i := 16) rfl) rfl rfl rfl ?_
  refine s_getC (c := 9) (p := 3) (n := 36) 129 13 hX cls9 (vk130 (by omega)) (dec_of D_X9_roundFrom (i := 17) rfl) rfl rfl (by decide) wd_444 ?_
  refine s_iload_n 1 (n := 37) hX (dec_of D_X9_roundFrom (i := 18) rfl) rfl rfl rfl ?_
  refine s_callVP (c := 6) (n := 40) hX cls6 (vk127 (by omega)) lk_RX9_440 (dec_of D_X9_roundFrom (i := 19) rfl) rfl (by decide) (c_X6_toPlayer (l := _) hG _ _ (by omega) _ (by omega) _) rfl rfl (Nat.le_of_ble_eq_true rfl) (fun q4 => ?_)
  exact s_iret hX hR (dec_of D_X9_roundFrom (i := 20) rfl) rfl
theorem lk_RX9_419 : LkV RX9 419 RX9 yX9_roundFrom cX9_roundFrom 3 (some .int) 2 := ⟨wd_1196, wd_1198, wd_13, wd_83, wd_1199, by decide +kernel, by decide⟩
def T_X9_moveGain : List (Nat × Instr × Nat) := [(0, .aload_n 0, 1), (1, .iload_n 1, 1), (2, .invokevirtual 148, 3), (5, .ifCond .eq 11, 3), (8, .aload_n 0, 1), (9, .iload_n 2, 1), (10, .invokevirtual 102, 3), (13, .ifCond .ne 7, 3), (16, .ldc_w 364, 3), (19, .ireturn, 1), (20, .aload_n 0, 1), (21, .iload_n 1, 1), (22, .iload_n 2, 1), (23, .invokevirtual 419, 3), (26, .aload_n 0, 1), (27, .iload_n 1, 1), (28, .aload_n 0, 1), (29, .getfield 19, 3), (32, .getfield 113, 3), (35, .getfield 153, 3), (38, .iload_n 1, 1), (39, .iaload, 1), (40, .invokevirtual 419, 3), (43, .isub, 1), (44, .ireturn, 1)]
theorem D_X9_moveGain : dchk cX9_moveGain T_X9_moveGain = true := by decide +kernel
def Rp_moveGain (σ : ST) (a1 : Int32) (a2 : Int32) : Option (Int32 × ST) :=
  bd_ (Rp_isPlayer (σ) a1) (fun q1 => (if q1 = 0 then some ((-1000000000), σ) else bd_ (Rp_isLand (σ) a2) (fun q2 => (if q2 = 0 then some ((-1000000000), σ) else bd_ (Rp_roundFrom (σ) a1 a2) (fun q3 => bd_ (ldI q3.2 26 0 a1) (fun v4 => bd_ (Rp_roundFrom q3.2 a1 v4) (fun q5 => some ((q3.1 - q5.1), q5.2))))))))
set_option maxHeartbeats 4000000 in
set_option maxRecDepth 100000 in
theorem c_X9_moveGain {G : GW} (hG : Good G) {l : Launch} (σ : ST) (a1 : Int32) (a2 : Int32) : Ctr G l yX9_moveGain cX9_moveGain 3 (some .int) 6 [.ref (ga G 130 0), .int a1, .int a2] σ oP (Rp_moveGain σ a1 a2) := by
  refine ctr_of hG (by decide) (Nat.le_of_ble_eq_true rfl) ?_
  intro X hXl hR hX
  have hX : Ok G X cX9_moveGain 3 RX9 6 := hX
  unfold Rp_moveGain
  show Sim G X 3 (MQX G X oP) σ 0 [(0, .ref (ga G 130 0)), (1, .int a1), (2, .int a2)] [] _
  refine s_aload_n 0 (n := 1) hX (dec_of D_X9_moveGain (i := 0) rfl) rfl rfl rfl ?_
  refine s_iload_n 1 (n := 2) hX (dec_of D_X9_moveGain (i := 1) rfl) rfl rfl rfl ?_
  refine s_callVI (c := 9) (n := 5) hX cls9 (vk130 (by omega)) lk_RX9_148 (dec_of D_X9_moveGain (i := 2) rfl) rfl (by decide) (c_X9_isPlayer (l := _) hG _ _) rfl rfl (Nat.le_of_ble_eq_true rfl) (fun q1 => ?_)
  refine s_if_eq (tgt := 16) (n := 8) hX (dec_of D_X9_moveGain (i := 3) rfl) rfl rfl ?_ ?_
  · refine s_ldcw (v := (-1000000000)) (n := 19) hX (dec_of D_X9_moveGain (i := 8) rfl) rfl wd_1061 ?_
    exact s_iret hX hR (dec_of D_X9_moveGain (i := 9) rfl) rfl
  · refine s_aload_n 0 (n := 9) hX (dec_of D_X9_moveGain (i := 4) rfl) rfl rfl rfl ?_
    refine s_iload_n 2 (n := 10) hX (dec_of D_X9_moveGain (i := 5) rfl) rfl rfl rfl ?_
    refine s_callVI (c := 9) (n := 13) hX cls9 (vk130 (by omega)) lk_RX9_102 (dec_of D_X9_moveGain (i := 6) rfl) rfl (by decide) (c_X9_isLand (l := _) hG _ _) rfl rfl (Nat.le_of_ble_eq_true rfl) (fun q2 => ?_)
    refine s_if_ne (tgt := 20) (n := 16) hX (dec_of D_X9_moveGain (i := 7) rfl) rfl rfl ?_ ?_
    · refine s_aload_n 0 (n := 21) hX (dec_of D_X9_moveGain (i := 10) rfl) rfl rfl rfl ?_
      refine s_iload_n 1 (n := 22) hX (dec_of D_X9_moveGain (i := 11) rfl) rfl rfl rfl ?_
      refine s_iload_n 2 (n := 23) hX (dec_of D_X9_moveGain (i := 12) rfl) rfl rfl rfl ?_
      refine s_callVP (c := 9) (n := 26) hX cls9 (vk130 (by omega)) lk_RX9_419 (dec_of D_X9_moveGain (i := 13) rfl) rfl (by decide) (c_X9_roundFrom (l := _) hG _ _ _) rfl rfl (Nat.le_of_ble_eq_true rfl) (fun q3 => ?_)
      refine s_aload_n 0 (n := 27) hX (dec_of D_X9_moveGain (i := 14) rfl) rfl rfl rfl ?_
      refine s_iload_n 1 (n := 28) hX (dec_of D_X9_moveGain (i := 15) rfl) rfl rfl rfl ?_
      refine s_aload_n 0 (n := 29) hX (dec_of D_X9_moveGain (i := 16) rfl) rfl rfl rfl ?_
      refine s_getC (c := 9) (p := 1) (n := 32) 121 0 hX cls9 (vk130 (by omega)) (dec_of D_X9_moveGain (i := 17) rfl) rfl rfl (by decide) wd_442 ?_
      refine s_getR (c := 0) (p := 0) (k' := 129) (n := 35) hX cls0 (vk121 (by omega)) (dec_of D_X9_moveGain (i := 18) rfl) rfl rfl wd_219 ?_
      refine s_getR (c := 8) (p := 2) (k' := 26) (n := 38) hX cls8 (vk129 (by omega)) (dec_of D_X9_moveGain (i := 19) rfl) rfl rfl wd_203 ?_
      refine s_iload_n 1 (n := 39) hX (dec_of D_X9_moveGain (i := 20) rfl) rfl rfl rfl ?_
      refine s_iald (n := 40) hX (vk26 (by omega)) (by decide) (dec_of D_X9_moveGain (i := 21) rfl) rfl (fun v4 => ?_)
      refine s_callVP (c := 9) (n := 43) hX cls9 (vk130 (by omega)) lk_RX9_419 (dec_of D_X9_moveGain (i := 22) rfl) rfl (by decide) (c_X9_roundFrom (l := _) hG _ _ _) rfl rfl (Nat.le_of_ble_eq_true rfl) (fun q5 => ?_)
      refine s_isub (n := 44) hX (dec_of D_X9_moveGain (i := 23) rfl) rfl ?_
      exact s_iret hX hR (dec_of D_X9_moveGain (i := 24) rfl) rfl
    · refine s_ldcw (v := (-1000000000)) (n := 19) hX (dec_of D_X9_moveGain (i := 8) rfl) rfl wd_1061 ?_
      exact s_iret hX hR (dec_of D_X9_moveGain (i := 9) rfl) rfl
def T_X9_bestHome : List (Nat × Instr × Nat) := [(0, .aload_n 0, 1), (1, .iload_n 1, 1), (2, .invokevirtual 148, 3), (5, .ifCond .eq 11, 3), (8, .iload_n 2, 1), (9, .iconst 2, 1), (10, .invokestatic 207, 3), (13, .ifCond .ne 5, 3), (16, .iconst (-1), 1), (17, .ireturn, 1), (18, .iconst (-1), 1), (19, .istore_n 3, 1), (20, .iconst (-1), 1), (21, .istore 4, 2), (23, .iconst 0, 1), (24, .istore 5, 2), (26, .iload 5, 2), (28, .aload_n 0, 1), (29, .getfield 61, 3), (32, .getfield 229, 3), (35, .if_icmp .ge 32, 3), (38, .aload_n 0, 1), (39, .iload_n 1, 1), (40, .iload 5, 2), (42, .invokevirtual 419, 3), (45, .istore 6, 2), (47, .iload 6, 2), (49, .iload 4, 2), (51, .if_icmp .le 10, 3), (54, .iload 5, 2), (56, .istore_n 3, 1), (57, .iload 6, 2), (59, .istore 4, 2), (61, .iinc 5 1, 3), (64, .goto (-38), 3), (67, .iload_n 2, 1), (68, .ifCond .ne 7, 3), (71, .iload_n 3, 1), (72, .goto 5, 3), (75, .iload 4, 2), (77, .ireturn, 1)]
theorem D_X9_bestHome : dchk cX9_bestHome T_X9_bestHome = true := by decide +kernel
def Rp_bestHome (σ : ST) (a1 : Int32) (a2 : Int32) : Option (Int32 × ST) :=
  bd_ (Rp_isPlayer (σ) a1) (fun q1 => (if q1 = 0 then some ((-1), σ) else bd_ (Rp_isChoice (σ) a2 2) (fun q2 => (if q2 = 0 then some ((-1), σ) else lp_ (fun rec4 (z3 : ST × Int32 × Int32 × Int32) => bd_ (ldQ z3.1 0) (fun rr6 => (if (gF z3.1 529 rr6) ≤ z3.2.2.2 then (if a2 = 0 then some (z3.2.1, z3.1) else some (z3.2.2.1, z3.1)) else bd_ (Rp_roundFrom z3.1 a1 z3.2.2.2) (fun q7 => (if q7.1 ≤ z3.2.2.1 then rec4 (q7.2, z3.2.1, z3.2.2.1, (z3.2.2.2 + 1)) else rec4 (q7.2, z3.2.2.2, q7.1, (z3.2.2.2 + 1))))))) FU (σ, (-1), (-1), 0)))))
set_option maxHeartbeats 4000000 in
set_option maxRecDepth 100000 in
theorem c_X9_bestHome {G : GW} (hG : Good G) {l : Launch} (σ : ST) (a1 : Int32) (a2 : Int32) : Ctr G l yX9_bestHome cX9_bestHome 7 (some .int) 6 [.ref (ga G 130 0), .int a1, .int a2] σ oP (Rp_bestHome σ a1 a2) := by
  refine ctr_of hG (by decide) (Nat.le_of_ble_eq_true rfl) ?_
  intro X hXl hR hX
  have hX : Ok G X cX9_bestHome 7 RX9 6 := hX
  unfold Rp_bestHome
  show Sim G X 7 (MQX G X oP) σ 0 [(0, .ref (ga G 130 0)), (1, .int a1), (2, .int a2)] [] _
  refine s_aload_n 0 (n := 1) hX (dec_of D_X9_bestHome (i := 0) rfl) rfl rfl rfl ?_
  refine s_iload_n 1 (n := 2) hX (dec_of D_X9_bestHome (i := 1) rfl) rfl rfl rfl ?_
  refine s_callVI (c := 9) (n := 5) hX cls9 (vk130 (by omega)) lk_RX9_148 (dec_of D_X9_bestHome (i := 2) rfl) rfl (by decide) (c_X9_isPlayer (l := _) hG _ _) rfl rfl (Nat.le_of_ble_eq_true rfl) (fun q1 => ?_)
  refine s_if_eq (tgt := 16) (n := 8) hX (dec_of D_X9_bestHome (i := 3) rfl) rfl rfl ?_ ?_
  · refine s_iconst (v := (-1)) (n := 17) hX (dec_of D_X9_bestHome (i := 8) rfl) rfl (by decide) ?_
    exact s_iret hX hR (dec_of D_X9_bestHome (i := 9) rfl) rfl
  · refine s_iload_n 2 (n := 9) hX (dec_of D_X9_bestHome (i := 4) rfl) rfl rfl rfl ?_
    refine s_iconst (v := 2) (n := 10) hX (dec_of D_X9_bestHome (i := 5) rfl) rfl (by decide) ?_
    refine s_callSI (n := 13) hX lk_RX9_207 (dec_of D_X9_bestHome (i := 6) rfl) rfl (by decide) (c_X9_isChoice (l := _) hG _ _ _) rfl rfl (Nat.le_of_ble_eq_true rfl) (fun q2 => ?_)
    refine s_if_ne (tgt := 18) (n := 16) hX (dec_of D_X9_bestHome (i := 7) rfl) rfl rfl ?_ ?_
    · refine s_iconst (v := (-1)) (n := 19) hX (dec_of D_X9_bestHome (i := 10) rfl) rfl (by decide) ?_
      refine s_istore_n (lv' := [(0, _), (1, _), (2, _), (3, _)]) [1, 2, 3, 0] (n := 20) hX (dec_of D_X9_bestHome (i := 11) rfl) rfl rfl (by decide) rfl ?_
      refine s_iconst (v := (-1)) (n := 21) hX (dec_of D_X9_bestHome (i := 12) rfl) rfl (by decide) ?_
      refine s_istore (lv' := [(0, _), (1, _), (2, _), (3, _), (4, _)]) [1, 2, 3, 4, 0] (n := 23) hX (dec_of D_X9_bestHome (i := 13) rfl) rfl (by decide) rfl ?_
      refine s_iconst (v := 0) (n := 24) hX (dec_of D_X9_bestHome (i := 14) rfl) rfl (by decide) ?_
      refine s_istore (lv' := [(0, _), (1, _), (2, _), (3, _), (4, _), (5, _)]) [1, 2, 3, 4, 5, 0] (n := 26) hX (dec_of D_X9_bestHome (i := 15) rfl) rfl (by decide) rfl ?_
      refine s_sub [0, 1, 2, 3, 4, 5] rfl (s_lp (pc := 26) (Sf := fun (z3 : ST × Int32 × Int32 × Int32) => z3.1) (lvf := fun (z3 : ST × Int32 × Int32 × Int32) => [(0, .ref (ga G 130 0)), (1, .int a1), (2, .int a2), (3, .int z3.2.1), (4, .int z3.2.2.1), (5, .int z3.2.2.2)]) (fun rec4 hre5 z3 => ?_) FU (σ, (-1), (-1), 0))
      refine s_iload 5 (n := 28) hX (dec_of D_X9_bestHome (i := 16) rfl) rfl rfl ?_
      refine s_aload_n 0 (n := 29) hX (dec_of D_X9_bestHome (i := 17) rfl) rfl rfl rfl ?_
      refine s_getQ (c := 9) (p := 7) (j := 0) (n := 32) hX cls9 (vk130 (by omega)) (dec_of D_X9_bestHome (i := 18) rfl) rfl rfl wd_448 (fun rr6 hrr6 => ?_)
      refine s_getI (c := 5) (p := 9) (id := 529) (n := 35) hX cls5 (vk126 (by omega)) (dec_of D_X9_bestHome (i := 19) rfl) rfl rfl wd_392 ?_
      refine s_icmp_ge (tgt := 67) (n := 38) hX (dec_of D_X9_bestHome (i := 20) rfl) rfl rfl ?_ ?_
      · refine s_iload_n 2 (n := 68) hX (dec_of D_X9_bestHome (i := 35) rfl) rfl rfl rfl ?_
        refine s_if_ne (tgt := 75) (n := 71) hX (dec_of D_X9_bestHome (i := 36) rfl) rfl rfl ?_ ?_
        · refine s_iload 4 (n := 77) hX (dec_of D_X9_bestHome (i := 39) rfl) rfl rfl ?_
          exact s_iret hX hR (dec_of D_X9_bestHome (i := 40) rfl) rfl
        · refine s_iload_n 3 (n := 72) hX (dec_of D_X9_bestHome (i := 37) rfl) rfl rfl rfl ?_
          refine s_goto (n := 77) hX (dec_of D_X9_bestHome (i := 38) rfl) rfl ?_
          exact s_iret hX hR (dec_of D_X9_bestHome (i := 40) rfl) rfl
      · refine s_aload_n 0 (n := 39) hX (dec_of D_X9_bestHome (i := 21) rfl) rfl rfl rfl ?_
        refine s_iload_n 1 (n := 40) hX (dec_of D_X9_bestHome (i := 22) rfl) rfl rfl rfl ?_
        refine s_iload 5 (n := 42) hX (dec_of D_X9_bestHome (i := 23) rfl) rfl rfl ?_
        refine s_callVP (c := 9) (n := 45) hX cls9 (vk130 (by omega)) lk_RX9_419 (dec_of D_X9_bestHome (i := 24) rfl) rfl (by decide) (c_X9_roundFrom (l := _) hG _ _ _) rfl rfl (Nat.le_of_ble_eq_true rfl) (fun q7 => ?_)
        refine s_istore (lv' := [(0, _), (1, _), (2, _), (3, _), (4, _), (5, _), (6, _)]) [1, 2, 3, 4, 5, 6, 0] (n := 47) hX (dec_of D_X9_bestHome (i := 25) rfl) rfl (by decide) rfl ?_
        refine s_iload 6 (n := 49) hX (dec_of D_X9_bestHome (i := 26) rfl) rfl rfl ?_
        refine s_iload 4 (n := 51) hX (dec_of D_X9_bestHome (i := 27) rfl) rfl rfl ?_
        refine s_icmp_le (tgt := 61) (n := 54) hX (dec_of D_X9_bestHome (i := 28) rfl) rfl rfl ?_ ?_
        · refine s_iinc (v := z3.2.2.2 + 1) (lv' := [(0, _), (1, _), (2, _), (3, _), (4, _), (5, _), (6, _)]) 5 [1, 2, 3, 4, 5, 0, 6] (n := 64) hX (dec_of D_X9_bestHome (i := 33) rfl) rfl rfl rfl (by decide) rfl ?_
          refine s_goto (n := 26) hX (dec_of D_X9_bestHome (i := 34) rfl) rfl ?_
          exact s_sub [0, 1, 2, 3, 4, 5] rfl (hre5 (q7.2, z3.2.1, z3.2.2.1, (z3.2.2.2 + 1)))
        · refine s_iload 5 (n := 56) hX (dec_of D_X9_bestHome (i := 29) rfl) rfl rfl ?_
          refine s_istore_n (lv' := [(0, _), (1, _), (2, _), (3, _), (4, _), (5, _), (6, _)]) [1, 2, 3, 0, 4, 5, 6] (n := 57) hX (dec_of D_X9_bestHome (i := 30) rfl) rfl rfl (by decide) rfl ?_
          refine s_iload 6 (n := 59) hX (dec_of D_X9_bestHome (i := 31) rfl) rfl rfl ?_
          refine s_istore (lv' := [(0, _), (1, _), (2, _), (3, _), (4, _), (5, _), (6, _)]) [1, 2, 3, 4, 0, 5, 6] (n := 61) hX (dec_of D_X9_bestHome (i := 32) rfl) rfl (by decide) rfl ?_
          refine s_iinc (v := z3.2.2.2 + 1) (lv' := [(0, _), (1, _), (2, _), (3, _), (4, _), (5, _), (6, _)]) 5 [1, 2, 3, 4, 5, 0, 6] (n := 64) hX (dec_of D_X9_bestHome (i := 33) rfl) rfl rfl rfl (by decide) rfl ?_
          refine s_goto (n := 26) hX (dec_of D_X9_bestHome (i := 34) rfl) rfl ?_
          exact s_sub [0, 1, 2, 3, 4, 5] rfl (hre5 (q7.2, z3.2.2.2, q7.1, (z3.2.2.2 + 1)))
    · refine s_iconst (v := (-1)) (n := 17) hX (dec_of D_X9_bestHome (i := 8) rfl) rfl (by decide) ?_
      exact s_iret hX hR (dec_of D_X9_bestHome (i := 9) rfl) rfl
def T_X10_opens : List (Nat × Instr × Nat) := [(0, .iconst 0, 1), (1, .istore_n 1, 1), (2, .iload_n 1, 1), (3, .bipush 40, 2), (5, .if_icmp .ge 20, 3), (8, .aload_n 0, 1), (9, .getfield 28, 3), (12, .sipush 2604, 3), (15, .iload_n 1, 1), (16, .iadd, 1), (17, .iconst (-1), 1), (18, .iastore, 1), (19, .iinc 1 1, 3), (22, .goto (-20), 3), (25, .return_, 1)]
theorem D_X10_opens : dchk cX10_opens T_X10_opens = true := by decide +kernel
def Mo_opens (σ : ST)  : Option ST :=
  lp_ (fun rec2 (z1 : ST × Int32) => (if 40 ≤ z1.2 then some z1.1 else bd_ (stI z1.1 34 0 (2604 + z1.2) (-1)) (fun s4 => rec2 (s4, (z1.2 + 1))))) FU (σ, 0)
set_option maxHeartbeats 4000000 in
set_option maxRecDepth 100000 in
theorem c_X10_opens {G : GW} (hG : Good G) {l : Launch} (σ : ST)  : Ctr G l yX10_opens cX10_opens 2 none 0 [.ref (ga G 131 0)] σ oV (Mo_opens σ ) := by
  refine ctr_of hG (by decide) (Nat.le_of_ble_eq_true rfl) ?_
  intro X hXl hR hX
  have hX : Ok G X cX10_opens 2 RX10 0 := hX
  unfold Mo_opens
  show Sim G X 2 (MQX G X oV) σ 0 [(0, .ref (ga G 131 0))] [] _
  refine s_iconst (v := 0) (n := 1) hX (dec_of D_X10_opens (i := 0) rfl) rfl (by decide) ?_
  refine s_istore_n (lv' := [(0, _), (1, _)]) [1, 0] (n := 2) hX (dec_of D_X10_opens (i := 1) rfl) rfl rfl (by decide) rfl ?_
  refine s_sub [0, 1] rfl (s_lp (pc := 2) (Sf := fun (z1 : ST × Int32) => z1.1) (lvf := fun (z1 : ST × Int32) => [(0, .ref (ga G 131 0)), (1, .int z1.2)]) (fun rec2 hre3 z1 => ?_) FU (σ, 0))
  refine s_iload_n 1 (n := 3) hX (dec_of D_X10_opens (i := 2) rfl) rfl rfl rfl ?_
  refine s_bipush (v := 40) (n := 5) hX (dec_of D_X10_opens (i := 3) rfl) rfl (by decide) ?_
  refine s_icmp_ge (tgt := 25) (n := 8) hX (dec_of D_X10_opens (i := 4) rfl) rfl rfl ?_ ?_
  · exact s_vret hX hR (dec_of D_X10_opens (i := 14) rfl) rfl
  · refine s_aload_n 0 (n := 9) hX (dec_of D_X10_opens (i := 5) rfl) rfl rfl rfl ?_
    refine s_getR (c := 10) (p := 14) (k' := 34) (n := 12) hX cls10 (vk131 (by omega)) (dec_of D_X10_opens (i := 6) rfl) rfl rfl wd_1360 ?_
    refine s_sipush (v := 2604) (n := 15) hX (dec_of D_X10_opens (i := 7) rfl) rfl (by decide) ?_
    refine s_iload_n 1 (n := 16) hX (dec_of D_X10_opens (i := 8) rfl) rfl rfl rfl ?_
    refine s_iadd (n := 17) hX (dec_of D_X10_opens (i := 9) rfl) rfl ?_
    refine s_iconst (v := (-1)) (n := 18) hX (dec_of D_X10_opens (i := 10) rfl) rfl (by decide) ?_
    refine s_iast (n := 19) hX (vk34 (by omega)) (by decide) (dec_of D_X10_opens (i := 11) rfl) rfl (fun s4 => ?_)
    refine s_iinc (v := z1.2 + 1) (lv' := [(0, _), (1, _)]) 1 [1, 0] (n := 22) hX (dec_of D_X10_opens (i := 12) rfl) rfl rfl rfl (by decide) rfl ?_
    refine s_goto (n := 2) hX (dec_of D_X10_opens (i := 13) rfl) rfl ?_
    exact s_sub [0, 1] rfl (hre3 (s4, (z1.2 + 1)))
def T_X10_thrown : List (Nat × Instr × Nat) := [(0, .aload_n 0, 1), (1, .getfield 86, 3), (4, .ireturn, 1)]
theorem D_X10_thrown : dchk cX10_thrown T_X10_thrown = true := by decide +kernel
def Mo_thrown (σ : ST)  : Option Int32 :=
  some (gF σ 840 0)
set_option maxHeartbeats 4000000 in
set_option maxRecDepth 100000 in
theorem c_X10_thrown {G : GW} (hG : Good G) {l : Launch} (σ : ST)  : Ctr G l yX10_thrown cX10_thrown 1 (some .int) 0 [.ref (ga G 131 0)] σ (oI σ) (Mo_thrown σ ) := by
  refine ctr_of hG (by decide) (Nat.le_of_ble_eq_true rfl) ?_
  intro X hXl hR hX
  have hX : Ok G X cX10_thrown 1 RX10 0 := hX
  unfold Mo_thrown
  show Sim G X 1 (MQX G X (oI σ)) σ 0 [(0, .ref (ga G 131 0))] [] _
  refine s_aload_n 0 (n := 1) hX (dec_of D_X10_thrown (i := 0) rfl) rfl rfl rfl ?_
  refine s_getI (c := 10) (p := 0) (id := 840) (n := 4) hX cls10 (vk131 (by omega)) (dec_of D_X10_thrown (i := 1) rfl) rfl rfl wd_1346 ?_
  exact s_iret hX hR (dec_of D_X10_thrown (i := 2) rfl) rfl
def T_X10_feed : List (Nat × Instr × Nat) := [(0, .aload_n 0, 1), (1, .iconst 0, 1), (2, .putfield 86, 3), (5, .aload_n 0, 1), (6, .getfield 89, 3), (9, .sipush 880, 3), (12, .if_icmp .le 5, 3), (15, .iconst (-1), 1), (16, .ireturn, 1), (17, .iconst 0, 1), (18, .istore 6, 2), (20, .iload 6, 2), (22, .bipush 20, 2), (24, .if_icmp .ge 86, 3), (27, .iload 6, 2), (29, .iconst 4, 1), (30, .if_icmp .ge 7, 3), (33, .iload_n 1, 1), (34, .goto 39, 3), (37, .iload 6, 2), (39, .bipush 8, 2), (41, .if_icmp .ge 7, 3), (44, .iload_n 2, 1), (45, .goto 28, 3), (48, .iload 6, 2), (50, .bipush 12, 2), (52, .if_icmp .ge 7, 3), (55, .iload_n 3, 1), (56, .goto 17, 3), (59, .iload 6, 2), (61, .bipush 16, 2), (63, .if_icmp .ge 8, 3), (66, .iload 4, 2), (68, .goto 5, 3), (71, .iload 5, 2), (73, .istore 7, 2), (75, .aload_n 0, 1), (76, .getfield 7, 3), (79, .aload_n 0, 1), (80, .getfield 89, 3), (83, .iload 6, 2), (85, .iadd, 1), (86, .iload 7, 2), (88, .bipush 24, 2), (90, .bipush 8, 2), (92, .iload 6, 2), (94, .iconst 4, 1), (95, .irem, 1), (96, .imul, 1), (97, .isub, 1), (98, .ishr, 1), (99, .sipush 255, 3), (102, .iand, 1), (103, .iastore, 1), (104, .iinc 6 1, 3), (107, .goto (-87), 3), (110, .aload_n 0, 1), (111, .dup, 1), (112, .getfield 89, 3), (115, .bipush 20, 2), (117, .iadd, 1), (118, .putfield 89, 3), (121, .aload_n 0, 1), (122, .getfield 89, 3), (125, .ireturn, 1)]
theorem D_X10_feed : dchk cX10_feed T_X10_feed = true := by decide +kernel
def Mo_feed (σ : ST) (a1 : Int32) (a2 : Int32) (a3 : Int32) (a4 : Int32) (a5 : Int32) : Option (Int32 × ST) :=
  lt_ (setF σ 840 0 0) (fun s1 => (if (gF s1 842 0) ≤ 880 then lp_ (fun rec3 (z2 : ST × Int32) => (if 20 ≤ z2.2 then lt_ (setF z2.1 842 0 ((gF z2.1 842 0) + 20)) (fun s5 => some ((gF s5 842 0), s5)) else lk_ (fun kk7 => (if 4 ≤ z2.2 then (if 8 ≤ z2.2 then (if 12 ≤ z2.2 then (if 16 ≤ z2.2 then kk7 a5 else kk7 a4) else kk7 a3) else kk7 a2) else kk7 a1)) (fun (j6 : Int32) => bd_ (irm z2.2 4) (fun v9 => bd_ (stI z2.1 28 0 ((gF z2.1 842 0) + z2.2) ((j6 >>> ((24 - (8 * v9)) &&& 31)) &&& 255)) (fun s10 => rec3 (s10, (z2.2 + 1))))))) FU (s1, 0) else some ((-1), s1)))
set_option maxHeartbeats 4000000 in
set_option maxRecDepth 100000 in
theorem c_X10_feed {G : GW} (hG : Good G) {l : Launch} (σ : ST) (a1 : Int32) (a2 : Int32) (a3 : Int32) (a4 : Int32) (a5 : Int32) : Ctr G l yX10_feed cX10_feed 8 (some .int) 0 [.ref (ga G 131 0), .int a1, .int a2, .int a3, .int a4, .int a5] σ oP (Mo_feed σ a1 a2 a3 a4 a5) := by
  refine ctr_of hG (by decide) (Nat.le_of_ble_eq_true rfl) ?_
  intro X hXl hR hX
  have hX : Ok G X cX10_feed 8 RX10 0 := hX
  unfold Mo_feed
  show Sim G X 8 (MQX G X oP) σ 0 [(0, .ref (ga G 131 0)), (1, .int a1), (2, .int a2), (3, .int a3), (4, .int a4), (5, .int a5)] [] _
  refine s_aload_n 0 (n := 1) hX (dec_of D_X10_feed (i := 0) rfl) rfl rfl rfl ?_
  refine s_iconst (v := 0) (n := 2) hX (dec_of D_X10_feed (i := 1) rfl) rfl (by decide) ?_
  refine s_putI (c := 10) (p := 0) (n := 5) hX cls10 (vk131 (by omega)) (dec_of D_X10_feed (i := 2) rfl) rfl rfl (by decide) wd_1346 rfl rfl rfl (fun s1 => ?_)
  refine s_aload_n 0 (n := 6) hX (dec_of D_X10_feed (i := 3) rfl) rfl rfl rfl ?_
  refine s_getI (c := 10) (p := 2) (id := 842) (n := 9) hX cls10 (vk131 (by omega)) (dec_of D_X10_feed (i := 4) rfl) rfl rfl wd_1348 ?_
  refine s_sipush (v := 880) (n := 12) hX (dec_of D_X10_feed (i := 5) rfl) rfl (by decide) ?_
  refine s_icmp_le (tgt := 17) (n := 15) hX (dec_of D_X10_feed (i := 6) rfl) rfl rfl ?_ ?_
  · refine s_iconst (v := 0) (n := 18) hX (dec_of D_X10_feed (i := 9) rfl) rfl (by decide) ?_
    refine s_istore (lv' := [(0, _), (1, _), (2, _), (3, _), (4, _), (5, _), (6, _)]) [1, 2, 3, 4, 5, 6, 0] (n := 20) hX (dec_of D_X10_feed (i := 10) rfl) rfl (by decide) rfl ?_
    refine s_sub [0, 1, 2, 3, 4, 5, 6] rfl (s_lp (pc := 20) (Sf := fun (z2 : ST × Int32) => z2.1) (lvf := fun (z2 : ST × Int32) => [(0, .ref (ga G 131 0)), (1, .int a1), (2, .int a2), (3, .int a3), (4, .int a4), (5, .int a5), (6, .int z2.2)]) (fun rec3 hre4 z2 => ?_) FU (s1, 0))
    refine s_iload 6 (n := 22) hX (dec_of D_X10_feed (i := 11) rfl) rfl rfl ?_
    refine s_bipush (v := 20) (n := 24) hX (dec_of D_X10_feed (i := 12) rfl) rfl (by decide) ?_
    refine s_icmp_ge (tgt := 110) (n := 27) hX (dec_of D_X10_feed (i := 13) rfl) rfl rfl ?_ ?_
    · refine s_aload_n 0 (n := 111) hX (dec_of D_X10_feed (i := 56) rfl) rfl rfl rfl ?_
      refine s_dup (n := 112) hX (dec_of D_X10_feed (i := 57) rfl) rfl rfl ?_
      refine s_getI (c := 10) (p := 2) (id := 842) (n := 115) hX cls10 (vk131 (by omega)) (dec_of D_X10_feed (i := 58) rfl) rfl rfl wd_1348 ?_
      refine s_bipush (v := 20) (n := 117) hX (dec_of D_X10_feed (i := 59) rfl) rfl (by decide) ?_
      refine s_iadd (n := 118) hX (dec_of D_X10_feed (i := 60) rfl) rfl ?_
      refine s_putI (c := 10) (p := 2) (n := 121) hX cls10 (vk131 (by omega)) (dec_of D_X10_feed (i := 61) rfl) rfl rfl (by decide) wd_1348 rfl rfl rfl (fun s5 => ?_)
      refine s_aload_n 0 (n := 122) hX (dec_of D_X10_feed (i := 62) rfl) rfl rfl rfl ?_
      refine s_getI (c := 10) (p := 2) (id := 842) (n := 125) hX cls10 (vk131 (by omega)) (dec_of D_X10_feed (i := 63) rfl) rfl rfl wd_1348 ?_
      exact s_iret hX hR (dec_of D_X10_feed (i := 64) rfl) rfl
    · refine s_iload 6 (n := 29) hX (dec_of D_X10_feed (i := 14) rfl) rfl rfl ?_
      refine s_iconst (v := 4) (n := 30) hX (dec_of D_X10_feed (i := 15) rfl) rfl (by decide) ?_
      refine s_lk (pcj := 73) (Sf := fun (j6 : Int32) => z2.1) (lvf := fun (j6 : Int32) => [(0, .ref (ga G 131 0)), (1, .int a1), (2, .int a2), (3, .int a3), (4, .int a4), (5, .int a5), (6, .int z2.2)]) (stf := fun (j6 : Int32) => [.int j6]) (fun j6 => ?_) (fun kk7 hkk8 => ?_)
      · refine s_istore (lv' := [(0, _), (1, _), (2, _), (3, _), (4, _), (5, _), (6, _), (7, _)]) [1, 2, 3, 4, 5, 6, 7, 0] (n := 75) hX (dec_of D_X10_feed (i := 35) rfl) rfl (by decide) rfl ?_
        refine s_aload_n 0 (n := 76) hX (dec_of D_X10_feed (i := 36) rfl) rfl rfl rfl ?_
        refine s_getR (c := 10) (p := 1) (k' := 28) (n := 79) hX cls10 (vk131 (by omega)) (dec_of D_X10_feed (i := 37) rfl) rfl rfl wd_1347 ?_
        refine s_aload_n 0 (n := 80) hX (dec_of D_X10_feed (i := 38) rfl) rfl rfl rfl ?_
        refine s_getI (c := 10) (p := 2) (id := 842) (n := 83) hX cls10 (vk131 (by omega)) (dec_of D_X10_feed (i := 39) rfl) rfl rfl wd_1348 ?_
        refine s_iload 6 (n := 85) hX (dec_of D_X10_feed (i := 40) rfl) rfl rfl ?_
        refine s_iadd (n := 86) hX (dec_of D_X10_feed (i := 41) rfl) rfl ?_
        refine s_iload 7 (n := 88) hX (dec_of D_X10_feed (i := 42) rfl) rfl rfl ?_
        refine s_bipush (v := 24) (n := 90) hX (dec_of D_X10_feed (i := 43) rfl) rfl (by decide) ?_
        refine s_bipush (v := 8) (n := 92) hX (dec_of D_X10_feed (i := 44) rfl) rfl (by decide) ?_
        refine s_iload 6 (n := 94) hX (dec_of D_X10_feed (i := 45) rfl) rfl rfl ?_
        refine s_iconst (v := 4) (n := 95) hX (dec_of D_X10_feed (i := 46) rfl) rfl (by decide) ?_
        refine s_irem (n := 96) hX (dec_of D_X10_feed (i := 47) rfl) rfl (fun v9 => ?_)
        refine s_imul (n := 97) hX (dec_of D_X10_feed (i := 48) rfl) rfl ?_
        refine s_isub (n := 98) hX (dec_of D_X10_feed (i := 49) rfl) rfl ?_
        refine s_ishr (n := 99) hX (dec_of D_X10_feed (i := 50) rfl) rfl ?_
        refine s_sipush (v := 255) (n := 102) hX (dec_of D_X10_feed (i := 51) rfl) rfl (by decide) ?_
        refine s_iand (n := 103) hX (dec_of D_X10_feed (i := 52) rfl) rfl ?_
        refine s_iast (n := 104) hX (vk28 (by omega)) (by decide) (dec_of D_X10_feed (i := 53) rfl) rfl (fun s10 => ?_)
        refine s_iinc (v := z2.2 + 1) (lv' := [(0, _), (1, _), (2, _), (3, _), (4, _), (5, _), (6, _), (7, _)]) 6 [1, 2, 3, 4, 5, 6, 0, 7] (n := 107) hX (dec_of D_X10_feed (i := 54) rfl) rfl rfl rfl (by decide) rfl ?_
        refine s_goto (n := 20) hX (dec_of D_X10_feed (i := 55) rfl) rfl ?_
        exact s_sub [0, 1, 2, 3, 4, 5, 6] rfl (hre4 (s10, (z2.2 + 1)))
      · refine s_icmp_ge (tgt := 37) (n := 33) hX (dec_of D_X10_feed (i := 16) rfl) rfl rfl ?_ ?_
        · refine s_iload 6 (n := 39) hX (dec_of D_X10_feed (i := 19) rfl) rfl rfl ?_
          refine s_bipush (v := 8) (n := 41) hX (dec_of D_X10_feed (i := 20) rfl) rfl (by decide) ?_
          refine s_icmp_ge (tgt := 48) (n := 44) hX (dec_of D_X10_feed (i := 21) rfl) rfl rfl ?_ ?_
          · refine s_iload 6 (n := 50) hX (dec_of D_X10_feed (i := 24) rfl) rfl rfl ?_
            refine s_bipush (v := 12) (n := 52) hX (dec_of D_X10_feed (i := 25) rfl) rfl (by decide) ?_
            refine s_icmp_ge (tgt := 59) (n := 55) hX (dec_of D_X10_feed (i := 26) rfl) rfl rfl ?_ ?_
            · refine s_iload 6 (n := 61) hX (dec_of D_X10_feed (i := 29) rfl) rfl rfl ?_
              refine s_bipush (v := 16) (n := 63) hX (dec_of D_X10_feed (i := 30) rfl) rfl (by decide) ?_
              refine s_icmp_ge (tgt := 71) (n := 66) hX (dec_of D_X10_feed (i := 31) rfl) rfl rfl ?_ ?_
              · refine s_iload 5 (n := 73) hX (dec_of D_X10_feed (i := 34) rfl) rfl rfl ?_
                exact s_sub [0, 1, 2, 3, 4, 5, 6] rfl (hkk8 a5)
              · refine s_iload 4 (n := 68) hX (dec_of D_X10_feed (i := 32) rfl) rfl rfl ?_
                refine s_goto (n := 73) hX (dec_of D_X10_feed (i := 33) rfl) rfl ?_
                exact s_sub [0, 1, 2, 3, 4, 5, 6] rfl (hkk8 a4)
            · refine s_iload_n 3 (n := 56) hX (dec_of D_X10_feed (i := 27) rfl) rfl rfl rfl ?_
              refine s_goto (n := 73) hX (dec_of D_X10_feed (i := 28) rfl) rfl ?_
              exact s_sub [0, 1, 2, 3, 4, 5, 6] rfl (hkk8 a3)
          · refine s_iload_n 2 (n := 45) hX (dec_of D_X10_feed (i := 22) rfl) rfl rfl rfl ?_
            refine s_goto (n := 73) hX (dec_of D_X10_feed (i := 23) rfl) rfl ?_
            exact s_sub [0, 1, 2, 3, 4, 5, 6] rfl (hkk8 a2)
        · refine s_iload_n 1 (n := 34) hX (dec_of D_X10_feed (i := 17) rfl) rfl rfl rfl ?_
          refine s_goto (n := 73) hX (dec_of D_X10_feed (i := 18) rfl) rfl ?_
          exact s_sub [0, 1, 2, 3, 4, 5, 6] rfl (hkk8 a1)
  · refine s_iconst (v := (-1)) (n := 16) hX (dec_of D_X10_feed (i := 7) rfl) rfl (by decide) ?_
    exact s_iret hX hR (dec_of D_X10_feed (i := 8) rfl) rfl
def T_X10_here : List (Nat × Instr × Nat) := [(0, .aload_n 0, 1), (1, .getfield 92, 3), (4, .aload_n 0, 1), (5, .getfield 95, 3), (8, .if_icmp .ge 15, 3), (11, .aload_n 0, 1), (12, .getfield 7, 3), (15, .aload_n 0, 1), (16, .getfield 92, 3), (19, .iaload, 1), (20, .goto 4, 3), (23, .iconst (-1), 1), (24, .ireturn, 1)]
theorem D_X10_here : dchk cX10_here T_X10_here = true := by decide +kernel
def Mo_here (σ : ST)  : Option Int32 :=
  (if (gF σ 857 0) ≤ (gF σ 858 0) then some (-1) else bd_ (ldI σ 28 0 (gF σ 858 0)) (fun v1 => some v1))
set_option maxHeartbeats 4000000 in
set_option maxRecDepth 100000 in
theorem c_X10_here {G : GW} (hG : Good G) {l : Launch} (σ : ST)  : Ctr G l yX10_here cX10_here 1 (some .int) 0 [.ref (ga G 131 0)] σ (oI σ) (Mo_here σ ) := by
  refine ctr_of hG (by decide) (Nat.le_of_ble_eq_true rfl) ?_
  intro X hXl hR hX
  have hX : Ok G X cX10_here 1 RX10 0 := hX
  unfold Mo_here
  show Sim G X 1 (MQX G X (oI σ)) σ 0 [(0, .ref (ga G 131 0))] [] _
  refine s_aload_n 0 (n := 1) hX (dec_of D_X10_here (i := 0) rfl) rfl rfl rfl ?_
  refine s_getI (c := 10) (p := 18) (id := 858) (n := 4) hX cls10 (vk131 (by omega)) (dec_of D_X10_here (i := 1) rfl) rfl rfl wd_1364 ?_
  refine s_aload_n 0 (n := 5) hX (dec_of D_X10_here (i := 2) rfl) rfl rfl rfl ?_
  refine s_getI (c := 10) (p := 17) (id := 857) (n := 8) hX cls10 (vk131 (by omega)) (dec_of D_X10_here (i := 3) rfl) rfl rfl wd_1363 ?_
  refine s_icmp_ge (tgt := 23) (n := 11) hX (dec_of D_X10_here (i := 4) rfl) rfl rfl ?_ ?_
  · refine s_iconst (v := (-1)) (n := 24) hX (dec_of D_X10_here (i := 11) rfl) rfl (by decide) ?_
    exact s_iret hX hR (dec_of D_X10_here (i := 12) rfl) rfl
  · refine s_aload_n 0 (n := 12) hX (dec_of D_X10_here (i := 5) rfl) rfl rfl rfl ?_
    refine s_getR (c := 10) (p := 1) (k' := 28) (n := 15) hX cls10 (vk131 (by omega)) (dec_of D_X10_here (i := 6) rfl) rfl rfl wd_1347 ?_
    refine s_aload_n 0 (n := 16) hX (dec_of D_X10_here (i := 7) rfl) rfl rfl rfl ?_
    refine s_getI (c := 10) (p := 18) (id := 858) (n := 19) hX cls10 (vk131 (by omega)) (dec_of D_X10_here (i := 8) rfl) rfl rfl wd_1364 ?_
    refine s_iald (n := 20) hX (vk28 (by omega)) (by decide) (dec_of D_X10_here (i := 9) rfl) rfl (fun v1 => ?_)
    refine s_goto (n := 24) hX (dec_of D_X10_here (i := 10) rfl) rfl ?_
    exact s_iret hX hR (dec_of D_X10_here (i := 12) rfl) rfl
def T_X10_isSmall : List (Nat × Instr × Nat) := [(0, .iload_n 0, 1), (1, .bipush 97, 2), (3, .if_icmp .lt 13, 3), (6, .iload_n 0, 1), (7, .bipush 122, 2), (9, .if_icmp .gt 7, 3), (12, .iconst 1, 1), (13, .goto 4, 3), (16, .iconst 0, 1), (17, .ireturn, 1)]
theorem D_X10_isSmall : dchk cX10_isSmall T_X10_isSmall = true := by decide +kernel
def Mo_isSmall (σ : ST) (a0 : Int32) : Option Int32 :=
  (if a0 < 97 then some 0 else (if 122 < a0 then some 0 else some 1))
set_option maxHeartbeats 4000000 in
set_option maxRecDepth 100000 in
theorem c_X10_isSmall {G : GW} (hG : Good G) {l : Launch} (σ : ST) (a0 : Int32) : Ctr G l yX10_isSmall cX10_isSmall 1 (some .boolean) 0 [.int a0] σ (oI σ) (Mo_isSmall σ a0) := by
  refine ctr_of hG (by decide) (Nat.le_of_ble_eq_true rfl) ?_
  intro X hXl hR hX
  have hX : Ok G X cX10_isSmall 1 RX10 0 := hX
  unfold Mo_isSmall
  show Sim G X 1 (MQX G X (oI σ)) σ 0 [(0, .int a0)] [] _
  refine s_iload_n 0 (n := 1) hX (dec_of D_X10_isSmall (i := 0) rfl) rfl rfl rfl ?_
  refine s_bipush (v := 97) (n := 3) hX (dec_of D_X10_isSmall (i := 1) rfl) rfl (by decide) ?_
  refine s_icmp_lt (tgt := 16) (n := 6) hX (dec_of D_X10_isSmall (i := 2) rfl) rfl rfl ?_ ?_
  · refine s_iconst (v := 0) (n := 17) hX (dec_of D_X10_isSmall (i := 8) rfl) rfl (by decide) ?_
    exact s_zret hX hR (dec_of D_X10_isSmall (i := 9) rfl) rfl rfl
  · refine s_iload_n 0 (n := 7) hX (dec_of D_X10_isSmall (i := 3) rfl) rfl rfl rfl ?_
    refine s_bipush (v := 122) (n := 9) hX (dec_of D_X10_isSmall (i := 4) rfl) rfl (by decide) ?_
    refine s_icmp_gt (tgt := 16) (n := 12) hX (dec_of D_X10_isSmall (i := 5) rfl) rfl rfl ?_ ?_
    · refine s_iconst (v := 0) (n := 17) hX (dec_of D_X10_isSmall (i := 8) rfl) rfl (by decide) ?_
      exact s_zret hX hR (dec_of D_X10_isSmall (i := 9) rfl) rfl rfl
    · refine s_iconst (v := 1) (n := 13) hX (dec_of D_X10_isSmall (i := 6) rfl) rfl (by decide) ?_
      refine s_goto (n := 17) hX (dec_of D_X10_isSmall (i := 7) rfl) rfl ?_
      exact s_zret hX hR (dec_of D_X10_isSmall (i := 9) rfl) rfl rfl
def T_X10_isDigit : List (Nat × Instr × Nat) := [(0, .iload_n 0, 1), (1, .bipush 48, 2), (3, .if_icmp .lt 13, 3), (6, .iload_n 0, 1), (7, .bipush 57, 2), (9, .if_icmp .gt 7, 3), (12, .iconst 1, 1), (13, .goto 4, 3), (16, .iconst 0, 1), (17, .ireturn, 1)]
theorem D_X10_isDigit : dchk cX10_isDigit T_X10_isDigit = true := by decide +kernel
def Mo_isDigit (σ : ST) (a0 : Int32) : Option Int32 :=
  (if a0 < 48 then some 0 else (if 57 < a0 then some 0 else some 1))
set_option maxHeartbeats 4000000 in
set_option maxRecDepth 100000 in
theorem c_X10_isDigit {G : GW} (hG : Good G) {l : Launch} (σ : ST) (a0 : Int32) : Ctr G l yX10_isDigit cX10_isDigit 1 (some .boolean) 0 [.int a0] σ (oI σ) (Mo_isDigit σ a0) := by
  refine ctr_of hG (by decide) (Nat.le_of_ble_eq_true rfl) ?_
  intro X hXl hR hX
  have hX : Ok G X cX10_isDigit 1 RX10 0 := hX
  unfold Mo_isDigit
  show Sim G X 1 (MQX G X (oI σ)) σ 0 [(0, .int a0)] [] _
  refine s_iload_n 0 (n := 1) hX (dec_of D_X10_isDigit (i := 0) rfl) rfl rfl rfl ?_
  refine s_bipush (v := 48) (n := 3) hX (dec_of D_X10_isDigit (i := 1) rfl) rfl (by decide) ?_
  refine s_icmp_lt (tgt := 16) (n := 6) hX (dec_of D_X10_isDigit (i := 2) rfl) rfl rfl ?_ ?_
  · refine s_iconst (v := 0) (n := 17) hX (dec_of D_X10_isDigit (i := 8) rfl) rfl (by decide) ?_
    exact s_zret hX hR (dec_of D_X10_isDigit (i := 9) rfl) rfl rfl
  · refine s_iload_n 0 (n := 7) hX (dec_of D_X10_isDigit (i := 3) rfl) rfl rfl rfl ?_
    refine s_bipush (v := 57) (n := 9) hX (dec_of D_X10_isDigit (i := 4) rfl) rfl (by decide) ?_
    refine s_icmp_gt (tgt := 16) (n := 12) hX (dec_of D_X10_isDigit (i := 5) rfl) rfl rfl ?_ ?_
    · refine s_iconst (v := 0) (n := 17) hX (dec_of D_X10_isDigit (i := 8) rfl) rfl (by decide) ?_
      exact s_zret hX hR (dec_of D_X10_isDigit (i := 9) rfl) rfl rfl
    · refine s_iconst (v := 1) (n := 13) hX (dec_of D_X10_isDigit (i := 6) rfl) rfl (by decide) ?_
      refine s_goto (n := 17) hX (dec_of D_X10_isDigit (i := 7) rfl) rfl ?_
      exact s_zret hX hR (dec_of D_X10_isDigit (i := 9) rfl) rfl rfl
def T_X10_wordHere : List (Nat × Instr × Nat) := [(0, .iconst 0, 1), (1, .istore_n 1, 1), (2, .iconst 0, 1), (3, .istore_n 2, 1), (4, .iload_n 2, 1), (5, .ldc 125, 2), (7, .invokevirtual 127, 3), (10, .if_icmp .ge 113, 3), (13, .iconst 0, 1), (14, .istore_n 3, 1), (15, .ldc 125, 2), (17, .iload_n 2, 1), (18, .iload_n 3, 1), (19, .iadd, 1), (20, .invokevirtual 132, 3), (23, .bipush 32, 2), (25, .if_icmp .eq 44, 3), (28, .aload_n 0, 1), (29, .getfield 102, 3), (32, .iload_n 3, 1), (33, .iadd, 1), (34, .aload_n 0, 1), (35, .getfield 92, 3), (38, .if_icmp .ge 31, 3), (41, .aload_n 0, 1), (42, .getfield 7, 3), (45, .aload_n 0, 1), (46, .getfield 102, 3), (49, .iload_n 3, 1), (50, .iadd, 1), (51, .iaload, 1), (52, .ldc 125, 2), (54, .iload_n 2, 1), (55, .iload_n 3, 1), (56, .iadd, 1), (57, .invokevirtual 132, 3), (60, .if_icmp .ne 9, 3), (63, .iinc 3 1, 3), (66, .goto (-51), 3), (69, .ldc 125, 2), (71, .iload_n 2, 1), (72, .iload_n 3, 1), (73, .iadd, 1), (74, .invokevirtual 132, 3), (77, .bipush 32, 2), (79, .if_icmp .ne 18, 3), (82, .aload_n 0, 1), (83, .getfield 102, 3), (86, .iload_n 3, 1), (87, .iadd, 1), (88, .aload_n 0, 1), (89, .getfield 92, 3), (92, .if_icmp .ne 5, 3), (95, .iload_n 1, 1), (96, .ireturn, 1), (97, .ldc 125, 2), (99, .iload_n 2, 1), (100, .invokevirtual 132, 3), (103, .bipush 32, 2), (105, .if_icmp .eq 9, 3), (108, .iinc 2 1, 3), (111, .goto (-14), 3), (114, .iinc 2 1, 3), (117, .iinc 1 1, 3), (120, .goto (-116), 3), (123, .iconst (-1), 1), (124, .ireturn, 1)]
theorem D_X10_wordHere : dchk cX10_wordHere T_X10_wordHere = true := by decide +kernel
def Mo_wordHere (σ : ST)  : Option Int32 :=
  lp_ (fun rec2 (z1 : Int32 × Int32) => bd_ (Jk_len (σ)) (fun q4 => (if q4 ≤ z1.2 then some (-1) else lk_ (fun kk6 => lp_ (fun rec17 (z16 : Int32) => bd_ (Jk_chr (σ) (z1.2 + z16)) (fun q19 => (if q19 = 32 then kk6 z16 else (if (gF σ 858 0) ≤ ((gF σ 859 0) + z16) then kk6 z16 else bd_ (ldI σ 28 0 ((gF σ 859 0) + z16)) (fun v20 => bd_ (Jk_chr (σ) (z1.2 + z16)) (fun q21 => (if v20 = q21 then rec17 (z16 + 1) else kk6 z16))))))) FU 0) (fun (j5 : Int32) => bd_ (Jk_chr (σ) (z1.2 + j5)) (fun q8 => lk_ (fun kk10 => (if q8 = 32 then (if ((gF σ 859 0) + j5) = (gF σ 858 0) then some z1.1 else kk10 ()) else kk10 ())) (fun (j9 : Unit) => lp_ (fun rec13 (z12 : Int32) => bd_ (Jk_chr (σ) z12) (fun q15 => (if q15 = 32 then rec2 ((z1.1 + 1), (z12 + 1)) else rec13 (z12 + 1)))) FU z1.2)))))) FU (0, 0)
set_option maxHeartbeats 4000000 in
set_option maxRecDepth 100000 in
theorem c_X10_wordHere {G : GW} (hG : Good G) {l : Launch} (σ : ST)  : Ctr G l yX10_wordHere cX10_wordHere 4 (some .int) 6 [.ref (ga G 131 0)] σ (oI σ) (Mo_wordHere σ ) := by
  refine ctr_of hG (by decide) (Nat.le_of_ble_eq_true rfl) ?_
  intro X hXl hR hX
  have hX : Ok G X cX10_wordHere 4 RX10 6 := hX
  unfold Mo_wordHere
  show Sim G X 4 (MQX G X (oI σ)) σ 0 [(0, .ref (ga G 131 0))] [] _
  refine s_iconst (v := 0) (n := 1) hX (dec_of D_X10_wordHere (i := 0) rfl) rfl (by decide) ?_
  refine s_istore_n (lv' := [(0, _), (1, _)]) [1, 0] (n := 2) hX (dec_of D_X10_wordHere (i := 1) rfl) rfl rfl (by decide) rfl ?_
  refine s_iconst (v := 0) (n := 3) hX (dec_of D_X10_wordHere (i := 2) rfl) rfl (by decide) ?_
  refine s_istore_n (lv' := [(0, _), (1, _), (2, _)]) [1, 2, 0] (n := 4) hX (dec_of D_X10_wordHere (i := 3) rfl) rfl rfl (by decide) rfl ?_
  refine s_sub [0, 1, 2] rfl (s_lp (pc := 4) (Sf := fun (z1 : Int32 × Int32) => σ) (lvf := fun (z1 : Int32 × Int32) => [(0, .ref (ga G 131 0)), (1, .int z1.1), (2, .int z1.2)]) (fun rec2 hre3 z1 => ?_) FU (0, 0))
  refine s_iload_n 2 (n := 5) hX (dec_of D_X10_wordHere (i := 4) rfl) rfl rfl rfl ?_
  refine s_ldcS (n := 7) hX (dec_of D_X10_wordHere (i := 5) rfl) rfl hX.2.2.2.2.2.1.2.2.2.2.1 ?_
  refine s_callTI (n := 10) hX lk_X10_len (dec_of D_X10_wordHere (i := 6) rfl) rfl (by decide) (c_J0_length (l := _) hG _) (As := []) rfl rfl (Nat.le_of_ble_eq_true rfl) (fun q4 => ?_)
  refine s_icmp_ge (tgt := 123) (n := 13) hX (dec_of D_X10_wordHere (i := 7) rfl) rfl rfl ?_ ?_
  · refine s_iconst (v := (-1)) (n := 124) hX (dec_of D_X10_wordHere (i := 65) rfl) rfl (by decide) ?_
    exact s_iret hX hR (dec_of D_X10_wordHere (i := 66) rfl) rfl
  · refine s_iconst (v := 0) (n := 14) hX (dec_of D_X10_wordHere (i := 8) rfl) rfl (by decide) ?_
    refine s_istore_n (lv' := [(0, _), (1, _), (2, _), (3, _)]) [1, 2, 3, 0] (n := 15) hX (dec_of D_X10_wordHere (i := 9) rfl) rfl rfl (by decide) rfl ?_
    refine s_lk (pcj := 69) (Sf := fun (j5 : Int32) => σ) (lvf := fun (j5 : Int32) => [(0, .ref (ga G 131 0)), (1, .int z1.1), (2, .int z1.2), (3, .int j5)]) (stf := fun (j5 : Int32) => []) (fun j5 => ?_) (fun kk6 hkk7 => ?_)
    · refine s_ldcS (n := 71) hX (dec_of D_X10_wordHere (i := 39) rfl) rfl hX.2.2.2.2.2.1.2.2.2.2.1 ?_
      refine s_iload_n 2 (n := 72) hX (dec_of D_X10_wordHere (i := 40) rfl) rfl rfl rfl ?_
      refine s_iload_n 3 (n := 73) hX (dec_of D_X10_wordHere (i := 41) rfl) rfl rfl rfl ?_
      refine s_iadd (n := 74) hX (dec_of D_X10_wordHere (i := 42) rfl) rfl ?_
      refine s_callTI (n := 77) hX lk_X10_chr (dec_of D_X10_wordHere (i := 43) rfl) rfl (by decide) (c_J0_charAt (l := _) hG _ _) rfl rfl (Nat.le_of_ble_eq_true rfl) (fun q8 => ?_)
      refine s_bipush (v := 32) (n := 79) hX (dec_of D_X10_wordHere (i := 44) rfl) rfl (by decide) ?_
      refine s_lk (pcj := 97) (Sf := fun (j9 : Unit) => σ) (lvf := fun (j9 : Unit) => [(0, .ref (ga G 131 0)), (1, .int z1.1), (2, .int z1.2)]) (stf := fun (j9 : Unit) => []) (fun j9 => ?_) (fun kk10 hkk11 => ?_)
      · refine s_sub [0, 1, 2] rfl (s_lp (pc := 97) (Sf := fun (z12 : Int32) => σ) (lvf := fun (z12 : Int32) => [(0, .ref (ga G 131 0)), (1, .int z1.1), (2, .int z12)]) (fun rec13 hre14 z12 => ?_) FU z1.2)
        refine s_ldcS (n := 99) hX (dec_of D_X10_wordHere (i := 55) rfl) rfl hX.2.2.2.2.2.1.2.2.2.2.1 ?_
        refine s_iload_n 2 (n := 100) hX (dec_of D_X10_wordHere (i := 56) rfl) rfl rfl rfl ?_
        refine s_callTI (n := 103) hX lk_X10_chr (dec_of D_X10_wordHere (i := 57) rfl) rfl (by decide) (c_J0_charAt (l := _) hG _ _) rfl rfl (Nat.le_of_ble_eq_true rfl) (fun q15 => ?_)
        refine s_bipush (v := 32) (n := 105) hX (dec_of D_X10_wordHere (i := 58) rfl) rfl (by decide) ?_
        refine s_icmp_eq (tgt := 114) (n := 108) hX (dec_of D_X10_wordHere (i := 59) rfl) rfl rfl ?_ ?_
        · refine s_iinc (v := z12 + 1) (lv' := [(0, _), (1, _), (2, _)]) 2 [1, 2, 0] (n := 117) hX (dec_of D_X10_wordHere (i := 62) rfl) rfl rfl rfl (by decide) rfl ?_
          refine s_iinc (v := z1.1 + 1) (lv' := [(0, _), (1, _), (2, _)]) 1 [1, 0, 2] (n := 120) hX (dec_of D_X10_wordHere (i := 63) rfl) rfl rfl rfl (by decide) rfl ?_
          refine s_goto (n := 4) hX (dec_of D_X10_wordHere (i := 64) rfl) rfl ?_
          exact s_sub [0, 1, 2] rfl (hre3 ((z1.1 + 1), (z12 + 1)))
        · refine s_iinc (v := z12 + 1) (lv' := [(0, _), (1, _), (2, _)]) 2 [1, 2, 0] (n := 111) hX (dec_of D_X10_wordHere (i := 60) rfl) rfl rfl rfl (by decide) rfl ?_
          refine s_goto (n := 97) hX (dec_of D_X10_wordHere (i := 61) rfl) rfl ?_
          exact s_sub [0, 1, 2] rfl (hre14 (z12 + 1))
      · refine s_icmp_ne (tgt := 97) (n := 82) hX (dec_of D_X10_wordHere (i := 45) rfl) rfl rfl ?_ ?_
        · exact s_sub [0, 1, 2] rfl (hkk11 ())
        · refine s_aload_n 0 (n := 83) hX (dec_of D_X10_wordHere (i := 46) rfl) rfl rfl rfl ?_
          refine s_getI (c := 10) (p := 19) (id := 859) (n := 86) hX cls10 (vk131 (by omega)) (dec_of D_X10_wordHere (i := 47) rfl) rfl rfl wd_1365 ?_
          refine s_iload_n 3 (n := 87) hX (dec_of D_X10_wordHere (i := 48) rfl) rfl rfl rfl ?_
          refine s_iadd (n := 88) hX (dec_of D_X10_wordHere (i := 49) rfl) rfl ?_
          refine s_aload_n 0 (n := 89) hX (dec_of D_X10_wordHere (i := 50) rfl) rfl rfl rfl ?_
          refine s_getI (c := 10) (p := 18) (id := 858) (n := 92) hX cls10 (vk131 (by omega)) (dec_of D_X10_wordHere (i := 51) rfl) rfl rfl wd_1364 ?_
          refine s_icmp_ne (tgt := 97) (n := 95) hX (dec_of D_X10_wordHere (i := 52) rfl) rfl rfl ?_ ?_
          · exact s_sub [0, 1, 2] rfl (hkk11 ())
          · refine s_iload_n 1 (n := 96) hX (dec_of D_X10_wordHere (i := 53) rfl) rfl rfl rfl ?_
            exact s_iret hX hR (dec_of D_X10_wordHere (i := 54) rfl) rfl
    · refine s_sub [0, 1, 2, 3] rfl (s_lp (pc := 15) (Sf := fun (z16 : Int32) => σ) (lvf := fun (z16 : Int32) => [(0, .ref (ga G 131 0)), (1, .int z1.1), (2, .int z1.2), (3, .int z16)]) (fun rec17 hre18 z16 => ?_) FU 0)
      refine s_ldcS (n := 17) hX (dec_of D_X10_wordHere (i := 10) rfl) rfl hX.2.2.2.2.2.1.2.2.2.2.1 ?_
      refine s_iload_n 2 (n := 18) hX (dec_of D_X10_wordHere (i := 11) rfl) rfl rfl rfl ?_
      refine s_iload_n 3 (n := 19) hX (dec_of D_X10_wordHere (i := 12) rfl) rfl rfl rfl ?_
      refine s_iadd (n := 20) hX (dec_of D_X10_wordHere (i := 13) rfl) rfl ?_
      refine s_callTI (n := 23) hX lk_X10_chr (dec_of D_X10_wordHere (i := 14) rfl) rfl (by decide) (c_J0_charAt (l := _) hG _ _) rfl rfl (Nat.le_of_ble_eq_true rfl) (fun q19 => ?_)
      refine s_bipush (v := 32) (n := 25) hX (dec_of D_X10_wordHere (i := 15) rfl) rfl (by decide) ?_
      refine s_icmp_eq (tgt := 69) (n := 28) hX (dec_of D_X10_wordHere (i := 16) rfl) rfl rfl ?_ ?_
      · exact s_sub [0, 1, 2, 3] rfl (hkk7 z16)
      · refine s_aload_n 0 (n := 29) hX (dec_of D_X10_wordHere (i := 17) rfl) rfl rfl rfl ?_
        refine s_getI (c := 10) (p := 19) (id := 859) (n := 32) hX cls10 (vk131 (by omega)) (dec_of D_X10_wordHere (i := 18) rfl) rfl rfl wd_1365 ?_
        refine s_iload_n 3 (n := 33) hX (dec_of D_X10_wordHere (i := 19) rfl) rfl rfl rfl ?_
        refine s_iadd (n := 34) hX (dec_of D_X10_wordHere (i := 20) rfl) rfl ?_
        refine s_aload_n 0 (n := 35) hX (dec_of D_X10_wordHere (i := 21) rfl) rfl rfl rfl ?_
        refine s_getI (c := 10) (p := 18) (id := 858) (n := 38) hX cls10 (vk131 (by omega)) (dec_of D_X10_wordHere (i := 22) rfl) rfl rfl wd_1364 ?_
        refine s_icmp_ge (tgt := 69) (n := 41) hX (dec_of D_X10_wordHere (i := 23) rfl) rfl rfl ?_ ?_
        · exact s_sub [0, 1, 2, 3] rfl (hkk7 z16)
        · refine s_aload_n 0 (n := 42) hX (dec_of D_X10_wordHere (i := 24) rfl) rfl rfl rfl ?_
          refine s_getR (c := 10) (p := 1) (k' := 28) (n := 45) hX cls10 (vk131 (by omega)) (dec_of D_X10_wordHere (i := 25) rfl) rfl rfl wd_1347 ?_
          refine s_aload_n 0 (n := 46) hX (dec_of D_X10_wordHere (i := 26) rfl) rfl rfl rfl ?_
          refine s_getI (c := 10) (p := 19) (id := 859) (n := 49) hX cls10 (vk131 (by omega)) (dec_of D_X10_wordHere (i := 27) rfl) rfl rfl wd_1365 ?_
          refine s_iload_n 3 (n := 50) hX (dec_of D_X10_wordHere (i := 28) rfl) rfl rfl rfl ?_
          refine s_iadd (n := 51) hX (dec_of D_X10_wordHere (i := 29) rfl) rfl ?_
          refine s_iald (n := 52) hX (vk28 (by omega)) (by decide) (dec_of D_X10_wordHere (i := 30) rfl) rfl (fun v20 => ?_)
          refine s_ldcS (n := 54) hX (dec_of D_X10_wordHere (i := 31) rfl) rfl hX.2.2.2.2.2.1.2.2.2.2.1 ?_
          refine s_iload_n 2 (n := 55) hX (dec_of D_X10_wordHere (i := 32) rfl) rfl rfl rfl ?_
          refine s_iload_n 3 (n := 56) hX (dec_of D_X10_wordHere (i := 33) rfl) rfl rfl rfl ?_
          refine s_iadd (n := 57) hX (dec_of D_X10_wordHere (i := 34) rfl) rfl ?_
          refine s_callTI (n := 60) hX lk_X10_chr (dec_of D_X10_wordHere (i := 35) rfl) rfl (by decide) (c_J0_charAt (l := _) hG _ _) rfl rfl (Nat.le_of_ble_eq_true rfl) (fun q21 => ?_)
          refine s_icmp_ne (tgt := 69) (n := 63) hX (dec_of D_X10_wordHere (i := 36) rfl) rfl rfl ?_ ?_
          · exact s_sub [0, 1, 2, 3] rfl (hkk7 z16)
          · refine s_iinc (v := z16 + 1) (lv' := [(0, _), (1, _), (2, _), (3, _)]) 3 [1, 2, 3, 0] (n := 66) hX (dec_of D_X10_wordHere (i := 37) rfl) rfl rfl rfl (by decide) rfl ?_
            refine s_goto (n := 15) hX (dec_of D_X10_wordHere (i := 38) rfl) rfl ?_
            exact s_sub [0, 1, 2, 3] rfl (hre18 (z16 + 1))
theorem lk_RX10_98 : LkV RX10 98 RX10 yX10_here cX10_here 1 (some .int) 0 := ⟨wd_1513, wd_1515, wd_17, wd_93, wd_1516, by decide +kernel, by decide⟩
theorem lk_RX10_108 : LkS RX10 108 yX10_isSmall cX10_isSmall 1 (some .boolean) 1 := ⟨wd_1517, wd_1518, wd_93, wd_1519, by decide +kernel, by decide⟩
theorem lk_RX10_121 : LkS RX10 121 yX10_isDigit cX10_isDigit 1 (some .boolean) 1 := ⟨wd_1527, wd_1528, wd_93, wd_1529, by decide +kernel, by decide⟩
theorem lk_RX10_115 : LkV RX10 115 RX10 yX10_wordHere cX10_wordHere 4 (some .int) 0 := ⟨wd_1520, wd_1522, wd_18, wd_93, wd_1523, by decide +kernel, by decide⟩
def T_X10_token : List (Nat × Instr × Nat) := [(0, .aload_n 0, 1), (1, .invokevirtual 98, 3), (4, .bipush 10, 2), (6, .if_icmp .eq 12, 3), (9, .aload_n 0, 1), (10, .invokevirtual 98, 3), (13, .bipush 32, 2), (15, .if_icmp .ne 16, 3), (18, .aload_n 0, 1), (19, .dup, 1), (20, .getfield 92, 3), (23, .iconst 1, 1), (24, .iadd, 1), (25, .putfield 92, 3), (28, .goto (-28), 3), (31, .aload_n 0, 1), (32, .aload_n 0, 1), (33, .getfield 92, 3), (36, .putfield 102, 3), (39, .aload_n 0, 1), (40, .invokevirtual 98, 3), (43, .istore_n 1, 1), (44, .iload_n 1, 1), (45, .iconst (-1), 1), (46, .if_icmp .ne 11, 3), (49, .aload_n 0, 1), (50, .iconst 3, 1), (51, .putfield 105, 3), (54, .goto 214, 3), (57, .iload_n 1, 1), (58, .invokestatic 108, 3), (61, .ifCond .eq 107, 3), (64, .aload_n 0, 1), (65, .iconst 0, 1), (66, .putfield 112, 3), (69, .aload_n 0, 1), (70, .invokevirtual 98, 3), (73, .invokestatic 108, 3), (76, .ifCond .eq 50, 3), (79, .aload_n 0, 1), (80, .getfield 92, 3), (83, .aload_n 0, 1), (84, .getfield 102, 3), (87, .isub, 1), (88, .bipush 6, 2), (90, .if_icmp .ge 23, 3), (93, .aload_n 0, 1), (94, .aload_n 0, 1), (95, .getfield 112, 3), (98, .iconst 5, 1), (99, .ishl, 1), (100, .aload_n 0, 1), (101, .invokevirtual 98, 3), (104, .bipush 97, 2), (106, .isub, 1), (107, .iconst 1, 1), (108, .iadd, 1), (109, .ior, 1), (110, .putfield 112, 3), (113, .aload_n 0, 1), (114, .dup, 1), (115, .getfield 92, 3), (118, .iconst 1, 1), (119, .iadd, 1), (120, .putfield 92, 3), (123, .goto (-54), 3), (126, .aload_n 0, 1), (127, .aload_n 0, 1), (128, .invokevirtual 115, 3), (131, .putfield 118, 3), (134, .aload_n 0, 1), (135, .aload_n 0, 1), (136, .getfield 92, 3), (139, .aload_n 0, 1), (140, .getfield 102, 3), (143, .isub, 1), (144, .bipush 6, 2), (146, .if_icmp .le 11, 3), (149, .aload_n 0, 1), (150, .getfield 118, 3), (153, .iconst (-1), 1), (154, .if_icmp .eq 7, 3), (157, .iconst 0, 1), (158, .goto 4, 3), (161, .iconst 4, 1), (162, .putfield 105, 3), (165, .goto 103, 3), (168, .iload_n 1, 1), (169, .invokestatic 121, 3), (172, .ifCond .eq 71, 3), (175, .aload_n 0, 1), (176, .iconst 1, 1), (177, .putfield 105, 3), (180, .aload_n 0, 1), (181, .iconst 0, 1), (182, .putfield 118, 3), (185, .aload_n 0, 1), (186, .invokevirtual 98, 3), (189, .invokestatic 121, 3), (192, .ifCond .eq 76, 3), (195, .aload_n 0, 1), (196, .aload_n 0, 1), (197, .getfield 118, 3), (200, .ldc 124, 2), (202, .if_icmp .le 10, 3), (205, .aload_n 0, 1), (206, .getfield 118, 3), (209, .goto 18, 3), (212, .bipush 10, 2), (214, .aload_n 0, 1), (215, .getfield 118, 3), (218, .imul, 1), (219, .aload_n 0, 1), (220, .invokevirtual 98, 3), (223, .iadd, 1), (224, .bipush 48, 2), (226, .isub, 1), (227, .putfield 118, 3), (230, .aload_n 0, 1), (231, .dup, 1), (232, .getfield 92, 3), (235, .iconst 1, 1), (236, .iadd, 1), (237, .putfield 92, 3), (240, .goto (-55), 3), (243, .aload_n 0, 1), (244, .iload_n 1, 1), (245, .bipush 59, 2), (247, .if_icmp .ne 7, 3), (250, .iconst 2, 1), (251, .goto 4, 3), (254, .iconst 4, 1), (255, .putfield 105, 3), (258, .aload_n 0, 1), (259, .dup, 1), (260, .getfield 92, 3), (263, .iconst 1, 1), (264, .iadd, 1), (265, .putfield 92, 3), (268, .return_, 1)]
theorem D_X10_token : dchk cX10_token T_X10_token = true := by decide +kernel
def Mo_token (σ : ST)  : Option ST :=
  lp_ (fun rec2 (z1 : ST) => bd_ (Mo_here z1) (fun q4 => (if q4 = 10 then lt_ (setF z1 858 0 ((gF z1 858 0) + 1)) (fun s5 => rec2 s5) else bd_ (Mo_here z1) (fun q6 => (if q6 = 32 then lt_ (setF z1 858 0 ((gF z1 858 0) + 1)) (fun s43 => rec2 s43) else lt_ (setF z1 859 0 (gF z1 858 0)) (fun s7 => bd_ (Mo_here s7) (fun q8 => (if q8 = (-1) then lt_ (setF s7 860 0 3) (fun s42 => some s42) else bd_ (Mo_isSmall s7 q8) (fun q9 => (if q9 = 0 then bd_ (Mo_isDigit s7 q8) (fun q10 => (if q10 = 0 then (if q8 = 59 then lt_ (setF s7 860 0 2) (fun s13 => lt_ (setF s13 858 0 ((gF s13 858 0) + 1)) (fun s14 => some s14)) else lt_ (setF s7 860 0 4) (fun s11 => lt_ (setF s11 858 0 ((gF s11 858 0) + 1)) (fun s12 => some s12))) else lt_ (setF s7 860 0 1) (fun s15 => lt_ (setF s15 861 0 0) (fun s16 => lp_ (fun rec18 (z17 : ST) => bd_ (Mo_here z17) (fun q20 => bd_ (Mo_isDigit z17 q20) (fun q21 => (if q21 = 0 then some z17 else (if (gF z17 861 0) ≤ 99999 then bd_ (Mo_here z17) (fun q22 => lt_ (setF z17 861 0 (((10 * (gF z17 861 0)) + q22) - 48)) (fun s23 => lt_ (setF s23 858 0 ((gF s23 858 0) + 1)) (fun s24 => rec18 s24))) else lt_ (setF z17 861 0 (gF z17 861 0)) (fun s25 => lt_ (setF s25 858 0 ((gF s25 858 0) + 1)) (fun s26 => rec18 s26))))))) FU s16)))) else lt_ (setF s7 862 0 0) (fun s27 => lp_ (fun rec29 (z28 : ST) => bd_ (Mo_here z28) (fun q31 => bd_ (Mo_isSmall z28 q31) (fun q32 => (if q32 = 0 then bd_ (Mo_wordHere z28) (fun q33 => lt_ (setF z28 861 0 q33) (fun s34 => (if ((gF s34 858 0) - (gF s34 859 0)) ≤ 6 then lt_ (setF s34 860 0 0) (fun s35 => some s35) else (if (gF s34 861 0) = (-1) then lt_ (setF s34 860 0 4) (fun s36 => some s36) else lt_ (setF s34 860 0 0) (fun s37 => some s37))))) else (if 6 ≤ ((gF z28 858 0) - (gF z28 859 0)) then lt_ (setF z28 858 0 ((gF z28 858 0) + 1)) (fun s38 => rec29 s38) else bd_ (Mo_here z28) (fun q39 => lt_ (setF z28 862 0 (((gF z28 862 0) <<< (5 &&& 31)) ||| ((q39 - 97) + 1))) (fun s40 => lt_ (setF s40 858 0 ((gF s40 858 0) + 1)) (fun s41 => rec29 s41)))))))) FU s27))))))))))) FU (σ)
set_option maxHeartbeats 4000000 in
set_option maxRecDepth 100000 in
theorem c_X10_token {G : GW} (hG : Good G) {l : Launch} (σ : ST)  : Ctr G l yX10_token cX10_token 2 none 7 [.ref (ga G 131 0)] σ oV (Mo_token σ ) := by
  refine ctr_of hG (by decide) (Nat.le_of_ble_eq_true rfl) ?_
  intro X hXl hR hX
  have hX : Ok G X cX10_token 2 RX10 7 := hX
  unfold Mo_token
  show Sim G X 2 (MQX G X oV) σ 0 [(0, .ref (ga G 131 0))] [] _
  refine s_sub [0] rfl (s_lp (pc := 0) (Sf := fun (z1 : ST) => z1) (lvf := fun (z1 : ST) => [(0, .ref (ga G 131 0))]) (fun rec2 hre3 z1 => ?_) FU (σ))
  refine s_aload_n 0 (n := 1) hX (dec_of D_X10_token (i := 0) rfl) rfl rfl rfl ?_
  refine s_callVI (c := 10) (n := 4) hX cls10 (vk131 (by omega)) lk_RX10_98 (dec_of D_X10_token (i := 1) rfl) rfl (by decide) (c_X10_here (l := _) hG _) rfl rfl (Nat.le_of_ble_eq_true rfl) (fun q4 => ?_)
  refine s_bipush (v := 10) (n := 6) hX (dec_of D_X10_token (i := 2) rfl) rfl (by decide) ?_
  refine s_icmp_eq (tgt := 18) (n := 9) hX (dec_of D_X10_token (i := 3) rfl) rfl rfl ?_ ?_
  · refine s_aload_n 0 (n := 19) hX (dec_of D_X10_token (i := 8) rfl) rfl rfl rfl ?_
    refine s_dup (n := 20) hX (dec_of D_X10_token (i := 9) rfl) rfl rfl ?_
    refine s_getI (c := 10) (p := 18) (id := 858) (n := 23) hX cls10 (vk131 (by omega)) (dec_of D_X10_token (i := 10) rfl) rfl rfl wd_1364 ?_
    refine s_iconst (v := 1) (n := 24) hX (dec_of D_X10_token (i := 11) rfl) rfl (by decide) ?_
    refine s_iadd (n := 25) hX (dec_of D_X10_token (i := 12) rfl) rfl ?_
    refine s_putI (c := 10) (p := 18) (n := 28) hX cls10 (vk131 (by omega)) (dec_of D_X10_token (i := 13) rfl) rfl rfl (by decide) wd_1364 rfl rfl rfl (fun s5 => ?_)
    refine s_goto (n := 0) hX (dec_of D_X10_token (i := 14) rfl) rfl ?_
    exact s_sub [0] rfl (hre3 s5)
  · refine s_aload_n 0 (n := 10) hX (dec_of D_X10_token (i := 4) rfl) rfl rfl rfl ?_
    refine s_callVI (c := 10) (n := 13) hX cls10 (vk131 (by omega)) lk_RX10_98 (dec_of D_X10_token (i := 5) rfl) rfl (by decide) (c_X10_here (l := _) hG _) rfl rfl (Nat.le_of_ble_eq_true rfl) (fun q6 => ?_)
    refine s_bipush (v := 32) (n := 15) hX (dec_of D_X10_token (i := 6) rfl) rfl (by decide) ?_
    refine s_icmp_ne (tgt := 31) (n := 18) hX (dec_of D_X10_token (i := 7) rfl) rfl rfl ?_ ?_
    · refine s_aload_n 0 (n := 32) hX (dec_of D_X10_token (i := 15) rfl) rfl rfl rfl ?_
      refine s_aload_n 0 (n := 33) hX (dec_of D_X10_token (i := 16) rfl) rfl rfl rfl ?_
      refine s_getI (c := 10) (p := 18) (id := 858) (n := 36) hX cls10 (vk131 (by omega)) (dec_of D_X10_token (i := 17) rfl) rfl rfl wd_1364 ?_
      refine s_putI (c := 10) (p := 19) (n := 39) hX cls10 (vk131 (by omega)) (dec_of D_X10_token (i := 18) rfl) rfl rfl (by decide) wd_1365 rfl rfl rfl (fun s7 => ?_)
      refine s_aload_n 0 (n := 40) hX (dec_of D_X10_token (i := 19) rfl) rfl rfl rfl ?_
      refine s_callVI (c := 10) (n := 43) hX cls10 (vk131 (by omega)) lk_RX10_98 (dec_of D_X10_token (i := 20) rfl) rfl (by decide) (c_X10_here (l := _) hG _) rfl rfl (Nat.le_of_ble_eq_true rfl) (fun q8 => ?_)
      refine s_istore_n (lv' := [(0, _), (1, _)]) [1, 0] (n := 44) hX (dec_of D_X10_token (i := 21) rfl) rfl rfl (by decide) rfl ?_
      refine s_iload_n 1 (n := 45) hX (dec_of D_X10_token (i := 22) rfl) rfl rfl rfl ?_
      refine s_iconst (v := (-1)) (n := 46) hX (dec_of D_X10_token (i := 23) rfl) rfl (by decide) ?_
      refine s_icmp_ne (tgt := 57) (n := 49) hX (dec_of D_X10_token (i := 24) rfl) rfl rfl ?_ ?_
      · refine s_iload_n 1 (n := 58) hX (dec_of D_X10_token (i := 29) rfl) rfl rfl rfl ?_
        refine s_callSI (n := 61) hX lk_RX10_108 (dec_of D_X10_token (i := 30) rfl) rfl (by decide) (c_X10_isSmall (l := _) hG _ _) rfl rfl (Nat.le_of_ble_eq_true rfl) (fun q9 => ?_)
        refine s_if_eq (tgt := 168) (n := 64) hX (dec_of D_X10_token (i := 31) rfl) rfl rfl ?_ ?_
        · refine s_iload_n 1 (n := 169) hX (dec_of D_X10_token (i := 87) rfl) rfl rfl rfl ?_
          refine s_callSI (n := 172) hX lk_RX10_121 (dec_of D_X10_token (i := 88) rfl) rfl (by decide) (c_X10_isDigit (l := _) hG _ _) rfl rfl (Nat.le_of_ble_eq_true rfl) (fun q10 => ?_)
          refine s_if_eq (tgt := 243) (n := 175) hX (dec_of D_X10_token (i := 89) rfl) rfl rfl ?_ ?_
          · refine s_aload_n 0 (n := 244) hX (dec_of D_X10_token (i := 125) rfl) rfl rfl rfl ?_
            refine s_iload_n 1 (n := 245) hX (dec_of D_X10_token (i := 126) rfl) rfl rfl rfl ?_
            refine s_bipush (v := 59) (n := 247) hX (dec_of D_X10_token (i := 127) rfl) rfl (by decide) ?_
            refine s_icmp_ne (tgt := 254) (n := 250) hX (dec_of D_X10_token (i := 128) rfl) rfl rfl ?_ ?_
            · refine s_iconst (v := 4) (n := 255) hX (dec_of D_X10_token (i := 131) rfl) rfl (by decide) ?_
              refine s_putI (c := 10) (p := 20) (n := 258) hX cls10 (vk131 (by omega)) (dec_of D_X10_token (i := 132) rfl) rfl rfl (by decide) wd_1366 rfl rfl rfl (fun s11 => ?_)
              refine s_aload_n 0 (n := 259) hX (dec_of D_X10_token (i := 133) rfl) rfl rfl rfl ?_
              refine s_dup (n := 260) hX (dec_of D_X10_token (i := 134) rfl) rfl rfl ?_
              refine s_getI (c := 10) (p := 18) (id := 858) (n := 263) hX cls10 (vk131 (by omega)) (dec_of D_X10_token (i := 135) rfl) rfl rfl wd_1364 ?_
              refine s_iconst (v := 1) (n := 264) hX (dec_of D_X10_token (i := 136) rfl) rfl (by decide) ?_
              refine s_iadd (n := 265) hX (dec_of D_X10_token (i := 137) rfl) rfl ?_
              refine s_putI (c := 10) (p := 18) (n := 268) hX cls10 (vk131 (by omega)) (dec_of D_X10_token (i := 138) rfl) rfl rfl (by decide) wd_1364 rfl rfl rfl (fun s12 => ?_)
              exact s_vret hX hR (dec_of D_X10_token (i := 139) rfl) rfl
            · refine s_iconst (v := 2) (n := 251) hX (dec_of D_X10_token (i := 129) rfl) rfl (by decide) ?_
              refine s_goto (n := 255) hX (dec_of D_X10_token (i := 130) rfl) rfl ?_
              refine s_putI (c := 10) (p := 20) (n := 258) hX cls10 (vk131 (by omega)) (dec_of D_X10_token (i := 132) rfl) rfl rfl (by decide) wd_1366 rfl rfl rfl (fun s13 => ?_)
              refine s_aload_n 0 (n := 259) hX (dec_of D_X10_token (i := 133) rfl) rfl rfl rfl ?_
              refine s_dup (n := 260) hX (dec_of D_X10_token (i := 134) rfl) rfl rfl ?_
              refine s_getI (c := 10) (p := 18) (id := 858) (n := 263) hX cls10 (vk131 (by omega)) (dec_of D_X10_token (i := 135) rfl) rfl rfl wd_1364 ?_
              refine s_iconst (v := 1) (n := 264) hX (dec_of D_X10_token (i := 136) rfl) rfl (by decide) ?_
              refine s_iadd (n := 265) hX (dec_of D_X10_token (i := 137) rfl) rfl ?_
              refine s_putI (c := 10) (p := 18) (n := 268) hX cls10 (vk131 (by omega)) (dec_of D_X10_token (i := 138) rfl) rfl rfl (by decide) wd_1364 rfl rfl rfl (fun s14 => ?_)
              exact s_vret hX hR (dec_of D_X10_token (i := 139) rfl) rfl
          · refine s_aload_n 0 (n := 176) hX (dec_of D_X10_token (i := 90) rfl) rfl rfl rfl ?_
            refine s_iconst (v := 1) (n := 177) hX (dec_of D_X10_token (i := 91) rfl) rfl (by decide) ?_
            refine s_putI (c := 10) (p := 20) (n := 180) hX cls10 (vk131 (by omega)) (dec_of D_X10_token (i := 92) rfl) rfl rfl (by decide) wd_1366 rfl rfl rfl (fun s15 => ?_)
            refine s_aload_n 0 (n := 181) hX (dec_of D_X10_token (i := 93) rfl) rfl rfl rfl ?_
            refine s_iconst (v := 0) (n := 182) hX (dec_of D_X10_token (i := 94) rfl) rfl (by decide) ?_
            refine s_putI (c := 10) (p := 21) (n := 185) hX cls10 (vk131 (by omega)) (dec_of D_X10_token (i := 95) rfl) rfl rfl (by decide) wd_1367 rfl rfl rfl (fun s16 => ?_)
            refine s_sub [0] rfl (s_lp (pc := 185) (Sf := fun (z17 : ST) => z17) (lvf := fun (z17 : ST) => [(0, .ref (ga G 131 0))]) (fun rec18 hre19 z17 => ?_) FU s16)
            refine s_aload_n 0 (n := 186) hX (dec_of D_X10_token (i := 96) rfl) rfl rfl rfl ?_
            refine s_callVI (c := 10) (n := 189) hX cls10 (vk131 (by omega)) lk_RX10_98 (dec_of D_X10_token (i := 97) rfl) rfl (by decide) (c_X10_here (l := _) hG _) rfl rfl (Nat.le_of_ble_eq_true rfl) (fun q20 => ?_)
            refine s_callSI (n := 192) hX lk_RX10_121 (dec_of D_X10_token (i := 98) rfl) rfl (by decide) (c_X10_isDigit (l := _) hG _ _) rfl rfl (Nat.le_of_ble_eq_true rfl) (fun q21 => ?_)
            refine s_if_eq (tgt := 268) (n := 195) hX (dec_of D_X10_token (i := 99) rfl) rfl rfl ?_ ?_
            · exact s_vret hX hR (dec_of D_X10_token (i := 139) rfl) rfl
            · refine s_aload_n 0 (n := 196) hX (dec_of D_X10_token (i := 100) rfl) rfl rfl rfl ?_
              refine s_aload_n 0 (n := 197) hX (dec_of D_X10_token (i := 101) rfl) rfl rfl rfl ?_
              refine s_getI (c := 10) (p := 21) (id := 861) (n := 200) hX cls10 (vk131 (by omega)) (dec_of D_X10_token (i := 102) rfl) rfl rfl wd_1367 ?_
              refine s_ldc (v := 99999) (n := 202) hX (dec_of D_X10_token (i := 103) rfl) rfl wd_1530 ?_
              refine s_icmp_le (tgt := 212) (n := 205) hX (dec_of D_X10_token (i := 104) rfl) rfl rfl ?_ ?_
              · refine s_bipush (v := 10) (n := 214) hX (dec_of D_X10_token (i := 108) rfl) rfl (by decide) ?_
                refine s_aload_n 0 (n := 215) hX (dec_of D_X10_token (i := 109) rfl) rfl rfl rfl ?_
                refine s_getI (c := 10) (p := 21) (id := 861) (n := 218) hX cls10 (vk131 (by omega)) (dec_of D_X10_token (i := 110) rfl) rfl rfl wd_1367 ?_
                refine s_imul (n := 219) hX (dec_of D_X10_token (i := 111) rfl) rfl ?_
                refine s_aload_n 0 (n := 220) hX (dec_of D_X10_token (i := 112) rfl) rfl rfl rfl ?_
                refine s_callVI (c := 10) (n := 223) hX cls10 (vk131 (by omega)) lk_RX10_98 (dec_of D_X10_token (i := 113) rfl) rfl (by decide) (c_X10_here (l := _) hG _) rfl rfl (Nat.le_of_ble_eq_true rfl) (fun q22 => ?_)
                refine s_iadd (n := 224) hX (dec_of D_X10_token (i := 114) rfl) rfl ?_
                refine s_bipush (v := 48) (n := 226) hX (dec_of D_X10_token (i := 115) rfl) rfl (by decide) ?_
                refine s_isub (n := 227) hX (dec_of D_X10_token (i := 116) rfl) rfl ?_
                refine s_putI (c := 10) (p := 21) (n := 230) hX cls10 (vk131 (by omega)) (dec_of D_X10_token (i := 117) rfl) rfl rfl (by decide) wd_1367 rfl rfl rfl (fun s23 => ?_)
                refine s_aload_n 0 (n := 231) hX (dec_of D_X10_token (i := 118) rfl) rfl rfl rfl ?_
                refine s_dup (n := 232) hX (dec_of D_X10_token (i := 119) rfl) rfl rfl ?_
                refine s_getI (c := 10) (p := 18) (id := 858) (n := 235) hX cls10 (vk131 (by omega)) (dec_of D_X10_token (i := 120) rfl) rfl rfl wd_1364 ?_
                refine s_iconst (v := 1) (n := 236) hX (dec_of D_X10_token (i := 121) rfl) rfl (by decide) ?_
                refine s_iadd (n := 237) hX (dec_of D_X10_token (i := 122) rfl) rfl ?_
                refine s_putI (c := 10) (p := 18) (n := 240) hX cls10 (vk131 (by omega)) (dec_of D_X10_token (i := 123) rfl) rfl rfl (by decide) wd_1364 rfl rfl rfl (fun s24 => ?_)
                refine s_goto (n := 185) hX (dec_of D_X10_token (i := 124) rfl) rfl ?_
                exact s_sub [0] rfl (hre19 s24)
              · refine s_aload_n 0 (n := 206) hX (dec_of D_X10_token (i := 105) rfl) rfl rfl rfl ?_
                refine s_getI (c := 10) (p := 21) (id := 861) (n := 209) hX cls10 (vk131 (by omega)) (dec_of D_X10_token (i := 106) rfl) rfl rfl wd_1367 ?_
                refine s_goto (n := 227) hX (dec_of D_X10_token (i := 107) rfl) rfl ?_
                refine s_putI (c := 10) (p := 21) (n := 230) hX cls10 (vk131 (by omega)) (dec_of D_X10_token (i := 117) rfl) rfl rfl (by decide) wd_1367 rfl rfl rfl (fun s25 => ?_)
                refine s_aload_n 0 (n := 231) hX (dec_of D_X10_token (i := 118) rfl) rfl rfl rfl ?_
                refine s_dup (n := 232) hX (dec_of D_X10_token (i := 119) rfl) rfl rfl ?_
                refine s_getI (c := 10) (p := 18) (id := 858) (n := 235) hX cls10 (vk131 (by omega)) (dec_of D_X10_token (i := 120) rfl) rfl rfl wd_1364 ?_
                refine s_iconst (v := 1) (n := 236) hX (dec_of D_X10_token (i := 121) rfl) rfl (by decide) ?_
                refine s_iadd (n := 237) hX (dec_of D_X10_token (i := 122) rfl) rfl ?_
                refine s_putI (c := 10) (p := 18) (n := 240) hX cls10 (vk131 (by omega)) (dec_of D_X10_token (i := 123) rfl) rfl rfl (by decide) wd_1364 rfl rfl rfl (fun s26 => ?_)
                refine s_goto (n := 185) hX (dec_of D_X10_token (i := 124) rfl) rfl ?_
                exact s_sub [0] rfl (hre19 s26)
        · refine s_aload_n 0 (n := 65) hX (dec_of D_X10_token (i := 32) rfl) rfl rfl rfl ?_
          refine s_iconst (v := 0) (n := 66) hX (dec_of D_X10_token (i := 33) rfl) rfl (by decide) ?_
          refine s_putI (c := 10) (p := 22) (n := 69) hX cls10 (vk131 (by omega)) (dec_of D_X10_token (i := 34) rfl) rfl rfl (by decide) wd_1368 rfl rfl rfl (fun s27 => ?_)
          refine s_sub [0] rfl (s_lp (pc := 69) (Sf := fun (z28 : ST) => z28) (lvf := fun (z28 : ST) => [(0, .ref (ga G 131 0))]) (fun rec29 hre30 z28 => ?_) FU s27)
          refine s_aload_n 0 (n := 70) hX (dec_of D_X10_token (i := 35) rfl) rfl rfl rfl ?_
          refine s_callVI (c := 10) (n := 73) hX cls10 (vk131 (by omega)) lk_RX10_98 (dec_of D_X10_token (i := 36) rfl) rfl (by decide) (c_X10_here (l := _) hG _) rfl rfl (Nat.le_of_ble_eq_true rfl) (fun q31 => ?_)
          refine s_callSI (n := 76) hX lk_RX10_108 (dec_of D_X10_token (i := 37) rfl) rfl (by decide) (c_X10_isSmall (l := _) hG _ _) rfl rfl (Nat.le_of_ble_eq_true rfl) (fun q32 => ?_)
          refine s_if_eq (tgt := 126) (n := 79) hX (dec_of D_X10_token (i := 38) rfl) rfl rfl ?_ ?_
          · refine s_aload_n 0 (n := 127) hX (dec_of D_X10_token (i := 66) rfl) rfl rfl rfl ?_
            refine s_aload_n 0 (n := 128) hX (dec_of D_X10_token (i := 67) rfl) rfl rfl rfl ?_
            refine s_callVI (c := 10) (n := 131) hX cls10 (vk131 (by omega)) lk_RX10_115 (dec_of D_X10_token (i := 68) rfl) rfl (by decide) (c_X10_wordHere (l := _) hG _) rfl rfl (Nat.le_of_ble_eq_true rfl) (fun q33 => ?_)
            refine s_putI (c := 10) (p := 21) (n := 134) hX cls10 (vk131 (by omega)) (dec_of D_X10_token (i := 69) rfl) rfl rfl (by decide) wd_1367 rfl rfl rfl (fun s34 => ?_)
            refine s_aload_n 0 (n := 135) hX (dec_of D_X10_token (i := 70) rfl) rfl rfl rfl ?_
            refine s_aload_n 0 (n := 136) hX (dec_of D_X10_token (i := 71) rfl) rfl rfl rfl ?_
            refine s_getI (c := 10) (p := 18) (id := 858) (n := 139) hX cls10 (vk131 (by omega)) (dec_of D_X10_token (i := 72) rfl) rfl rfl wd_1364 ?_
            refine s_aload_n 0 (n := 140) hX (dec_of D_X10_token (i := 73) rfl) rfl rfl rfl ?_
            refine s_getI (c := 10) (p := 19) (id := 859) (n := 143) hX cls10 (vk131 (by omega)) (dec_of D_X10_token (i := 74) rfl) rfl rfl wd_1365 ?_
            refine s_isub (n := 144) hX (dec_of D_X10_token (i := 75) rfl) rfl ?_
            refine s_bipush (v := 6) (n := 146) hX (dec_of D_X10_token (i := 76) rfl) rfl (by decide) ?_
            refine s_icmp_le (tgt := 157) (n := 149) hX (dec_of D_X10_token (i := 77) rfl) rfl rfl ?_ ?_
            · refine s_iconst (v := 0) (n := 158) hX (dec_of D_X10_token (i := 82) rfl) rfl (by decide) ?_
              refine s_goto (n := 162) hX (dec_of D_X10_token (i := 83) rfl) rfl ?_
              refine s_putI (c := 10) (p := 20) (n := 165) hX cls10 (vk131 (by omega)) (dec_of D_X10_token (i := 85) rfl) rfl rfl (by decide) wd_1366 rfl rfl rfl (fun s35 => ?_)
              refine s_goto (n := 268) hX (dec_of D_X10_token (i := 86) rfl) rfl ?_
              exact s_vret hX hR (dec_of D_X10_token (i := 139) rfl) rfl
            · refine s_aload_n 0 (n := 150) hX (dec_of D_X10_token (i := 78) rfl) rfl rfl rfl ?_
              refine s_getI (c := 10) (p := 21) (id := 861) (n := 153) hX cls10 (vk131 (by omega)) (dec_of D_X10_token (i := 79) rfl) rfl rfl wd_1367 ?_
              refine s_iconst (v := (-1)) (n := 154) hX (dec_of D_X10_token (i := 80) rfl) rfl (by decide) ?_
              refine s_icmp_eq (tgt := 161) (n := 157) hX (dec_of D_X10_token (i := 81) rfl) rfl rfl ?_ ?_
              · refine s_iconst (v := 4) (n := 162) hX (dec_of D_X10_token (i := 84) rfl) rfl (by decide) ?_
                refine s_putI (c := 10) (p := 20) (n := 165) hX cls10 (vk131 (by omega)) (dec_of D_X10_token (i := 85) rfl) rfl rfl (by decide) wd_1366 rfl rfl rfl (fun s36 => ?_)
                refine s_goto (n := 268) hX (dec_of D_X10_token (i := 86) rfl) rfl ?_
                exact s_vret hX hR (dec_of D_X10_token (i := 139) rfl) rfl
              · refine s_iconst (v := 0) (n := 158) hX (dec_of D_X10_token (i := 82) rfl) rfl (by decide) ?_
                refine s_goto (n := 162) hX (dec_of D_X10_token (i := 83) rfl) rfl ?_
                refine s_putI (c := 10) (p := 20) (n := 165) hX cls10 (vk131 (by omega)) (dec_of D_X10_token (i := 85) rfl) rfl rfl (by decide) wd_1366 rfl rfl rfl (fun s37 => ?_)
                refine s_goto (n := 268) hX (dec_of D_X10_token (i := 86) rfl) rfl ?_
                exact s_vret hX hR (dec_of D_X10_token (i := 139) rfl) rfl
          · refine s_aload_n 0 (n := 80) hX (dec_of D_X10_token (i := 39) rfl) rfl rfl rfl ?_
            refine s_getI (c := 10) (p := 18) (id := 858) (n := 83) hX cls10 (vk131 (by omega)) (dec_of D_X10_token (i := 40) rfl) rfl rfl wd_1364 ?_
            refine s_aload_n 0 (n := 84) hX (dec_of D_X10_token (i := 41) rfl) rfl rfl rfl ?_
            refine s_getI (c := 10) (p := 19) (id := 859) (n := 87) hX cls10 (vk131 (by omega)) (dec_of D_X10_token (i := 42) rfl) rfl rfl wd_1365 ?_
            refine s_isub (n := 88) hX (dec_of D_X10_token (i := 43) rfl) rfl ?_
            refine s_bipush (v := 6) (n := 90) hX (dec_of D_X10_token (i := 44) rfl) rfl (by decide) ?_
            refine s_icmp_ge (tgt := 113) (n := 93) hX (dec_of D_X10_token (i := 45) rfl) rfl rfl ?_ ?_
            · refine s_aload_n 0 (n := 114) hX (dec_of D_X10_token (i := 59) rfl) rfl rfl rfl ?_
              refine s_dup (n := 115) hX (dec_of D_X10_token (i := 60) rfl) rfl rfl ?_
              refine s_getI (c := 10) (p := 18) (id := 858) (n := 118) hX cls10 (vk131 (by omega)) (dec_of D_X10_token (i := 61) rfl) rfl rfl wd_1364 ?_
              refine s_iconst (v := 1) (n := 119) hX (dec_of D_X10_token (i := 62) rfl) rfl (by decide) ?_
              refine s_iadd (n := 120) hX (dec_of D_X10_token (i := 63) rfl) rfl ?_
              refine s_putI (c := 10) (p := 18) (n := 123) hX cls10 (vk131 (by omega)) (dec_of D_X10_token (i := 64) rfl) rfl rfl (by decide) wd_1364 rfl rfl rfl (fun s38 => ?_)
              refine s_goto (n := 69) hX (dec_of D_X10_token (i := 65) rfl) rfl ?_
              exact s_sub [0] rfl (hre30 s38)
            · refine s_aload_n 0 (n := 94) hX (dec_of D_X10_token (i := 46) rfl) rfl rfl rfl ?_
              refine s_aload_n 0 (n := 95) hX (dec_of D_X10_token (i := 47) rfl) rfl rfl rfl ?_
              refine s_getI (c := 10) (p := 22) (id := 862) (n := 98) hX cls10 (vk131 (by omega)) (dec_of D_X10_token (i := 48) rfl) rfl rfl wd_1368 ?_
              refine s_iconst (v := 5) (n := 99) hX (dec_of D_X10_token (i := 49) rfl) rfl (by decide) ?_
              refine s_ishl (n := 100) hX (dec_of D_X10_token (i := 50) rfl) rfl ?_
              refine s_aload_n 0 (n := 101) hX (dec_of D_X10_token (i := 51) rfl) rfl rfl rfl ?_
              refine s_callVI (c := 10) (n := 104) hX cls10 (vk131 (by omega)) lk_RX10_98 (dec_of D_X10_token (i := 52) rfl) rfl (by decide) (c_X10_here (l := _) hG _) rfl rfl (Nat.le_of_ble_eq_true rfl) (fun q39 => ?_)
              refine s_bipush (v := 97) (n := 106) hX (dec_of D_X10_token (i := 53) rfl) rfl (by decide) ?_
              refine s_isub (n := 107) hX (dec_of D_X10_token (i := 54) rfl) rfl ?_
              refine s_iconst (v := 1) (n := 108) hX (dec_of D_X10_token (i := 55) rfl) rfl (by decide) ?_
              refine s_iadd (n := 109) hX (dec_of D_X10_token (i := 56) rfl) rfl ?_
              refine s_ior (n := 110) hX (dec_of D_X10_token (i := 57) rfl) rfl ?_
              refine s_putI (c := 10) (p := 22) (n := 113) hX cls10 (vk131 (by omega)) (dec_of D_X10_token (i := 58) rfl) rfl rfl (by decide) wd_1368 rfl rfl rfl (fun s40 => ?_)
              refine s_aload_n 0 (n := 114) hX (dec_of D_X10_token (i := 59) rfl) rfl rfl rfl ?_
              refine s_dup (n := 115) hX (dec_of D_X10_token (i := 60) rfl) rfl rfl ?_
              refine s_getI (c := 10) (p := 18) (id := 858) (n := 118) hX cls10 (vk131 (by omega)) (dec_of D_X10_token (i := 61) rfl) rfl rfl wd_1364 ?_
              refine s_iconst (v := 1) (n := 119) hX (dec_of D_X10_token (i := 62) rfl) rfl (by decide) ?_
              refine s_iadd (n := 120) hX (dec_of D_X10_token (i := 63) rfl) rfl ?_
              refine s_putI (c := 10) (p := 18) (n := 123) hX cls10 (vk131 (by omega)) (dec_of D_X10_token (i := 64) rfl) rfl rfl (by decide) wd_1364 rfl rfl rfl (fun s41 => ?_)
              refine s_goto (n := 69) hX (dec_of D_X10_token (i := 65) rfl) rfl ?_
              exact s_sub [0] rfl (hre30 s41)
      · refine s_aload_n 0 (n := 50) hX (dec_of D_X10_token (i := 25) rfl) rfl rfl rfl ?_
        refine s_iconst (v := 3) (n := 51) hX (dec_of D_X10_token (i := 26) rfl) rfl (by decide) ?_
        refine s_putI (c := 10) (p := 20) (n := 54) hX cls10 (vk131 (by omega)) (dec_of D_X10_token (i := 27) rfl) rfl rfl (by decide) wd_1366 rfl rfl rfl (fun s42 => ?_)
        refine s_goto (n := 268) hX (dec_of D_X10_token (i := 28) rfl) rfl ?_
        exact s_vret hX hR (dec_of D_X10_token (i := 139) rfl) rfl
    · refine s_aload_n 0 (n := 19) hX (dec_of D_X10_token (i := 8) rfl) rfl rfl rfl ?_
      refine s_dup (n := 20) hX (dec_of D_X10_token (i := 9) rfl) rfl rfl ?_
      refine s_getI (c := 10) (p := 18) (id := 858) (n := 23) hX cls10 (vk131 (by omega)) (dec_of D_X10_token (i := 10) rfl) rfl rfl wd_1364 ?_
      refine s_iconst (v := 1) (n := 24) hX (dec_of D_X10_token (i := 11) rfl) rfl (by decide) ?_
      refine s_iadd (n := 25) hX (dec_of D_X10_token (i := 12) rfl) rfl ?_
      refine s_putI (c := 10) (p := 18) (n := 28) hX cls10 (vk131 (by omega)) (dec_of D_X10_token (i := 13) rfl) rfl rfl (by decide) wd_1364 rfl rfl rfl (fun s43 => ?_)
      refine s_goto (n := 0) hX (dec_of D_X10_token (i := 14) rfl) rfl ?_
      exact s_sub [0] rfl (hre3 s43)
def T_X10_wrong : List (Nat × Instr × Nat) := [(0, .aload_n 0, 1), (1, .getfield 136, 3), (4, .ifCond .eq 4, 3), (7, .return_, 1), (8, .aload_n 0, 1), (9, .iload_n 1, 1), (10, .putfield 136, 3), (13, .aload_n 0, 1), (14, .aload_n 0, 1), (15, .getfield 102, 3), (18, .putfield 139, 3), (21, .return_, 1)]
theorem D_X10_wrong : dchk cX10_wrong T_X10_wrong = true := by decide +kernel
def Mo_wrong (σ : ST) (a1 : Int32) : Option ST :=
  (if (gF σ 863 0) = 0 then lt_ (setF σ 863 0 a1) (fun s1 => lt_ (setF s1 864 0 (gF s1 859 0)) (fun s2 => some s2)) else some σ)
set_option maxHeartbeats 4000000 in
set_option maxRecDepth 100000 in
theorem c_X10_wrong {G : GW} (hG : Good G) {l : Launch} (σ : ST) (a1 : Int32) : Ctr G l yX10_wrong cX10_wrong 2 none 0 [.ref (ga G 131 0), .int a1] σ oV (Mo_wrong σ a1) := by
  refine ctr_of hG (by decide) (Nat.le_of_ble_eq_true rfl) ?_
  intro X hXl hR hX
  have hX : Ok G X cX10_wrong 2 RX10 0 := hX
  unfold Mo_wrong
  show Sim G X 2 (MQX G X oV) σ 0 [(0, .ref (ga G 131 0)), (1, .int a1)] [] _
  refine s_aload_n 0 (n := 1) hX (dec_of D_X10_wrong (i := 0) rfl) rfl rfl rfl ?_
  refine s_getI (c := 10) (p := 23) (id := 863) (n := 4) hX cls10 (vk131 (by omega)) (dec_of D_X10_wrong (i := 1) rfl) rfl rfl wd_1369 ?_
  refine s_if_eq (tgt := 8) (n := 7) hX (dec_of D_X10_wrong (i := 2) rfl) rfl rfl ?_ ?_
  · refine s_aload_n 0 (n := 9) hX (dec_of D_X10_wrong (i := 4) rfl) rfl rfl rfl ?_
    refine s_iload_n 1 (n := 10) hX (dec_of D_X10_wrong (i := 5) rfl) rfl rfl rfl ?_
    refine s_putI (c := 10) (p := 23) (n := 13) hX cls10 (vk131 (by omega)) (dec_of D_X10_wrong (i := 6) rfl) rfl rfl (by decide) wd_1369 rfl rfl rfl (fun s1 => ?_)
    refine s_aload_n 0 (n := 14) hX (dec_of D_X10_wrong (i := 7) rfl) rfl rfl rfl ?_
    refine s_aload_n 0 (n := 15) hX (dec_of D_X10_wrong (i := 8) rfl) rfl rfl rfl ?_
    refine s_getI (c := 10) (p := 19) (id := 859) (n := 18) hX cls10 (vk131 (by omega)) (dec_of D_X10_wrong (i := 9) rfl) rfl rfl wd_1365 ?_
    refine s_putI (c := 10) (p := 24) (n := 21) hX cls10 (vk131 (by omega)) (dec_of D_X10_wrong (i := 10) rfl) rfl rfl (by decide) wd_1370 rfl rfl rfl (fun s2 => ?_)
    exact s_vret hX hR (dec_of D_X10_wrong (i := 11) rfl) rfl
  · exact s_vret hX hR (dec_of D_X10_wrong (i := 3) rfl) rfl
theorem lk_RX10_142 : LkV RX10 142 RX10 yX10_token cX10_token 2 none 0 := ⟨wd_1509, wd_1511, wd_16, wd_93, wd_1512, by decide +kernel, by decide⟩
def T_X10_goOn : List (Nat × Instr × Nat) := [(0, .aload_n 0, 1), (1, .getfield 136, 3), (4, .ifCond .ne 7, 3), (7, .aload_n 0, 1), (8, .invokevirtual 142, 3), (11, .return_, 1)]
theorem D_X10_goOn : dchk cX10_goOn T_X10_goOn = true := by decide +kernel
def Mo_goOn (σ : ST)  : Option ST :=
  (if (gF σ 863 0) = 0 then bd_ (Mo_token (σ)) (fun q1 => some q1) else some σ)
set_option maxHeartbeats 4000000 in
set_option maxRecDepth 100000 in
theorem c_X10_goOn {G : GW} (hG : Good G) {l : Launch} (σ : ST)  : Ctr G l yX10_goOn cX10_goOn 1 none 8 [.ref (ga G 131 0)] σ oV (Mo_goOn σ ) := by
  refine ctr_of hG (by decide) (Nat.le_of_ble_eq_true rfl) ?_
  intro X hXl hR hX
  have hX : Ok G X cX10_goOn 1 RX10 8 := hX
  unfold Mo_goOn
  show Sim G X 1 (MQX G X oV) σ 0 [(0, .ref (ga G 131 0))] [] _
  refine s_aload_n 0 (n := 1) hX (dec_of D_X10_goOn (i := 0) rfl) rfl rfl rfl ?_
  refine s_getI (c := 10) (p := 23) (id := 863) (n := 4) hX cls10 (vk131 (by omega)) (dec_of D_X10_goOn (i := 1) rfl) rfl rfl wd_1369 ?_
  refine s_if_ne (tgt := 11) (n := 7) hX (dec_of D_X10_goOn (i := 2) rfl) rfl rfl ?_ ?_
  · exact s_vret hX hR (dec_of D_X10_goOn (i := 5) rfl) rfl
  · refine s_aload_n 0 (n := 8) hX (dec_of D_X10_goOn (i := 3) rfl) rfl rfl rfl ?_
    refine s_callVV (c := 10) (n := 11) hX cls10 (vk131 (by omega)) lk_RX10_142 (dec_of D_X10_goOn (i := 4) rfl) rfl (by decide) (c_X10_token (l := _) hG _) rfl rfl (Nat.le_of_ble_eq_true rfl) (fun q1 => ?_)
    exact s_vret hX hR (dec_of D_X10_goOn (i := 5) rfl) rfl
def T_X10_isOther : List (Nat × Instr × Nat) := [(0, .aload_n 0, 1), (1, .getfield 136, 3), (4, .ifCond .ne 22, 3), (7, .aload_n 0, 1), (8, .getfield 105, 3), (11, .ifCond .ne 15, 3), (14, .aload_n 0, 1), (15, .getfield 118, 3), (18, .iconst (-1), 1), (19, .if_icmp .ne 7, 3), (22, .iconst 1, 1), (23, .goto 4, 3), (26, .iconst 0, 1), (27, .ireturn, 1)]
theorem D_X10_isOther : dchk cX10_isOther T_X10_isOther = true := by decide +kernel
def Mo_isOther (σ : ST)  : Option Int32 :=
  (if (gF σ 863 0) = 0 then (if (gF σ 860 0) = 0 then (if (gF σ 861 0) = (-1) then some 1 else some 0) else some 0) else some 0)
set_option maxHeartbeats 4000000 in
set_option maxRecDepth 100000 in
theorem c_X10_isOther {G : GW} (hG : Good G) {l : Launch} (σ : ST)  : Ctr G l yX10_isOther cX10_isOther 1 (some .boolean) 0 [.ref (ga G 131 0)] σ (oI σ) (Mo_isOther σ ) := by
  refine ctr_of hG (by decide) (Nat.le_of_ble_eq_true rfl) ?_
  intro X hXl hR hX
  have hX : Ok G X cX10_isOther 1 RX10 0 := hX
  unfold Mo_isOther
  show Sim G X 1 (MQX G X (oI σ)) σ 0 [(0, .ref (ga G 131 0))] [] _
  refine s_aload_n 0 (n := 1) hX (dec_of D_X10_isOther (i := 0) rfl) rfl rfl rfl ?_
  refine s_getI (c := 10) (p := 23) (id := 863) (n := 4) hX cls10 (vk131 (by omega)) (dec_of D_X10_isOther (i := 1) rfl) rfl rfl wd_1369 ?_
  refine s_if_ne (tgt := 26) (n := 7) hX (dec_of D_X10_isOther (i := 2) rfl) rfl rfl ?_ ?_
  · refine s_iconst (v := 0) (n := 27) hX (dec_of D_X10_isOther (i := 12) rfl) rfl (by decide) ?_
    exact s_zret hX hR (dec_of D_X10_isOther (i := 13) rfl) rfl rfl
  · refine s_aload_n 0 (n := 8) hX (dec_of D_X10_isOther (i := 3) rfl) rfl rfl rfl ?_
    refine s_getI (c := 10) (p := 20) (id := 860) (n := 11) hX cls10 (vk131 (by omega)) (dec_of D_X10_isOther (i := 4) rfl) rfl rfl wd_1366 ?_
    refine s_if_ne (tgt := 26) (n := 14) hX (dec_of D_X10_isOther (i := 5) rfl) rfl rfl ?_ ?_
    · refine s_iconst (v := 0) (n := 27) hX (dec_of D_X10_isOther (i := 12) rfl) rfl (by decide) ?_
      exact s_zret hX hR (dec_of D_X10_isOther (i := 13) rfl) rfl rfl
    · refine s_aload_n 0 (n := 15) hX (dec_of D_X10_isOther (i := 6) rfl) rfl rfl rfl ?_
      refine s_getI (c := 10) (p := 21) (id := 861) (n := 18) hX cls10 (vk131 (by omega)) (dec_of D_X10_isOther (i := 7) rfl) rfl rfl wd_1367 ?_
      refine s_iconst (v := (-1)) (n := 19) hX (dec_of D_X10_isOther (i := 8) rfl) rfl (by decide) ?_
      refine s_icmp_ne (tgt := 26) (n := 22) hX (dec_of D_X10_isOther (i := 9) rfl) rfl rfl ?_ ?_
      · refine s_iconst (v := 0) (n := 27) hX (dec_of D_X10_isOther (i := 12) rfl) rfl (by decide) ?_
        exact s_zret hX hR (dec_of D_X10_isOther (i := 13) rfl) rfl rfl
      · refine s_iconst (v := 1) (n := 23) hX (dec_of D_X10_isOther (i := 10) rfl) rfl (by decide) ?_
        refine s_goto (n := 27) hX (dec_of D_X10_isOther (i := 11) rfl) rfl ?_
        exact s_zret hX hR (dec_of D_X10_isOther (i := 13) rfl) rfl rfl
theorem lk_RX10_149 : LkV RX10 149 RX10 yX10_goOn cX10_goOn 1 none 0 := ⟨wd_1547, wd_1549, wd_23, wd_93, wd_1550, by decide +kernel, by decide⟩
theorem lk_RX10_145 : LkV RX10 145 RX10 yX10_wrong cX10_wrong 2 none 1 := ⟨wd_1539, wd_1541, wd_21, wd_93, wd_1542, by decide +kernel, by decide⟩
def T_X10_number : List (Nat × Instr × Nat) := [(0, .aload_n 0, 1), (1, .getfield 136, 3), (4, .ifCond .ne 16, 3), (7, .aload_n 0, 1), (8, .getfield 105, 3), (11, .iconst 1, 1), (12, .if_icmp .eq 8, 3), (15, .aload_n 0, 1), (16, .iconst 1, 1), (17, .invokevirtual 145, 3), (20, .aload_n 0, 1), (21, .getfield 136, 3), (24, .ifCond .ne 24, 3), (27, .aload_n 0, 1), (28, .getfield 118, 3), (31, .iload_n 1, 1), (32, .if_icmp .lt 11, 3), (35, .aload_n 0, 1), (36, .getfield 118, 3), (39, .iload_n 2, 1), (40, .if_icmp .le 8, 3), (43, .aload_n 0, 1), (44, .iconst 2, 1), (45, .invokevirtual 145, 3), (48, .aload_n 0, 1), (49, .getfield 136, 3), (52, .ifCond .ne 10, 3), (55, .aload_n 0, 1), (56, .getfield 118, 3), (59, .goto 4, 3), (62, .iconst 0, 1), (63, .istore_n 3, 1), (64, .aload_n 0, 1), (65, .invokevirtual 149, 3), (68, .iload_n 3, 1), (69, .ireturn, 1)]
theorem D_X10_number : dchk cX10_number T_X10_number = true := by decide +kernel
def Mo_number (σ : ST) (a1 : Int32) (a2 : Int32) : Option (Int32 × ST) :=
  lk_ (fun kk2 => (if (gF σ 863 0) = 0 then (if (gF σ 860 0) = 1 then kk2 (σ) else bd_ (Mo_wrong (σ) 1) (fun q15 => kk2 q15)) else kk2 (σ))) (fun (j1 : ST) => lk_ (fun kk5 => (if (gF j1 863 0) = 0 then lk_ (fun kk12 => (if (gF j1 861 0) < a1 then kk12 () else (if (gF j1 861 0) ≤ a2 then kk5 j1 else kk12 ()))) (fun (j11 : Unit) => bd_ (Mo_wrong j1 2) (fun q14 => kk5 q14)) else kk5 j1)) (fun (j4 : ST) => lk_ (fun kk8 => (if (gF j4 863 0) = 0 then kk8 (gF j4 861 0) else kk8 0)) (fun (j7 : Int32) => bd_ (Mo_goOn j4) (fun q10 => some (j7, q10)))))
set_option maxHeartbeats 4000000 in
set_option maxRecDepth 100000 in
theorem c_X10_number {G : GW} (hG : Good G) {l : Launch} (σ : ST) (a1 : Int32) (a2 : Int32) : Ctr G l yX10_number cX10_number 4 (some .int) 9 [.ref (ga G 131 0), .int a1, .int a2] σ oP (Mo_number σ a1 a2) := by
  refine ctr_of hG (by decide) (Nat.le_of_ble_eq_true rfl) ?_
  intro X hXl hR hX
  have hX : Ok G X cX10_number 4 RX10 9 := hX
  unfold Mo_number
  show Sim G X 4 (MQX G X oP) σ 0 [(0, .ref (ga G 131 0)), (1, .int a1), (2, .int a2)] [] _
  refine s_aload_n 0 (n := 1) hX (dec_of D_X10_number (i := 0) rfl) rfl rfl rfl ?_
  refine s_getI (c := 10) (p := 23) (id := 863) (n := 4) hX cls10 (vk131 (by omega)) (dec_of D_X10_number (i := 1) rfl) rfl rfl wd_1369 ?_
  refine s_lk (pcj := 20) (Sf := fun (j1 : ST) => j1) (lvf := fun (j1 : ST) => [(0, .ref (ga G 131 0)), (1, .int a1), (2, .int a2)]) (stf := fun (j1 : ST) => []) (fun j1 => ?_) (fun kk2 hkk3 => ?_)
  · refine s_aload_n 0 (n := 21) hX (dec_of D_X10_number (i := 10) rfl) rfl rfl rfl ?_
    refine s_getI (c := 10) (p := 23) (id := 863) (n := 24) hX cls10 (vk131 (by omega)) (dec_of D_X10_number (i := 11) rfl) rfl rfl wd_1369 ?_
    refine s_lk (pcj := 48) (Sf := fun (j4 : ST) => j4) (lvf := fun (j4 : ST) => [(0, .ref (ga G 131 0))]) (stf := fun (j4 : ST) => []) (fun j4 => ?_) (fun kk5 hkk6 => ?_)
    · refine s_aload_n 0 (n := 49) hX (dec_of D_X10_number (i := 24) rfl) rfl rfl rfl ?_
      refine s_getI (c := 10) (p := 23) (id := 863) (n := 52) hX cls10 (vk131 (by omega)) (dec_of D_X10_number (i := 25) rfl) rfl rfl wd_1369 ?_
      refine s_lk (pcj := 63) (Sf := fun (j7 : Int32) => j4) (lvf := fun (j7 : Int32) => [(0, .ref (ga G 131 0))]) (stf := fun (j7 : Int32) => [.int j7]) (fun j7 => ?_) (fun kk8 hkk9 => ?_)
      · refine s_istore_n (lv' := [(0, _), (3, _)]) [1, 0] (n := 64) hX (dec_of D_X10_number (i := 31) rfl) rfl rfl (by decide) rfl ?_
        refine s_aload_n 0 (n := 65) hX (dec_of D_X10_number (i := 32) rfl) rfl rfl rfl ?_
        refine s_callVV (c := 10) (n := 68) hX cls10 (vk131 (by omega)) lk_RX10_149 (dec_of D_X10_number (i := 33) rfl) rfl (by decide) (c_X10_goOn (l := _) hG _) rfl rfl (Nat.le_of_ble_eq_true rfl) (fun q10 => ?_)
        refine s_iload_n 1 (n := 69) hX (dec_of D_X10_number (i := 34) rfl) rfl rfl rfl ?_
        exact s_iret hX hR (dec_of D_X10_number (i := 35) rfl) rfl
      · refine s_if_ne (tgt := 62) (n := 55) hX (dec_of D_X10_number (i := 26) rfl) rfl rfl ?_ ?_
        · refine s_iconst (v := 0) (n := 63) hX (dec_of D_X10_number (i := 30) rfl) rfl (by decide) ?_
          exact s_sub [0] rfl (hkk9 0)
        · refine s_aload_n 0 (n := 56) hX (dec_of D_X10_number (i := 27) rfl) rfl rfl rfl ?_
          refine s_getI (c := 10) (p := 21) (id := 861) (n := 59) hX cls10 (vk131 (by omega)) (dec_of D_X10_number (i := 28) rfl) rfl rfl wd_1367 ?_
          refine s_goto (n := 63) hX (dec_of D_X10_number (i := 29) rfl) rfl ?_
          exact s_sub [0] rfl (hkk9 (gF j4 861 0))
    · refine s_if_ne (tgt := 48) (n := 27) hX (dec_of D_X10_number (i := 12) rfl) rfl rfl ?_ ?_
      · exact s_sub [0] rfl (hkk6 j1)
      · refine s_aload_n 0 (n := 28) hX (dec_of D_X10_number (i := 13) rfl) rfl rfl rfl ?_
        refine s_getI (c := 10) (p := 21) (id := 861) (n := 31) hX cls10 (vk131 (by omega)) (dec_of D_X10_number (i := 14) rfl) rfl rfl wd_1367 ?_
        refine s_iload_n 1 (n := 32) hX (dec_of D_X10_number (i := 15) rfl) rfl rfl rfl ?_
        refine s_lk (pcj := 43) (Sf := fun (j11 : Unit) => j1) (lvf := fun (j11 : Unit) => [(0, .ref (ga G 131 0))]) (stf := fun (j11 : Unit) => []) (fun j11 => ?_) (fun kk12 hkk13 => ?_)
        · refine s_aload_n 0 (n := 44) hX (dec_of D_X10_number (i := 21) rfl) rfl rfl rfl ?_
          refine s_iconst (v := 2) (n := 45) hX (dec_of D_X10_number (i := 22) rfl) rfl (by decide) ?_
          refine s_callVV (c := 10) (n := 48) hX cls10 (vk131 (by omega)) lk_RX10_145 (dec_of D_X10_number (i := 23) rfl) rfl (by decide) (c_X10_wrong (l := _) hG _ _) rfl rfl (Nat.le_of_ble_eq_true rfl) (fun q14 => ?_)
          exact s_sub [0] rfl (hkk6 q14)
        · refine s_icmp_lt (tgt := 43) (n := 35) hX (dec_of D_X10_number (i := 16) rfl) rfl rfl ?_ ?_
          · exact s_sub [0] rfl (hkk13 ())
          · refine s_aload_n 0 (n := 36) hX (dec_of D_X10_number (i := 17) rfl) rfl rfl rfl ?_
            refine s_getI (c := 10) (p := 21) (id := 861) (n := 39) hX cls10 (vk131 (by omega)) (dec_of D_X10_number (i := 18) rfl) rfl rfl wd_1367 ?_
            refine s_iload_n 2 (n := 40) hX (dec_of D_X10_number (i := 19) rfl) rfl rfl rfl ?_
            refine s_icmp_le (tgt := 48) (n := 43) hX (dec_of D_X10_number (i := 20) rfl) rfl rfl ?_ ?_
            · exact s_sub [0] rfl (hkk6 j1)
            · exact s_sub [0] rfl (hkk13 ())
  · refine s_if_ne (tgt := 20) (n := 7) hX (dec_of D_X10_number (i := 2) rfl) rfl rfl ?_ ?_
    · exact s_sub [0, 1, 2] rfl (hkk3 (σ))
    · refine s_aload_n 0 (n := 8) hX (dec_of D_X10_number (i := 3) rfl) rfl rfl rfl ?_
      refine s_getI (c := 10) (p := 20) (id := 860) (n := 11) hX cls10 (vk131 (by omega)) (dec_of D_X10_number (i := 4) rfl) rfl rfl wd_1366 ?_
      refine s_iconst (v := 1) (n := 12) hX (dec_of D_X10_number (i := 5) rfl) rfl (by decide) ?_
      refine s_icmp_eq (tgt := 20) (n := 15) hX (dec_of D_X10_number (i := 6) rfl) rfl rfl ?_ ?_
      · exact s_sub [0, 1, 2] rfl (hkk3 (σ))
      · refine s_aload_n 0 (n := 16) hX (dec_of D_X10_number (i := 7) rfl) rfl rfl rfl ?_
        refine s_iconst (v := 1) (n := 17) hX (dec_of D_X10_number (i := 8) rfl) rfl (by decide) ?_
        refine s_callVV (c := 10) (n := 20) hX cls10 (vk131 (by omega)) lk_RX10_145 (dec_of D_X10_number (i := 9) rfl) rfl (by decide) (c_X10_wrong (l := _) hG _ _) rfl rfl (Nat.le_of_ble_eq_true rfl) (fun q15 => ?_)
        exact s_sub [0, 1, 2] rfl (hkk3 q15)
def T_X10_among : List (Nat × Instr × Nat) := [(0, .aload_n 0, 1), (1, .getfield 136, 3), (4, .ifCond .ne 33, 3), (7, .aload_n 0, 1), (8, .getfield 105, 3), (11, .ifCond .ne 21, 3), (14, .aload_n 0, 1), (15, .getfield 118, 3), (18, .iload_n 1, 1), (19, .if_icmp .lt 13, 3), (22, .aload_n 0, 1), (23, .getfield 118, 3), (26, .iload_n 1, 1), (27, .iload_n 2, 1), (28, .iadd, 1), (29, .if_icmp .lt 8, 3), (32, .aload_n 0, 1), (33, .iconst 1, 1), (34, .invokevirtual 145, 3), (37, .aload_n 0, 1), (38, .getfield 136, 3), (41, .ifCond .ne 12, 3), (44, .aload_n 0, 1), (45, .getfield 118, 3), (48, .iload_n 1, 1), (49, .isub, 1), (50, .goto 4, 3), (53, .iconst 0, 1), (54, .istore_n 3, 1), (55, .aload_n 0, 1), (56, .invokevirtual 149, 3), (59, .iload_n 3, 1), (60, .ireturn, 1)]
theorem D_X10_among : dchk cX10_among T_X10_among = true := by decide +kernel
def Mo_among (σ : ST) (a1 : Int32) (a2 : Int32) : Option (Int32 × ST) :=
  lk_ (fun kk2 => (if (gF σ 863 0) = 0 then lk_ (fun kk9 => (if (gF σ 860 0) = 0 then (if (gF σ 861 0) < a1 then kk9 () else (if (gF σ 861 0) < (a1 + a2) then kk2 (σ) else kk9 ())) else kk9 ())) (fun (j8 : Unit) => bd_ (Mo_wrong (σ) 1) (fun q11 => kk2 q11)) else kk2 (σ))) (fun (j1 : ST) => lk_ (fun kk5 => (if (gF j1 863 0) = 0 then kk5 ((gF j1 861 0) - a1) else kk5 0)) (fun (j4 : Int32) => bd_ (Mo_goOn j1) (fun q7 => some (j4, q7))))
set_option maxHeartbeats 4000000 in
set_option maxRecDepth 100000 in
theorem c_X10_among {G : GW} (hG : Good G) {l : Launch} (σ : ST) (a1 : Int32) (a2 : Int32) : Ctr G l yX10_among cX10_among 4 (some .int) 9 [.ref (ga G 131 0), .int a1, .int a2] σ oP (Mo_among σ a1 a2) := by
  refine ctr_of hG (by decide) (Nat.le_of_ble_eq_true rfl) ?_
  intro X hXl hR hX
  have hX : Ok G X cX10_among 4 RX10 9 := hX
  unfold Mo_among
  show Sim G X 4 (MQX G X oP) σ 0 [(0, .ref (ga G 131 0)), (1, .int a1), (2, .int a2)] [] _
  refine s_aload_n 0 (n := 1) hX (dec_of D_X10_among (i := 0) rfl) rfl rfl rfl ?_
  refine s_getI (c := 10) (p := 23) (id := 863) (n := 4) hX cls10 (vk131 (by omega)) (dec_of D_X10_among (i := 1) rfl) rfl rfl wd_1369 ?_
  refine s_lk (pcj := 37) (Sf := fun (j1 : ST) => j1) (lvf := fun (j1 : ST) => [(0, .ref (ga G 131 0)), (1, .int a1)]) (stf := fun (j1 : ST) => []) (fun j1 => ?_) (fun kk2 hkk3 => ?_)
  · refine s_aload_n 0 (n := 38) hX (dec_of D_X10_among (i := 19) rfl) rfl rfl rfl ?_
    refine s_getI (c := 10) (p := 23) (id := 863) (n := 41) hX cls10 (vk131 (by omega)) (dec_of D_X10_among (i := 20) rfl) rfl rfl wd_1369 ?_
    refine s_lk (pcj := 54) (Sf := fun (j4 : Int32) => j1) (lvf := fun (j4 : Int32) => [(0, .ref (ga G 131 0))]) (stf := fun (j4 : Int32) => [.int j4]) (fun j4 => ?_) (fun kk5 hkk6 => ?_)
    · refine s_istore_n (lv' := [(0, _), (3, _)]) [1, 0] (n := 55) hX (dec_of D_X10_among (i := 28) rfl) rfl rfl (by decide) rfl ?_
      refine s_aload_n 0 (n := 56) hX (dec_of D_X10_among (i := 29) rfl) rfl rfl rfl ?_
      refine s_callVV (c := 10) (n := 59) hX cls10 (vk131 (by omega)) lk_RX10_149 (dec_of D_X10_among (i := 30) rfl) rfl (by decide) (c_X10_goOn (l := _) hG _) rfl rfl (Nat.le_of_ble_eq_true rfl) (fun q7 => ?_)
      refine s_iload_n 1 (n := 60) hX (dec_of D_X10_among (i := 31) rfl) rfl rfl rfl ?_
      exact s_iret hX hR (dec_of D_X10_among (i := 32) rfl) rfl
    · refine s_if_ne (tgt := 53) (n := 44) hX (dec_of D_X10_among (i := 21) rfl) rfl rfl ?_ ?_
      · refine s_iconst (v := 0) (n := 54) hX (dec_of D_X10_among (i := 27) rfl) rfl (by decide) ?_
        exact s_sub [0] rfl (hkk6 0)
      · refine s_aload_n 0 (n := 45) hX (dec_of D_X10_among (i := 22) rfl) rfl rfl rfl ?_
        refine s_getI (c := 10) (p := 21) (id := 861) (n := 48) hX cls10 (vk131 (by omega)) (dec_of D_X10_among (i := 23) rfl) rfl rfl wd_1367 ?_
        refine s_iload_n 1 (n := 49) hX (dec_of D_X10_among (i := 24) rfl) rfl rfl rfl ?_
        refine s_isub (n := 50) hX (dec_of D_X10_among (i := 25) rfl) rfl ?_
        refine s_goto (n := 54) hX (dec_of D_X10_among (i := 26) rfl) rfl ?_
        exact s_sub [0] rfl (hkk6 ((gF j1 861 0) - a1))
  · refine s_if_ne (tgt := 37) (n := 7) hX (dec_of D_X10_among (i := 2) rfl) rfl rfl ?_ ?_
    · exact s_sub [0, 1] rfl (hkk3 (σ))
    · refine s_aload_n 0 (n := 8) hX (dec_of D_X10_among (i := 3) rfl) rfl rfl rfl ?_
      refine s_getI (c := 10) (p := 20) (id := 860) (n := 11) hX cls10 (vk131 (by omega)) (dec_of D_X10_among (i := 4) rfl) rfl rfl wd_1366 ?_
      refine s_lk (pcj := 32) (Sf := fun (j8 : Unit) => σ) (lvf := fun (j8 : Unit) => [(0, .ref (ga G 131 0)), (1, .int a1)]) (stf := fun (j8 : Unit) => []) (fun j8 => ?_) (fun kk9 hkk10 => ?_)
      · refine s_aload_n 0 (n := 33) hX (dec_of D_X10_among (i := 16) rfl) rfl rfl rfl ?_
        refine s_iconst (v := 1) (n := 34) hX (dec_of D_X10_among (i := 17) rfl) rfl (by decide) ?_
        refine s_callVV (c := 10) (n := 37) hX cls10 (vk131 (by omega)) lk_RX10_145 (dec_of D_X10_among (i := 18) rfl) rfl (by decide) (c_X10_wrong (l := _) hG _ _) rfl rfl (Nat.le_of_ble_eq_true rfl) (fun q11 => ?_)
        exact s_sub [0, 1] rfl (hkk3 q11)
      · refine s_if_ne (tgt := 32) (n := 14) hX (dec_of D_X10_among (i := 5) rfl) rfl rfl ?_ ?_
        · exact s_sub [0, 1] rfl (hkk10 ())
        · refine s_aload_n 0 (n := 15) hX (dec_of D_X10_among (i := 6) rfl) rfl rfl rfl ?_
          refine s_getI (c := 10) (p := 21) (id := 861) (n := 18) hX cls10 (vk131 (by omega)) (dec_of D_X10_among (i := 7) rfl) rfl rfl wd_1367 ?_
          refine s_iload_n 1 (n := 19) hX (dec_of D_X10_among (i := 8) rfl) rfl rfl rfl ?_
          refine s_icmp_lt (tgt := 32) (n := 22) hX (dec_of D_X10_among (i := 9) rfl) rfl rfl ?_ ?_
          · exact s_sub [0, 1] rfl (hkk10 ())
          · refine s_aload_n 0 (n := 23) hX (dec_of D_X10_among (i := 10) rfl) rfl rfl rfl ?_
            refine s_getI (c := 10) (p := 21) (id := 861) (n := 26) hX cls10 (vk131 (by omega)) (dec_of D_X10_among (i := 11) rfl) rfl rfl wd_1367 ?_
            refine s_iload_n 1 (n := 27) hX (dec_of D_X10_among (i := 12) rfl) rfl rfl rfl ?_
            refine s_iload_n 2 (n := 28) hX (dec_of D_X10_among (i := 13) rfl) rfl rfl rfl ?_
            refine s_iadd (n := 29) hX (dec_of D_X10_among (i := 14) rfl) rfl ?_
            refine s_icmp_lt (tgt := 37) (n := 32) hX (dec_of D_X10_among (i := 15) rfl) rfl rfl ?_ ?_
            · exact s_sub [0, 1] rfl (hkk3 (σ))
            · exact s_sub [0, 1] rfl (hkk10 ())
def T_X10_named : List (Nat × Instr × Nat) := [(0, .iconst 0, 1), (1, .istore_n 3, 1), (2, .iload_n 3, 1), (3, .iload_n 2, 1), (4, .if_icmp .ge 21, 3), (7, .aload_n 1, 1), (8, .iload_n 3, 1), (9, .iaload, 1), (10, .aload_n 0, 1), (11, .getfield 112, 3), (14, .if_icmp .ne 5, 3), (17, .iload_n 3, 1), (18, .ireturn, 1), (19, .iinc 3 1, 3), (22, .goto (-20), 3), (25, .iconst (-1), 1), (26, .ireturn, 1)]
theorem D_X10_named : dchk cX10_named T_X10_named = true := by decide +kernel
def Mo_named (σ : ST) (k1 i1 : Nat) (a2 : Int32) : Option Int32 :=
  lp_ (fun rec2 (z1 : Int32) => (if a2 ≤ z1 then some (-1) else bd_ (ldI σ k1 i1 z1) (fun v4 => (if v4 = (gF σ 862 0) then some z1 else rec2 (z1 + 1))))) FU 0
set_option maxHeartbeats 4000000 in
set_option maxRecDepth 100000 in
theorem c_X10_named {G : GW} (hG : Good G) {l : Launch} (σ : ST) (k1 i1 : Nat) (hk1 : vld k1 i1) (hk1k : k1 < 100) (a2 : Int32) : Ctr G l yX10_named cX10_named 4 (some .int) 0 [.ref (ga G 131 0), .ref (ga G k1 i1), .int a2] σ (oI σ) (Mo_named σ k1 i1 a2) := by
  refine ctr_of hG (by decide) (Nat.le_of_ble_eq_true rfl) ?_
  intro X hXl hR hX
  have hX : Ok G X cX10_named 4 RX10 0 := hX
  unfold Mo_named
  show Sim G X 4 (MQX G X (oI σ)) σ 0 [(0, .ref (ga G 131 0)), (1, .ref (ga G k1 i1)), (2, .int a2)] [] _
  refine s_iconst (v := 0) (n := 1) hX (dec_of D_X10_named (i := 0) rfl) rfl (by decide) ?_
  refine s_istore_n (lv' := [(0, _), (1, _), (2, _), (3, _)]) [1, 2, 3, 0] (n := 2) hX (dec_of D_X10_named (i := 1) rfl) rfl rfl (by decide) rfl ?_
  refine s_sub [0, 1, 2, 3] rfl (s_lp (pc := 2) (Sf := fun (z1 : Int32) => σ) (lvf := fun (z1 : Int32) => [(0, .ref (ga G 131 0)), (1, .ref (ga G k1 i1)), (2, .int a2), (3, .int z1)]) (fun rec2 hre3 z1 => ?_) FU 0)
  refine s_iload_n 3 (n := 3) hX (dec_of D_X10_named (i := 2) rfl) rfl rfl rfl ?_
  refine s_iload_n 2 (n := 4) hX (dec_of D_X10_named (i := 3) rfl) rfl rfl rfl ?_
  refine s_icmp_ge (tgt := 25) (n := 7) hX (dec_of D_X10_named (i := 4) rfl) rfl rfl ?_ ?_
  · refine s_iconst (v := (-1)) (n := 26) hX (dec_of D_X10_named (i := 15) rfl) rfl (by decide) ?_
    exact s_iret hX hR (dec_of D_X10_named (i := 16) rfl) rfl
  · refine s_aload_n 1 (n := 8) hX (dec_of D_X10_named (i := 5) rfl) rfl rfl rfl ?_
    refine s_iload_n 3 (n := 9) hX (dec_of D_X10_named (i := 6) rfl) rfl rfl rfl ?_
    refine s_iald (n := 10) hX hk1 hk1k (dec_of D_X10_named (i := 7) rfl) rfl (fun v4 => ?_)
    refine s_aload_n 0 (n := 11) hX (dec_of D_X10_named (i := 8) rfl) rfl rfl rfl ?_
    refine s_getI (c := 10) (p := 22) (id := 862) (n := 14) hX cls10 (vk131 (by omega)) (dec_of D_X10_named (i := 9) rfl) rfl rfl wd_1368 ?_
    refine s_icmp_ne (tgt := 19) (n := 17) hX (dec_of D_X10_named (i := 10) rfl) rfl rfl ?_ ?_
    · refine s_iinc (v := z1 + 1) (lv' := [(0, _), (1, _), (2, _), (3, _)]) 3 [1, 2, 3, 0] (n := 22) hX (dec_of D_X10_named (i := 13) rfl) rfl rfl rfl (by decide) rfl ?_
      refine s_goto (n := 2) hX (dec_of D_X10_named (i := 14) rfl) rfl ?_
      exact s_sub [0, 1, 2, 3] rfl (hre3 (z1 + 1))
    · refine s_iload_n 3 (n := 18) hX (dec_of D_X10_named (i := 11) rfl) rfl rfl rfl ?_
      exact s_iret hX hR (dec_of D_X10_named (i := 12) rfl) rfl
theorem lk_RX10_159 : LkV RX10 159 RX10 yX10_named cX10_named 4 (some .int) 2 := ⟨wd_1555, wd_1557, wd_25, wd_93, wd_1558, by decide +kernel, by decide⟩
theorem lk_RX10_152 : LkV RX10 152 RX10 yX10_isOther cX10_isOther 1 (some .boolean) 0 := ⟨wd_1551, wd_1553, wd_24, wd_93, wd_1554, by decide +kernel, by decide⟩
def T_X10_newName : List (Nat × Instr × Nat) := [(0, .aload_n 0, 1), (1, .invokevirtual 149, 3), (4, .aload_n 0, 1), (5, .getfield 136, 3), (8, .ifCond .ne 15, 3), (11, .aload_n 0, 1), (12, .invokevirtual 152, 3), (15, .ifCond .ne 8, 3), (18, .aload_n 0, 1), (19, .iconst 1, 1), (20, .invokevirtual 145, 3), (23, .aload_n 0, 1), (24, .getfield 136, 3), (27, .ifCond .ne 55, 3), (30, .aload_n 0, 1), (31, .aload_n 0, 1), (32, .getfield 38, 3), (35, .aload_n 0, 1), (36, .getfield 156, 3), (39, .invokevirtual 159, 3), (42, .iconst (-1), 1), (43, .if_icmp .ne 35, 3), (46, .aload_n 0, 1), (47, .aload_n 0, 1), (48, .getfield 41, 3), (51, .aload_n 0, 1), (52, .getfield 163, 3), (55, .invokevirtual 159, 3), (58, .iconst (-1), 1), (59, .if_icmp .ne 19, 3), (62, .aload_n 0, 1), (63, .aload_n 0, 1), (64, .getfield 44, 3), (67, .aload_n 0, 1), (68, .getfield 166, 3), (71, .invokevirtual 159, 3), (74, .iconst (-1), 1), (75, .if_icmp .eq 7, 3), (78, .iconst 1, 1), (79, .goto 4, 3), (82, .iconst 0, 1), (83, .istore_n 3, 1), (84, .iload_n 3, 1), (85, .ifCond .eq 8, 3), (88, .aload_n 0, 1), (89, .iconst 3, 1), (90, .invokevirtual 145, 3), (93, .aload_n 0, 1), (94, .getfield 136, 3), (97, .ifCond .ne 10, 3), (100, .aload_n 1, 1), (101, .iload_n 2, 1), (102, .aload_n 0, 1), (103, .getfield 112, 3), (106, .iastore, 1), (107, .aload_n 0, 1), (108, .invokevirtual 149, 3), (111, .return_, 1)]
theorem D_X10_newName : dchk cX10_newName T_X10_newName = true := by decide +kernel
def Mo_newName (σ : ST) (k1 i1 : Nat) (a2 : Int32) : Option ST :=
  bd_ (Mo_goOn (σ)) (fun q1 => lk_ (fun kk3 => (if (gF q1 863 0) = 0 then bd_ (Mo_isOther q1) (fun q23 => (if q23 = 0 then bd_ (Mo_wrong q1 1) (fun q24 => kk3 q24) else kk3 q1)) else kk3 q1)) (fun (j2 : ST) => lk_ (fun kk6 => lk_ (fun kk18 => (if (gF j2 863 0) = 0 then bd_ (Mo_named j2 36 0 (gF j2 867 0)) (fun q20 => (if q20 = (-1) then bd_ (Mo_named j2 37 0 (gF j2 868 0)) (fun q21 => (if q21 = (-1) then bd_ (Mo_named j2 38 0 (gF j2 869 0)) (fun q22 => (if q22 = (-1) then kk18 () else kk6 1)) else kk6 1)) else kk6 1)) else kk18 ())) (fun (j17 : Unit) => kk6 0)) (fun (j5 : Int32) => lk_ (fun kk9 => (if j5 = 0 then kk9 j2 else bd_ (Mo_wrong j2 3) (fun q16 => kk9 q16))) (fun (j8 : ST) => lk_ (fun kk12 => (if (gF j8 863 0) = 0 then bd_ (stI j8 k1 i1 a2 (gF j8 862 0)) (fun s15 => kk12 s15) else kk12 j8)) (fun (j11 : ST) => bd_ (Mo_goOn j11) (fun q14 => some q14))))))
set_option maxHeartbeats 4000000 in
set_option maxRecDepth 100000 in
theorem c_X10_newName {G : GW} (hG : Good G) {l : Launch} (σ : ST) (k1 i1 : Nat) (hk1 : vld k1 i1) (hk1k : k1 < 100) (a2 : Int32) : Ctr G l yX10_newName cX10_newName 4 none 9 [.ref (ga G 131 0), .ref (ga G k1 i1), .int a2] σ oV (Mo_newName σ k1 i1 a2) := by
  refine ctr_of hG (by decide) (Nat.le_of_ble_eq_true rfl) ?_
  intro X hXl hR hX
  have hX : Ok G X cX10_newName 4 RX10 9 := hX
  unfold Mo_newName
  show Sim G X 4 (MQX G X oV) σ 0 [(0, .ref (ga G 131 0)), (1, .ref (ga G k1 i1)), (2, .int a2)] [] _
  refine s_aload_n 0 (n := 1) hX (dec_of D_X10_newName (i := 0) rfl) rfl rfl rfl ?_
  refine s_callVV (c := 10) (n := 4) hX cls10 (vk131 (by omega)) lk_RX10_149 (dec_of D_X10_newName (i := 1) rfl) rfl (by decide) (c_X10_goOn (l := _) hG _) rfl rfl (Nat.le_of_ble_eq_true rfl) (fun q1 => ?_)
  refine s_aload_n 0 (n := 5) hX (dec_of D_X10_newName (i := 2) rfl) rfl rfl rfl ?_
  refine s_getI (c := 10) (p := 23) (id := 863) (n := 8) hX cls10 (vk131 (by omega)) (dec_of D_X10_newName (i := 3) rfl) rfl rfl wd_1369 ?_
  refine s_lk (pcj := 23) (Sf := fun (j2 : ST) => j2) (lvf := fun (j2 : ST) => [(0, .ref (ga G 131 0)), (1, .ref (ga G k1 i1)), (2, .int a2)]) (stf := fun (j2 : ST) => []) (fun j2 => ?_) (fun kk3 hkk4 => ?_)
  · refine s_aload_n 0 (n := 24) hX (dec_of D_X10_newName (i := 11) rfl) rfl rfl rfl ?_
    refine s_getI (c := 10) (p := 23) (id := 863) (n := 27) hX cls10 (vk131 (by omega)) (dec_of D_X10_newName (i := 12) rfl) rfl rfl wd_1369 ?_
    refine s_lk (pcj := 83) (Sf := fun (j5 : Int32) => j2) (lvf := fun (j5 : Int32) => [(0, .ref (ga G 131 0)), (1, .ref (ga G k1 i1)), (2, .int a2)]) (stf := fun (j5 : Int32) => [.int j5]) (fun j5 => ?_) (fun kk6 hkk7 => ?_)
    · refine s_istore_n (lv' := [(0, _), (1, _), (2, _), (3, _)]) [1, 2, 3, 0] (n := 84) hX (dec_of D_X10_newName (i := 41) rfl) rfl rfl (by decide) rfl ?_
      refine s_iload_n 3 (n := 85) hX (dec_of D_X10_newName (i := 42) rfl) rfl rfl rfl ?_
      refine s_lk (pcj := 93) (Sf := fun (j8 : ST) => j8) (lvf := fun (j8 : ST) => [(0, .ref (ga G 131 0)), (1, .ref (ga G k1 i1)), (2, .int a2)]) (stf := fun (j8 : ST) => []) (fun j8 => ?_) (fun kk9 hkk10 => ?_)
      · refine s_aload_n 0 (n := 94) hX (dec_of D_X10_newName (i := 47) rfl) rfl rfl rfl ?_
        refine s_getI (c := 10) (p := 23) (id := 863) (n := 97) hX cls10 (vk131 (by omega)) (dec_of D_X10_newName (i := 48) rfl) rfl rfl wd_1369 ?_
        refine s_lk (pcj := 107) (Sf := fun (j11 : ST) => j11) (lvf := fun (j11 : ST) => [(0, .ref (ga G 131 0))]) (stf := fun (j11 : ST) => []) (fun j11 => ?_) (fun kk12 hkk13 => ?_)
        · refine s_aload_n 0 (n := 108) hX (dec_of D_X10_newName (i := 55) rfl) rfl rfl rfl ?_
          refine s_callVV (c := 10) (n := 111) hX cls10 (vk131 (by omega)) lk_RX10_149 (dec_of D_X10_newName (i := 56) rfl) rfl (by decide) (c_X10_goOn (l := _) hG _) rfl rfl (Nat.le_of_ble_eq_true rfl) (fun q14 => ?_)
          exact s_vret hX hR (dec_of D_X10_newName (i := 57) rfl) rfl
        · refine s_if_ne (tgt := 107) (n := 100) hX (dec_of D_X10_newName (i := 49) rfl) rfl rfl ?_ ?_
          · exact s_sub [0] rfl (hkk13 j8)
          · refine s_aload_n 1 (n := 101) hX (dec_of D_X10_newName (i := 50) rfl) rfl rfl rfl ?_
            refine s_iload_n 2 (n := 102) hX (dec_of D_X10_newName (i := 51) rfl) rfl rfl rfl ?_
            refine s_aload_n 0 (n := 103) hX (dec_of D_X10_newName (i := 52) rfl) rfl rfl rfl ?_
            refine s_getI (c := 10) (p := 22) (id := 862) (n := 106) hX cls10 (vk131 (by omega)) (dec_of D_X10_newName (i := 53) rfl) rfl rfl wd_1368 ?_
            refine s_iast (n := 107) hX hk1 hk1k (dec_of D_X10_newName (i := 54) rfl) rfl (fun s15 => ?_)
            exact s_sub [0] rfl (hkk13 s15)
      · refine s_if_eq (tgt := 93) (n := 88) hX (dec_of D_X10_newName (i := 43) rfl) rfl rfl ?_ ?_
        · exact s_sub [0, 1, 2] rfl (hkk10 j2)
        · refine s_aload_n 0 (n := 89) hX (dec_of D_X10_newName (i := 44) rfl) rfl rfl rfl ?_
          refine s_iconst (v := 3) (n := 90) hX (dec_of D_X10_newName (i := 45) rfl) rfl (by decide) ?_
          refine s_callVV (c := 10) (n := 93) hX cls10 (vk131 (by omega)) lk_RX10_145 (dec_of D_X10_newName (i := 46) rfl) rfl (by decide) (c_X10_wrong (l := _) hG _ _) rfl rfl (Nat.le_of_ble_eq_true rfl) (fun q16 => ?_)
          exact s_sub [0, 1, 2] rfl (hkk10 q16)
    · refine s_lk (pcj := 82) (Sf := fun (j17 : Unit) => j2) (lvf := fun (j17 : Unit) => [(0, .ref (ga G 131 0)), (1, .ref (ga G k1 i1)), (2, .int a2)]) (stf := fun (j17 : Unit) => []) (fun j17 => ?_) (fun kk18 hkk19 => ?_)
      · refine s_iconst (v := 0) (n := 83) hX (dec_of D_X10_newName (i := 40) rfl) rfl (by decide) ?_
        exact s_sub [0, 1, 2] rfl (hkk7 0)
      · refine s_if_ne (tgt := 82) (n := 30) hX (dec_of D_X10_newName (i := 13) rfl) rfl rfl ?_ ?_
        · exact s_sub [0, 1, 2] rfl (hkk19 ())
        · refine s_aload_n 0 (n := 31) hX (dec_of D_X10_newName (i := 14) rfl) rfl rfl rfl ?_
          refine s_aload_n 0 (n := 32) hX (dec_of D_X10_newName (i := 15) rfl) rfl rfl rfl ?_
          refine s_getR (c := 10) (p := 35) (k' := 36) (n := 35) hX cls10 (vk131 (by omega)) (dec_of D_X10_newName (i := 16) rfl) rfl rfl wd_1381 ?_
          refine s_aload_n 0 (n := 36) hX (dec_of D_X10_newName (i := 17) rfl) rfl rfl rfl ?_
          refine s_getI (c := 10) (p := 27) (id := 867) (n := 39) hX cls10 (vk131 (by omega)) (dec_of D_X10_newName (i := 18) rfl) rfl rfl wd_1373 ?_
          refine s_callVI (c := 10) (n := 42) hX cls10 (vk131 (by omega)) lk_RX10_159 (dec_of D_X10_newName (i := 19) rfl) rfl (by decide) (c_X10_named (l := _) hG _ _ _ (vk36 (by omega)) (by decide) _) rfl rfl (Nat.le_of_ble_eq_true rfl) (fun q20 => ?_)
          refine s_iconst (v := (-1)) (n := 43) hX (dec_of D_X10_newName (i := 20) rfl) rfl (by decide) ?_
          refine s_icmp_ne (tgt := 78) (n := 46) hX (dec_of D_X10_newName (i := 21) rfl) rfl rfl ?_ ?_
          · refine s_iconst (v := 1) (n := 79) hX (dec_of D_X10_newName (i := 38) rfl) rfl (by decide) ?_
            refine s_goto (n := 83) hX (dec_of D_X10_newName (i := 39) rfl) rfl ?_
            exact s_sub [0, 1, 2] rfl (hkk7 1)
          · refine s_aload_n 0 (n := 47) hX (dec_of D_X10_newName (i := 22) rfl) rfl rfl rfl ?_
            refine s_aload_n 0 (n := 48) hX (dec_of D_X10_newName (i := 23) rfl) rfl rfl rfl ?_
            refine s_getR (c := 10) (p := 36) (k' := 37) (n := 51) hX cls10 (vk131 (by omega)) (dec_of D_X10_newName (i := 24) rfl) rfl rfl wd_1382 ?_
            refine s_aload_n 0 (n := 52) hX (dec_of D_X10_newName (i := 25) rfl) rfl rfl rfl ?_
            refine s_getI (c := 10) (p := 28) (id := 868) (n := 55) hX cls10 (vk131 (by omega)) (dec_of D_X10_newName (i := 26) rfl) rfl rfl wd_1374 ?_
            refine s_callVI (c := 10) (n := 58) hX cls10 (vk131 (by omega)) lk_RX10_159 (dec_of D_X10_newName (i := 27) rfl) rfl (by decide) (c_X10_named (l := _) hG _ _ _ (vk37 (by omega)) (by decide) _) rfl rfl (Nat.le_of_ble_eq_true rfl) (fun q21 => ?_)
            refine s_iconst (v := (-1)) (n := 59) hX (dec_of D_X10_newName (i := 28) rfl) rfl (by decide) ?_
            refine s_icmp_ne (tgt := 78) (n := 62) hX (dec_of D_X10_newName (i := 29) rfl) rfl rfl ?_ ?_
            · refine s_iconst (v := 1) (n := 79) hX (dec_of D_X10_newName (i := 38) rfl) rfl (by decide) ?_
              refine s_goto (n := 83) hX (dec_of D_X10_newName (i := 39) rfl) rfl ?_
              exact s_sub [0, 1, 2] rfl (hkk7 1)
            · refine s_aload_n 0 (n := 63) hX (dec_of D_X10_newName (i := 30) rfl) rfl rfl rfl ?_
              refine s_aload_n 0 (n := 64) hX (dec_of D_X10_newName (i := 31) rfl) rfl rfl rfl ?_
              refine s_getR (c := 10) (p := 37) (k' := 38) (n := 67) hX cls10 (vk131 (by omega)) (dec_of D_X10_newName (i := 32) rfl) rfl rfl wd_1383 ?_
              refine s_aload_n 0 (n := 68) hX (dec_of D_X10_newName (i := 33) rfl) rfl rfl rfl ?_
              refine s_getI (c := 10) (p := 29) (id := 869) (n := 71) hX cls10 (vk131 (by omega)) (dec_of D_X10_newName (i := 34) rfl) rfl rfl wd_1375 ?_
              refine s_callVI (c := 10) (n := 74) hX cls10 (vk131 (by omega)) lk_RX10_159 (dec_of D_X10_newName (i := 35) rfl) rfl (by decide) (c_X10_named (l := _) hG _ _ _ (vk38 (by omega)) (by decide) _) rfl rfl (Nat.le_of_ble_eq_true rfl) (fun q22 => ?_)
              refine s_iconst (v := (-1)) (n := 75) hX (dec_of D_X10_newName (i := 36) rfl) rfl (by decide) ?_
              refine s_icmp_eq (tgt := 82) (n := 78) hX (dec_of D_X10_newName (i := 37) rfl) rfl rfl ?_ ?_
              · exact s_sub [0, 1, 2] rfl (hkk19 ())
              · refine s_iconst (v := 1) (n := 79) hX (dec_of D_X10_newName (i := 38) rfl) rfl (by decide) ?_
                refine s_goto (n := 83) hX (dec_of D_X10_newName (i := 39) rfl) rfl ?_
                exact s_sub [0, 1, 2] rfl (hkk7 1)
  · refine s_if_ne (tgt := 23) (n := 11) hX (dec_of D_X10_newName (i := 4) rfl) rfl rfl ?_ ?_
    · exact s_sub [0, 1, 2] rfl (hkk4 q1)
    · refine s_aload_n 0 (n := 12) hX (dec_of D_X10_newName (i := 5) rfl) rfl rfl rfl ?_
      refine s_callVI (c := 10) (n := 15) hX cls10 (vk131 (by omega)) lk_RX10_152 (dec_of D_X10_newName (i := 6) rfl) rfl (by decide) (c_X10_isOther (l := _) hG _) rfl rfl (Nat.le_of_ble_eq_true rfl) (fun q23 => ?_)
      refine s_if_ne (tgt := 23) (n := 18) hX (dec_of D_X10_newName (i := 7) rfl) rfl rfl ?_ ?_
      · exact s_sub [0, 1, 2] rfl (hkk4 q1)
      · refine s_aload_n 0 (n := 19) hX (dec_of D_X10_newName (i := 8) rfl) rfl rfl rfl ?_
        refine s_iconst (v := 1) (n := 20) hX (dec_of D_X10_newName (i := 9) rfl) rfl (by decide) ?_
        refine s_callVV (c := 10) (n := 23) hX cls10 (vk131 (by omega)) lk_RX10_145 (dec_of D_X10_newName (i := 10) rfl) rfl (by decide) (c_X10_wrong (l := _) hG _ _) rfl rfl (Nat.le_of_ble_eq_true rfl) (fun q24 => ?_)
        exact s_sub [0, 1, 2] rfl (hkk4 q24)
def T_X10_isEnd : List (Nat × Instr × Nat) := [(0, .aload_n 0, 1), (1, .getfield 136, 3), (4, .ifCond .ne 16, 3), (7, .aload_n 0, 1), (8, .getfield 105, 3), (11, .iconst 2, 1), (12, .if_icmp .eq 8, 3), (15, .aload_n 0, 1), (16, .iconst 1, 1), (17, .invokevirtual 145, 3), (20, .aload_n 0, 1), (21, .getfield 136, 3), (24, .ifCond .ne 7, 3), (27, .iconst 1, 1), (28, .goto 4, 3), (31, .iconst 0, 1), (32, .ireturn, 1)]
theorem D_X10_isEnd : dchk cX10_isEnd T_X10_isEnd = true := by decide +kernel
def Mo_isEnd (σ : ST)  : Option (Int32 × ST) :=
  lk_ (fun kk2 => (if (gF σ 863 0) = 0 then (if (gF σ 860 0) = 2 then kk2 (σ) else bd_ (Mo_wrong (σ) 1) (fun q4 => kk2 q4)) else kk2 (σ))) (fun (j1 : ST) => (if (gF j1 863 0) = 0 then some (1, j1) else some (0, j1)))
set_option maxHeartbeats 4000000 in
set_option maxRecDepth 100000 in
theorem c_X10_isEnd {G : GW} (hG : Good G) {l : Launch} (σ : ST)  : Ctr G l yX10_isEnd cX10_isEnd 1 (some .boolean) 1 [.ref (ga G 131 0)] σ oP (Mo_isEnd σ ) := by
  refine ctr_of hG (by decide) (Nat.le_of_ble_eq_true rfl) ?_
  intro X hXl hR hX
  have hX : Ok G X cX10_isEnd 1 RX10 1 := hX
  unfold Mo_isEnd
  show Sim G X 1 (MQX G X oP) σ 0 [(0, .ref (ga G 131 0))] [] _
  refine s_aload_n 0 (n := 1) hX (dec_of D_X10_isEnd (i := 0) rfl) rfl rfl rfl ?_
  refine s_getI (c := 10) (p := 23) (id := 863) (n := 4) hX cls10 (vk131 (by omega)) (dec_of D_X10_isEnd (i := 1) rfl) rfl rfl wd_1369 ?_
  refine s_lk (pcj := 20) (Sf := fun (j1 : ST) => j1) (lvf := fun (j1 : ST) => [(0, .ref (ga G 131 0))]) (stf := fun (j1 : ST) => []) (fun j1 => ?_) (fun kk2 hkk3 => ?_)
  · refine s_aload_n 0 (n := 21) hX (dec_of D_X10_isEnd (i := 10) rfl) rfl rfl rfl ?_
    refine s_getI (c := 10) (p := 23) (id := 863) (n := 24) hX cls10 (vk131 (by omega)) (dec_of D_X10_isEnd (i := 11) rfl) rfl rfl wd_1369 ?_
    refine s_if_ne (tgt := 31) (n := 27) hX (dec_of D_X10_isEnd (i := 12) rfl) rfl rfl ?_ ?_
    · refine s_iconst (v := 0) (n := 32) hX (dec_of D_X10_isEnd (i := 15) rfl) rfl (by decide) ?_
      exact s_zret hX hR (dec_of D_X10_isEnd (i := 16) rfl) rfl rfl
    · refine s_iconst (v := 1) (n := 28) hX (dec_of D_X10_isEnd (i := 13) rfl) rfl (by decide) ?_
      refine s_goto (n := 32) hX (dec_of D_X10_isEnd (i := 14) rfl) rfl ?_
      exact s_zret hX hR (dec_of D_X10_isEnd (i := 16) rfl) rfl rfl
  · refine s_if_ne (tgt := 20) (n := 7) hX (dec_of D_X10_isEnd (i := 2) rfl) rfl rfl ?_ ?_
    · exact s_sub [0] rfl (hkk3 (σ))
    · refine s_aload_n 0 (n := 8) hX (dec_of D_X10_isEnd (i := 3) rfl) rfl rfl rfl ?_
      refine s_getI (c := 10) (p := 20) (id := 860) (n := 11) hX cls10 (vk131 (by omega)) (dec_of D_X10_isEnd (i := 4) rfl) rfl rfl wd_1366 ?_
      refine s_iconst (v := 2) (n := 12) hX (dec_of D_X10_isEnd (i := 5) rfl) rfl (by decide) ?_
      refine s_icmp_eq (tgt := 20) (n := 15) hX (dec_of D_X10_isEnd (i := 6) rfl) rfl rfl ?_ ?_
      · exact s_sub [0] rfl (hkk3 (σ))
      · refine s_aload_n 0 (n := 16) hX (dec_of D_X10_isEnd (i := 7) rfl) rfl rfl rfl ?_
        refine s_iconst (v := 1) (n := 17) hX (dec_of D_X10_isEnd (i := 8) rfl) rfl (by decide) ?_
        refine s_callVV (c := 10) (n := 20) hX cls10 (vk131 (by omega)) lk_RX10_145 (dec_of D_X10_isEnd (i := 9) rfl) rfl (by decide) (c_X10_wrong (l := _) hG _ _) rfl rfl (Nat.le_of_ble_eq_true rfl) (fun q4 => ?_)
        exact s_sub [0] rfl (hkk3 q4)
theorem lk_RX10_169 : LkV RX10 169 RX10 yX10_newName cX10_newName 4 none 2 := ⟨wd_1543, wd_1545, wd_22, wd_93, wd_1546, by decide +kernel, by decide⟩
theorem lk_RX10_173 : LkV RX10 173 RX10 yX10_among cX10_among 4 (some .int) 2 := ⟨wd_1559, wd_1561, wd_26, wd_93, wd_1562, by decide +kernel, by decide⟩
theorem lk_RX10_177 : LkV RX10 177 RX10 yX10_number cX10_number 4 (some .int) 2 := ⟨wd_1563, wd_1565, wd_27, wd_93, wd_1566, by decide +kernel, by decide⟩
theorem lk_RX10_180 : LkV RX10 180 RX10 yX10_isEnd cX10_isEnd 1 (some .boolean) 0 := ⟨wd_1567, wd_1569, wd_28, wd_93, wd_1570, by decide +kernel, by decide⟩
def T_X10_readLand : List (Nat × Instr × Nat) := [(0, .aload_n 0, 1), (1, .getfield 156, 3), (4, .istore_n 1, 1), (5, .iload_n 1, 1), (6, .bipush 6, 2), (8, .if_icmp .ne 9, 3), (11, .aload_n 0, 1), (12, .iconst 2, 1), (13, .invokevirtual 145, 3), (16, .return_, 1), (17, .aload_n 0, 1), (18, .aload_n 0, 1), (19, .getfield 38, 3), (22, .iload_n 1, 1), (23, .invokevirtual 169, 3), (26, .aload_n 0, 1), (27, .getfield 47, 3), (30, .iload_n 1, 1), (31, .aload_n 0, 1), (32, .bipush 6, 2), (34, .iconst 3, 1), (35, .invokevirtual 173, 3), (38, .iastore, 1), (39, .aload_n 0, 1), (40, .bipush 9, 2), (42, .iconst 3, 1), (43, .invokevirtual 173, 3), (46, .istore_n 2, 1), (47, .aload_n 0, 1), (48, .getfield 50, 3), (51, .iload_n 1, 1), (52, .iload_n 2, 1), (53, .ifCond .ne 7, 3), (56, .iconst 3, 1), (57, .goto 4, 3), (60, .iload_n 2, 1), (61, .iastore, 1), (62, .aload_n 0, 1), (63, .getfield 53, 3), (66, .iload_n 1, 1), (67, .aload_n 0, 1), (68, .iconst 1, 1), (69, .sipush 999, 3), (72, .invokevirtual 177, 3), (75, .iastore, 1), (76, .aload_n 0, 1), (77, .invokevirtual 180, 3), (80, .pop, 1), (81, .aload_n 0, 1), (82, .dup, 1), (83, .getfield 156, 3), (86, .iconst 1, 1), (87, .iadd, 1), (88, .putfield 156, 3), (91, .return_, 1)]
theorem D_X10_readLand : dchk cX10_readLand T_X10_readLand = true := by decide +kernel
def Mo_readLand (σ : ST)  : Option ST :=
  lt_ ((gF σ 867 0)) (fun x1 => (if x1 = 6 then bd_ (Mo_wrong (σ) 2) (fun q14 => some q14) else bd_ (Mo_newName (σ) 36 0 x1) (fun q2 => bd_ (Mo_among q2 6 3) (fun q3 => bd_ (stI q3.2 39 0 x1 q3.1) (fun s4 => bd_ (Mo_among s4 9 3) (fun q5 => lk_ (fun kk7 => (if q5.1 = 0 then kk7 3 else kk7 q5.1)) (fun (j6 : Int32) => bd_ (stI q5.2 40 0 x1 j6) (fun s9 => bd_ (Mo_number s9 1 999) (fun q10 => bd_ (stI q10.2 41 0 x1 q10.1) (fun s11 => bd_ (Mo_isEnd s11) (fun q12 => lt_ (setF q12.2 867 0 ((gF q12.2 867 0) + 1)) (fun s13 => some s13))))))))))))
set_option maxHeartbeats 4000000 in
set_option maxRecDepth 100000 in
theorem c_X10_readLand {G : GW} (hG : Good G) {l : Launch} (σ : ST)  : Ctr G l yX10_readLand cX10_readLand 3 none 10 [.ref (ga G 131 0)] σ oV (Mo_readLand σ ) := by
  refine ctr_of hG (by decide) (Nat.le_of_ble_eq_true rfl) ?_
  intro X hXl hR hX
  have hX : Ok G X cX10_readLand 3 RX10 10 := hX
  unfold Mo_readLand
  show Sim G X 3 (MQX G X oV) σ 0 [(0, .ref (ga G 131 0))] [] _
  refine s_aload_n 0 (n := 1) hX (dec_of D_X10_readLand (i := 0) rfl) rfl rfl rfl ?_
  refine s_getI (c := 10) (p := 27) (id := 867) (n := 4) hX cls10 (vk131 (by omega)) (dec_of D_X10_readLand (i := 1) rfl) rfl rfl wd_1373 ?_
  refine s_topi (fun x1 => ?_)
  refine s_istore_n (lv' := [(0, _), (1, _)]) [1, 0] (n := 5) hX (dec_of D_X10_readLand (i := 2) rfl) rfl rfl (by decide) rfl ?_
  refine s_iload_n 1 (n := 6) hX (dec_of D_X10_readLand (i := 3) rfl) rfl rfl rfl ?_
  refine s_bipush (v := 6) (n := 8) hX (dec_of D_X10_readLand (i := 4) rfl) rfl (by decide) ?_
  refine s_icmp_ne (tgt := 17) (n := 11) hX (dec_of D_X10_readLand (i := 5) rfl) rfl rfl ?_ ?_
  · refine s_aload_n 0 (n := 18) hX (dec_of D_X10_readLand (i := 10) rfl) rfl rfl rfl ?_
    refine s_aload_n 0 (n := 19) hX (dec_of D_X10_readLand (i := 11) rfl) rfl rfl rfl ?_
    refine s_getR (c := 10) (p := 35) (k' := 36) (n := 22) hX cls10 (vk131 (by omega)) (dec_of D_X10_readLand (i := 12) rfl) rfl rfl wd_1381 ?_
    refine s_iload_n 1 (n := 23) hX (dec_of D_X10_readLand (i := 13) rfl) rfl rfl rfl ?_
    refine s_callVV (c := 10) (n := 26) hX cls10 (vk131 (by omega)) lk_RX10_169 (dec_of D_X10_readLand (i := 14) rfl) rfl (by decide) (c_X10_newName (l := _) hG _ _ _ (vk36 (by omega)) (by decide) _) rfl rfl (Nat.le_of_ble_eq_true rfl) (fun q2 => ?_)
    refine s_aload_n 0 (n := 27) hX (dec_of D_X10_readLand (i := 15) rfl) rfl rfl rfl ?_
    refine s_getR (c := 10) (p := 38) (k' := 39) (n := 30) hX cls10 (vk131 (by omega)) (dec_of D_X10_readLand (i := 16) rfl) rfl rfl wd_1384 ?_
    refine s_iload_n 1 (n := 31) hX (dec_of D_X10_readLand (i := 17) rfl) rfl rfl rfl ?_
    refine s_aload_n 0 (n := 32) hX (dec_of D_X10_readLand (i := 18) rfl) rfl rfl rfl ?_
    refine s_bipush (v := 6) (n := 34) hX (dec_of D_X10_readLand (i := 19) rfl) rfl (by decide) ?_
    refine s_iconst (v := 3) (n := 35) hX (dec_of D_X10_readLand (i := 20) rfl) rfl (by decide) ?_
    refine s_callVP (c := 10) (n := 38) hX cls10 (vk131 (by omega)) lk_RX10_173 (dec_of D_X10_readLand (i := 21) rfl) rfl (by decide) (c_X10_among (l := _) hG _ _ _) rfl rfl (Nat.le_of_ble_eq_true rfl) (fun q3 => ?_)
    refine s_iast (n := 39) hX (vk39 (by omega)) (by decide) (dec_of D_X10_readLand (i := 22) rfl) rfl (fun s4 => ?_)
    refine s_aload_n 0 (n := 40) hX (dec_of D_X10_readLand (i := 23) rfl) rfl rfl rfl ?_
    refine s_bipush (v := 9) (n := 42) hX (dec_of D_X10_readLand (i := 24) rfl) rfl (by decide) ?_
    refine s_iconst (v := 3) (n := 43) hX (dec_of D_X10_readLand (i := 25) rfl) rfl (by decide) ?_
    refine s_callVP (c := 10) (n := 46) hX cls10 (vk131 (by omega)) lk_RX10_173 (dec_of D_X10_readLand (i := 26) rfl) rfl (by decide) (c_X10_among (l := _) hG _ _ _) rfl rfl (Nat.le_of_ble_eq_true rfl) (fun q5 => ?_)
    refine s_istore_n (lv' := [(0, _), (1, _), (2, _)]) [1, 2, 0] (n := 47) hX (dec_of D_X10_readLand (i := 27) rfl) rfl rfl (by decide) rfl ?_
    refine s_aload_n 0 (n := 48) hX (dec_of D_X10_readLand (i := 28) rfl) rfl rfl rfl ?_
    refine s_getR (c := 10) (p := 39) (k' := 40) (n := 51) hX cls10 (vk131 (by omega)) (dec_of D_X10_readLand (i := 29) rfl) rfl rfl wd_1385 ?_
    refine s_iload_n 1 (n := 52) hX (dec_of D_X10_readLand (i := 30) rfl) rfl rfl rfl ?_
    refine s_iload_n 2 (n := 53) hX (dec_of D_X10_readLand (i := 31) rfl) rfl rfl rfl ?_
    refine s_lk (pcj := 61) (Sf := fun (j6 : Int32) => q5.2) (lvf := fun (j6 : Int32) => [(0, .ref (ga G 131 0)), (1, .int x1)]) (stf := fun (j6 : Int32) => [.int j6, .int x1, .ref (ga G 40 0)]) (fun j6 => ?_) (fun kk7 hkk8 => ?_)
    · refine s_iast (n := 62) hX (vk40 (by omega)) (by decide) (dec_of D_X10_readLand (i := 36) rfl) rfl (fun s9 => ?_)
      refine s_aload_n 0 (n := 63) hX (dec_of D_X10_readLand (i := 37) rfl) rfl rfl rfl ?_
      refine s_getR (c := 10) (p := 40) (k' := 41) (n := 66) hX cls10 (vk131 (by omega)) (dec_of D_X10_readLand (i := 38) rfl) rfl rfl wd_1386 ?_
      refine s_iload_n 1 (n := 67) hX (dec_of D_X10_readLand (i := 39) rfl) rfl rfl rfl ?_
      refine s_aload_n 0 (n := 68) hX (dec_of D_X10_readLand (i := 40) rfl) rfl rfl rfl ?_
      refine s_iconst (v := 1) (n := 69) hX (dec_of D_X10_readLand (i := 41) rfl) rfl (by decide) ?_
      refine s_sipush (v := 999) (n := 72) hX (dec_of D_X10_readLand (i := 42) rfl) rfl (by decide) ?_
      refine s_callVP (c := 10) (n := 75) hX cls10 (vk131 (by omega)) lk_RX10_177 (dec_of D_X10_readLand (i := 43) rfl) rfl (by decide) (c_X10_number (l := _) hG _ _ _) rfl rfl (Nat.le_of_ble_eq_true rfl) (fun q10 => ?_)
      refine s_iast (n := 76) hX (vk41 (by omega)) (by decide) (dec_of D_X10_readLand (i := 44) rfl) rfl (fun s11 => ?_)
      refine s_aload_n 0 (n := 77) hX (dec_of D_X10_readLand (i := 45) rfl) rfl rfl rfl ?_
      refine s_callVP (c := 10) (n := 80) hX cls10 (vk131 (by omega)) lk_RX10_180 (dec_of D_X10_readLand (i := 46) rfl) rfl (by decide) (c_X10_isEnd (l := _) hG _) rfl rfl (Nat.le_of_ble_eq_true rfl) (fun q12 => ?_)
      refine s_pop (n := 81) hX (dec_of D_X10_readLand (i := 47) rfl) rfl rfl ?_
      refine s_aload_n 0 (n := 82) hX (dec_of D_X10_readLand (i := 48) rfl) rfl rfl rfl ?_
      refine s_dup (n := 83) hX (dec_of D_X10_readLand (i := 49) rfl) rfl rfl ?_
      refine s_getI (c := 10) (p := 27) (id := 867) (n := 86) hX cls10 (vk131 (by omega)) (dec_of D_X10_readLand (i := 50) rfl) rfl rfl wd_1373 ?_
      refine s_iconst (v := 1) (n := 87) hX (dec_of D_X10_readLand (i := 51) rfl) rfl (by decide) ?_
      refine s_iadd (n := 88) hX (dec_of D_X10_readLand (i := 52) rfl) rfl ?_
      refine s_putI (c := 10) (p := 27) (n := 91) hX cls10 (vk131 (by omega)) (dec_of D_X10_readLand (i := 53) rfl) rfl rfl (by decide) wd_1373 rfl rfl rfl (fun s13 => ?_)
      exact s_vret hX hR (dec_of D_X10_readLand (i := 54) rfl) rfl
    · refine s_if_ne (tgt := 60) (n := 56) hX (dec_of D_X10_readLand (i := 32) rfl) rfl rfl ?_ ?_
      · refine s_iload_n 2 (n := 61) hX (dec_of D_X10_readLand (i := 35) rfl) rfl rfl rfl ?_
        exact s_sub [0, 1] rfl (hkk8 q5.1)
      · refine s_iconst (v := 3) (n := 57) hX (dec_of D_X10_readLand (i := 33) rfl) rfl (by decide) ?_
        refine s_goto (n := 61) hX (dec_of D_X10_readLand (i := 34) rfl) rfl ?_
        exact s_sub [0, 1] rfl (hkk8 3)
  · refine s_aload_n 0 (n := 12) hX (dec_of D_X10_readLand (i := 6) rfl) rfl rfl rfl ?_
    refine s_iconst (v := 2) (n := 13) hX (dec_of D_X10_readLand (i := 7) rfl) rfl (by decide) ?_
    refine s_callVV (c := 10) (n := 16) hX cls10 (vk131 (by omega)) lk_RX10_145 (dec_of D_X10_readLand (i := 8) rfl) rfl (by decide) (c_X10_wrong (l := _) hG _ _) rfl rfl (Nat.le_of_ble_eq_true rfl) (fun q14 => ?_)
    exact s_vret hX hR (dec_of D_X10_readLand (i := 9) rfl) rfl
def T_X10_readPlayer : List (Nat × Instr × Nat) := [(0, .aload_n 0, 1), (1, .getfield 163, 3), (4, .istore_n 1, 1), (5, .iload_n 1, 1), (6, .bipush 16, 2), (8, .if_icmp .ne 9, 3), (11, .aload_n 0, 1), (12, .iconst 2, 1), (13, .invokevirtual 145, 3), (16, .return_, 1), (17, .aload_n 0, 1), (18, .aload_n 0, 1), (19, .getfield 41, 3), (22, .iload_n 1, 1), (23, .invokevirtual 169, 3), (26, .aload_n 0, 1), (27, .getfield 136, 3), (30, .ifCond .ne 31, 3), (33, .aload_n 0, 1), (34, .invokevirtual 152, 3), (37, .ifCond .eq 19, 3), (40, .aload_n 0, 1), (41, .aload_n 0, 1), (42, .getfield 38, 3), (45, .aload_n 0, 1), (46, .getfield 156, 3), (49, .invokevirtual 159, 3), (52, .iconst (-1), 1), (53, .if_icmp .ne 8, 3), (56, .aload_n 0, 1), (57, .iconst 1, 1), (58, .invokevirtual 145, 3), (61, .aload_n 0, 1), (62, .getfield 56, 3), (65, .iload_n 1, 1), (66, .aload_n 0, 1), (67, .getfield 136, 3), (70, .ifCond .ne 18, 3), (73, .aload_n 0, 1), (74, .aload_n 0, 1), (75, .getfield 38, 3), (78, .aload_n 0, 1), (79, .getfield 156, 3), (82, .invokevirtual 159, 3), (85, .goto 4, 3), (88, .iconst 0, 1), (89, .iastore, 1), (90, .aload_n 0, 1), (91, .invokevirtual 149, 3), (94, .aload_n 0, 1), (95, .invokevirtual 180, 3), (98, .pop, 1), (99, .aload_n 0, 1), (100, .dup, 1), (101, .getfield 163, 3), (104, .iconst 1, 1), (105, .iadd, 1), (106, .putfield 163, 3), (109, .return_, 1)]
theorem D_X10_readPlayer : dchk cX10_readPlayer T_X10_readPlayer = true := by decide +kernel
def Mo_readPlayer (σ : ST)  : Option ST :=
  lt_ ((gF σ 868 0)) (fun x1 => (if x1 = 16 then bd_ (Mo_wrong (σ) 2) (fun q20 => some q20) else bd_ (Mo_newName (σ) 37 0 x1) (fun q2 => lk_ (fun kk4 => (if (gF q2 863 0) = 0 then bd_ (Mo_isOther q2) (fun q14 => lk_ (fun kk16 => (if q14 = 0 then kk16 () else bd_ (Mo_named q2 36 0 (gF q2 867 0)) (fun q19 => (if q19 = (-1) then kk16 () else kk4 q2)))) (fun (j15 : Unit) => bd_ (Mo_wrong q2 1) (fun q18 => kk4 q18))) else kk4 q2)) (fun (j3 : ST) => lk_ (fun kk7 => (if (gF j3 863 0) = 0 then bd_ (Mo_named j3 36 0 (gF j3 867 0)) (fun q13 => kk7 q13) else kk7 0)) (fun (j6 : Int32) => bd_ (stI j3 42 0 x1 j6) (fun s9 => bd_ (Mo_goOn s9) (fun q10 => bd_ (Mo_isEnd q10) (fun q11 => lt_ (setF q11.2 868 0 ((gF q11.2 868 0) + 1)) (fun s12 => some s12)))))))))
set_option maxHeartbeats 4000000 in
set_option maxRecDepth 100000 in
theorem c_X10_readPlayer {G : GW} (hG : Good G) {l : Launch} (σ : ST)  : Ctr G l yX10_readPlayer cX10_readPlayer 2 none 10 [.ref (ga G 131 0)] σ oV (Mo_readPlayer σ ) := by
  refine ctr_of hG (by decide) (Nat.le_of_ble_eq_true rfl) ?_
  intro X hXl hR hX
  have hX : Ok G X cX10_readPlayer 2 RX10 10 := hX
  unfold Mo_readPlayer
  show Sim G X 2 (MQX G X oV) σ 0 [(0, .ref (ga G 131 0))] [] _
  refine s_aload_n 0 (n := 1) hX (dec_of D_X10_readPlayer (i := 0) rfl) rfl rfl rfl ?_
  refine s_getI (c := 10) (p := 28) (id := 868) (n := 4) hX cls10 (vk131 (by omega)) (dec_of D_X10_readPlayer (i := 1) rfl) rfl rfl wd_1374 ?_
  refine s_topi (fun x1 => ?_)
  refine s_istore_n (lv' := [(0, _), (1, _)]) [1, 0] (n := 5) hX (dec_of D_X10_readPlayer (i := 2) rfl) rfl rfl (by decide) rfl ?_
  refine s_iload_n 1 (n := 6) hX (dec_of D_X10_readPlayer (i := 3) rfl) rfl rfl rfl ?_
  refine s_bipush (v := 16) (n := 8) hX (dec_of D_X10_readPlayer (i := 4) rfl) rfl (by decide) ?_
  refine s_icmp_ne (tgt := 17) (n := 11) hX (dec_of D_X10_readPlayer (i := 5) rfl) rfl rfl ?_ ?_
  · refine s_aload_n 0 (n := 18) hX (dec_of D_X10_readPlayer (i := 10) rfl) rfl rfl rfl ?_
    refine s_aload_n 0 (n := 19) hX (dec_of D_X10_readPlayer (i := 11) rfl) rfl rfl rfl ?_
    refine s_getR (c := 10) (p := 36) (k' := 37) (n := 22) hX cls10 (vk131 (by omega)) (dec_of D_X10_readPlayer (i := 12) rfl) rfl rfl wd_1382 ?_
    refine s_iload_n 1 (n := 23) hX (dec_of D_X10_readPlayer (i := 13) rfl) rfl rfl rfl ?_
    refine s_callVV (c := 10) (n := 26) hX cls10 (vk131 (by omega)) lk_RX10_169 (dec_of D_X10_readPlayer (i := 14) rfl) rfl (by decide) (c_X10_newName (l := _) hG _ _ _ (vk37 (by omega)) (by decide) _) rfl rfl (Nat.le_of_ble_eq_true rfl) (fun q2 => ?_)
    refine s_aload_n 0 (n := 27) hX (dec_of D_X10_readPlayer (i := 15) rfl) rfl rfl rfl ?_
    refine s_getI (c := 10) (p := 23) (id := 863) (n := 30) hX cls10 (vk131 (by omega)) (dec_of D_X10_readPlayer (i := 16) rfl) rfl rfl wd_1369 ?_
    refine s_lk (pcj := 61) (Sf := fun (j3 : ST) => j3) (lvf := fun (j3 : ST) => [(0, .ref (ga G 131 0)), (1, .int x1)]) (stf := fun (j3 : ST) => []) (fun j3 => ?_) (fun kk4 hkk5 => ?_)
    · refine s_aload_n 0 (n := 62) hX (dec_of D_X10_readPlayer (i := 32) rfl) rfl rfl rfl ?_
      refine s_getR (c := 10) (p := 41) (k' := 42) (n := 65) hX cls10 (vk131 (by omega)) (dec_of D_X10_readPlayer (i := 33) rfl) rfl rfl wd_1387 ?_
      refine s_iload_n 1 (n := 66) hX (dec_of D_X10_readPlayer (i := 34) rfl) rfl rfl rfl ?_
      refine s_aload_n 0 (n := 67) hX (dec_of D_X10_readPlayer (i := 35) rfl) rfl rfl rfl ?_
      refine s_getI (c := 10) (p := 23) (id := 863) (n := 70) hX cls10 (vk131 (by omega)) (dec_of D_X10_readPlayer (i := 36) rfl) rfl rfl wd_1369 ?_
      refine s_lk (pcj := 89) (Sf := fun (j6 : Int32) => j3) (lvf := fun (j6 : Int32) => [(0, .ref (ga G 131 0))]) (stf := fun (j6 : Int32) => [.int j6, .int x1, .ref (ga G 42 0)]) (fun j6 => ?_) (fun kk7 hkk8 => ?_)
      · refine s_iast (n := 90) hX (vk42 (by omega)) (by decide) (dec_of D_X10_readPlayer (i := 46) rfl) rfl (fun s9 => ?_)
        refine s_aload_n 0 (n := 91) hX (dec_of D_X10_readPlayer (i := 47) rfl) rfl rfl rfl ?_
        refine s_callVV (c := 10) (n := 94) hX cls10 (vk131 (by omega)) lk_RX10_149 (dec_of D_X10_readPlayer (i := 48) rfl) rfl (by decide) (c_X10_goOn (l := _) hG _) rfl rfl (Nat.le_of_ble_eq_true rfl) (fun q10 => ?_)
        refine s_aload_n 0 (n := 95) hX (dec_of D_X10_readPlayer (i := 49) rfl) rfl rfl rfl ?_
        refine s_callVP (c := 10) (n := 98) hX cls10 (vk131 (by omega)) lk_RX10_180 (dec_of D_X10_readPlayer (i := 50) rfl) rfl (by decide) (c_X10_isEnd (l := _) hG _) rfl rfl (Nat.le_of_ble_eq_true rfl) (fun q11 => ?_)
        refine s_pop (n := 99) hX (dec_of D_X10_readPlayer (i := 51) rfl) rfl rfl ?_
        refine s_aload_n 0 (n := 100) hX (dec_of D_X10_readPlayer (i := 52) rfl) rfl rfl rfl ?_
        refine s_dup (n := 101) hX (dec_of D_X10_readPlayer (i := 53) rfl) rfl rfl ?_
        refine s_getI (c := 10) (p := 28) (id := 868) (n := 104) hX cls10 (vk131 (by omega)) (dec_of D_X10_readPlayer (i := 54) rfl) rfl rfl wd_1374 ?_
        refine s_iconst (v := 1) (n := 105) hX (dec_of D_X10_readPlayer (i := 55) rfl) rfl (by decide) ?_
        refine s_iadd (n := 106) hX (dec_of D_X10_readPlayer (i := 56) rfl) rfl ?_
        refine s_putI (c := 10) (p := 28) (n := 109) hX cls10 (vk131 (by omega)) (dec_of D_X10_readPlayer (i := 57) rfl) rfl rfl (by decide) wd_1374 rfl rfl rfl (fun s12 => ?_)
        exact s_vret hX hR (dec_of D_X10_readPlayer (i := 58) rfl) rfl
      · refine s_if_ne (tgt := 88) (n := 73) hX (dec_of D_X10_readPlayer (i := 37) rfl) rfl rfl ?_ ?_
        · refine s_iconst (v := 0) (n := 89) hX (dec_of D_X10_readPlayer (i := 45) rfl) rfl (by decide) ?_
          exact s_sub [0] rfl (hkk8 0)
        · refine s_aload_n 0 (n := 74) hX (dec_of D_X10_readPlayer (i := 38) rfl) rfl rfl rfl ?_
          refine s_aload_n 0 (n := 75) hX (dec_of D_X10_readPlayer (i := 39) rfl) rfl rfl rfl ?_
          refine s_getR (c := 10) (p := 35) (k' := 36) (n := 78) hX cls10 (vk131 (by omega)) (dec_of D_X10_readPlayer (i := 40) rfl) rfl rfl wd_1381 ?_
          refine s_aload_n 0 (n := 79) hX (dec_of D_X10_readPlayer (i := 41) rfl) rfl rfl rfl ?_
          refine s_getI (c := 10) (p := 27) (id := 867) (n := 82) hX cls10 (vk131 (by omega)) (dec_of D_X10_readPlayer (i := 42) rfl) rfl rfl wd_1373 ?_
          refine s_callVI (c := 10) (n := 85) hX cls10 (vk131 (by omega)) lk_RX10_159 (dec_of D_X10_readPlayer (i := 43) rfl) rfl (by decide) (c_X10_named (l := _) hG _ _ _ (vk36 (by omega)) (by decide) _) rfl rfl (Nat.le_of_ble_eq_true rfl) (fun q13 => ?_)
          refine s_goto (n := 89) hX (dec_of D_X10_readPlayer (i := 44) rfl) rfl ?_
          exact s_sub [0] rfl (hkk8 q13)
    · refine s_if_ne (tgt := 61) (n := 33) hX (dec_of D_X10_readPlayer (i := 17) rfl) rfl rfl ?_ ?_
      · exact s_sub [0, 1] rfl (hkk5 q2)
      · refine s_aload_n 0 (n := 34) hX (dec_of D_X10_readPlayer (i := 18) rfl) rfl rfl rfl ?_
        refine s_callVI (c := 10) (n := 37) hX cls10 (vk131 (by omega)) lk_RX10_152 (dec_of D_X10_readPlayer (i := 19) rfl) rfl (by decide) (c_X10_isOther (l := _) hG _) rfl rfl (Nat.le_of_ble_eq_true rfl) (fun q14 => ?_)
        refine s_lk (pcj := 56) (Sf := fun (j15 : Unit) => q2) (lvf := fun (j15 : Unit) => [(0, .ref (ga G 131 0)), (1, .int x1)]) (stf := fun (j15 : Unit) => []) (fun j15 => ?_) (fun kk16 hkk17 => ?_)
        · refine s_aload_n 0 (n := 57) hX (dec_of D_X10_readPlayer (i := 29) rfl) rfl rfl rfl ?_
          refine s_iconst (v := 1) (n := 58) hX (dec_of D_X10_readPlayer (i := 30) rfl) rfl (by decide) ?_
          refine s_callVV (c := 10) (n := 61) hX cls10 (vk131 (by omega)) lk_RX10_145 (dec_of D_X10_readPlayer (i := 31) rfl) rfl (by decide) (c_X10_wrong (l := _) hG _ _) rfl rfl (Nat.le_of_ble_eq_true rfl) (fun q18 => ?_)
          exact s_sub [0, 1] rfl (hkk5 q18)
        · refine s_if_eq (tgt := 56) (n := 40) hX (dec_of D_X10_readPlayer (i := 20) rfl) rfl rfl ?_ ?_
          · exact s_sub [0, 1] rfl (hkk17 ())
          · refine s_aload_n 0 (n := 41) hX (dec_of D_X10_readPlayer (i := 21) rfl) rfl rfl rfl ?_
            refine s_aload_n 0 (n := 42) hX (dec_of D_X10_readPlayer (i := 22) rfl) rfl rfl rfl ?_
            refine s_getR (c := 10) (p := 35) (k' := 36) (n := 45) hX cls10 (vk131 (by omega)) (dec_of D_X10_readPlayer (i := 23) rfl) rfl rfl wd_1381 ?_
            refine s_aload_n 0 (n := 46) hX (dec_of D_X10_readPlayer (i := 24) rfl) rfl rfl rfl ?_
            refine s_getI (c := 10) (p := 27) (id := 867) (n := 49) hX cls10 (vk131 (by omega)) (dec_of D_X10_readPlayer (i := 25) rfl) rfl rfl wd_1373 ?_
            refine s_callVI (c := 10) (n := 52) hX cls10 (vk131 (by omega)) lk_RX10_159 (dec_of D_X10_readPlayer (i := 26) rfl) rfl (by decide) (c_X10_named (l := _) hG _ _ _ (vk36 (by omega)) (by decide) _) rfl rfl (Nat.le_of_ble_eq_true rfl) (fun q19 => ?_)
            refine s_iconst (v := (-1)) (n := 53) hX (dec_of D_X10_readPlayer (i := 27) rfl) rfl (by decide) ?_
            refine s_icmp_ne (tgt := 61) (n := 56) hX (dec_of D_X10_readPlayer (i := 28) rfl) rfl rfl ?_ ?_
            · exact s_sub [0, 1] rfl (hkk5 q2)
            · exact s_sub [0, 1] rfl (hkk17 ())
  · refine s_aload_n 0 (n := 12) hX (dec_of D_X10_readPlayer (i := 6) rfl) rfl rfl rfl ?_
    refine s_iconst (v := 2) (n := 13) hX (dec_of D_X10_readPlayer (i := 7) rfl) rfl (by decide) ?_
    refine s_callVV (c := 10) (n := 16) hX cls10 (vk131 (by omega)) lk_RX10_145 (dec_of D_X10_readPlayer (i := 8) rfl) rfl (by decide) (c_X10_wrong (l := _) hG _ _) rfl rfl (Nat.le_of_ble_eq_true rfl) (fun q20 => ?_)
    exact s_vret hX hR (dec_of D_X10_readPlayer (i := 9) rfl) rfl
def T_X10_readOne : List (Nat × Instr × Nat) := [(0, .aload_n 0, 1), (1, .aload_n 0, 1), (2, .getfield 41, 3), (5, .aload_n 0, 1), (6, .getfield 163, 3), (9, .invokevirtual 159, 3), (12, .istore_n 2, 1), (13, .iload_n 2, 1), (14, .iconst (-1), 1), (15, .if_icmp .ne 8, 3), (18, .aload_n 0, 1), (19, .iconst 1, 1), (20, .invokevirtual 145, 3), (23, .aload_n 0, 1), (24, .getfield 136, 3), (27, .ifCond .ne 19, 3), (30, .aload_n 0, 1), (31, .getfield 65, 3), (34, .iload_n 1, 1), (35, .iaload, 1), (36, .bipush 8, 2), (38, .if_icmp .ne 8, 3), (41, .aload_n 0, 1), (42, .iconst 2, 1), (43, .invokevirtual 145, 3), (46, .iconst 0, 1), (47, .istore_n 3, 1), (48, .aload_n 0, 1), (49, .getfield 136, 3), (52, .ifCond .ne 39, 3), (55, .iload_n 3, 1), (56, .aload_n 0, 1), (57, .getfield 65, 3), (60, .iload_n 1, 1), (61, .iaload, 1), (62, .if_icmp .ge 29, 3), (65, .aload_n 0, 1), (66, .getfield 59, 3), (69, .bipush 8, 2), (71, .iload_n 1, 1), (72, .imul, 1), (73, .iload_n 3, 1), (74, .iadd, 1), (75, .iaload, 1), (76, .iload_n 2, 1), (77, .if_icmp .ne 8, 3), (80, .aload_n 0, 1), (81, .iconst 3, 1), (82, .invokevirtual 145, 3), (85, .iinc 3 1, 3), (88, .goto (-40), 3), (91, .aload_n 0, 1), (92, .getfield 136, 3), (95, .ifCond .eq 4, 3), (98, .return_, 1), (99, .bipush 8, 2), (101, .iload_n 1, 1), (102, .imul, 1), (103, .aload_n 0, 1), (104, .getfield 65, 3), (107, .iload_n 1, 1), (108, .iaload, 1), (109, .iadd, 1), (110, .istore_n 3, 1), (111, .aload_n 0, 1), (112, .invokevirtual 149, 3), (115, .aload_n 0, 1), (116, .getfield 59, 3), (119, .iload_n 3, 1), (120, .iload_n 2, 1), (121, .iastore, 1), (122, .aload_n 0, 1), (123, .getfield 62, 3), (126, .iload_n 3, 1), (127, .aload_n 0, 1), (128, .bipush 12, 2), (130, .iconst 2, 1), (131, .invokevirtual 173, 3), (134, .iastore, 1), (135, .aload_n 0, 1), (136, .getfield 65, 3), (139, .iload_n 1, 1), (140, .dup2, 1), (141, .iaload, 1), (142, .iconst 1, 1), (143, .iadd, 1), (144, .iastore, 1), (145, .return_, 1)]
theorem D_X10_readOne : dchk cX10_readOne T_X10_readOne = true := by decide +kernel
def Mo_readOne (σ : ST) (a1 : Int32) : Option ST :=
  bd_ (Mo_named (σ) 37 0 (gF σ 868 0)) (fun q1 => lk_ (fun kk3 => (if q1 = (-1) then bd_ (Mo_wrong (σ) 1) (fun q27 => kk3 q27) else kk3 (σ))) (fun (j2 : ST) => lk_ (fun kk6 => (if (gF j2 863 0) = 0 then bd_ (ldI j2 45 0 a1) (fun v25 => (if v25 = 8 then bd_ (Mo_wrong j2 2) (fun q26 => kk6 q26) else kk6 j2)) else kk6 j2)) (fun (j5 : ST) => lk_ (fun kk9 => lp_ (fun rec20 (z19 : ST × Int32) => (if (gF z19.1 863 0) = 0 then bd_ (ldI z19.1 45 0 a1) (fun v22 => (if v22 ≤ z19.2 then kk9 z19.1 else bd_ (ldI z19.1 43 0 ((8 * a1) + z19.2)) (fun v23 => (if v23 = q1 then bd_ (Mo_wrong z19.1 3) (fun q24 => rec20 (q24, (z19.2 + 1))) else rec20 (z19.1, (z19.2 + 1)))))) else kk9 z19.1)) FU (j5, 0)) (fun (j8 : ST) => (if (gF j8 863 0) = 0 then bd_ (ldI j8 45 0 a1) (fun v11 => lt_ (((8 * a1) + v11)) (fun x12 => bd_ (Mo_goOn j8) (fun q13 => bd_ (stI q13 43 0 x12 q1) (fun s14 => bd_ (Mo_among s14 12 2) (fun q15 => bd_ (stI q15.2 44 0 x12 q15.1) (fun s16 => bd_ (ldI s16 45 0 a1) (fun v17 => bd_ (stI s16 45 0 a1 (v17 + 1)) (fun s18 => some s18)))))))) else some j8)))))
set_option maxHeartbeats 4000000 in
set_option maxRecDepth 100000 in
theorem c_X10_readOne {G : GW} (hG : Good G) {l : Launch} (σ : ST) (a1 : Int32) : Ctr G l yX10_readOne cX10_readOne 4 none 10 [.ref (ga G 131 0), .int a1] σ oV (Mo_readOne σ a1) := by
  refine ctr_of hG (by decide) (Nat.le_of_ble_eq_true rfl) ?_
  intro X hXl hR hX
  have hX : Ok G X cX10_readOne 4 RX10 10 := hX
  unfold Mo_readOne
  show Sim G X 4 (MQX G X oV) σ 0 [(0, .ref (ga G 131 0)), (1, .int a1)] [] _
  refine s_aload_n 0 (n := 1) hX (dec_of D_X10_readOne (i := 0) rfl) rfl rfl rfl ?_
  refine s_aload_n 0 (n := 2) hX (dec_of D_X10_readOne (i := 1) rfl) rfl rfl rfl ?_
  refine s_getR (c := 10) (p := 36) (k' := 37) (n := 5) hX cls10 (vk131 (by omega)) (dec_of D_X10_readOne (i := 2) rfl) rfl rfl wd_1382 ?_
  refine s_aload_n 0 (n := 6) hX (dec_of D_X10_readOne (i := 3) rfl) rfl rfl rfl ?_
  refine s_getI (c := 10) (p := 28) (id := 868) (n := 9) hX cls10 (vk131 (by omega)) (dec_of D_X10_readOne (i := 4) rfl) rfl rfl wd_1374 ?_
  refine s_callVI (c := 10) (n := 12) hX cls10 (vk131 (by omega)) lk_RX10_159 (dec_of D_X10_readOne (i := 5) rfl) rfl (by decide) (c_X10_named (l := _) hG _ _ _ (vk37 (by omega)) (by decide) _) rfl rfl (Nat.le_of_ble_eq_true rfl) (fun q1 => ?_)
  refine s_istore_n (lv' := [(0, _), (1, _), (2, _)]) [1, 2, 0] (n := 13) hX (dec_of D_X10_readOne (i := 6) rfl) rfl rfl (by decide) rfl ?_
  refine s_iload_n 2 (n := 14) hX (dec_of D_X10_readOne (i := 7) rfl) rfl rfl rfl ?_
  refine s_iconst (v := (-1)) (n := 15) hX (dec_of D_X10_readOne (i := 8) rfl) rfl (by decide) ?_
  refine s_lk (pcj := 23) (Sf := fun (j2 : ST) => j2) (lvf := fun (j2 : ST) => [(0, .ref (ga G 131 0)), (1, .int a1), (2, .int q1)]) (stf := fun (j2 : ST) => []) (fun j2 => ?_) (fun kk3 hkk4 => ?_)
  · refine s_aload_n 0 (n := 24) hX (dec_of D_X10_readOne (i := 13) rfl) rfl rfl rfl ?_
    refine s_getI (c := 10) (p := 23) (id := 863) (n := 27) hX cls10 (vk131 (by omega)) (dec_of D_X10_readOne (i := 14) rfl) rfl rfl wd_1369 ?_
    refine s_lk (pcj := 46) (Sf := fun (j5 : ST) => j5) (lvf := fun (j5 : ST) => [(0, .ref (ga G 131 0)), (1, .int a1), (2, .int q1)]) (stf := fun (j5 : ST) => []) (fun j5 => ?_) (fun kk6 hkk7 => ?_)
    · refine s_iconst (v := 0) (n := 47) hX (dec_of D_X10_readOne (i := 25) rfl) rfl (by decide) ?_
      refine s_istore_n (lv' := [(0, _), (1, _), (2, _), (3, _)]) [1, 2, 3, 0] (n := 48) hX (dec_of D_X10_readOne (i := 26) rfl) rfl rfl (by decide) rfl ?_
      refine s_lk (pcj := 91) (Sf := fun (j8 : ST) => j8) (lvf := fun (j8 : ST) => [(0, .ref (ga G 131 0)), (1, .int a1), (2, .int q1)]) (stf := fun (j8 : ST) => []) (fun j8 => ?_) (fun kk9 hkk10 => ?_)
      · refine s_aload_n 0 (n := 92) hX (dec_of D_X10_readOne (i := 51) rfl) rfl rfl rfl ?_
        refine s_getI (c := 10) (p := 23) (id := 863) (n := 95) hX cls10 (vk131 (by omega)) (dec_of D_X10_readOne (i := 52) rfl) rfl rfl wd_1369 ?_
        refine s_if_eq (tgt := 99) (n := 98) hX (dec_of D_X10_readOne (i := 53) rfl) rfl rfl ?_ ?_
        · refine s_bipush (v := 8) (n := 101) hX (dec_of D_X10_readOne (i := 55) rfl) rfl (by decide) ?_
          refine s_iload_n 1 (n := 102) hX (dec_of D_X10_readOne (i := 56) rfl) rfl rfl rfl ?_
          refine s_imul (n := 103) hX (dec_of D_X10_readOne (i := 57) rfl) rfl ?_
          refine s_aload_n 0 (n := 104) hX (dec_of D_X10_readOne (i := 58) rfl) rfl rfl rfl ?_
          refine s_getR (c := 10) (p := 44) (k' := 45) (n := 107) hX cls10 (vk131 (by omega)) (dec_of D_X10_readOne (i := 59) rfl) rfl rfl wd_1390 ?_
          refine s_iload_n 1 (n := 108) hX (dec_of D_X10_readOne (i := 60) rfl) rfl rfl rfl ?_
          refine s_iald (n := 109) hX (vk45 (by omega)) (by decide) (dec_of D_X10_readOne (i := 61) rfl) rfl (fun v11 => ?_)
          refine s_iadd (n := 110) hX (dec_of D_X10_readOne (i := 62) rfl) rfl ?_
          refine s_topi (fun x12 => ?_)
          refine s_istore_n (lv' := [(0, _), (1, _), (2, _), (3, _)]) [1, 2, 3, 0] (n := 111) hX (dec_of D_X10_readOne (i := 63) rfl) rfl rfl (by decide) rfl ?_
          refine s_aload_n 0 (n := 112) hX (dec_of D_X10_readOne (i := 64) rfl) rfl rfl rfl ?_
          refine s_callVV (c := 10) (n := 115) hX cls10 (vk131 (by omega)) lk_RX10_149 (dec_of D_X10_readOne (i := 65) rfl) rfl (by decide) (c_X10_goOn (l := _) hG _) rfl rfl (Nat.le_of_ble_eq_true rfl) (fun q13 => ?_)
          refine s_aload_n 0 (n := 116) hX (dec_of D_X10_readOne (i := 66) rfl) rfl rfl rfl ?_
          refine s_getR (c := 10) (p := 42) (k' := 43) (n := 119) hX cls10 (vk131 (by omega)) (dec_of D_X10_readOne (i := 67) rfl) rfl rfl wd_1388 ?_
          refine s_iload_n 3 (n := 120) hX (dec_of D_X10_readOne (i := 68) rfl) rfl rfl rfl ?_
          refine s_iload_n 2 (n := 121) hX (dec_of D_X10_readOne (i := 69) rfl) rfl rfl rfl ?_
          refine s_iast (n := 122) hX (vk43 (by omega)) (by decide) (dec_of D_X10_readOne (i := 70) rfl) rfl (fun s14 => ?_)
          refine s_aload_n 0 (n := 123) hX (dec_of D_X10_readOne (i := 71) rfl) rfl rfl rfl ?_
          refine s_getR (c := 10) (p := 43) (k' := 44) (n := 126) hX cls10 (vk131 (by omega)) (dec_of D_X10_readOne (i := 72) rfl) rfl rfl wd_1389 ?_
          refine s_iload_n 3 (n := 127) hX (dec_of D_X10_readOne (i := 73) rfl) rfl rfl rfl ?_
          refine s_aload_n 0 (n := 128) hX (dec_of D_X10_readOne (i := 74) rfl) rfl rfl rfl ?_
          refine s_bipush (v := 12) (n := 130) hX (dec_of D_X10_readOne (i := 75) rfl) rfl (by decide) ?_
          refine s_iconst (v := 2) (n := 131) hX (dec_of D_X10_readOne (i := 76) rfl) rfl (by decide) ?_
          refine s_callVP (c := 10) (n := 134) hX cls10 (vk131 (by omega)) lk_RX10_173 (dec_of D_X10_readOne (i := 77) rfl) rfl (by decide) (c_X10_among (l := _) hG _ _ _) rfl rfl (Nat.le_of_ble_eq_true rfl) (fun q15 => ?_)
          refine s_iast (n := 135) hX (vk44 (by omega)) (by decide) (dec_of D_X10_readOne (i := 78) rfl) rfl (fun s16 => ?_)
          refine s_aload_n 0 (n := 136) hX (dec_of D_X10_readOne (i := 79) rfl) rfl rfl rfl ?_
          refine s_getR (c := 10) (p := 44) (k' := 45) (n := 139) hX cls10 (vk131 (by omega)) (dec_of D_X10_readOne (i := 80) rfl) rfl rfl wd_1390 ?_
          refine s_iload_n 1 (n := 140) hX (dec_of D_X10_readOne (i := 81) rfl) rfl rfl rfl ?_
          refine s_dup2 (n := 141) hX (dec_of D_X10_readOne (i := 82) rfl) rfl rfl rfl ?_
          refine s_iald (n := 142) hX (vk45 (by omega)) (by decide) (dec_of D_X10_readOne (i := 83) rfl) rfl (fun v17 => ?_)
          refine s_iconst (v := 1) (n := 143) hX (dec_of D_X10_readOne (i := 84) rfl) rfl (by decide) ?_
          refine s_iadd (n := 144) hX (dec_of D_X10_readOne (i := 85) rfl) rfl ?_
          refine s_iast (n := 145) hX (vk45 (by omega)) (by decide) (dec_of D_X10_readOne (i := 86) rfl) rfl (fun s18 => ?_)
          exact s_vret hX hR (dec_of D_X10_readOne (i := 87) rfl) rfl
        · exact s_vret hX hR (dec_of D_X10_readOne (i := 54) rfl) rfl
      · refine s_sub [0, 1, 2, 3] rfl (s_lp (pc := 48) (Sf := fun (z19 : ST × Int32) => z19.1) (lvf := fun (z19 : ST × Int32) => [(0, .ref (ga G 131 0)), (1, .int a1), (2, .int q1), (3, .int z19.2)]) (fun rec20 hre21 z19 => ?_) FU (j5, 0))
        refine s_aload_n 0 (n := 49) hX (dec_of D_X10_readOne (i := 27) rfl) rfl rfl rfl ?_
        refine s_getI (c := 10) (p := 23) (id := 863) (n := 52) hX cls10 (vk131 (by omega)) (dec_of D_X10_readOne (i := 28) rfl) rfl rfl wd_1369 ?_
        refine s_if_ne (tgt := 91) (n := 55) hX (dec_of D_X10_readOne (i := 29) rfl) rfl rfl ?_ ?_
        · exact s_sub [0, 1, 2] rfl (hkk10 z19.1)
        · refine s_iload_n 3 (n := 56) hX (dec_of D_X10_readOne (i := 30) rfl) rfl rfl rfl ?_
          refine s_aload_n 0 (n := 57) hX (dec_of D_X10_readOne (i := 31) rfl) rfl rfl rfl ?_
          refine s_getR (c := 10) (p := 44) (k' := 45) (n := 60) hX cls10 (vk131 (by omega)) (dec_of D_X10_readOne (i := 32) rfl) rfl rfl wd_1390 ?_
          refine s_iload_n 1 (n := 61) hX (dec_of D_X10_readOne (i := 33) rfl) rfl rfl rfl ?_
          refine s_iald (n := 62) hX (vk45 (by omega)) (by decide) (dec_of D_X10_readOne (i := 34) rfl) rfl (fun v22 => ?_)
          refine s_icmp_ge (tgt := 91) (n := 65) hX (dec_of D_X10_readOne (i := 35) rfl) rfl rfl ?_ ?_
          · exact s_sub [0, 1, 2] rfl (hkk10 z19.1)
          · refine s_aload_n 0 (n := 66) hX (dec_of D_X10_readOne (i := 36) rfl) rfl rfl rfl ?_
            refine s_getR (c := 10) (p := 42) (k' := 43) (n := 69) hX cls10 (vk131 (by omega)) (dec_of D_X10_readOne (i := 37) rfl) rfl rfl wd_1388 ?_
            refine s_bipush (v := 8) (n := 71) hX (dec_of D_X10_readOne (i := 38) rfl) rfl (by decide) ?_
            refine s_iload_n 1 (n := 72) hX (dec_of D_X10_readOne (i := 39) rfl) rfl rfl rfl ?_
            refine s_imul (n := 73) hX (dec_of D_X10_readOne (i := 40) rfl) rfl ?_
            refine s_iload_n 3 (n := 74) hX (dec_of D_X10_readOne (i := 41) rfl) rfl rfl rfl ?_
            refine s_iadd (n := 75) hX (dec_of D_X10_readOne (i := 42) rfl) rfl ?_
            refine s_iald (n := 76) hX (vk43 (by omega)) (by decide) (dec_of D_X10_readOne (i := 43) rfl) rfl (fun v23 => ?_)
            refine s_iload_n 2 (n := 77) hX (dec_of D_X10_readOne (i := 44) rfl) rfl rfl rfl ?_
            refine s_icmp_ne (tgt := 85) (n := 80) hX (dec_of D_X10_readOne (i := 45) rfl) rfl rfl ?_ ?_
            · refine s_iinc (v := z19.2 + 1) (lv' := [(0, _), (1, _), (2, _), (3, _)]) 3 [1, 2, 3, 0] (n := 88) hX (dec_of D_X10_readOne (i := 49) rfl) rfl rfl rfl (by decide) rfl ?_
              refine s_goto (n := 48) hX (dec_of D_X10_readOne (i := 50) rfl) rfl ?_
              exact s_sub [0, 1, 2, 3] rfl (hre21 (z19.1, (z19.2 + 1)))
            · refine s_aload_n 0 (n := 81) hX (dec_of D_X10_readOne (i := 46) rfl) rfl rfl rfl ?_
              refine s_iconst (v := 3) (n := 82) hX (dec_of D_X10_readOne (i := 47) rfl) rfl (by decide) ?_
              refine s_callVV (c := 10) (n := 85) hX cls10 (vk131 (by omega)) lk_RX10_145 (dec_of D_X10_readOne (i := 48) rfl) rfl (by decide) (c_X10_wrong (l := _) hG _ _) rfl rfl (Nat.le_of_ble_eq_true rfl) (fun q24 => ?_)
              refine s_iinc (v := z19.2 + 1) (lv' := [(0, _), (1, _), (2, _), (3, _)]) 3 [1, 2, 3, 0] (n := 88) hX (dec_of D_X10_readOne (i := 49) rfl) rfl rfl rfl (by decide) rfl ?_
              refine s_goto (n := 48) hX (dec_of D_X10_readOne (i := 50) rfl) rfl ?_
              exact s_sub [0, 1, 2, 3] rfl (hre21 (q24, (z19.2 + 1)))
    · refine s_if_ne (tgt := 46) (n := 30) hX (dec_of D_X10_readOne (i := 15) rfl) rfl rfl ?_ ?_
      · exact s_sub [0, 1, 2] rfl (hkk7 j2)
      · refine s_aload_n 0 (n := 31) hX (dec_of D_X10_readOne (i := 16) rfl) rfl rfl rfl ?_
        refine s_getR (c := 10) (p := 44) (k' := 45) (n := 34) hX cls10 (vk131 (by omega)) (dec_of D_X10_readOne (i := 17) rfl) rfl rfl wd_1390 ?_
        refine s_iload_n 1 (n := 35) hX (dec_of D_X10_readOne (i := 18) rfl) rfl rfl rfl ?_
        refine s_iald (n := 36) hX (vk45 (by omega)) (by decide) (dec_of D_X10_readOne (i := 19) rfl) rfl (fun v25 => ?_)
        refine s_bipush (v := 8) (n := 38) hX (dec_of D_X10_readOne (i := 20) rfl) rfl (by decide) ?_
        refine s_icmp_ne (tgt := 46) (n := 41) hX (dec_of D_X10_readOne (i := 21) rfl) rfl rfl ?_ ?_
        · exact s_sub [0, 1, 2] rfl (hkk7 j2)
        · refine s_aload_n 0 (n := 42) hX (dec_of D_X10_readOne (i := 22) rfl) rfl rfl rfl ?_
          refine s_iconst (v := 2) (n := 43) hX (dec_of D_X10_readOne (i := 23) rfl) rfl (by decide) ?_
          refine s_callVV (c := 10) (n := 46) hX cls10 (vk131 (by omega)) lk_RX10_145 (dec_of D_X10_readOne (i := 24) rfl) rfl (by decide) (c_X10_wrong (l := _) hG _ _) rfl rfl (Nat.le_of_ble_eq_true rfl) (fun q26 => ?_)
          exact s_sub [0, 1, 2] rfl (hkk7 q26)
  · refine s_icmp_ne (tgt := 23) (n := 18) hX (dec_of D_X10_readOne (i := 9) rfl) rfl rfl ?_ ?_
    · exact s_sub [0, 1, 2] rfl (hkk4 (σ))
    · refine s_aload_n 0 (n := 19) hX (dec_of D_X10_readOne (i := 10) rfl) rfl rfl rfl ?_
      refine s_iconst (v := 1) (n := 20) hX (dec_of D_X10_readOne (i := 11) rfl) rfl (by decide) ?_
      refine s_callVV (c := 10) (n := 23) hX cls10 (vk131 (by omega)) lk_RX10_145 (dec_of D_X10_readOne (i := 12) rfl) rfl (by decide) (c_X10_wrong (l := _) hG _ _) rfl rfl (Nat.le_of_ble_eq_true rfl) (fun q27 => ?_)
      exact s_sub [0, 1, 2] rfl (hkk4 q27)
theorem lk_RX10_183 : LkV RX10 183 RX10 yX10_readOne cX10_readOne 4 none 1 := ⟨wd_1579, wd_1581, wd_31, wd_93, wd_1582, by decide +kernel, by decide⟩
def T_X10_readSession : List (Nat × Instr × Nat) := [(0, .aload_n 0, 1), (1, .getfield 166, 3), (4, .istore_n 1, 1), (5, .iload_n 1, 1), (6, .bipush 8, 2), (8, .if_icmp .ne 9, 3), (11, .aload_n 0, 1), (12, .iconst 2, 1), (13, .invokevirtual 145, 3), (16, .return_, 1), (17, .aload_n 0, 1), (18, .aload_n 0, 1), (19, .getfield 44, 3), (22, .iload_n 1, 1), (23, .invokevirtual 169, 3), (26, .aload_n 0, 1), (27, .getfield 65, 3), (30, .iload_n 1, 1), (31, .iconst 0, 1), (32, .iastore, 1), (33, .aload_n 0, 1), (34, .getfield 68, 3), (37, .iload_n 1, 1), (38, .iconst 0, 1), (39, .iastore, 1), (40, .aload_n 0, 1), (41, .invokevirtual 152, 3), (44, .ifCond .eq 11, 3), (47, .aload_n 0, 1), (48, .iload_n 1, 1), (49, .invokevirtual 183, 3), (52, .goto (-12), 3), (55, .aload_n 0, 1), (56, .getfield 136, 3), (59, .ifCond .ne 34, 3), (62, .aload_n 0, 1), (63, .getfield 105, 3), (66, .ifCond .ne 27, 3), (69, .aload_n 0, 1), (70, .getfield 118, 3), (73, .iconst 3, 1), (74, .if_icmp .ne 19, 3), (77, .aload_n 0, 1), (78, .invokevirtual 149, 3), (81, .aload_n 0, 1), (82, .getfield 68, 3), (85, .iload_n 1, 1), (86, .aload_n 0, 1), (87, .iconst 1, 1), (88, .iconst 5, 1), (89, .invokevirtual 177, 3), (92, .iastore, 1), (93, .aload_n 0, 1), (94, .invokevirtual 180, 3), (97, .ifCond .eq 24, 3), (100, .aload_n 0, 1), (101, .getfield 65, 3), (104, .iload_n 1, 1), (105, .iaload, 1), (106, .aload_n 0, 1), (107, .getfield 68, 3), (110, .iload_n 1, 1), (111, .iaload, 1), (112, .iadd, 1), (113, .ifCond .ne 8, 3), (116, .aload_n 0, 1), (117, .iconst 4, 1), (118, .invokevirtual 145, 3), (121, .aload_n 0, 1), (122, .dup, 1), (123, .getfield 166, 3), (126, .iconst 1, 1), (127, .iadd, 1), (128, .putfield 166, 3), (131, .return_, 1)]
theorem D_X10_readSession : dchk cX10_readSession T_X10_readSession = true := by decide +kernel
def Mo_readSession (σ : ST)  : Option ST :=
  lt_ ((gF σ 869 0)) (fun x1 => (if x1 = 8 then bd_ (Mo_wrong (σ) 2) (fun q23 => some q23) else bd_ (Mo_newName (σ) 38 0 x1) (fun q2 => bd_ (stI q2 45 0 x1 0) (fun s3 => bd_ (stI s3 46 0 x1 0) (fun s4 => lp_ (fun rec6 (z5 : ST) => bd_ (Mo_isOther z5) (fun q8 => (if q8 = 0 then lk_ (fun kk10 => (if (gF z5 863 0) = 0 then (if (gF z5 860 0) = 0 then (if (gF z5 861 0) = 3 then bd_ (Mo_goOn z5) (fun q19 => bd_ (Mo_number q19 1 5) (fun q20 => bd_ (stI q20.2 46 0 x1 q20.1) (fun s21 => kk10 s21))) else kk10 z5) else kk10 z5) else kk10 z5)) (fun (j9 : ST) => bd_ (Mo_isEnd j9) (fun q12 => (if q12.1 = 0 then lt_ (setF q12.2 869 0 ((gF q12.2 869 0) + 1)) (fun s13 => some s13) else bd_ (ldI q12.2 45 0 x1) (fun v14 => bd_ (ldI q12.2 46 0 x1) (fun v15 => (if (v14 + v15) = 0 then bd_ (Mo_wrong q12.2 4) (fun q17 => lt_ (setF q17 869 0 ((gF q17 869 0) + 1)) (fun s18 => some s18)) else lt_ (setF q12.2 869 0 ((gF q12.2 869 0) + 1)) (fun s16 => some s16))))))) else bd_ (Mo_readOne z5 x1) (fun q22 => rec6 q22)))) FU s4)))))
set_option maxHeartbeats 4000000 in
set_option maxRecDepth 100000 in
theorem c_X10_readSession {G : GW} (hG : Good G) {l : Launch} (σ : ST)  : Ctr G l yX10_readSession cX10_readSession 2 none 11 [.ref (ga G 131 0)] σ oV (Mo_readSession σ ) := by
  refine ctr_of hG (by decide) (Nat.le_of_ble_eq_true rfl) ?_
  intro X hXl hR hX
  have hX : Ok G X cX10_readSession 2 RX10 11 := hX
  unfold Mo_readSession
  show Sim G X 2 (MQX G X oV) σ 0 [(0, .ref (ga G 131 0))] [] _
  refine s_aload_n 0 (n := 1) hX (dec_of D_X10_readSession (i := 0) rfl) rfl rfl rfl ?_
  refine s_getI (c := 10) (p := 29) (id := 869) (n := 4) hX cls10 (vk131 (by omega)) (dec_of D_X10_readSession (i := 1) rfl) rfl rfl wd_1375 ?_
  refine s_topi (fun x1 => ?_)
  refine s_istore_n (lv' := [(0, _), (1, _)]) [1, 0] (n := 5) hX (dec_of D_X10_readSession (i := 2) rfl) rfl rfl (by decide) rfl ?_
  refine s_iload_n 1 (n := 6) hX (dec_of D_X10_readSession (i := 3) rfl) rfl rfl rfl ?_
  refine s_bipush (v := 8) (n := 8) hX (dec_of D_X10_readSession (i := 4) rfl) rfl (by decide) ?_
  refine s_icmp_ne (tgt := 17) (n := 11) hX (dec_of D_X10_readSession (i := 5) rfl) rfl rfl ?_ ?_
  · refine s_aload_n 0 (n := 18) hX (dec_of D_X10_readSession (i := 10) rfl) rfl rfl rfl ?_
    refine s_aload_n 0 (n := 19) hX (dec_of D_X10_readSession (i := 11) rfl) rfl rfl rfl ?_
    refine s_getR (c := 10) (p := 37) (k' := 38) (n := 22) hX cls10 (vk131 (by omega)) (dec_of D_X10_readSession (i := 12) rfl) rfl rfl wd_1383 ?_
    refine s_iload_n 1 (n := 23) hX (dec_of D_X10_readSession (i := 13) rfl) rfl rfl rfl ?_
    refine s_callVV (c := 10) (n := 26) hX cls10 (vk131 (by omega)) lk_RX10_169 (dec_of D_X10_readSession (i := 14) rfl) rfl (by decide) (c_X10_newName (l := _) hG _ _ _ (vk38 (by omega)) (by decide) _) rfl rfl (Nat.le_of_ble_eq_true rfl) (fun q2 => ?_)
    refine s_aload_n 0 (n := 27) hX (dec_of D_X10_readSession (i := 15) rfl) rfl rfl rfl ?_
    refine s_getR (c := 10) (p := 44) (k' := 45) (n := 30) hX cls10 (vk131 (by omega)) (dec_of D_X10_readSession (i := 16) rfl) rfl rfl wd_1390 ?_
    refine s_iload_n 1 (n := 31) hX (dec_of D_X10_readSession (i := 17) rfl) rfl rfl rfl ?_
    refine s_iconst (v := 0) (n := 32) hX (dec_of D_X10_readSession (i := 18) rfl) rfl (by decide) ?_
    refine s_iast (n := 33) hX (vk45 (by omega)) (by decide) (dec_of D_X10_readSession (i := 19) rfl) rfl (fun s3 => ?_)
    refine s_aload_n 0 (n := 34) hX (dec_of D_X10_readSession (i := 20) rfl) rfl rfl rfl ?_
    refine s_getR (c := 10) (p := 45) (k' := 46) (n := 37) hX cls10 (vk131 (by omega)) (dec_of D_X10_readSession (i := 21) rfl) rfl rfl wd_1391 ?_
    refine s_iload_n 1 (n := 38) hX (dec_of D_X10_readSession (i := 22) rfl) rfl rfl rfl ?_
    refine s_iconst (v := 0) (n := 39) hX (dec_of D_X10_readSession (i := 23) rfl) rfl (by decide) ?_
    refine s_iast (n := 40) hX (vk46 (by omega)) (by decide) (dec_of D_X10_readSession (i := 24) rfl) rfl (fun s4 => ?_)
    refine s_sub [0, 1] rfl (s_lp (pc := 40) (Sf := fun (z5 : ST) => z5) (lvf := fun (z5 : ST) => [(0, .ref (ga G 131 0)), (1, .int x1)]) (fun rec6 hre7 z5 => ?_) FU s4)
    refine s_aload_n 0 (n := 41) hX (dec_of D_X10_readSession (i := 25) rfl) rfl rfl rfl ?_
    refine s_callVI (c := 10) (n := 44) hX cls10 (vk131 (by omega)) lk_RX10_152 (dec_of D_X10_readSession (i := 26) rfl) rfl (by decide) (c_X10_isOther (l := _) hG _) rfl rfl (Nat.le_of_ble_eq_true rfl) (fun q8 => ?_)
    refine s_if_eq (tgt := 55) (n := 47) hX (dec_of D_X10_readSession (i := 27) rfl) rfl rfl ?_ ?_
    · refine s_aload_n 0 (n := 56) hX (dec_of D_X10_readSession (i := 32) rfl) rfl rfl rfl ?_
      refine s_getI (c := 10) (p := 23) (id := 863) (n := 59) hX cls10 (vk131 (by omega)) (dec_of D_X10_readSession (i := 33) rfl) rfl rfl wd_1369 ?_
      refine s_lk (pcj := 93) (Sf := fun (j9 : ST) => j9) (lvf := fun (j9 : ST) => [(0, .ref (ga G 131 0)), (1, .int x1)]) (stf := fun (j9 : ST) => []) (fun j9 => ?_) (fun kk10 hkk11 => ?_)
      · refine s_aload_n 0 (n := 94) hX (dec_of D_X10_readSession (i := 52) rfl) rfl rfl rfl ?_
        refine s_callVP (c := 10) (n := 97) hX cls10 (vk131 (by omega)) lk_RX10_180 (dec_of D_X10_readSession (i := 53) rfl) rfl (by decide) (c_X10_isEnd (l := _) hG _) rfl rfl (Nat.le_of_ble_eq_true rfl) (fun q12 => ?_)
        refine s_if_eq (tgt := 121) (n := 100) hX (dec_of D_X10_readSession (i := 54) rfl) rfl rfl ?_ ?_
        · refine s_aload_n 0 (n := 122) hX (dec_of D_X10_readSession (i := 68) rfl) rfl rfl rfl ?_
          refine s_dup (n := 123) hX (dec_of D_X10_readSession (i := 69) rfl) rfl rfl ?_
          refine s_getI (c := 10) (p := 29) (id := 869) (n := 126) hX cls10 (vk131 (by omega)) (dec_of D_X10_readSession (i := 70) rfl) rfl rfl wd_1375 ?_
          refine s_iconst (v := 1) (n := 127) hX (dec_of D_X10_readSession (i := 71) rfl) rfl (by decide) ?_
          refine s_iadd (n := 128) hX (dec_of D_X10_readSession (i := 72) rfl) rfl ?_
          refine s_putI (c := 10) (p := 29) (n := 131) hX cls10 (vk131 (by omega)) (dec_of D_X10_readSession (i := 73) rfl) rfl rfl (by decide) wd_1375 rfl rfl rfl (fun s13 => ?_)
          exact s_vret hX hR (dec_of D_X10_readSession (i := 74) rfl) rfl
        · refine s_aload_n 0 (n := 101) hX (dec_of D_X10_readSession (i := 55) rfl) rfl rfl rfl ?_
          refine s_getR (c := 10) (p := 44) (k' := 45) (n := 104) hX cls10 (vk131 (by omega)) (dec_of D_X10_readSession (i := 56) rfl) rfl rfl wd_1390 ?_
          refine s_iload_n 1 (n := 105) hX (dec_of D_X10_readSession (i := 57) rfl) rfl rfl rfl ?_
          refine s_iald (n := 106) hX (vk45 (by omega)) (by decide) (dec_of D_X10_readSession (i := 58) rfl) rfl (fun v14 => ?_)
          refine s_aload_n 0 (n := 107) hX (dec_of D_X10_readSession (i := 59) rfl) rfl rfl rfl ?_
          refine s_getR (c := 10) (p := 45) (k' := 46) (n := 110) hX cls10 (vk131 (by omega)) (dec_of D_X10_readSession (i := 60) rfl) rfl rfl wd_1391 ?_
          refine s_iload_n 1 (n := 111) hX (dec_of D_X10_readSession (i := 61) rfl) rfl rfl rfl ?_
          refine s_iald (n := 112) hX (vk46 (by omega)) (by decide) (dec_of D_X10_readSession (i := 62) rfl) rfl (fun v15 => ?_)
          refine s_iadd (n := 113) hX (dec_of D_X10_readSession (i := 63) rfl) rfl ?_
          refine s_if_ne (tgt := 121) (n := 116) hX (dec_of D_X10_readSession (i := 64) rfl) rfl rfl ?_ ?_
          · refine s_aload_n 0 (n := 122) hX (dec_of D_X10_readSession (i := 68) rfl) rfl rfl rfl ?_
            refine s_dup (n := 123) hX (dec_of D_X10_readSession (i := 69) rfl) rfl rfl ?_
            refine s_getI (c := 10) (p := 29) (id := 869) (n := 126) hX cls10 (vk131 (by omega)) (dec_of D_X10_readSession (i := 70) rfl) rfl rfl wd_1375 ?_
            refine s_iconst (v := 1) (n := 127) hX (dec_of D_X10_readSession (i := 71) rfl) rfl (by decide) ?_
            refine s_iadd (n := 128) hX (dec_of D_X10_readSession (i := 72) rfl) rfl ?_
            refine s_putI (c := 10) (p := 29) (n := 131) hX cls10 (vk131 (by omega)) (dec_of D_X10_readSession (i := 73) rfl) rfl rfl (by decide) wd_1375 rfl rfl rfl (fun s16 => ?_)
            exact s_vret hX hR (dec_of D_X10_readSession (i := 74) rfl) rfl
          · refine s_aload_n 0 (n := 117) hX (dec_of D_X10_readSession (i := 65) rfl) rfl rfl rfl ?_
            refine s_iconst (v := 4) (n := 118) hX (dec_of D_X10_readSession (i := 66) rfl) rfl (by decide) ?_
            refine s_callVV (c := 10) (n := 121) hX cls10 (vk131 (by omega)) lk_RX10_145 (dec_of D_X10_readSession (i := 67) rfl) rfl (by decide) (c_X10_wrong (l := _) hG _ _) rfl rfl (Nat.le_of_ble_eq_true rfl) (fun q17 => ?_)
            refine s_aload_n 0 (n := 122) hX (dec_of D_X10_readSession (i := 68) rfl) rfl rfl rfl ?_
            refine s_dup (n := 123) hX (dec_of D_X10_readSession (i := 69) rfl) rfl rfl ?_
            refine s_getI (c := 10) (p := 29) (id := 869) (n := 126) hX cls10 (vk131 (by omega)) (dec_of D_X10_readSession (i := 70) rfl) rfl rfl wd_1375 ?_
            refine s_iconst (v := 1) (n := 127) hX (dec_of D_X10_readSession (i := 71) rfl) rfl (by decide) ?_
            refine s_iadd (n := 128) hX (dec_of D_X10_readSession (i := 72) rfl) rfl ?_
            refine s_putI (c := 10) (p := 29) (n := 131) hX cls10 (vk131 (by omega)) (dec_of D_X10_readSession (i := 73) rfl) rfl rfl (by decide) wd_1375 rfl rfl rfl (fun s18 => ?_)
            exact s_vret hX hR (dec_of D_X10_readSession (i := 74) rfl) rfl
      · refine s_if_ne (tgt := 93) (n := 62) hX (dec_of D_X10_readSession (i := 34) rfl) rfl rfl ?_ ?_
        · exact s_sub [0, 1] rfl (hkk11 z5)
        · refine s_aload_n 0 (n := 63) hX (dec_of D_X10_readSession (i := 35) rfl) rfl rfl rfl ?_
          refine s_getI (c := 10) (p := 20) (id := 860) (n := 66) hX cls10 (vk131 (by omega)) (dec_of D_X10_readSession (i := 36) rfl) rfl rfl wd_1366 ?_
          refine s_if_ne (tgt := 93) (n := 69) hX (dec_of D_X10_readSession (i := 37) rfl) rfl rfl ?_ ?_
          · exact s_sub [0, 1] rfl (hkk11 z5)
          · refine s_aload_n 0 (n := 70) hX (dec_of D_X10_readSession (i := 38) rfl) rfl rfl rfl ?_
            refine s_getI (c := 10) (p := 21) (id := 861) (n := 73) hX cls10 (vk131 (by omega)) (dec_of D_X10_readSession (i := 39) rfl) rfl rfl wd_1367 ?_
            refine s_iconst (v := 3) (n := 74) hX (dec_of D_X10_readSession (i := 40) rfl) rfl (by decide) ?_
            refine s_icmp_ne (tgt := 93) (n := 77) hX (dec_of D_X10_readSession (i := 41) rfl) rfl rfl ?_ ?_
            · exact s_sub [0, 1] rfl (hkk11 z5)
            · refine s_aload_n 0 (n := 78) hX (dec_of D_X10_readSession (i := 42) rfl) rfl rfl rfl ?_
              refine s_callVV (c := 10) (n := 81) hX cls10 (vk131 (by omega)) lk_RX10_149 (dec_of D_X10_readSession (i := 43) rfl) rfl (by decide) (c_X10_goOn (l := _) hG _) rfl rfl (Nat.le_of_ble_eq_true rfl) (fun q19 => ?_)
              refine s_aload_n 0 (n := 82) hX (dec_of D_X10_readSession (i := 44) rfl) rfl rfl rfl ?_
              refine s_getR (c := 10) (p := 45) (k' := 46) (n := 85) hX cls10 (vk131 (by omega)) (dec_of D_X10_readSession (i := 45) rfl) rfl rfl wd_1391 ?_
              refine s_iload_n 1 (n := 86) hX (dec_of D_X10_readSession (i := 46) rfl) rfl rfl rfl ?_
              refine s_aload_n 0 (n := 87) hX (dec_of D_X10_readSession (i := 47) rfl) rfl rfl rfl ?_
              refine s_iconst (v := 1) (n := 88) hX (dec_of D_X10_readSession (i := 48) rfl) rfl (by decide) ?_
              refine s_iconst (v := 5) (n := 89) hX (dec_of D_X10_readSession (i := 49) rfl) rfl (by decide) ?_
              refine s_callVP (c := 10) (n := 92) hX cls10 (vk131 (by omega)) lk_RX10_177 (dec_of D_X10_readSession (i := 50) rfl) rfl (by decide) (c_X10_number (l := _) hG _ _ _) rfl rfl (Nat.le_of_ble_eq_true rfl) (fun q20 => ?_)
              refine s_iast (n := 93) hX (vk46 (by omega)) (by decide) (dec_of D_X10_readSession (i := 51) rfl) rfl (fun s21 => ?_)
              exact s_sub [0, 1] rfl (hkk11 s21)
    · refine s_aload_n 0 (n := 48) hX (dec_of D_X10_readSession (i := 28) rfl) rfl rfl rfl ?_
      refine s_iload_n 1 (n := 49) hX (dec_of D_X10_readSession (i := 29) rfl) rfl rfl rfl ?_
      refine s_callVV (c := 10) (n := 52) hX cls10 (vk131 (by omega)) lk_RX10_183 (dec_of D_X10_readSession (i := 30) rfl) rfl (by decide) (c_X10_readOne (l := _) hG _ _) rfl rfl (Nat.le_of_ble_eq_true rfl) (fun q22 => ?_)
      refine s_goto (n := 40) hX (dec_of D_X10_readSession (i := 31) rfl) rfl ?_
      exact s_sub [0, 1] rfl (hre7 q22)
  · refine s_aload_n 0 (n := 12) hX (dec_of D_X10_readSession (i := 6) rfl) rfl rfl rfl ?_
    refine s_iconst (v := 2) (n := 13) hX (dec_of D_X10_readSession (i := 7) rfl) rfl (by decide) ?_
    refine s_callVV (c := 10) (n := 16) hX cls10 (vk131 (by omega)) lk_RX10_145 (dec_of D_X10_readSession (i := 8) rfl) rfl (by decide) (c_X10_wrong (l := _) hG _ _) rfl rfl (Nat.le_of_ble_eq_true rfl) (fun q23 => ?_)
    exact s_vret hX hR (dec_of D_X10_readSession (i := 9) rfl) rfl
def T_X10_readLead : List (Nat × Instr × Nat) := [(0, .aload_n 0, 1), (1, .getfield 186, 3), (4, .ifCond .eq 8, 3), (7, .aload_n 0, 1), (8, .iconst 3, 1), (9, .invokevirtual 145, 3), (12, .aload_n 0, 1), (13, .iconst 1, 1), (14, .putfield 186, 3), (17, .aload_n 0, 1), (18, .invokevirtual 149, 3), (21, .aload_n 0, 1), (22, .aload_n 0, 1), (23, .iconst 0, 1), (24, .bipush 100, 2), (26, .invokevirtual 177, 3), (29, .putfield 190, 3), (32, .aload_n 0, 1), (33, .invokevirtual 180, 3), (36, .pop, 1), (37, .return_, 1)]
theorem D_X10_readLead : dchk cX10_readLead T_X10_readLead = true := by decide +kernel
def Mo_readLead (σ : ST)  : Option ST :=
  lk_ (fun kk2 => (if (gF σ 873 0) = 0 then kk2 (σ) else bd_ (Mo_wrong (σ) 3) (fun q9 => kk2 q9))) (fun (j1 : ST) => lt_ (setF j1 873 0 1) (fun s4 => bd_ (Mo_goOn s4) (fun q5 => bd_ (Mo_number q5 0 100) (fun q6 => lt_ (setF q6.2 871 0 q6.1) (fun s7 => bd_ (Mo_isEnd s7) (fun q8 => some q8.2))))))
set_option maxHeartbeats 4000000 in
set_option maxRecDepth 100000 in
theorem c_X10_readLead {G : GW} (hG : Good G) {l : Launch} (σ : ST)  : Ctr G l yX10_readLead cX10_readLead 1 none 10 [.ref (ga G 131 0)] σ oV (Mo_readLead σ ) := by
  refine ctr_of hG (by decide) (Nat.le_of_ble_eq_true rfl) ?_
  intro X hXl hR hX
  have hX : Ok G X cX10_readLead 1 RX10 10 := hX
  unfold Mo_readLead
  show Sim G X 1 (MQX G X oV) σ 0 [(0, .ref (ga G 131 0))] [] _
  refine s_aload_n 0 (n := 1) hX (dec_of D_X10_readLead (i := 0) rfl) rfl rfl rfl ?_
  refine s_getI (c := 10) (p := 33) (id := 873) (n := 4) hX cls10 (vk131 (by omega)) (dec_of D_X10_readLead (i := 1) rfl) rfl rfl wd_1379 ?_
  refine s_lk (pcj := 12) (Sf := fun (j1 : ST) => j1) (lvf := fun (j1 : ST) => [(0, .ref (ga G 131 0))]) (stf := fun (j1 : ST) => []) (fun j1 => ?_) (fun kk2 hkk3 => ?_)
  · refine s_aload_n 0 (n := 13) hX (dec_of D_X10_readLead (i := 6) rfl) rfl rfl rfl ?_
    refine s_iconst (v := 1) (n := 14) hX (dec_of D_X10_readLead (i := 7) rfl) rfl (by decide) ?_
    refine s_putI (c := 10) (p := 33) (n := 17) hX cls10 (vk131 (by omega)) (dec_of D_X10_readLead (i := 8) rfl) rfl rfl (by decide) wd_1379 rfl rfl rfl (fun s4 => ?_)
    refine s_aload_n 0 (n := 18) hX (dec_of D_X10_readLead (i := 9) rfl) rfl rfl rfl ?_
    refine s_callVV (c := 10) (n := 21) hX cls10 (vk131 (by omega)) lk_RX10_149 (dec_of D_X10_readLead (i := 10) rfl) rfl (by decide) (c_X10_goOn (l := _) hG _) rfl rfl (Nat.le_of_ble_eq_true rfl) (fun q5 => ?_)
    refine s_aload_n 0 (n := 22) hX (dec_of D_X10_readLead (i := 11) rfl) rfl rfl rfl ?_
    refine s_aload_n 0 (n := 23) hX (dec_of D_X10_readLead (i := 12) rfl) rfl rfl rfl ?_
    refine s_iconst (v := 0) (n := 24) hX (dec_of D_X10_readLead (i := 13) rfl) rfl (by decide) ?_
    refine s_bipush (v := 100) (n := 26) hX (dec_of D_X10_readLead (i := 14) rfl) rfl (by decide) ?_
    refine s_callVP (c := 10) (n := 29) hX cls10 (vk131 (by omega)) lk_RX10_177 (dec_of D_X10_readLead (i := 15) rfl) rfl (by decide) (c_X10_number (l := _) hG _ _ _) rfl rfl (Nat.le_of_ble_eq_true rfl) (fun q6 => ?_)
    refine s_putI (c := 10) (p := 31) (n := 32) hX cls10 (vk131 (by omega)) (dec_of D_X10_readLead (i := 16) rfl) rfl rfl (by decide) wd_1377 rfl rfl rfl (fun s7 => ?_)
    refine s_aload_n 0 (n := 33) hX (dec_of D_X10_readLead (i := 17) rfl) rfl rfl rfl ?_
    refine s_callVP (c := 10) (n := 36) hX cls10 (vk131 (by omega)) lk_RX10_180 (dec_of D_X10_readLead (i := 18) rfl) rfl (by decide) (c_X10_isEnd (l := _) hG _) rfl rfl (Nat.le_of_ble_eq_true rfl) (fun q8 => ?_)
    refine s_pop (n := 37) hX (dec_of D_X10_readLead (i := 19) rfl) rfl rfl ?_
    exact s_vret hX hR (dec_of D_X10_readLead (i := 20) rfl) rfl
  · refine s_if_eq (tgt := 12) (n := 7) hX (dec_of D_X10_readLead (i := 2) rfl) rfl rfl ?_ ?_
    · exact s_sub [0] rfl (hkk3 (σ))
    · refine s_aload_n 0 (n := 8) hX (dec_of D_X10_readLead (i := 3) rfl) rfl rfl rfl ?_
      refine s_iconst (v := 3) (n := 9) hX (dec_of D_X10_readLead (i := 4) rfl) rfl (by decide) ?_
      refine s_callVV (c := 10) (n := 12) hX cls10 (vk131 (by omega)) lk_RX10_145 (dec_of D_X10_readLead (i := 5) rfl) rfl (by decide) (c_X10_wrong (l := _) hG _ _) rfl rfl (Nat.le_of_ble_eq_true rfl) (fun q9 => ?_)
      exact s_sub [0] rfl (hkk3 q9)
def T_X10_readKeep : List (Nat × Instr × Nat) := [(0, .aload_n 0, 1), (1, .getfield 193, 3), (4, .ifCond .eq 8, 3), (7, .aload_n 0, 1), (8, .iconst 3, 1), (9, .invokevirtual 145, 3), (12, .aload_n 0, 1), (13, .iconst 1, 1), (14, .putfield 193, 3), (17, .aload_n 0, 1), (18, .invokevirtual 149, 3), (21, .aload_n 0, 1), (22, .aload_n 0, 1), (23, .iconst 1, 1), (24, .bipush 9, 2), (26, .invokevirtual 177, 3), (29, .putfield 196, 3), (32, .aload_n 0, 1), (33, .invokevirtual 180, 3), (36, .pop, 1), (37, .return_, 1)]
theorem D_X10_readKeep : dchk cX10_readKeep T_X10_readKeep = true := by decide +kernel
def Mo_readKeep (σ : ST)  : Option ST :=
  lk_ (fun kk2 => (if (gF σ 874 0) = 0 then kk2 (σ) else bd_ (Mo_wrong (σ) 3) (fun q9 => kk2 q9))) (fun (j1 : ST) => lt_ (setF j1 874 0 1) (fun s4 => bd_ (Mo_goOn s4) (fun q5 => bd_ (Mo_number q5 1 9) (fun q6 => lt_ (setF q6.2 872 0 q6.1) (fun s7 => bd_ (Mo_isEnd s7) (fun q8 => some q8.2))))))
set_option maxHeartbeats 4000000 in
set_option maxRecDepth 100000 in
theorem c_X10_readKeep {G : GW} (hG : Good G) {l : Launch} (σ : ST)  : Ctr G l yX10_readKeep cX10_readKeep 1 none 10 [.ref (ga G 131 0)] σ oV (Mo_readKeep σ ) := by
  refine ctr_of hG (by decide) (Nat.le_of_ble_eq_true rfl) ?_
  intro X hXl hR hX
  have hX : Ok G X cX10_readKeep 1 RX10 10 := hX
  unfold Mo_readKeep
  show Sim G X 1 (MQX G X oV) σ 0 [(0, .ref (ga G 131 0))] [] _
  refine s_aload_n 0 (n := 1) hX (dec_of D_X10_readKeep (i := 0) rfl) rfl rfl rfl ?_
  refine s_getI (c := 10) (p := 34) (id := 874) (n := 4) hX cls10 (vk131 (by omega)) (dec_of D_X10_readKeep (i := 1) rfl) rfl rfl wd_1380 ?_
  refine s_lk (pcj := 12) (Sf := fun (j1 : ST) => j1) (lvf := fun (j1 : ST) => [(0, .ref (ga G 131 0))]) (stf := fun (j1 : ST) => []) (fun j1 => ?_) (fun kk2 hkk3 => ?_)
  · refine s_aload_n 0 (n := 13) hX (dec_of D_X10_readKeep (i := 6) rfl) rfl rfl rfl ?_
    refine s_iconst (v := 1) (n := 14) hX (dec_of D_X10_readKeep (i := 7) rfl) rfl (by decide) ?_
    refine s_putI (c := 10) (p := 34) (n := 17) hX cls10 (vk131 (by omega)) (dec_of D_X10_readKeep (i := 8) rfl) rfl rfl (by decide) wd_1380 rfl rfl rfl (fun s4 => ?_)
    refine s_aload_n 0 (n := 18) hX (dec_of D_X10_readKeep (i := 9) rfl) rfl rfl rfl ?_
    refine s_callVV (c := 10) (n := 21) hX cls10 (vk131 (by omega)) lk_RX10_149 (dec_of D_X10_readKeep (i := 10) rfl) rfl (by decide) (c_X10_goOn (l := _) hG _) rfl rfl (Nat.le_of_ble_eq_true rfl) (fun q5 => ?_)
    refine s_aload_n 0 (n := 22) hX (dec_of D_X10_readKeep (i := 11) rfl) rfl rfl rfl ?_
    refine s_aload_n 0 (n := 23) hX (dec_of D_X10_readKeep (i := 12) rfl) rfl rfl rfl ?_
    refine s_iconst (v := 1) (n := 24) hX (dec_of D_X10_readKeep (i := 13) rfl) rfl (by decide) ?_
    refine s_bipush (v := 9) (n := 26) hX (dec_of D_X10_readKeep (i := 14) rfl) rfl (by decide) ?_
    refine s_callVP (c := 10) (n := 29) hX cls10 (vk131 (by omega)) lk_RX10_177 (dec_of D_X10_readKeep (i := 15) rfl) rfl (by decide) (c_X10_number (l := _) hG _ _ _) rfl rfl (Nat.le_of_ble_eq_true rfl) (fun q6 => ?_)
    refine s_putI (c := 10) (p := 32) (n := 32) hX cls10 (vk131 (by omega)) (dec_of D_X10_readKeep (i := 16) rfl) rfl rfl (by decide) wd_1378 rfl rfl rfl (fun s7 => ?_)
    refine s_aload_n 0 (n := 33) hX (dec_of D_X10_readKeep (i := 17) rfl) rfl rfl rfl ?_
    refine s_callVP (c := 10) (n := 36) hX cls10 (vk131 (by omega)) lk_RX10_180 (dec_of D_X10_readKeep (i := 18) rfl) rfl (by decide) (c_X10_isEnd (l := _) hG _) rfl rfl (Nat.le_of_ble_eq_true rfl) (fun q8 => ?_)
    refine s_pop (n := 37) hX (dec_of D_X10_readKeep (i := 19) rfl) rfl rfl ?_
    exact s_vret hX hR (dec_of D_X10_readKeep (i := 20) rfl) rfl
  · refine s_if_eq (tgt := 12) (n := 7) hX (dec_of D_X10_readKeep (i := 2) rfl) rfl rfl ?_ ?_
    · exact s_sub [0] rfl (hkk3 (σ))
    · refine s_aload_n 0 (n := 8) hX (dec_of D_X10_readKeep (i := 3) rfl) rfl rfl rfl ?_
      refine s_iconst (v := 3) (n := 9) hX (dec_of D_X10_readKeep (i := 4) rfl) rfl (by decide) ?_
      refine s_callVV (c := 10) (n := 12) hX cls10 (vk131 (by omega)) lk_RX10_145 (dec_of D_X10_readKeep (i := 5) rfl) rfl (by decide) (c_X10_wrong (l := _) hG _ _) rfl rfl (Nat.le_of_ble_eq_true rfl) (fun q9 => ?_)
      exact s_sub [0] rfl (hkk3 q9)
theorem lk_RX10_211 : LkV RX10 211 RX10 yX10_readKeep cX10_readKeep 1 none 0 := ⟨wd_1587, wd_1589, wd_33, wd_93, wd_1590, by decide +kernel, by decide⟩
theorem lk_RX10_208 : LkV RX10 208 RX10 yX10_readLead cX10_readLead 1 none 0 := ⟨wd_1583, wd_1585, wd_32, wd_93, wd_1586, by decide +kernel, by decide⟩
theorem lk_RX10_205 : LkV RX10 205 RX10 yX10_readSession cX10_readSession 2 none 0 := ⟨wd_1575, wd_1577, wd_30, wd_93, wd_1578, by decide +kernel, by decide⟩
theorem lk_RX10_202 : LkV RX10 202 RX10 yX10_readPlayer cX10_readPlayer 2 none 0 := ⟨wd_1571, wd_1573, wd_29, wd_93, wd_1574, by decide +kernel, by decide⟩
theorem lk_RX10_199 : LkV RX10 199 RX10 yX10_readLand cX10_readLand 3 none 0 := ⟨wd_1535, wd_1537, wd_20, wd_93, wd_1538, by decide +kernel, by decide⟩
def T_X10_readLine : List (Nat × Instr × Nat) := [(0, .aload_n 0, 1), (1, .getfield 105, 3), (4, .ifCond .ne 10, 3), (7, .aload_n 0, 1), (8, .getfield 118, 3), (11, .goto 4, 3), (14, .iconst (-1), 1), (15, .istore_n 1, 1), (16, .iload_n 1, 1), (17, .ifCond .ne 10, 3), (20, .aload_n 0, 1), (21, .invokevirtual 199, 3), (24, .goto 56, 3), (27, .iload_n 1, 1), (28, .iconst 1, 1), (29, .if_icmp .ne 10, 3), (32, .aload_n 0, 1), (33, .invokevirtual 202, 3), (36, .goto 44, 3), (39, .iload_n 1, 1), (40, .iconst 2, 1), (41, .if_icmp .ne 10, 3), (44, .aload_n 0, 1), (45, .invokevirtual 205, 3), (48, .goto 32, 3), (51, .iload_n 1, 1), (52, .iconst 4, 1), (53, .if_icmp .ne 10, 3), (56, .aload_n 0, 1), (57, .invokevirtual 208, 3), (60, .goto 20, 3), (63, .iload_n 1, 1), (64, .iconst 5, 1), (65, .if_icmp .ne 10, 3), (68, .aload_n 0, 1), (69, .invokevirtual 211, 3), (72, .goto 8, 3), (75, .aload_n 0, 1), (76, .iconst 1, 1), (77, .invokevirtual 145, 3), (80, .aload_n 0, 1), (81, .invokevirtual 149, 3), (84, .aload_n 0, 1), (85, .dup, 1), (86, .getfield 214, 3), (89, .iconst 1, 1), (90, .iadd, 1), (91, .putfield 214, 3), (94, .return_, 1)]
theorem D_X10_readLine : dchk cX10_readLine T_X10_readLine = true := by decide +kernel
def Mo_readLine (σ : ST)  : Option ST :=
  lk_ (fun kk2 => (if (gF σ 860 0) = 0 then kk2 (gF σ 861 0) else kk2 (-1))) (fun (j1 : Int32) => lk_ (fun kk5 => (if j1 = 0 then bd_ (Mo_readLand (σ)) (fun q14 => kk5 q14) else (if j1 = 1 then bd_ (Mo_readPlayer (σ)) (fun q13 => kk5 q13) else (if j1 = 2 then bd_ (Mo_readSession (σ)) (fun q12 => kk5 q12) else (if j1 = 4 then bd_ (Mo_readLead (σ)) (fun q11 => kk5 q11) else (if j1 = 5 then bd_ (Mo_readKeep (σ)) (fun q10 => kk5 q10) else bd_ (Mo_wrong (σ) 1) (fun q9 => kk5 q9))))))) (fun (j4 : ST) => bd_ (Mo_goOn j4) (fun q7 => lt_ (setF q7 870 0 ((gF q7 870 0) + 1)) (fun s8 => some s8))))
set_option maxHeartbeats 4000000 in
set_option maxRecDepth 100000 in
theorem c_X10_readLine {G : GW} (hG : Good G) {l : Launch} (σ : ST)  : Ctr G l yX10_readLine cX10_readLine 2 none 12 [.ref (ga G 131 0)] σ oV (Mo_readLine σ ) := by
  refine ctr_of hG (by decide) (Nat.le_of_ble_eq_true rfl) ?_
  intro X hXl hR hX
  have hX : Ok G X cX10_readLine 2 RX10 12 := hX
  unfold Mo_readLine
  show Sim G X 2 (MQX G X oV) σ 0 [(0, .ref (ga G 131 0))] [] _
  refine s_aload_n 0 (n := 1) hX (dec_of D_X10_readLine (i := 0) rfl) rfl rfl rfl ?_
  refine s_getI (c := 10) (p := 20) (id := 860) (n := 4) hX cls10 (vk131 (by omega)) (dec_of D_X10_readLine (i := 1) rfl) rfl rfl wd_1366 ?_
  refine s_lk (pcj := 15) (Sf := fun (j1 : Int32) => σ) (lvf := fun (j1 : Int32) => [(0, .ref (ga G 131 0))]) (stf := fun (j1 : Int32) => [.int j1]) (fun j1 => ?_) (fun kk2 hkk3 => ?_)
  · refine s_istore_n (lv' := [(0, _), (1, _)]) [1, 0] (n := 16) hX (dec_of D_X10_readLine (i := 7) rfl) rfl rfl (by decide) rfl ?_
    refine s_iload_n 1 (n := 17) hX (dec_of D_X10_readLine (i := 8) rfl) rfl rfl rfl ?_
    refine s_lk (pcj := 80) (Sf := fun (j4 : ST) => j4) (lvf := fun (j4 : ST) => [(0, .ref (ga G 131 0))]) (stf := fun (j4 : ST) => []) (fun j4 => ?_) (fun kk5 hkk6 => ?_)
    · refine s_aload_n 0 (n := 81) hX (dec_of D_X10_readLine (i := 40) rfl) rfl rfl rfl ?_
      refine s_callVV (c := 10) (n := 84) hX cls10 (vk131 (by omega)) lk_RX10_149 (dec_of D_X10_readLine (i := 41) rfl) rfl (by decide) (c_X10_goOn (l := _) hG _) rfl rfl (Nat.le_of_ble_eq_true rfl) (fun q7 => ?_)
      refine s_aload_n 0 (n := 85) hX (dec_of D_X10_readLine (i := 42) rfl) rfl rfl rfl ?_
      refine s_dup (n := 86) hX (dec_of D_X10_readLine (i := 43) rfl) rfl rfl ?_
      refine s_getI (c := 10) (p := 30) (id := 870) (n := 89) hX cls10 (vk131 (by omega)) (dec_of D_X10_readLine (i := 44) rfl) rfl rfl wd_1376 ?_
      refine s_iconst (v := 1) (n := 90) hX (dec_of D_X10_readLine (i := 45) rfl) rfl (by decide) ?_
      refine s_iadd (n := 91) hX (dec_of D_X10_readLine (i := 46) rfl) rfl ?_
      refine s_putI (c := 10) (p := 30) (n := 94) hX cls10 (vk131 (by omega)) (dec_of D_X10_readLine (i := 47) rfl) rfl rfl (by decide) wd_1376 rfl rfl rfl (fun s8 => ?_)
      exact s_vret hX hR (dec_of D_X10_readLine (i := 48) rfl) rfl
    · refine s_if_ne (tgt := 27) (n := 20) hX (dec_of D_X10_readLine (i := 9) rfl) rfl rfl ?_ ?_
      · refine s_iload_n 1 (n := 28) hX (dec_of D_X10_readLine (i := 13) rfl) rfl rfl rfl ?_
        refine s_iconst (v := 1) (n := 29) hX (dec_of D_X10_readLine (i := 14) rfl) rfl (by decide) ?_
        refine s_icmp_ne (tgt := 39) (n := 32) hX (dec_of D_X10_readLine (i := 15) rfl) rfl rfl ?_ ?_
        · refine s_iload_n 1 (n := 40) hX (dec_of D_X10_readLine (i := 19) rfl) rfl rfl rfl ?_
          refine s_iconst (v := 2) (n := 41) hX (dec_of D_X10_readLine (i := 20) rfl) rfl (by decide) ?_
          refine s_icmp_ne (tgt := 51) (n := 44) hX (dec_of D_X10_readLine (i := 21) rfl) rfl rfl ?_ ?_
          · refine s_iload_n 1 (n := 52) hX (dec_of D_X10_readLine (i := 25) rfl) rfl rfl rfl ?_
            refine s_iconst (v := 4) (n := 53) hX (dec_of D_X10_readLine (i := 26) rfl) rfl (by decide) ?_
            refine s_icmp_ne (tgt := 63) (n := 56) hX (dec_of D_X10_readLine (i := 27) rfl) rfl rfl ?_ ?_
            · refine s_iload_n 1 (n := 64) hX (dec_of D_X10_readLine (i := 31) rfl) rfl rfl rfl ?_
              refine s_iconst (v := 5) (n := 65) hX (dec_of D_X10_readLine (i := 32) rfl) rfl (by decide) ?_
              refine s_icmp_ne (tgt := 75) (n := 68) hX (dec_of D_X10_readLine (i := 33) rfl) rfl rfl ?_ ?_
              · refine s_aload_n 0 (n := 76) hX (dec_of D_X10_readLine (i := 37) rfl) rfl rfl rfl ?_
                refine s_iconst (v := 1) (n := 77) hX (dec_of D_X10_readLine (i := 38) rfl) rfl (by decide) ?_
                refine s_callVV (c := 10) (n := 80) hX cls10 (vk131 (by omega)) lk_RX10_145 (dec_of D_X10_readLine (i := 39) rfl) rfl (by decide) (c_X10_wrong (l := _) hG _ _) rfl rfl (Nat.le_of_ble_eq_true rfl) (fun q9 => ?_)
                exact s_sub [0] rfl (hkk6 q9)
              · refine s_aload_n 0 (n := 69) hX (dec_of D_X10_readLine (i := 34) rfl) rfl rfl rfl ?_
                refine s_callVV (c := 10) (n := 72) hX cls10 (vk131 (by omega)) lk_RX10_211 (dec_of D_X10_readLine (i := 35) rfl) rfl (by decide) (c_X10_readKeep (l := _) hG _) rfl rfl (Nat.le_of_ble_eq_true rfl) (fun q10 => ?_)
                refine s_goto (n := 80) hX (dec_of D_X10_readLine (i := 36) rfl) rfl ?_
                exact s_sub [0] rfl (hkk6 q10)
            · refine s_aload_n 0 (n := 57) hX (dec_of D_X10_readLine (i := 28) rfl) rfl rfl rfl ?_
              refine s_callVV (c := 10) (n := 60) hX cls10 (vk131 (by omega)) lk_RX10_208 (dec_of D_X10_readLine (i := 29) rfl) rfl (by decide) (c_X10_readLead (l := _) hG _) rfl rfl (Nat.le_of_ble_eq_true rfl) (fun q11 => ?_)
              refine s_goto (n := 80) hX (dec_of D_X10_readLine (i := 30) rfl) rfl ?_
              exact s_sub [0] rfl (hkk6 q11)
          · refine s_aload_n 0 (n := 45) hX (dec_of D_X10_readLine (i := 22) rfl) rfl rfl rfl ?_
            refine s_callVV (c := 10) (n := 48) hX cls10 (vk131 (by omega)) lk_RX10_205 (dec_of D_X10_readLine (i := 23) rfl) rfl (by decide) (c_X10_readSession (l := _) hG _) rfl rfl (Nat.le_of_ble_eq_true rfl) (fun q12 => ?_)
            refine s_goto (n := 80) hX (dec_of D_X10_readLine (i := 24) rfl) rfl ?_
            exact s_sub [0] rfl (hkk6 q12)
        · refine s_aload_n 0 (n := 33) hX (dec_of D_X10_readLine (i := 16) rfl) rfl rfl rfl ?_
          refine s_callVV (c := 10) (n := 36) hX cls10 (vk131 (by omega)) lk_RX10_202 (dec_of D_X10_readLine (i := 17) rfl) rfl (by decide) (c_X10_readPlayer (l := _) hG _) rfl rfl (Nat.le_of_ble_eq_true rfl) (fun q13 => ?_)
          refine s_goto (n := 80) hX (dec_of D_X10_readLine (i := 18) rfl) rfl ?_
          exact s_sub [0] rfl (hkk6 q13)
      · refine s_aload_n 0 (n := 21) hX (dec_of D_X10_readLine (i := 10) rfl) rfl rfl rfl ?_
        refine s_callVV (c := 10) (n := 24) hX cls10 (vk131 (by omega)) lk_RX10_199 (dec_of D_X10_readLine (i := 11) rfl) rfl (by decide) (c_X10_readLand (l := _) hG _) rfl rfl (Nat.le_of_ble_eq_true rfl) (fun q14 => ?_)
        refine s_goto (n := 80) hX (dec_of D_X10_readLine (i := 12) rfl) rfl ?_
        exact s_sub [0] rfl (hkk6 q14)
  · refine s_if_ne (tgt := 14) (n := 7) hX (dec_of D_X10_readLine (i := 2) rfl) rfl rfl ?_ ?_
    · refine s_iconst (v := (-1)) (n := 15) hX (dec_of D_X10_readLine (i := 6) rfl) rfl (by decide) ?_
      exact s_sub [0] rfl (hkk3 (-1))
    · refine s_aload_n 0 (n := 8) hX (dec_of D_X10_readLine (i := 3) rfl) rfl rfl rfl ?_
      refine s_getI (c := 10) (p := 21) (id := 861) (n := 11) hX cls10 (vk131 (by omega)) (dec_of D_X10_readLine (i := 4) rfl) rfl rfl wd_1367 ?_
      refine s_goto (n := 15) hX (dec_of D_X10_readLine (i := 5) rfl) rfl ?_
      exact s_sub [0] rfl (hkk3 (gF σ 861 0))
theorem lk_RX10_83 : LkV RX10 83 RX10 yX10_opens cX10_opens 2 none 0 := ⟨wd_1342, wd_1344, wd_15, wd_93, wd_1345, by decide +kernel, by decide⟩
def T_X10_takesText : List (Nat × Instr × Nat) := [(0, .iconst 0, 1), (1, .istore_n 1, 1), (2, .iload_n 1, 1), (3, .sipush 2689, 3), (6, .if_icmp .ge 16, 3), (9, .aload_n 0, 1), (10, .getfield 28, 3), (13, .iload_n 1, 1), (14, .iconst 0, 1), (15, .iastore, 1), (16, .iinc 1 1, 3), (19, .goto (-17), 3), (22, .aload_n 0, 1), (23, .invokevirtual 83, 3), (26, .iconst 0, 1), (27, .istore_n 1, 1), (28, .iload_n 1, 1), (29, .aload_n 0, 1), (30, .getfield 156, 3), (33, .if_icmp .ge 53, 3), (36, .aload_n 0, 1), (37, .getfield 13, 3), (40, .iload_n 1, 1), (41, .aload_n 0, 1), (42, .getfield 53, 3), (45, .iload_n 1, 1), (46, .iaload, 1), (47, .iastore, 1), (48, .aload_n 0, 1), (49, .getfield 28, 3), (52, .sipush 2660, 3), (55, .iload_n 1, 1), (56, .iadd, 1), (57, .aload_n 0, 1), (58, .getfield 47, 3), (61, .iload_n 1, 1), (62, .iaload, 1), (63, .iastore, 1), (64, .aload_n 0, 1), (65, .getfield 28, 3), (68, .sipush 2666, 3), (71, .iload_n 1, 1), (72, .iadd, 1), (73, .aload_n 0, 1), (74, .getfield 50, 3), (77, .iload_n 1, 1), (78, .iaload, 1), (79, .iastore, 1), (80, .iinc 1 1, 3), (83, .goto (-55), 3), (86, .iconst 0, 1), (87, .istore_n 1, 1), (88, .iload_n 1, 1), (89, .aload_n 0, 1), (90, .getfield 163, 3), (93, .if_icmp .ge 25, 3), (96, .aload_n 0, 1), (97, .getfield 28, 3), (100, .sipush 2672, 3), (103, .iload_n 1, 1), (104, .iadd, 1), (105, .aload_n 0, 1), (106, .getfield 56, 3), (109, .iload_n 1, 1), (110, .iaload, 1), (111, .iastore, 1), (112, .iinc 1 1, 3), (115, .goto (-27), 3), (118, .iconst 0, 1), (119, .istore_n 1, 1), (120, .iload_n 1, 1), (121, .bipush 64, 2), (123, .if_icmp .ge 33, 3), (126, .aload_n 0, 1), (127, .getfield 16, 3), (130, .iload_n 1, 1), (131, .aload_n 0, 1), (132, .getfield 59, 3), (135, .iload_n 1, 1), (136, .iaload, 1), (137, .iastore, 1), (138, .aload_n 0, 1), (139, .getfield 19, 3), (142, .iload_n 1, 1), (143, .aload_n 0, 1), (144, .getfield 62, 3), (147, .iload_n 1, 1), (148, .iaload, 1), (149, .iastore, 1), (150, .iinc 1 1, 3), (153, .goto (-33), 3), (156, .iconst 0, 1), (157, .istore_n 1, 1), (158, .iload_n 1, 1), (159, .bipush 8, 2), (161, .if_icmp .ge 33, 3), (164, .aload_n 0, 1), (165, .getfield 22, 3), (168, .iload_n 1, 1), (169, .aload_n 0, 1), (170, .getfield 65, 3), (173, .iload_n 1, 1), (174, .iaload, 1), (175, .iastore, 1), (176, .aload_n 0, 1), (177, .getfield 25, 3), (180, .iload_n 1, 1), (181, .aload_n 0, 1), (182, .getfield 68, 3), (185, .iload_n 1, 1), (186, .iaload, 1), (187, .iastore, 1), (188, .iinc 1 1, 3), (191, .goto (-33), 3), (194, .aload_n 0, 1), (195, .aload_n 0, 1), (196, .getfield 156, 3), (199, .putfield 229, 3), (202, .aload_n 0, 1), (203, .aload_n 0, 1), (204, .getfield 163, 3), (207, .putfield 232, 3), (210, .aload_n 0, 1), (211, .aload_n 0, 1), (212, .getfield 166, 3), (215, .putfield 235, 3), (218, .aload_n 0, 1), (219, .aload_n 0, 1), (220, .getfield 214, 3), (223, .putfield 226, 3), (226, .aload_n 0, 1), (227, .aload_n 0, 1), (228, .getfield 190, 3), (231, .putfield 77, 3), (234, .aload_n 0, 1), (235, .aload_n 0, 1), (236, .getfield 196, 3), (239, .putfield 80, 3), (242, .aload_n 0, 1), (243, .iconst 0, 1), (244, .putfield 238, 3), (247, .return_, 1)]
theorem D_X10_takesText : dchk cX10_takesText T_X10_takesText = true := by decide +kernel
def Mo_takesText (σ : ST)  : Option ST :=
  lp_ (fun rec2 (z1 : ST × Int32) => (if 2689 ≤ z1.2 then bd_ (Mo_opens z1.1) (fun q4 => lp_ (fun rec6 (z5 : ST × Int32) => (if (gF z5.1 867 0) ≤ z5.2 then lp_ (fun rec9 (z8 : ST × Int32) => (if (gF z8.1 868 0) ≤ z8.2 then lp_ (fun rec12 (z11 : ST × Int32) => (if 64 ≤ z11.2 then lp_ (fun rec15 (z14 : ST × Int32) => (if 8 ≤ z14.2 then lt_ (setF z14.1 850 0 (gF z14.1 867 0)) (fun s17 => lt_ (setF s17 851 0 (gF s17 868 0)) (fun s18 => lt_ (setF s18 852 0 (gF s18 869 0)) (fun s19 => lt_ (setF s19 853 0 (gF s19 870 0)) (fun s20 => lt_ (setF s20 848 0 (gF s20 871 0)) (fun s21 => lt_ (setF s21 849 0 (gF s21 872 0)) (fun s22 => lt_ (setF s22 856 0 0) (fun s23 => some s23))))))) else bd_ (ldI z14.1 45 0 z14.2) (fun v24 => bd_ (stI z14.1 32 0 z14.2 v24) (fun s25 => bd_ (ldI s25 46 0 z14.2) (fun v26 => bd_ (stI s25 33 0 z14.2 v26) (fun s27 => rec15 (s27, (z14.2 + 1)))))))) FU (z11.1, 0) else bd_ (ldI z11.1 43 0 z11.2) (fun v28 => bd_ (stI z11.1 30 0 z11.2 v28) (fun s29 => bd_ (ldI s29 44 0 z11.2) (fun v30 => bd_ (stI s29 31 0 z11.2 v30) (fun s31 => rec12 (s31, (z11.2 + 1)))))))) FU (z8.1, 0) else bd_ (ldI z8.1 42 0 z8.2) (fun v32 => bd_ (stI z8.1 34 0 (2672 + z8.2) v32) (fun s33 => rec9 (s33, (z8.2 + 1)))))) FU (z5.1, 0) else bd_ (ldI z5.1 41 0 z5.2) (fun v34 => bd_ (stI z5.1 29 0 z5.2 v34) (fun s35 => bd_ (ldI s35 39 0 z5.2) (fun v36 => bd_ (stI s35 34 0 (2660 + z5.2) v36) (fun s37 => bd_ (ldI s37 40 0 z5.2) (fun v38 => bd_ (stI s37 34 0 (2666 + z5.2) v38) (fun s39 => rec6 (s39, (z5.2 + 1)))))))))) FU (q4, 0)) else bd_ (stI z1.1 34 0 z1.2 0) (fun s40 => rec2 (s40, (z1.2 + 1))))) FU (σ, 0)
set_option maxHeartbeats 4000000 in
set_option maxRecDepth 100000 in
theorem c_X10_takesText {G : GW} (hG : Good G) {l : Launch} (σ : ST)  : Ctr G l yX10_takesText cX10_takesText 2 none 1 [.ref (ga G 131 0)] σ oV (Mo_takesText σ ) := by
  refine ctr_of hG (by decide) (Nat.le_of_ble_eq_true rfl) ?_
  intro X hXl hR hX
  have hX : Ok G X cX10_takesText 2 RX10 1 := hX
  unfold Mo_takesText
  show Sim G X 2 (MQX G X oV) σ 0 [(0, .ref (ga G 131 0))] [] _
  refine s_iconst (v := 0) (n := 1) hX (dec_of D_X10_takesText (i := 0) rfl) rfl (by decide) ?_
  refine s_istore_n (lv' := [(0, _), (1, _)]) [1, 0] (n := 2) hX (dec_of D_X10_takesText (i := 1) rfl) rfl rfl (by decide) rfl ?_
  refine s_sub [0, 1] rfl (s_lp (pc := 2) (Sf := fun (z1 : ST × Int32) => z1.1) (lvf := fun (z1 : ST × Int32) => [(0, .ref (ga G 131 0)), (1, .int z1.2)]) (fun rec2 hre3 z1 => ?_) FU (σ, 0))
  refine s_iload_n 1 (n := 3) hX (dec_of D_X10_takesText (i := 2) rfl) rfl rfl rfl ?_
  refine s_sipush (v := 2689) (n := 6) hX (dec_of D_X10_takesText (i := 3) rfl) rfl (by decide) ?_
  refine s_icmp_ge (tgt := 22) (n := 9) hX (dec_of D_X10_takesText (i := 4) rfl) rfl rfl ?_ ?_
  · refine s_aload_n 0 (n := 23) hX (dec_of D_X10_takesText (i := 12) rfl) rfl rfl rfl ?_
    refine s_callVV (c := 10) (n := 26) hX cls10 (vk131 (by omega)) lk_RX10_83 (dec_of D_X10_takesText (i := 13) rfl) rfl (by decide) (c_X10_opens (l := _) hG _) rfl rfl (Nat.le_of_ble_eq_true rfl) (fun q4 => ?_)
    refine s_iconst (v := 0) (n := 27) hX (dec_of D_X10_takesText (i := 14) rfl) rfl (by decide) ?_
    refine s_istore_n (lv' := [(0, _), (1, _)]) [1, 0] (n := 28) hX (dec_of D_X10_takesText (i := 15) rfl) rfl rfl (by decide) rfl ?_
    refine s_sub [0, 1] rfl (s_lp (pc := 28) (Sf := fun (z5 : ST × Int32) => z5.1) (lvf := fun (z5 : ST × Int32) => [(0, .ref (ga G 131 0)), (1, .int z5.2)]) (fun rec6 hre7 z5 => ?_) FU (q4, 0))
    refine s_iload_n 1 (n := 29) hX (dec_of D_X10_takesText (i := 16) rfl) rfl rfl rfl ?_
    refine s_aload_n 0 (n := 30) hX (dec_of D_X10_takesText (i := 17) rfl) rfl rfl rfl ?_
    refine s_getI (c := 10) (p := 27) (id := 867) (n := 33) hX cls10 (vk131 (by omega)) (dec_of D_X10_takesText (i := 18) rfl) rfl rfl wd_1373 ?_
    refine s_icmp_ge (tgt := 86) (n := 36) hX (dec_of D_X10_takesText (i := 19) rfl) rfl rfl ?_ ?_
    · refine s_iconst (v := 0) (n := 87) hX (dec_of D_X10_takesText (i := 50) rfl) rfl (by decide) ?_
      refine s_istore_n (lv' := [(0, _), (1, _)]) [1, 0] (n := 88) hX (dec_of D_X10_takesText (i := 51) rfl) rfl rfl (by decide) rfl ?_
      refine s_sub [0, 1] rfl (s_lp (pc := 88) (Sf := fun (z8 : ST × Int32) => z8.1) (lvf := fun (z8 : ST × Int32) => [(0, .ref (ga G 131 0)), (1, .int z8.2)]) (fun rec9 hre10 z8 => ?_) FU (z5.1, 0))
      refine s_iload_n 1 (n := 89) hX (dec_of D_X10_takesText (i := 52) rfl) rfl rfl rfl ?_
      refine s_aload_n 0 (n := 90) hX (dec_of D_X10_takesText (i := 53) rfl) rfl rfl rfl ?_
      refine s_getI (c := 10) (p := 28) (id := 868) (n := 93) hX cls10 (vk131 (by omega)) (dec_of D_X10_takesText (i := 54) rfl) rfl rfl wd_1374 ?_
      refine s_icmp_ge (tgt := 118) (n := 96) hX (dec_of D_X10_takesText (i := 55) rfl) rfl rfl ?_ ?_
      · refine s_iconst (v := 0) (n := 119) hX (dec_of D_X10_takesText (i := 68) rfl) rfl (by decide) ?_
        refine s_istore_n (lv' := [(0, _), (1, _)]) [1, 0] (n := 120) hX (dec_of D_X10_takesText (i := 69) rfl) rfl rfl (by decide) rfl ?_
        refine s_sub [0, 1] rfl (s_lp (pc := 120) (Sf := fun (z11 : ST × Int32) => z11.1) (lvf := fun (z11 : ST × Int32) => [(0, .ref (ga G 131 0)), (1, .int z11.2)]) (fun rec12 hre13 z11 => ?_) FU (z8.1, 0))
        refine s_iload_n 1 (n := 121) hX (dec_of D_X10_takesText (i := 70) rfl) rfl rfl rfl ?_
        refine s_bipush (v := 64) (n := 123) hX (dec_of D_X10_takesText (i := 71) rfl) rfl (by decide) ?_
        refine s_icmp_ge (tgt := 156) (n := 126) hX (dec_of D_X10_takesText (i := 72) rfl) rfl rfl ?_ ?_
        · refine s_iconst (v := 0) (n := 157) hX (dec_of D_X10_takesText (i := 91) rfl) rfl (by decide) ?_
          refine s_istore_n (lv' := [(0, _), (1, _)]) [1, 0] (n := 158) hX (dec_of D_X10_takesText (i := 92) rfl) rfl rfl (by decide) rfl ?_
          refine s_sub [0, 1] rfl (s_lp (pc := 158) (Sf := fun (z14 : ST × Int32) => z14.1) (lvf := fun (z14 : ST × Int32) => [(0, .ref (ga G 131 0)), (1, .int z14.2)]) (fun rec15 hre16 z14 => ?_) FU (z11.1, 0))
          refine s_iload_n 1 (n := 159) hX (dec_of D_X10_takesText (i := 93) rfl) rfl rfl rfl ?_
          refine s_bipush (v := 8) (n := 161) hX (dec_of D_X10_takesText (i := 94) rfl) rfl (by decide) ?_
          refine s_icmp_ge (tgt := 194) (n := 164) hX (dec_of D_X10_takesText (i := 95) rfl) rfl rfl ?_ ?_
          · refine s_aload_n 0 (n := 195) hX (dec_of D_X10_takesText (i := 114) rfl) rfl rfl rfl ?_
            refine s_aload_n 0 (n := 196) hX (dec_of D_X10_takesText (i := 115) rfl) rfl rfl rfl ?_
            refine s_getI (c := 10) (p := 27) (id := 867) (n := 199) hX cls10 (vk131 (by omega)) (dec_of D_X10_takesText (i := 116) rfl) rfl rfl wd_1373 ?_
            refine s_putI (c := 10) (p := 10) (n := 202) hX cls10 (vk131 (by omega)) (dec_of D_X10_takesText (i := 117) rfl) rfl rfl (by decide) wd_1356 rfl rfl rfl (fun s17 => ?_)
            refine s_aload_n 0 (n := 203) hX (dec_of D_X10_takesText (i := 118) rfl) rfl rfl rfl ?_
            refine s_aload_n 0 (n := 204) hX (dec_of D_X10_takesText (i := 119) rfl) rfl rfl rfl ?_
            refine s_getI (c := 10) (p := 28) (id := 868) (n := 207) hX cls10 (vk131 (by omega)) (dec_of D_X10_takesText (i := 120) rfl) rfl rfl wd_1374 ?_
            refine s_putI (c := 10) (p := 11) (n := 210) hX cls10 (vk131 (by omega)) (dec_of D_X10_takesText (i := 121) rfl) rfl rfl (by decide) wd_1357 rfl rfl rfl (fun s18 => ?_)
            refine s_aload_n 0 (n := 211) hX (dec_of D_X10_takesText (i := 122) rfl) rfl rfl rfl ?_
            refine s_aload_n 0 (n := 212) hX (dec_of D_X10_takesText (i := 123) rfl) rfl rfl rfl ?_
            refine s_getI (c := 10) (p := 29) (id := 869) (n := 215) hX cls10 (vk131 (by omega)) (dec_of D_X10_takesText (i := 124) rfl) rfl rfl wd_1375 ?_
            refine s_putI (c := 10) (p := 12) (n := 218) hX cls10 (vk131 (by omega)) (dec_of D_X10_takesText (i := 125) rfl) rfl rfl (by decide) wd_1358 rfl rfl rfl (fun s19 => ?_)
            refine s_aload_n 0 (n := 219) hX (dec_of D_X10_takesText (i := 126) rfl) rfl rfl rfl ?_
            refine s_aload_n 0 (n := 220) hX (dec_of D_X10_takesText (i := 127) rfl) rfl rfl rfl ?_
            refine s_getI (c := 10) (p := 30) (id := 870) (n := 223) hX cls10 (vk131 (by omega)) (dec_of D_X10_takesText (i := 128) rfl) rfl rfl wd_1376 ?_
            refine s_putI (c := 10) (p := 13) (n := 226) hX cls10 (vk131 (by omega)) (dec_of D_X10_takesText (i := 129) rfl) rfl rfl (by decide) wd_1359 rfl rfl rfl (fun s20 => ?_)
            refine s_aload_n 0 (n := 227) hX (dec_of D_X10_takesText (i := 130) rfl) rfl rfl rfl ?_
            refine s_aload_n 0 (n := 228) hX (dec_of D_X10_takesText (i := 131) rfl) rfl rfl rfl ?_
            refine s_getI (c := 10) (p := 31) (id := 871) (n := 231) hX cls10 (vk131 (by omega)) (dec_of D_X10_takesText (i := 132) rfl) rfl rfl wd_1377 ?_
            refine s_putI (c := 10) (p := 8) (n := 234) hX cls10 (vk131 (by omega)) (dec_of D_X10_takesText (i := 133) rfl) rfl rfl (by decide) wd_1354 rfl rfl rfl (fun s21 => ?_)
            refine s_aload_n 0 (n := 235) hX (dec_of D_X10_takesText (i := 134) rfl) rfl rfl rfl ?_
            refine s_aload_n 0 (n := 236) hX (dec_of D_X10_takesText (i := 135) rfl) rfl rfl rfl ?_
            refine s_getI (c := 10) (p := 32) (id := 872) (n := 239) hX cls10 (vk131 (by omega)) (dec_of D_X10_takesText (i := 136) rfl) rfl rfl wd_1378 ?_
            refine s_putI (c := 10) (p := 9) (n := 242) hX cls10 (vk131 (by omega)) (dec_of D_X10_takesText (i := 137) rfl) rfl rfl (by decide) wd_1355 rfl rfl rfl (fun s22 => ?_)
            refine s_aload_n 0 (n := 243) hX (dec_of D_X10_takesText (i := 138) rfl) rfl rfl rfl ?_
            refine s_iconst (v := 0) (n := 244) hX (dec_of D_X10_takesText (i := 139) rfl) rfl (by decide) ?_
            refine s_putI (c := 10) (p := 16) (n := 247) hX cls10 (vk131 (by omega)) (dec_of D_X10_takesText (i := 140) rfl) rfl rfl (by decide) wd_1362 rfl rfl rfl (fun s23 => ?_)
            exact s_vret hX hR (dec_of D_X10_takesText (i := 141) rfl) rfl
          · refine s_aload_n 0 (n := 165) hX (dec_of D_X10_takesText (i := 96) rfl) rfl rfl rfl ?_
            refine s_getR (c := 10) (p := 6) (k' := 32) (n := 168) hX cls10 (vk131 (by omega)) (dec_of D_X10_takesText (i := 97) rfl) rfl rfl wd_1352 ?_
            refine s_iload_n 1 (n := 169) hX (dec_of D_X10_takesText (i := 98) rfl) rfl rfl rfl ?_
            refine s_aload_n 0 (n := 170) hX (dec_of D_X10_takesText (i := 99) rfl) rfl rfl rfl ?_
            refine s_getR (c := 10) (p := 44) (k' := 45) (n := 173) hX cls10 (vk131 (by omega)) (dec_of D_X10_takesText (i := 100) rfl) rfl rfl wd_1390 ?_
            refine s_iload_n 1 (n := 174) hX (dec_of D_X10_takesText (i := 101) rfl) rfl rfl rfl ?_
            refine s_iald (n := 175) hX (vk45 (by omega)) (by decide) (dec_of D_X10_takesText (i := 102) rfl) rfl (fun v24 => ?_)
            refine s_iast (n := 176) hX (vk32 (by omega)) (by decide) (dec_of D_X10_takesText (i := 103) rfl) rfl (fun s25 => ?_)
            refine s_aload_n 0 (n := 177) hX (dec_of D_X10_takesText (i := 104) rfl) rfl rfl rfl ?_
            refine s_getR (c := 10) (p := 7) (k' := 33) (n := 180) hX cls10 (vk131 (by omega)) (dec_of D_X10_takesText (i := 105) rfl) rfl rfl wd_1353 ?_
            refine s_iload_n 1 (n := 181) hX (dec_of D_X10_takesText (i := 106) rfl) rfl rfl rfl ?_
            refine s_aload_n 0 (n := 182) hX (dec_of D_X10_takesText (i := 107) rfl) rfl rfl rfl ?_
            refine s_getR (c := 10) (p := 45) (k' := 46) (n := 185) hX cls10 (vk131 (by omega)) (dec_of D_X10_takesText (i := 108) rfl) rfl rfl wd_1391 ?_
            refine s_iload_n 1 (n := 186) hX (dec_of D_X10_takesText (i := 109) rfl) rfl rfl rfl ?_
            refine s_iald (n := 187) hX (vk46 (by omega)) (by decide) (dec_of D_X10_takesText (i := 110) rfl) rfl (fun v26 => ?_)
            refine s_iast (n := 188) hX (vk33 (by omega)) (by decide) (dec_of D_X10_takesText (i := 111) rfl) rfl (fun s27 => ?_)
            refine s_iinc (v := z14.2 + 1) (lv' := [(0, _), (1, _)]) 1 [1, 0] (n := 191) hX (dec_of D_X10_takesText (i := 112) rfl) rfl rfl rfl (by decide) rfl ?_
            refine s_goto (n := 158) hX (dec_of D_X10_takesText (i := 113) rfl) rfl ?_
            exact s_sub [0, 1] rfl (hre16 (s27, (z14.2 + 1)))
        · refine s_aload_n 0 (n := 127) hX (dec_of D_X10_takesText (i := 73) rfl) rfl rfl rfl ?_
          refine s_getR (c := 10) (p := 4) (k' := 30) (n := 130) hX cls10 (vk131 (by omega)) (dec_of D_X10_takesText (i := 74) rfl) rfl rfl wd_1350 ?_
          refine s_iload_n 1 (n := 131) hX (dec_of D_X10_takesText (i := 75) rfl) rfl rfl rfl ?_
          refine s_aload_n 0 (n := 132) hX (dec_of D_X10_takesText (i := 76) rfl) rfl rfl rfl ?_
          refine s_getR (c := 10) (p := 42) (k' := 43) (n := 135) hX cls10 (vk131 (by omega)) (dec_of D_X10_takesText (i := 77) rfl) rfl rfl wd_1388 ?_
          refine s_iload_n 1 (n := 136) hX (dec_of D_X10_takesText (i := 78) rfl) rfl rfl rfl ?_
          refine s_iald (n := 137) hX (vk43 (by omega)) (by decide) (dec_of D_X10_takesText (i := 79) rfl) rfl (fun v28 => ?_)
          refine s_iast (n := 138) hX (vk30 (by omega)) (by decide) (dec_of D_X10_takesText (i := 80) rfl) rfl (fun s29 => ?_)
          refine s_aload_n 0 (n := 139) hX (dec_of D_X10_takesText (i := 81) rfl) rfl rfl rfl ?_
          refine s_getR (c := 10) (p := 5) (k' := 31) (n := 142) hX cls10 (vk131 (by omega)) (dec_of D_X10_takesText (i := 82) rfl) rfl rfl wd_1351 ?_
          refine s_iload_n 1 (n := 143) hX (dec_of D_X10_takesText (i := 83) rfl) rfl rfl rfl ?_
          refine s_aload_n 0 (n := 144) hX (dec_of D_X10_takesText (i := 84) rfl) rfl rfl rfl ?_
          refine s_getR (c := 10) (p := 43) (k' := 44) (n := 147) hX cls10 (vk131 (by omega)) (dec_of D_X10_takesText (i := 85) rfl) rfl rfl wd_1389 ?_
          refine s_iload_n 1 (n := 148) hX (dec_of D_X10_takesText (i := 86) rfl) rfl rfl rfl ?_
          refine s_iald (n := 149) hX (vk44 (by omega)) (by decide) (dec_of D_X10_takesText (i := 87) rfl) rfl (fun v30 => ?_)
          refine s_iast (n := 150) hX (vk31 (by omega)) (by decide) (dec_of D_X10_takesText (i := 88) rfl) rfl (fun s31 => ?_)
          refine s_iinc (v := z11.2 + 1) (lv' := [(0, _), (1, _)]) 1 [1, 0] (n := 153) hX (dec_of D_X10_takesText (i := 89) rfl) rfl rfl rfl (by decide) rfl ?_
          refine s_goto (n := 120) hX (dec_of D_X10_takesText (i := 90) rfl) rfl ?_
          exact s_sub [0, 1] rfl (hre13 (s31, (z11.2 + 1)))
      · refine s_aload_n 0 (n := 97) hX (dec_of D_X10_takesText (i := 56) rfl) rfl rfl rfl ?_
        refine s_getR (c := 10) (p := 14) (k' := 34) (n := 100) hX cls10 (vk131 (by omega)) (dec_of D_X10_takesText (i := 57) rfl) rfl rfl wd_1360 ?_
        refine s_sipush (v := 2672) (n := 103) hX (dec_of D_X10_takesText (i := 58) rfl) rfl (by decide) ?_
        refine s_iload_n 1 (n := 104) hX (dec_of D_X10_takesText (i := 59) rfl) rfl rfl rfl ?_
        refine s_iadd (n := 105) hX (dec_of D_X10_takesText (i := 60) rfl) rfl ?_
        refine s_aload_n 0 (n := 106) hX (dec_of D_X10_takesText (i := 61) rfl) rfl rfl rfl ?_
        refine s_getR (c := 10) (p := 41) (k' := 42) (n := 109) hX cls10 (vk131 (by omega)) (dec_of D_X10_takesText (i := 62) rfl) rfl rfl wd_1387 ?_
        refine s_iload_n 1 (n := 110) hX (dec_of D_X10_takesText (i := 63) rfl) rfl rfl rfl ?_
        refine s_iald (n := 111) hX (vk42 (by omega)) (by decide) (dec_of D_X10_takesText (i := 64) rfl) rfl (fun v32 => ?_)
        refine s_iast (n := 112) hX (vk34 (by omega)) (by decide) (dec_of D_X10_takesText (i := 65) rfl) rfl (fun s33 => ?_)
        refine s_iinc (v := z8.2 + 1) (lv' := [(0, _), (1, _)]) 1 [1, 0] (n := 115) hX (dec_of D_X10_takesText (i := 66) rfl) rfl rfl rfl (by decide) rfl ?_
        refine s_goto (n := 88) hX (dec_of D_X10_takesText (i := 67) rfl) rfl ?_
        exact s_sub [0, 1] rfl (hre10 (s33, (z8.2 + 1)))
    · refine s_aload_n 0 (n := 37) hX (dec_of D_X10_takesText (i := 20) rfl) rfl rfl rfl ?_
      refine s_getR (c := 10) (p := 3) (k' := 29) (n := 40) hX cls10 (vk131 (by omega)) (dec_of D_X10_takesText (i := 21) rfl) rfl rfl wd_1349 ?_
      refine s_iload_n 1 (n := 41) hX (dec_of D_X10_takesText (i := 22) rfl) rfl rfl rfl ?_
      refine s_aload_n 0 (n := 42) hX (dec_of D_X10_takesText (i := 23) rfl) rfl rfl rfl ?_
      refine s_getR (c := 10) (p := 40) (k' := 41) (n := 45) hX cls10 (vk131 (by omega)) (dec_of D_X10_takesText (i := 24) rfl) rfl rfl wd_1386 ?_
      refine s_iload_n 1 (n := 46) hX (dec_of D_X10_takesText (i := 25) rfl) rfl rfl rfl ?_
      refine s_iald (n := 47) hX (vk41 (by omega)) (by decide) (dec_of D_X10_takesText (i := 26) rfl) rfl (fun v34 => ?_)
      refine s_iast (n := 48) hX (vk29 (by omega)) (by decide) (dec_of D_X10_takesText (i := 27) rfl) rfl (fun s35 => ?_)
      refine s_aload_n 0 (n := 49) hX (dec_of D_X10_takesText (i := 28) rfl) rfl rfl rfl ?_
      refine s_getR (c := 10) (p := 14) (k' := 34) (n := 52) hX cls10 (vk131 (by omega)) (dec_of D_X10_takesText (i := 29) rfl) rfl rfl wd_1360 ?_
      refine s_sipush (v := 2660) (n := 55) hX (dec_of D_X10_takesText (i := 30) rfl) rfl (by decide) ?_
      refine s_iload_n 1 (n := 56) hX (dec_of D_X10_takesText (i := 31) rfl) rfl rfl rfl ?_
      refine s_iadd (n := 57) hX (dec_of D_X10_takesText (i := 32) rfl) rfl ?_
      refine s_aload_n 0 (n := 58) hX (dec_of D_X10_takesText (i := 33) rfl) rfl rfl rfl ?_
      refine s_getR (c := 10) (p := 38) (k' := 39) (n := 61) hX cls10 (vk131 (by omega)) (dec_of D_X10_takesText (i := 34) rfl) rfl rfl wd_1384 ?_
      refine s_iload_n 1 (n := 62) hX (dec_of D_X10_takesText (i := 35) rfl) rfl rfl rfl ?_
      refine s_iald (n := 63) hX (vk39 (by omega)) (by decide) (dec_of D_X10_takesText (i := 36) rfl) rfl (fun v36 => ?_)
      refine s_iast (n := 64) hX (vk34 (by omega)) (by decide) (dec_of D_X10_takesText (i := 37) rfl) rfl (fun s37 => ?_)
      refine s_aload_n 0 (n := 65) hX (dec_of D_X10_takesText (i := 38) rfl) rfl rfl rfl ?_
      refine s_getR (c := 10) (p := 14) (k' := 34) (n := 68) hX cls10 (vk131 (by omega)) (dec_of D_X10_takesText (i := 39) rfl) rfl rfl wd_1360 ?_
      refine s_sipush (v := 2666) (n := 71) hX (dec_of D_X10_takesText (i := 40) rfl) rfl (by decide) ?_
      refine s_iload_n 1 (n := 72) hX (dec_of D_X10_takesText (i := 41) rfl) rfl rfl rfl ?_
      refine s_iadd (n := 73) hX (dec_of D_X10_takesText (i := 42) rfl) rfl ?_
      refine s_aload_n 0 (n := 74) hX (dec_of D_X10_takesText (i := 43) rfl) rfl rfl rfl ?_
      refine s_getR (c := 10) (p := 39) (k' := 40) (n := 77) hX cls10 (vk131 (by omega)) (dec_of D_X10_takesText (i := 44) rfl) rfl rfl wd_1385 ?_
      refine s_iload_n 1 (n := 78) hX (dec_of D_X10_takesText (i := 45) rfl) rfl rfl rfl ?_
      refine s_iald (n := 79) hX (vk40 (by omega)) (by decide) (dec_of D_X10_takesText (i := 46) rfl) rfl (fun v38 => ?_)
      refine s_iast (n := 80) hX (vk34 (by omega)) (by decide) (dec_of D_X10_takesText (i := 47) rfl) rfl (fun s39 => ?_)
      refine s_iinc (v := z5.2 + 1) (lv' := [(0, _), (1, _)]) 1 [1, 0] (n := 83) hX (dec_of D_X10_takesText (i := 48) rfl) rfl rfl rfl (by decide) rfl ?_
      refine s_goto (n := 28) hX (dec_of D_X10_takesText (i := 49) rfl) rfl ?_
      exact s_sub [0, 1] rfl (hre7 (s39, (z5.2 + 1)))
  · refine s_aload_n 0 (n := 10) hX (dec_of D_X10_takesText (i := 5) rfl) rfl rfl rfl ?_
    refine s_getR (c := 10) (p := 14) (k' := 34) (n := 13) hX cls10 (vk131 (by omega)) (dec_of D_X10_takesText (i := 6) rfl) rfl rfl wd_1360 ?_
    refine s_iload_n 1 (n := 14) hX (dec_of D_X10_takesText (i := 7) rfl) rfl rfl rfl ?_
    refine s_iconst (v := 0) (n := 15) hX (dec_of D_X10_takesText (i := 8) rfl) rfl (by decide) ?_
    refine s_iast (n := 16) hX (vk34 (by omega)) (by decide) (dec_of D_X10_takesText (i := 9) rfl) rfl (fun s40 => ?_)
    refine s_iinc (v := z1.2 + 1) (lv' := [(0, _), (1, _)]) 1 [1, 0] (n := 19) hX (dec_of D_X10_takesText (i := 10) rfl) rfl rfl rfl (by decide) rfl ?_
    refine s_goto (n := 2) hX (dec_of D_X10_takesText (i := 11) rfl) rfl ?_
    exact s_sub [0, 1] rfl (hre3 (s40, (z1.2 + 1)))

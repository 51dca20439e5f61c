def T_J7_fill_53178 : List (Nat × Instr × Nat) := [(0, .iconst 0, 1), (1, .istore_n 2, 1), (2, .aload_n 0, 1), (3, .arraylength, 1), (4, .istore_n 3, 1), (5, .iload_n 2, 1), (6, .iload_n 3, 1), (7, .if_icmp .ge 13, 3), (10, .aload_n 0, 1), (11, .iload_n 2, 1), (12, .iload_n 1, 1), (13, .iastore, 1), (14, .iinc 2 1, 3), (17, .goto (-12), 3), (20, .return_, 1)]
theorem D_J7_fill_53178 : dchk cJ7_fill_53178 T_J7_fill_53178 = true := by decide +kernel
def Jk_fill (σ : ST) (k0 i0 : Nat) (a1 : Int32) : Option ST :=
  lt_ ((Nat.toInt32 (lenI k0))) (fun x1 => lp_ (fun rec3 (z2 : ST × Int32) => (if x1 ≤ z2.2 then some z2.1 else bd_ (stI z2.1 k0 i0 z2.2 a1) (fun s5 => rec3 (s5, (z2.2 + 1))))) FU (σ, 0))
set_option maxHeartbeats 4000000 in
set_option maxRecDepth 100000 in
theorem c_J7_fill_53178 {G : GW} (hG : Good G) {l : Launch} (σ : ST) (k0 i0 : Nat) (hk0 : vld k0 i0) (hk0k : k0 < 100) (a1 : Int32) : Ctr G l yJ7_fill_53178 cJ7_fill_53178 4 none 0 [.ref (ga G k0 i0), .int a1] σ oV (Jk_fill σ k0 i0 a1) := by
  refine ctr_of hG (by decide) (Nat.le_of_ble_eq_true rfl) ?_
  intro X hXl hR hX
  have hX : Ok G X cJ7_fill_53178 4 RJ7 0 := hX
  unfold Jk_fill
  show Sim G X 4 (MQX G X oV) σ 0 [(0, .ref (ga G k0 i0)), (1, .int a1)] [] _
  refine s_iconst (v := 0) (n := 1) hX (dec_of D_J7_fill_53178 (i := 0) rfl) rfl (by decide) ?_
  refine s_istore_n (lv' := [(0, _), (1, _), (2, _)]) [1, 2, 0] (n := 2) hX (dec_of D_J7_fill_53178 (i := 1) rfl) rfl rfl (by decide) rfl ?_
  refine s_aload_n 0 (n := 3) hX (dec_of D_J7_fill_53178 (i := 2) rfl) rfl rfl rfl ?_
  refine s_alen (n := 4) hX hk0 hk0k (dec_of D_J7_fill_53178 (i := 3) rfl) rfl rfl ?_
  refine s_topi (fun x1 => ?_)
  refine s_istore_n (lv' := [(0, _), (1, _), (2, _), (3, _)]) [1, 2, 3, 0] (n := 5) hX (dec_of D_J7_fill_53178 (i := 4) rfl) rfl rfl (by decide) rfl ?_
  refine s_sub [0, 1, 2, 3] rfl (s_lp (pc := 5) (Sf := fun (z2 : ST × Int32) => z2.1) (lvf := fun (z2 : ST × Int32) => [(0, .ref (ga G k0 i0)), (1, .int a1), (2, .int z2.2), (3, .int x1)]) (fun rec3 hre4 z2 => ?_) FU (σ, 0))
  refine s_iload_n 2 (n := 6) hX (dec_of D_J7_fill_53178 (i := 5) rfl) rfl rfl rfl ?_
  refine s_iload_n 3 (n := 7) hX (dec_of D_J7_fill_53178 (i := 6) rfl) rfl rfl rfl ?_
  refine s_icmp_ge (tgt := 20) (n := 10) hX (dec_of D_J7_fill_53178 (i := 7) rfl) rfl rfl ?_ ?_
  · exact s_vret hX hR (dec_of D_J7_fill_53178 (i := 14) rfl) rfl
  · refine s_aload_n 0 (n := 11) hX (dec_of D_J7_fill_53178 (i := 8) rfl) rfl rfl rfl ?_
    refine s_iload_n 2 (n := 12) hX (dec_of D_J7_fill_53178 (i := 9) rfl) rfl rfl rfl ?_
    refine s_iload_n 1 (n := 13) hX (dec_of D_J7_fill_53178 (i := 10) rfl) rfl rfl rfl ?_
    refine s_iast (n := 14) hX hk0 hk0k (dec_of D_J7_fill_53178 (i := 11) rfl) rfl (fun s5 => ?_)
    refine s_iinc (v := z2.2 + 1) (lv' := [(0, _), (1, _), (2, _), (3, _)]) 2 [1, 2, 0, 3] (n := 17) hX (dec_of D_J7_fill_53178 (i := 12) rfl) rfl rfl rfl (by decide) rfl ?_
    refine s_goto (n := 5) hX (dec_of D_J7_fill_53178 (i := 13) rfl) rfl ?_
    exact s_sub [0, 1, 2, 3] rfl (hre4 (s5, (z2.2 + 1)))
theorem lk_RX8_35 : LkS RX8 35 yJ7_fill_53178 cJ7_fill_53178 4 none 2 := ⟨wd_657, wd_658, wd_100, wd_659, by decide +kernel, by decide⟩
def T_X8_open : List (Nat × Instr × Nat) := [(0, .aload_n 1, 1), (1, .getfield 24, 3), (4, .iconst 0, 1), (5, .aload_n 0, 1), (6, .getfield 9, 3), (9, .iconst 0, 1), (10, .bipush 6, 2), (12, .invokestatic 27, 3), (15, .aload_n 1, 1), (16, .getfield 33, 3), (19, .iconst 0, 1), (20, .aload_n 0, 1), (21, .getfield 15, 3), (24, .iconst 0, 1), (25, .bipush 6, 2), (27, .invokestatic 27, 3), (30, .aload_n 1, 1), (31, .getfield 34, 3), (34, .iconst 0, 1), (35, .aload_n 0, 1), (36, .getfield 18, 3), (39, .iconst 0, 1), (40, .bipush 16, 2), (42, .invokestatic 27, 3), (45, .aload_n 0, 1), (46, .getfield 21, 3), (49, .bipush (-2), 2), (51, .invokestatic 35, 3), (54, .return_, 1)]
theorem D_X8_open : dchk cX8_open T_X8_open = true := by decide +kernel
def Wo_open (σ : ST) (i0 : Nat) (i1 : Nat) : Option ST :=
  bd_ (cpI σ 14 i1 0 24 i0 0 6) (fun s1 => bd_ (cpI s1 15 i1 0 25 i0 0 6) (fun s2 => bd_ (cpI s2 16 i1 0 26 i0 0 16) (fun s3 => bd_ (Jk_fill s3 27 i0 (-2)) (fun q4 => some q4))))
set_option maxHeartbeats 4000000 in
set_option maxRecDepth 100000 in
theorem c_X8_open {G : GW} (hG : Good G) {l : Launch} (σ : ST) (i0 : Nat) (h0 : i0 < 14) (i1 : Nat) (h1 : i1 < 2) : Ctr G l yX8_open cX8_open 2 none 1 [.ref (ga G 129 i0), .ref (ga G 126 i1)] σ oV (Wo_open σ i0 i1) := by
  refine ctr_of hG (by decide) (Nat.le_of_ble_eq_true rfl) ?_
  intro X hXl hR hX
  have hX : Ok G X cX8_open 2 RX8 1 := hX
  unfold Wo_open
  show Sim G X 2 (MQX G X oV) σ 0 [(0, .ref (ga G 129 i0)), (1, .ref (ga G 126 i1))] [] _
  refine s_aload_n 1 (n := 1) hX (dec_of D_X8_open (i := 0) rfl) rfl rfl rfl ?_
  refine s_getR (c := 5) (p := 1) (k' := 14) (n := 4) hX cls5 (vk126 (by omega)) (dec_of D_X8_open (i := 1) rfl) rfl rfl wd_359 ?_
  refine s_iconst (v := 0) (n := 5) hX (dec_of D_X8_open (i := 2) rfl) rfl (by decide) ?_
  refine s_aload_n 0 (n := 6) hX (dec_of D_X8_open (i := 3) rfl) rfl rfl rfl ?_
  refine s_getR (c := 8) (p := 0) (k' := 24) (n := 9) hX cls8 (vk129 (by omega)) (dec_of D_X8_open (i := 4) rfl) rfl rfl wd_198 ?_
  refine s_iconst (v := 0) (n := 10) hX (dec_of D_X8_open (i := 5) rfl) rfl (by decide) ?_
  refine s_bipush (v := 6) (n := 12) hX (dec_of D_X8_open (i := 6) rfl) rfl (by decide) ?_
  refine s_copy (n := 15) hX (vk14 (by omega)) (vk24 (by omega)) (by decide) (by decide) (dec_of D_X8_open (i := 7) rfl) rfl (by decide) wd_654 wd_656 wd_655 wd_99 (fun s1 => ?_)
  refine s_aload_n 1 (n := 16) hX (dec_of D_X8_open (i := 8) rfl) rfl rfl rfl ?_
  refine s_getR (c := 5) (p := 2) (k' := 15) (n := 19) hX cls5 (vk126 (by omega)) (dec_of D_X8_open (i := 9) rfl) rfl rfl wd_362 ?_
  refine s_iconst (v := 0) (n := 20) hX (dec_of D_X8_open (i := 10) rfl) rfl (by decide) ?_
  refine s_aload_n 0 (n := 21) hX (dec_of D_X8_open (i := 11) rfl) rfl rfl rfl ?_
  refine s_getR (c := 8) (p := 1) (k' := 25) (n := 24) hX cls8 (vk129 (by omega)) (dec_of D_X8_open (i := 12) rfl) rfl rfl wd_200 ?_
  refine s_iconst (v := 0) (n := 25) hX (dec_of D_X8_open (i := 13) rfl) rfl (by decide) ?_
  refine s_bipush (v := 6) (n := 27) hX (dec_of D_X8_open (i := 14) rfl) rfl (by decide) ?_
  refine s_copy (n := 30) hX (vk15 (by omega)) (vk25 (by omega)) (by decide) (by decide) (dec_of D_X8_open (i := 15) rfl) rfl (by decide) wd_654 wd_656 wd_655 wd_99 (fun s2 => ?_)
  refine s_aload_n 1 (n := 31) hX (dec_of D_X8_open (i := 16) rfl) rfl rfl rfl ?_
  refine s_getR (c := 5) (p := 3) (k' := 16) (n := 34) hX cls5 (vk126 (by omega)) (dec_of D_X8_open (i := 17) rfl) rfl rfl wd_365 ?_
  refine s_iconst (v := 0) (n := 35) hX (dec_of D_X8_open (i := 18) rfl) rfl (by decide) ?_
  refine s_aload_n 0 (n := 36) hX (dec_of D_X8_open (i := 19) rfl) rfl rfl rfl ?_
  refine s_getR (c := 8) (p := 2) (k' := 26) (n := 39) hX cls8 (vk129 (by omega)) (dec_of D_X8_open (i := 20) rfl) rfl rfl wd_202 ?_
  refine s_iconst (v := 0) (n := 40) hX (dec_of D_X8_open (i := 21) rfl) rfl (by decide) ?_
  refine s_bipush (v := 16) (n := 42) hX (dec_of D_X8_open (i := 22) rfl) rfl (by decide) ?_
  refine s_copy (n := 45) hX (vk16 (by omega)) (vk26 (by omega)) (by decide) (by decide) (dec_of D_X8_open (i := 23) rfl) rfl (by decide) wd_654 wd_656 wd_655 wd_99 (fun s3 => ?_)
  refine s_aload_n 0 (n := 46) hX (dec_of D_X8_open (i := 24) rfl) rfl rfl rfl ?_
  refine s_getR (c := 8) (p := 3) (k' := 27) (n := 49) hX cls8 (vk129 (by omega)) (dec_of D_X8_open (i := 25) rfl) rfl rfl wd_206 ?_
  refine s_bipush (v := (-2)) (n := 51) hX (dec_of D_X8_open (i := 26) rfl) rfl (by decide) ?_
  refine s_callSV (n := 54) hX lk_RX8_35 (dec_of D_X8_open (i := 27) rfl) rfl (by decide) (c_J7_fill_53178 (l := _) hG _ _ _ (vk27 (by omega)) (by decide) _) rfl rfl (Nat.le_of_ble_eq_true rfl) (fun q4 => ?_)
  exact s_vret hX hR (dec_of D_X8_open (i := 28) rfl) rfl
theorem lk_RX0_43 : LkV RX0 43 RX8 yX8_open cX8_open 2 none 1 := ⟨wd_650, wd_651, wd_652, wd_87, wd_653, by decide +kernel, by decide⟩
theorem lk_RX0_47 : LkS RX0 47 yJ7_fill_53178 cJ7_fill_53178 4 none 2 := ⟨wd_660, wd_658, wd_100, wd_659, by decide +kernel, by decide⟩
def T_X0_open : List (Nat × Instr × Nat) := [(0, .aload_n 0, 1), (1, .getfield 12, 3), (4, .aload_n 1, 1), (5, .invokevirtual 43, 3), (8, .aload_n 0, 1), (9, .getfield 18, 3), (12, .iconst 0, 1), (13, .invokestatic 47, 3), (16, .aload_n 0, 1), (17, .getfield 22, 3), (20, .iconst 0, 1), (21, .invokestatic 47, 3), (24, .aload_n 0, 1), (25, .getfield 25, 3), (28, .iconst 0, 1), (29, .invokestatic 47, 3), (32, .aload_n 0, 1), (33, .getfield 28, 3), (36, .iconst 0, 1), (37, .invokestatic 47, 3), (40, .aload_n 0, 1), (41, .getfield 31, 3), (44, .iconst 0, 1), (45, .invokestatic 47, 3), (48, .aload_n 0, 1), (49, .getfield 34, 3), (52, .iconst 0, 1), (53, .invokestatic 47, 3), (56, .aload_n 0, 1), (57, .getfield 37, 3), (60, .iconst 0, 1), (61, .invokestatic 47, 3), (64, .aload_n 0, 1), (65, .getfield 40, 3), (68, .iconst 0, 1), (69, .invokestatic 47, 3), (72, .aload_n 0, 1), (73, .iconst 0, 1), (74, .putfield 53, 3), (77, .return_, 1)]
theorem D_X0_open : dchk cX0_open T_X0_open = true := by decide +kernel
def Bk_open (σ : ST) (i0 : Nat) (i1 : Nat) : Option ST :=
  bd_ (Wo_open (σ) i0 i1) (fun q1 => bd_ (Jk_fill q1 0 i0 0) (fun q2 => bd_ (Jk_fill q2 1 i0 0) (fun q3 => bd_ (Jk_fill q3 2 i0 0) (fun q4 => bd_ (Jk_fill q4 3 i0 0) (fun q5 => bd_ (Jk_fill q5 4 i0 0) (fun q6 => bd_ (Jk_fill q6 5 i0 0) (fun q7 => bd_ (Jk_fill q7 6 i0 0) (fun q8 => bd_ (Jk_fill q8 7 i0 0) (fun q9 => lt_ (setF q9 209 i0 0) (fun s10 => some s10))))))))))
set_option maxHeartbeats 4000000 in
set_option maxRecDepth 100000 in
theorem c_X0_open {G : GW} (hG : Good G) {l : Launch} (σ : ST) (i0 : Nat) (h0 : i0 < 13) (i1 : Nat) (h1 : i1 < 2) : Ctr G l yX0_open cX0_open 2 none 2 [.ref (ga G 121 i0), .ref (ga G 126 i1)] σ oV (Bk_open σ i0 i1) := by
  refine ctr_of hG (by decide) (Nat.le_of_ble_eq_true rfl) ?_
  intro X hXl hR hX
  have hX : Ok G X cX0_open 2 RX0 2 := hX
  unfold Bk_open
  show Sim G X 2 (MQX G X oV) σ 0 [(0, .ref (ga G 121 i0)), (1, .ref (ga G 126 i1))] [] _
  refine s_aload_n 0 (n := 1) hX (dec_of D_X0_open (i := 0) rfl) rfl rfl rfl ?_
  refine s_getR (c := 0) (p := 0) (k' := 129) (n := 4) hX cls0 (vk121 (by omega)) (dec_of D_X0_open (i := 1) rfl) rfl rfl wd_218 ?_
  refine s_aload_n 1 (n := 5) hX (dec_of D_X0_open (i := 2) rfl) rfl rfl rfl ?_
  refine s_callVV (c := 8) (n := 8) hX cls8 (vk129 (by omega)) lk_RX0_43 (dec_of D_X0_open (i := 3) rfl) rfl (by decide) (c_X8_open (l := _) hG _ _ (by omega) _ (by omega)) rfl rfl (Nat.le_of_ble_eq_true rfl) (fun q1 => ?_)
  refine s_aload_n 0 (n := 9) hX (dec_of D_X0_open (i := 4) rfl) rfl rfl rfl ?_
  refine s_getR (c := 0) (p := 1) (k' := 0) (n := 12) hX cls0 (vk121 (by omega)) (dec_of D_X0_open (i := 5) rfl) rfl rfl wd_220 ?_
  refine s_iconst (v := 0) (n := 13) hX (dec_of D_X0_open (i := 6) rfl) rfl (by decide) ?_
  refine s_callSV (n := 16) hX lk_RX0_47 (dec_of D_X0_open (i := 7) rfl) rfl (by decide) (c_J7_fill_53178 (l := _) hG _ _ _ (vk0 (by omega)) (by decide) _) rfl rfl (Nat.le_of_ble_eq_true rfl) (fun q2 => ?_)
  refine s_aload_n 0 (n := 17) hX (dec_of D_X0_open (i := 8) rfl) rfl rfl rfl ?_
  refine s_getR (c := 0) (p := 2) (k' := 1) (n := 20) hX cls0 (vk121 (by omega)) (dec_of D_X0_open (i := 9) rfl) rfl rfl wd_223 ?_
  refine s_iconst (v := 0) (n := 21) hX (dec_of D_X0_open (i := 10) rfl) rfl (by decide) ?_
  refine s_callSV (n := 24) hX lk_RX0_47 (dec_of D_X0_open (i := 11) rfl) rfl (by decide) (c_J7_fill_53178 (l := _) hG _ _ _ (vk1 (by omega)) (by decide) _) rfl rfl (Nat.le_of_ble_eq_true rfl) (fun q3 => ?_)
  refine s_aload_n 0 (n := 25) hX (dec_of D_X0_open (i := 12) rfl) rfl rfl rfl ?_
  refine s_getR (c := 0) (p := 3) (k' := 2) (n := 28) hX cls0 (vk121 (by omega)) (dec_of D_X0_open (i := 13) rfl) rfl rfl wd_225 ?_
  refine s_iconst (v := 0) (n := 29) hX (dec_of D_X0_open (i := 14) rfl) rfl (by decide) ?_
  refine s_callSV (n := 32) hX lk_RX0_47 (dec_of D_X0_open (i := 15) rfl) rfl (by decide) (c_J7_fill_53178 (l := _) hG _ _ _ (vk2 (by omega)) (by decide) _) rfl rfl (Nat.le_of_ble_eq_true rfl) (fun q4 => ?_)
  refine s_aload_n 0 (n := 33) hX (dec_of D_X0_open (i := 16) rfl) rfl rfl rfl ?_
  refine s_getR (c := 0) (p := 4) (k' := 3) (n := 36) hX cls0 (vk121 (by omega)) (dec_of D_X0_open (i := 17) rfl) rfl rfl wd_227 ?_
  refine s_iconst (v := 0) (n := 37) hX (dec_of D_X0_open (i := 18) rfl) rfl (by decide) ?_
  refine s_callSV (n := 40) hX lk_RX0_47 (dec_of D_X0_open (i := 19) rfl) rfl (by decide) (c_J7_fill_53178 (l := _) hG _ _ _ (vk3 (by omega)) (by decide) _) rfl rfl (Nat.le_of_ble_eq_true rfl) (fun q5 => ?_)
  refine s_aload_n 0 (n := 41) hX (dec_of D_X0_open (i := 20) rfl) rfl rfl rfl ?_
  refine s_getR (c := 0) (p := 5) (k' := 4) (n := 44) hX cls0 (vk121 (by omega)) (dec_of D_X0_open (i := 21) rfl) rfl rfl wd_229 ?_
  refine s_iconst (v := 0) (n := 45) hX (dec_of D_X0_open (i := 22) rfl) rfl (by decide) ?_
  refine s_callSV (n := 48) hX lk_RX0_47 (dec_of D_X0_open (i := 23) rfl) rfl (by decide) (c_J7_fill_53178 (l := _) hG _ _ _ (vk4 (by omega)) (by decide) _) rfl rfl (Nat.le_of_ble_eq_true rfl) (fun q6 => ?_)
  refine s_aload_n 0 (n := 49) hX (dec_of D_X0_open (i := 24) rfl) rfl rfl rfl ?_
  refine s_getR (c := 0) (p := 6) (k' := 5) (n := 52) hX cls0 (vk121 (by omega)) (dec_of D_X0_open (i := 25) rfl) rfl rfl wd_232 ?_
  refine s_iconst (v := 0) (n := 53) hX (dec_of D_X0_open (i := 26) rfl) rfl (by decide) ?_
  refine s_callSV (n := 56) hX lk_RX0_47 (dec_of D_X0_open (i := 27) rfl) rfl (by decide) (c_J7_fill_53178 (l := _) hG _ _ _ (vk5 (by omega)) (by decide) _) rfl rfl (Nat.le_of_ble_eq_true rfl) (fun q7 => ?_)
  refine s_aload_n 0 (n := 57) hX (dec_of D_X0_open (i := 28) rfl) rfl rfl rfl ?_
  refine s_getR (c := 0) (p := 7) (k' := 6) (n := 60) hX cls0 (vk121 (by omega)) (dec_of D_X0_open (i := 29) rfl) rfl rfl wd_234 ?_
  refine s_iconst (v := 0) (n := 61) hX (dec_of D_X0_open (i := 30) rfl) rfl (by decide) ?_
  refine s_callSV (n := 64) hX lk_RX0_47 (dec_of D_X0_open (i := 31) rfl) rfl (by decide) (c_J7_fill_53178 (l := _) hG _ _ _ (vk6 (by omega)) (by decide) _) rfl rfl (Nat.le_of_ble_eq_true rfl) (fun q8 => ?_)
  refine s_aload_n 0 (n := 65) hX (dec_of D_X0_open (i := 32) rfl) rfl rfl rfl ?_
  refine s_getR (c := 0) (p := 8) (k' := 7) (n := 68) hX cls0 (vk121 (by omega)) (dec_of D_X0_open (i := 33) rfl) rfl rfl wd_236 ?_
  refine s_iconst (v := 0) (n := 69) hX (dec_of D_X0_open (i := 34) rfl) rfl (by decide) ?_
  refine s_callSV (n := 72) hX lk_RX0_47 (dec_of D_X0_open (i := 35) rfl) rfl (by decide) (c_J7_fill_53178 (l := _) hG _ _ _ (vk7 (by omega)) (by decide) _) rfl rfl (Nat.le_of_ble_eq_true rfl) (fun q9 => ?_)
  refine s_aload_n 0 (n := 73) hX (dec_of D_X0_open (i := 36) rfl) rfl rfl rfl ?_
  refine s_iconst (v := 0) (n := 74) hX (dec_of D_X0_open (i := 37) rfl) rfl (by decide) ?_
  refine s_putI (c := 0) (p := 9) (n := 77) hX cls0 (vk121 (by omega)) (dec_of D_X0_open (i := 38) rfl) rfl rfl (by decide) wd_238 rfl rfl rfl (fun s10 => ?_)
  exact s_vret hX hR (dec_of D_X0_open (i := 39) rfl) rfl
def T_X8_copyFrom : List (Nat × Instr × Nat) := [(0, .aload_n 1, 1), (1, .getfield 9, 3), (4, .iconst 0, 1), (5, .aload_n 0, 1), (6, .getfield 9, 3), (9, .iconst 0, 1), (10, .bipush 6, 2), (12, .invokestatic 27, 3), (15, .aload_n 1, 1), (16, .getfield 15, 3), (19, .iconst 0, 1), (20, .aload_n 0, 1), (21, .getfield 15, 3), (24, .iconst 0, 1), (25, .bipush 6, 2), (27, .invokestatic 27, 3), (30, .aload_n 1, 1), (31, .getfield 18, 3), (34, .iconst 0, 1), (35, .aload_n 0, 1), (36, .getfield 18, 3), (39, .iconst 0, 1), (40, .bipush 16, 2), (42, .invokestatic 27, 3), (45, .aload_n 1, 1), (46, .getfield 21, 3), (49, .iconst 0, 1), (50, .aload_n 0, 1), (51, .getfield 21, 3), (54, .iconst 0, 1), (55, .bipush 40, 2), (57, .invokestatic 27, 3), (60, .return_, 1)]
theorem D_X8_copyFrom : dchk cX8_copyFrom T_X8_copyFrom = true := by decide +kernel
def Wo_copyFrom (σ : ST) (i0 : Nat) (i1 : Nat) : Option ST :=
  bd_ (cpI σ 24 i1 0 24 i0 0 6) (fun s1 => bd_ (cpI s1 25 i1 0 25 i0 0 6) (fun s2 => bd_ (cpI s2 26 i1 0 26 i0 0 16) (fun s3 => bd_ (cpI s3 27 i1 0 27 i0 0 40) (fun s4 => some s4))))
set_option maxHeartbeats 4000000 in
set_option maxRecDepth 100000 in
theorem c_X8_copyFrom {G : GW} (hG : Good G) {l : Launch} (σ : ST) (i0 : Nat) (h0 : i0 < 14) (i1 : Nat) (h1 : i1 < 14) : Ctr G l yX8_copyFrom cX8_copyFrom 2 none 1 [.ref (ga G 129 i0), .ref (ga G 129 i1)] σ oV (Wo_copyFrom σ i0 i1) := by
  refine ctr_of hG (by decide) (Nat.le_of_ble_eq_true rfl) ?_
  intro X hXl hR hX
  have hX : Ok G X cX8_copyFrom 2 RX8 1 := hX
  unfold Wo_copyFrom
  show Sim G X 2 (MQX G X oV) σ 0 [(0, .ref (ga G 129 i0)), (1, .ref (ga G 129 i1))] [] _
  refine s_aload_n 1 (n := 1) hX (dec_of D_X8_copyFrom (i := 0) rfl) rfl rfl rfl ?_
  refine s_getR (c := 8) (p := 0) (k' := 24) (n := 4) hX cls8 (vk129 (by omega)) (dec_of D_X8_copyFrom (i := 1) rfl) rfl rfl wd_198 ?_
  refine s_iconst (v := 0) (n := 5) hX (dec_of D_X8_copyFrom (i := 2) rfl) rfl (by decide) ?_
  refine s_aload_n 0 (n := 6) hX (dec_of D_X8_copyFrom (i := 3) rfl) rfl rfl rfl ?_
  refine s_getR (c := 8) (p := 0) (k' := 24) (n := 9) hX cls8 (vk129 (by omega)) (dec_of D_X8_copyFrom (i := 4) rfl) rfl rfl wd_198 ?_
  refine s_iconst (v := 0) (n := 10) hX (dec_of D_X8_copyFrom (i := 5) rfl) rfl (by decide) ?_
  refine s_bipush (v := 6) (n := 12) hX (dec_of D_X8_copyFrom (i := 6) rfl) rfl (by decide) ?_
  refine s_copy (n := 15) hX (vk24 (by omega)) (vk24 (by omega)) (by decide) (by decide) (dec_of D_X8_copyFrom (i := 7) rfl) rfl (by decide) wd_654 wd_656 wd_655 wd_99 (fun s1 => ?_)
  refine s_aload_n 1 (n := 16) hX (dec_of D_X8_copyFrom (i := 8) rfl) rfl rfl rfl ?_
  refine s_getR (c := 8) (p := 1) (k' := 25) (n := 19) hX cls8 (vk129 (by omega)) (dec_of D_X8_copyFrom (i := 9) rfl) rfl rfl wd_200 ?_
  refine s_iconst (v := 0) (n := 20) hX (dec_of D_X8_copyFrom (i := 10) rfl) rfl (by decide) ?_
  refine s_aload_n 0 (n := 21) hX (dec_of D_X8_copyFrom (i := 11) rfl) rfl rfl rfl ?_
  refine s_getR (c := 8) (p := 1) (k' := 25) (n := 24) hX cls8 (vk129 (by omega)) (dec_of D_X8_copyFrom (i := 12) rfl) rfl rfl wd_200 ?_
  refine s_iconst (v := 0) (n := 25) hX (dec_of D_X8_copyFrom (i := 13) rfl) rfl (by decide) ?_
  refine s_bipush (v := 6) (n := 27) hX (dec_of D_X8_copyFrom (i := 14) rfl) rfl (by decide) ?_
  refine s_copy (n := 30) hX (vk25 (by omega)) (vk25 (by omega)) (by decide) (by decide) (dec_of D_X8_copyFrom (i := 15) rfl) rfl (by decide) wd_654 wd_656 wd_655 wd_99 (fun s2 => ?_)
  refine s_aload_n 1 (n := 31) hX (dec_of D_X8_copyFrom (i := 16) rfl) rfl rfl rfl ?_
  refine s_getR (c := 8) (p := 2) (k' := 26) (n := 34) hX cls8 (vk129 (by omega)) (dec_of D_X8_copyFrom (i := 17) rfl) rfl rfl wd_202 ?_
  refine s_iconst (v := 0) (n := 35) hX (dec_of D_X8_copyFrom (i := 18) rfl) rfl (by decide) ?_
  refine s_aload_n 0 (n := 36) hX (dec_of D_X8_copyFrom (i := 19) rfl) rfl rfl rfl ?_
  refine s_getR (c := 8) (p := 2) (k' := 26) (n := 39) hX cls8 (vk129 (by omega)) (dec_of D_X8_copyFrom (i := 20) rfl) rfl rfl wd_202 ?_
  refine s_iconst (v := 0) (n := 40) hX (dec_of D_X8_copyFrom (i := 21) rfl) rfl (by decide) ?_
  refine s_bipush (v := 16) (n := 42) hX (dec_of D_X8_copyFrom (i := 22) rfl) rfl (by decide) ?_
  refine s_copy (n := 45) hX (vk26 (by omega)) (vk26 (by omega)) (by decide) (by decide) (dec_of D_X8_copyFrom (i := 23) rfl) rfl (by decide) wd_654 wd_656 wd_655 wd_99 (fun s3 => ?_)
  refine s_aload_n 1 (n := 46) hX (dec_of D_X8_copyFrom (i := 24) rfl) rfl rfl rfl ?_
  refine s_getR (c := 8) (p := 3) (k' := 27) (n := 49) hX cls8 (vk129 (by omega)) (dec_of D_X8_copyFrom (i := 25) rfl) rfl rfl wd_206 ?_
  refine s_iconst (v := 0) (n := 50) hX (dec_of D_X8_copyFrom (i := 26) rfl) rfl (by decide) ?_
  refine s_aload_n 0 (n := 51) hX (dec_of D_X8_copyFrom (i := 27) rfl) rfl rfl rfl ?_
  refine s_getR (c := 8) (p := 3) (k' := 27) (n := 54) hX cls8 (vk129 (by omega)) (dec_of D_X8_copyFrom (i := 28) rfl) rfl rfl wd_206 ?_
  refine s_iconst (v := 0) (n := 55) hX (dec_of D_X8_copyFrom (i := 29) rfl) rfl (by decide) ?_
  refine s_bipush (v := 40) (n := 57) hX (dec_of D_X8_copyFrom (i := 30) rfl) rfl (by decide) ?_
  refine s_copy (n := 60) hX (vk27 (by omega)) (vk27 (by omega)) (by decide) (by decide) (dec_of D_X8_copyFrom (i := 31) rfl) rfl (by decide) wd_654 wd_656 wd_655 wd_99 (fun s4 => ?_)
  exact s_vret hX hR (dec_of D_X8_copyFrom (i := 32) rfl) rfl
theorem lk_RX0_57 : LkV RX0 57 RX8 yX8_copyFrom cX8_copyFrom 2 none 1 := ⟨wd_884, wd_813, wd_814, wd_87, wd_815, by decide +kernel, by decide⟩
def T_X0_copyFrom : List (Nat × Instr × Nat) := [(0, .aload_n 0, 1), (1, .getfield 12, 3), (4, .aload_n 1, 1), (5, .getfield 12, 3), (8, .invokevirtual 57, 3), (11, .aload_n 1, 1), (12, .getfield 18, 3), (15, .iconst 0, 1), (16, .aload_n 0, 1), (17, .getfield 18, 3), (20, .iconst 0, 1), (21, .aload_n 0, 1), (22, .getfield 18, 3), (25, .arraylength, 1), (26, .invokestatic 61, 3), (29, .aload_n 1, 1), (30, .getfield 22, 3), (33, .iconst 0, 1), (34, .aload_n 0, 1), (35, .getfield 22, 3), (38, .iconst 0, 1), (39, .aload_n 0, 1), (40, .getfield 22, 3), (43, .arraylength, 1), (44, .invokestatic 61, 3), (47, .aload_n 1, 1), (48, .getfield 25, 3), (51, .iconst 0, 1), (52, .aload_n 0, 1), (53, .getfield 25, 3), (56, .iconst 0, 1), (57, .aload_n 0, 1), (58, .getfield 25, 3), (61, .arraylength, 1), (62, .invokestatic 61, 3), (65, .aload_n 1, 1), (66, .getfield 28, 3), (69, .iconst 0, 1), (70, .aload_n 0, 1), (71, .getfield 28, 3), (74, .iconst 0, 1), (75, .aload_n 0, 1), (76, .getfield 28, 3), (79, .arraylength, 1), (80, .invokestatic 61, 3), (83, .aload_n 1, 1), (84, .getfield 31, 3), (87, .iconst 0, 1), (88, .aload_n 0, 1), (89, .getfield 31, 3), (92, .iconst 0, 1), (93, .aload_n 0, 1), (94, .getfield 31, 3), (97, .arraylength, 1), (98, .invokestatic 61, 3), (101, .aload_n 1, 1), (102, .getfield 34, 3), (105, .iconst 0, 1), (106, .aload_n 0, 1), (107, .getfield 34, 3), (110, .iconst 0, 1), (111, .aload_n 0, 1), (112, .getfield 34, 3), (115, .arraylength, 1), (116, .invokestatic 61, 3), (119, .aload_n 1, 1), (120, .getfield 37, 3), (123, .iconst 0, 1), (124, .aload_n 0, 1), (125, .getfield 37, 3), (128, .iconst 0, 1), (129, .aload_n 0, 1), (130, .getfield 37, 3), (133, .arraylength, 1), (134, .invokestatic 61, 3), (137, .aload_n 1, 1), (138, .getfield 40, 3), (141, .iconst 0, 1), (142, .aload_n 0, 1), (143, .getfield 40, 3), (146, .iconst 0, 1), (147, .aload_n 0, 1), (148, .getfield 40, 3), (151, .arraylength, 1), (152, .invokestatic 61, 3), (155, .aload_n 0, 1), (156, .aload_n 1, 1), (157, .getfield 53, 3), (160, .putfield 53, 3), (163, .return_, 1)]
theorem D_X0_copyFrom : dchk cX0_copyFrom T_X0_copyFrom = true := by decide +kernel
def Bk_copyFrom (σ : ST) (i0 : Nat) (i1 : Nat) : Option ST :=
  bd_ (Wo_copyFrom (σ) i0 i1) (fun q1 => bd_ (cpI q1 0 i1 0 0 i0 0 6) (fun s2 => bd_ (cpI s2 1 i1 0 1 i0 0 6) (fun s3 => bd_ (cpI s3 2 i1 0 2 i0 0 8) (fun s4 => bd_ (cpI s4 3 i1 0 3 i0 0 8) (fun s5 => bd_ (cpI s5 4 i1 0 4 i0 0 96) (fun s6 => bd_ (cpI s6 5 i1 0 5 i0 0 96) (fun s7 => bd_ (cpI s7 6 i1 0 6 i0 0 240) (fun s8 => bd_ (cpI s8 7 i1 0 7 i0 0 2160) (fun s9 => lt_ (setF s9 209 i0 (gF s9 209 i1)) (fun s10 => some s10))))))))))
set_option maxHeartbeats 4000000 in
set_option maxRecDepth 100000 in
theorem c_X0_copyFrom {G : GW} (hG : Good G) {l : Launch} (σ : ST) (i0 : Nat) (h0 : i0 < 13) (i1 : Nat) (h1 : i1 < 13) : Ctr G l yX0_copyFrom cX0_copyFrom 2 none 2 [.ref (ga G 121 i0), .ref (ga G 121 i1)] σ oV (Bk_copyFrom σ i0 i1) := by
  refine ctr_of hG (by decide) (Nat.le_of_ble_eq_true rfl) ?_
  intro X hXl hR hX
  have hX : Ok G X cX0_copyFrom 2 RX0 2 := hX
  unfold Bk_copyFrom
  show Sim G X 2 (MQX G X oV) σ 0 [(0, .ref (ga G 121 i0)), (1, .ref (ga G 121 i1))] [] _
  refine s_aload_n 0 (n := 1) hX (dec_of D_X0_copyFrom (i := 0) rfl) rfl rfl rfl ?_
  refine s_getR (c := 0) (p := 0) (k' := 129) (n := 4) hX cls0 (vk121 (by omega)) (dec_of D_X0_copyFrom (i := 1) rfl) rfl rfl wd_218 ?_
  refine s_aload_n 1 (n := 5) hX (dec_of D_X0_copyFrom (i := 2) rfl) rfl rfl rfl ?_
  refine s_getR (c := 0) (p := 0) (k' := 129) (n := 8) hX cls0 (vk121 (by omega)) (dec_of D_X0_copyFrom (i := 3) rfl) rfl rfl wd_218 ?_
  refine s_callVV (c := 8) (n := 11) hX cls8 (vk129 (by omega)) lk_RX0_57 (dec_of D_X0_copyFrom (i := 4) rfl) rfl (by decide) (c_X8_copyFrom (l := _) hG _ _ (by omega) _ (by omega)) rfl rfl (Nat.le_of_ble_eq_true rfl) (fun q1 => ?_)
  refine s_aload_n 1 (n := 12) hX (dec_of D_X0_copyFrom (i := 5) rfl) rfl rfl rfl ?_
  refine s_getR (c := 0) (p := 1) (k' := 0) (n := 15) hX cls0 (vk121 (by omega)) (dec_of D_X0_copyFrom (i := 6) rfl) rfl rfl wd_220 ?_
  refine s_iconst (v := 0) (n := 16) hX (dec_of D_X0_copyFrom (i := 7) rfl) rfl (by decide) ?_
  refine s_aload_n 0 (n := 17) hX (dec_of D_X0_copyFrom (i := 8) rfl) rfl rfl rfl ?_
  refine s_getR (c := 0) (p := 1) (k' := 0) (n := 20) hX cls0 (vk121 (by omega)) (dec_of D_X0_copyFrom (i := 9) rfl) rfl rfl wd_220 ?_
  refine s_iconst (v := 0) (n := 21) hX (dec_of D_X0_copyFrom (i := 10) rfl) rfl (by decide) ?_
  refine s_aload_n 0 (n := 22) hX (dec_of D_X0_copyFrom (i := 11) rfl) rfl rfl rfl ?_
  refine s_getR (c := 0) (p := 1) (k' := 0) (n := 25) hX cls0 (vk121 (by omega)) (dec_of D_X0_copyFrom (i := 12) rfl) rfl rfl wd_220 ?_
  refine s_alen (N := 6) (n := 26) hX (vk0 (by omega)) (by decide) (dec_of D_X0_copyFrom (i := 13) rfl) rfl (by decide) ?_
  refine s_copy (n := 29) hX (vk0 (by omega)) (vk0 (by omega)) (by decide) (by decide) (dec_of D_X0_copyFrom (i := 14) rfl) rfl (by decide) wd_885 wd_656 wd_655 wd_99 (fun s2 => ?_)
  refine s_aload_n 1 (n := 30) hX (dec_of D_X0_copyFrom (i := 15) rfl) rfl rfl rfl ?_
  refine s_getR (c := 0) (p := 2) (k' := 1) (n := 33) hX cls0 (vk121 (by omega)) (dec_of D_X0_copyFrom (i := 16) rfl) rfl rfl wd_223 ?_
  refine s_iconst (v := 0) (n := 34) hX (dec_of D_X0_copyFrom (i := 17) rfl) rfl (by decide) ?_
  refine s_aload_n 0 (n := 35) hX (dec_of D_X0_copyFrom (i := 18) rfl) rfl rfl rfl ?_
  refine s_getR (c := 0) (p := 2) (k' := 1) (n := 38) hX cls0 (vk121 (by omega)) (dec_of D_X0_copyFrom (i := 19) rfl) rfl rfl wd_223 ?_
  refine s_iconst (v := 0) (n := 39) hX (dec_of D_X0_copyFrom (i := 20) rfl) rfl (by decide) ?_
  refine s_aload_n 0 (n := 40) hX (dec_of D_X0_copyFrom (i := 21) rfl) rfl rfl rfl ?_
  refine s_getR (c := 0) (p := 2) (k' := 1) (n := 43) hX cls0 (vk121 (by omega)) (dec_of D_X0_copyFrom (i := 22) rfl) rfl rfl wd_223 ?_
  refine s_alen (N := 6) (n := 44) hX (vk1 (by omega)) (by decide) (dec_of D_X0_copyFrom (i := 23) rfl) rfl (by decide) ?_
  refine s_copy (n := 47) hX (vk1 (by omega)) (vk1 (by omega)) (by decide) (by decide) (dec_of D_X0_copyFrom (i := 24) rfl) rfl (by decide) wd_885 wd_656 wd_655 wd_99 (fun s3 => ?_)
  refine s_aload_n 1 (n := 48) hX (dec_of D_X0_copyFrom (i := 25) rfl) rfl rfl rfl ?_
  refine s_getR (c := 0) (p := 3) (k' := 2) (n := 51) hX cls0 (vk121 (by omega)) (dec_of D_X0_copyFrom (i := 26) rfl) rfl rfl wd_225 ?_
  refine s_iconst (v := 0) (n := 52) hX (dec_of D_X0_copyFrom (i := 27) rfl) rfl (by decide) ?_
  refine s_aload_n 0 (n := 53) hX (dec_of D_X0_copyFrom (i := 28) rfl) rfl rfl rfl ?_
  refine s_getR (c := 0) (p := 3) (k' := 2) (n := 56) hX cls0 (vk121 (by omega)) (dec_of D_X0_copyFrom (i := 29) rfl) rfl rfl wd_225 ?_
  refine s_iconst (v := 0) (n := 57) hX (dec_of D_X0_copyFrom (i := 30) rfl) rfl (by decide) ?_
  refine s_aload_n 0 (n := 58) hX (dec_of D_X0_copyFrom (i := 31) rfl) rfl rfl rfl ?_
  refine s_getR (c := 0) (p := 3) (k' := 2) (n := 61) hX cls0 (vk121 (by omega)) (dec_of D_X0_copyFrom (i := 32) rfl) rfl rfl wd_225 ?_
  refine s_alen (N := 8) (n := 62) hX (vk2 (by omega)) (by decide) (dec_of D_X0_copyFrom (i := 33) rfl) rfl (by decide) ?_
  refine s_copy (n := 65) hX (vk2 (by omega)) (vk2 (by omega)) (by decide) (by decide) (dec_of D_X0_copyFrom (i := 34) rfl) rfl (by decide) wd_885 wd_656 wd_655 wd_99 (fun s4 => ?_)
  refine s_aload_n 1 (n := 66) hX (dec_of D_X0_copyFrom (i := 35) rfl) rfl rfl rfl ?_
  refine s_getR (c := 0) (p := 4) (k' := 3) (n := 69) hX cls0 (vk121 (by omega)) (dec_of D_X0_copyFrom (i := 36) rfl) rfl rfl wd_227 ?_
  refine s_iconst (v := 0) (n := 70) hX (dec_of D_X0_copyFrom (i := 37) rfl) rfl (by decide) ?_
  refine s_aload_n 0 (n := 71) hX (dec_of D_X0_copyFrom (i := 38) rfl) rfl rfl rfl ?_
  refine s_getR (c := 0) (p := 4) (k' := 3) (n := 74) hX cls0 (vk121 (by omega)) (dec_of D_X0_copyFrom (i := 39) rfl) rfl rfl wd_227 ?_
  refine s_iconst (v := 0) (n := 75) hX (dec_of D_X0_copyFrom (i := 40) rfl) rfl (by decide) ?_
  refine s_aload_n 0 (n := 76) hX (dec_of D_X0_copyFrom (i := 41) rfl) rfl rfl rfl ?_
  refine s_getR (c := 0) (p := 4) (k' := 3) (n := 79) hX cls0 (vk121 (by omega)) (dec_of D_X0_copyFrom (i := 42) rfl) rfl rfl wd_227 ?_
  refine s_alen (N := 8) (n := 80) hX (vk3 (by omega)) (by decide) (dec_of D_X0_copyFrom (i := 43) rfl) rfl (by decide) ?_
  refine s_copy (n := 83) hX (vk3 (by omega)) (vk3 (by omega)) (by decide) (by decide) (dec_of D_X0_copyFrom (i := 44) rfl) rfl (by decide) wd_885 wd_656 wd_655 wd_99 (fun s5 => ?_)
  refine s_aload_n 1 (n := 84) hX (dec_of D_X0_copyFrom (i := 45) rfl) rfl rfl rfl ?_
  refine s_getR (c := 0) (p := 5) (k' := 4) (n := 87) hX cls0 (vk121 (by omega)) (dec_of D_X0_copyFrom (i := 46) rfl) rfl rfl wd_229 ?_
  refine s_iconst (v := 0) (n := 88) hX (dec_of D_X0_copyFrom (i := 47) rfl) rfl (by decide) ?_
  refine s_aload_n 0 (n := 89) hX (dec_of D_X0_copyFrom (i := 48) rfl) rfl rfl rfl ?_
  refine s_getR (c := 0) (p := 5) (k' := 4) (n := 92) hX cls0 (vk121 (by omega)) (dec_of D_X0_copyFrom (i := 49) rfl) rfl rfl wd_229 ?_
  refine s_iconst (v := 0) (n := 93) hX (dec_of D_X0_copyFrom (i := 50) rfl) rfl (by decide) ?_
  refine s_aload_n 0 (n := 94) hX (dec_of D_X0_copyFrom (i := 51) rfl) rfl rfl rfl ?_
  refine s_getR (c := 0) (p := 5) (k' := 4) (n := 97) hX cls0 (vk121 (by omega)) (dec_of D_X0_copyFrom (i := 52) rfl) rfl rfl wd_229 ?_
  refine s_alen (N := 96) (n := 98) hX (vk4 (by omega)) (by decide) (dec_of D_X0_copyFrom (i := 53) rfl) rfl (by decide) ?_
  refine s_copy (n := 101) hX (vk4 (by omega)) (vk4 (by omega)) (by decide) (by decide) (dec_of D_X0_copyFrom (i := 54) rfl) rfl (by decide) wd_885 wd_656 wd_655 wd_99 (fun s6 => ?_)
  refine s_aload_n 1 (n := 102) hX (dec_of D_X0_copyFrom (i := 55) rfl) rfl rfl rfl ?_
  refine s_getR (c := 0) (p := 6) (k' := 5) (n := 105) hX cls0 (vk121 (by omega)) (dec_of D_X0_copyFrom (i := 56) rfl) rfl rfl wd_232 ?_
  refine s_iconst (v := 0) (n := 106) hX (dec_of D_X0_copyFrom (i := 57) rfl) rfl (by decide) ?_
  refine s_aload_n 0 (n := 107) hX (dec_of D_X0_copyFrom (i := 58) rfl) rfl rfl rfl ?_
  refine s_getR (c := 0) (p := 6) (k' := 5) (n := 110) hX cls0 (vk121 (by omega)) (dec_of D_X0_copyFrom (i := 59) rfl) rfl rfl wd_232 ?_
  refine s_iconst (v := 0) (n := 111) hX (dec_of D_X0_copyFrom (i := 60) rfl) rfl (by decide) ?_
  refine s_aload_n 0 (n := 112) hX (dec_of D_X0_copyFrom (i := 61) rfl) rfl rfl rfl ?_
  refine s_getR (c := 0) (p := 6) (k' := 5) (n := 115) hX cls0 (vk121 (by omega)) (dec_of D_X0_copyFrom (i := 62) rfl) rfl rfl wd_232 ?_
  refine s_alen (N := 96) (n := 116) hX (vk5 (by omega)) (by decide) (dec_of D_X0_copyFrom (i := 63) rfl) rfl (by decide) ?_
  refine s_copy (n := 119) hX (vk5 (by omega)) (vk5 (by omega)) (by decide) (by decide) (dec_of D_X0_copyFrom (i := 64) rfl) rfl (by decide) wd_885 wd_656 wd_655 wd_99 (fun s7 => ?_)
  refine s_aload_n 1 (n := 120) hX (dec_of D_X0_copyFrom (i := 65) rfl) rfl rfl rfl ?_
  refine s_getR (c := 0) (p := 7) (k' := 6) (n := 123) hX cls0 (vk121 (by omega)) (dec_of D_X0_copyFrom (i := 66) rfl) rfl rfl wd_234 ?_
  refine s_iconst (v := 0) (n := 124) hX (dec_of D_X0_copyFrom (i := 67) rfl) rfl (by decide) ?_
  refine s_aload_n 0 (n := 125) hX (dec_of D_X0_copyFrom (i := 68) rfl) rfl rfl rfl ?_
  refine s_getR (c := 0) (p := 7) (k' := 6) (n := 128) hX cls0 (vk121 (by omega)) (dec_of D_X0_copyFrom (i := 69) rfl) rfl rfl wd_234 ?_
  refine s_iconst (v := 0) (n := 129) hX (dec_of D_X0_copyFrom (i := 70) rfl) rfl (by decide) ?_
  refine s_aload_n 0 (n := 130) hX (dec_of D_X0_copyFrom (i := 71) rfl) rfl rfl rfl ?_
  refine s_getR (c := 0) (p := 7) (k' := 6) (n := 133) hX cls0 (vk121 (by omega)) (dec_of D_X0_copyFrom (i := 72) rfl) rfl rfl wd_234 ?_
  refine s_alen (N := 240) (n := 134) hX (vk6 (by omega)) (by decide) (dec_of D_X0_copyFrom (i := 73) rfl) rfl (by decide) ?_
  refine s_copy (n := 137) hX (vk6 (by omega)) (vk6 (by omega)) (by decide) (by decide) (dec_of D_X0_copyFrom (i := 74) rfl) rfl (by decide) wd_885 wd_656 wd_655 wd_99 (fun s8 => ?_)
  refine s_aload_n 1 (n := 138) hX (dec_of D_X0_copyFrom (i := 75) rfl) rfl rfl rfl ?_
  refine s_getR (c := 0) (p := 8) (k' := 7) (n := 141) hX cls0 (vk121 (by omega)) (dec_of D_X0_copyFrom (i := 76) rfl) rfl rfl wd_236 ?_
  refine s_iconst (v := 0) (n := 142) hX (dec_of D_X0_copyFrom (i := 77) rfl) rfl (by decide) ?_
  refine s_aload_n 0 (n := 143) hX (dec_of D_X0_copyFrom (i := 78) rfl) rfl rfl rfl ?_
  refine s_getR (c := 0) (p := 8) (k' := 7) (n := 146) hX cls0 (vk121 (by omega)) (dec_of D_X0_copyFrom (i := 79) rfl) rfl rfl wd_236 ?_
  refine s_iconst (v := 0) (n := 147) hX (dec_of D_X0_copyFrom (i := 80) rfl) rfl (by decide) ?_
  refine s_aload_n 0 (n := 148) hX (dec_of D_X0_copyFrom (i := 81) rfl) rfl rfl rfl ?_
  refine s_getR (c := 0) (p := 8) (k' := 7) (n := 151) hX cls0 (vk121 (by omega)) (dec_of D_X0_copyFrom (i := 82) rfl) rfl rfl wd_236 ?_
  refine s_alen (N := 2160) (n := 152) hX (vk7 (by omega)) (by decide) (dec_of D_X0_copyFrom (i := 83) rfl) rfl (by decide) ?_
  refine s_copy (n := 155) hX (vk7 (by omega)) (vk7 (by omega)) (by decide) (by decide) (dec_of D_X0_copyFrom (i := 84) rfl) rfl (by decide) wd_885 wd_656 wd_655 wd_99 (fun s9 => ?_)
  refine s_aload_n 0 (n := 156) hX (dec_of D_X0_copyFrom (i := 85) rfl) rfl rfl rfl ?_
  refine s_aload_n 1 (n := 157) hX (dec_of D_X0_copyFrom (i := 86) rfl) rfl rfl rfl ?_
  refine s_getI (c := 0) (p := 9) (id := 209) (n := 160) hX cls0 (vk121 (by omega)) (dec_of D_X0_copyFrom (i := 87) rfl) rfl rfl wd_238 ?_
  refine s_putI (c := 0) (p := 9) (n := 163) hX cls0 (vk121 (by omega)) (dec_of D_X0_copyFrom (i := 88) rfl) rfl rfl (by decide) wd_238 rfl rfl rfl (fun s10 => ?_)
  exact s_vret hX hR (dec_of D_X0_copyFrom (i := 89) rfl) rfl
def T_X9_slotOf : List (Nat × Instr × Nat) := [(0, .iload_n 0, 1), (1, .bipush 8, 2), (3, .imul, 1), (4, .iload_n 1, 1), (5, .iadd, 1), (6, .iconst 5, 1), (7, .imul, 1), (8, .iload_n 2, 1), (9, .iadd, 1), (10, .ireturn, 1)]
theorem D_X9_slotOf : dchk cX9_slotOf T_X9_slotOf = true := by decide +kernel
def Rp_slotOf (σ : ST) (a0 : Int32) (a1 : Int32) (a2 : Int32) : Option Int32 :=
  some ((((a0 * 8) + a1) * 5) + a2)
set_option maxHeartbeats 4000000 in
set_option maxRecDepth 100000 in
theorem c_X9_slotOf {G : GW} (hG : Good G) {l : Launch} (σ : ST) (a0 : Int32) (a1 : Int32) (a2 : Int32) : Ctr G l yX9_slotOf cX9_slotOf 3 (some .int) 0 [.int a0, .int a1, .int a2] σ (oI σ) (Rp_slotOf σ a0 a1 a2) := by
  refine ctr_of hG (by decide) (Nat.le_of_ble_eq_true rfl) ?_
  intro X hXl hR hX
  have hX : Ok G X cX9_slotOf 3 RX9 0 := hX
  unfold Rp_slotOf
  show Sim G X 3 (MQX G X (oI σ)) σ 0 [(0, .int a0), (1, .int a1), (2, .int a2)] [] _
  refine s_iload_n 0 (n := 1) hX (dec_of D_X9_slotOf (i := 0) rfl) rfl rfl rfl ?_
  refine s_bipush (v := 8) (n := 3) hX (dec_of D_X9_slotOf (i := 1) rfl) rfl (by decide) ?_
  refine s_imul (n := 4) hX (dec_of D_X9_slotOf (i := 2) rfl) rfl ?_
  refine s_iload_n 1 (n := 5) hX (dec_of D_X9_slotOf (i := 3) rfl) rfl rfl rfl ?_
  refine s_iadd (n := 6) hX (dec_of D_X9_slotOf (i := 4) rfl) rfl ?_
  refine s_iconst (v := 5) (n := 7) hX (dec_of D_X9_slotOf (i := 5) rfl) rfl (by decide) ?_
  refine s_imul (n := 8) hX (dec_of D_X9_slotOf (i := 6) rfl) rfl ?_
  refine s_iload_n 2 (n := 9) hX (dec_of D_X9_slotOf (i := 7) rfl) rfl rfl rfl ?_
  refine s_iadd (n := 10) hX (dec_of D_X9_slotOf (i := 8) rfl) rfl ?_
  exact s_iret hX hR (dec_of D_X9_slotOf (i := 9) rfl) rfl
def T_X0_enterPlay : List (Nat × Instr × Nat) := [(0, .iconst 0, 1), (1, .istore 6, 2), (3, .iload 6, 2), (5, .aload_n 2, 1), (6, .getfield 67, 3), (9, .if_icmp .ge 113, 3), (12, .aload_n 2, 1), (13, .getfield 72, 3), (16, .iload 6, 2), (18, .iaload, 1), (19, .ifCond .ne 33, 3), (22, .aload_n 0, 1), (23, .getfield 31, 3), (26, .aload_n 2, 1), (27, .getfield 75, 3), (30, .iload 6, 2), (32, .iaload, 1), (33, .bipush 6, 2), (35, .imul, 1), (36, .iload_n 3, 1), (37, .iadd, 1), (38, .dup2, 1), (39, .iaload, 1), (40, .aload_n 2, 1), (41, .getfield 78, 3), (44, .iload 6, 2), (46, .iaload, 1), (47, .iadd, 1), (48, .iastore, 1), (49, .goto 67, 3), (52, .aload_n 2, 1), (53, .getfield 72, 3), (56, .iload 6, 2), (58, .iaload, 1), (59, .iconst 1, 1), (60, .if_icmp .ne 40, 3), (63, .aload_n 0, 1), (64, .getfield 40, 3), (67, .iload_n 3, 1), (68, .iload 4, 2), (70, .iload 6, 2), (72, .aload_n 1, 1), (73, .getfield 81, 3), (76, .iload 4, 2), (78, .iaload, 1), (79, .isub, 1), (80, .invokestatic 86, 3), (83, .bipush 9, 2), (85, .imul, 1), (86, .dup2, 1), (87, .iaload, 1), (88, .aload_n 2, 1), (89, .getfield 78, 3), (92, .iload 6, 2), (94, .iaload, 1), (95, .iadd, 1), (96, .iastore, 1), (97, .goto 19, 3), (100, .aload_n 0, 1), (101, .getfield 18, 3), (104, .iload_n 3, 1), (105, .dup2, 1), (106, .iaload, 1), (107, .aload_n 2, 1), (108, .getfield 78, 3), (111, .iload 6, 2), (113, .iaload, 1), (114, .iadd, 1), (115, .iastore, 1), (116, .iinc 6 1, 3), (119, .goto (-116), 3), (122, .aload_n 0, 1), (123, .getfield 22, 3), (126, .iload_n 3, 1), (127, .dup2, 1), (128, .iaload, 1), (129, .iload 5, 2), (131, .aload_n 1, 1), (132, .getfield 90, 3), (135, .iload_n 3, 1), (136, .iaload, 1), (137, .imul, 1), (138, .iadd, 1), (139, .iastore, 1), (140, .aload_n 0, 1), (141, .getfield 25, 3), (144, .iload 4, 2), (146, .dup2, 1), (147, .iaload, 1), (148, .iload 5, 2), (150, .aload_n 1, 1), (151, .getfield 90, 3), (154, .iload_n 3, 1), (155, .iaload, 1), (156, .imul, 1), (157, .iadd, 1), (158, .iastore, 1), (159, .aload_n 0, 1), (160, .getfield 28, 3), (163, .iload 4, 2), (165, .dup2, 1), (166, .iaload, 1), (167, .iload 5, 2), (169, .iadd, 1), (170, .iastore, 1), (171, .return_, 1)]
theorem D_X0_enterPlay : dchk cX0_enterPlay T_X0_enterPlay = true := by decide +kernel
def Bk_enterPlay (σ : ST) (i0 : Nat) (i1 : Nat) (i2 : Nat) (a3 : Int32) (a4 : Int32) (a5 : Int32) : Option ST :=
  lp_ (fun rec2 (z1 : ST × Int32) => (if (gF z1.1 396 i2) ≤ z1.2 then bd_ (ldI z1.1 1 i0 a3) (fun v4 => bd_ (ldI z1.1 13 i1 a3) (fun v5 => bd_ (stI z1.1 1 i0 a3 (v4 + (a5 * v5))) (fun s6 => bd_ (ldI s6 2 i0 a4) (fun v7 => bd_ (ldI s6 13 i1 a3) (fun v8 => bd_ (stI s6 2 i0 a4 (v7 + (a5 * v8))) (fun s9 => bd_ (ldI s9 3 i0 a4) (fun v10 => bd_ (stI s9 3 i0 a4 (v10 + a5)) (fun s11 => some s11)))))))) else bd_ (ldI z1.1 11 i2 z1.2) (fun v12 => (if v12 = 0 then bd_ (ldI z1.1 10 i2 z1.2) (fun v22 => bd_ (ldI z1.1 4 i0 ((v22 * 6) + a3)) (fun v23 => bd_ (ldI z1.1 9 i2 z1.2) (fun v24 => bd_ (stI z1.1 4 i0 ((v22 * 6) + a3) (v23 + v24)) (fun s25 => rec2 (s25, (z1.2 + 1)))))) else bd_ (ldI z1.1 11 i2 z1.2) (fun v13 => (if v13 = 1 then bd_ (ldI z1.1 17 i1 a4) (fun v17 => bd_ (Rp_slotOf z1.1 a3 a4 (z1.2 - v17)) (fun q18 => bd_ (ldI z1.1 7 i0 (q18 * 9)) (fun v19 => bd_ (ldI z1.1 9 i2 z1.2) (fun v20 => bd_ (stI z1.1 7 i0 (q18 * 9) (v19 + v20)) (fun s21 => rec2 (s21, (z1.2 + 1))))))) else bd_ (ldI z1.1 0 i0 a3) (fun v14 => bd_ (ldI z1.1 9 i2 z1.2) (fun v15 => bd_ (stI z1.1 0 i0 a3 (v14 + v15)) (fun s16 => rec2 (s16, (z1.2 + 1))))))))))) FU (σ, 0)
set_option maxHeartbeats 4000000 in
set_option maxRecDepth 100000 in
theorem c_X0_enterPlay {G : GW} (hG : Good G) {l : Launch} (σ : ST) (i0 : Nat) (h0 : i0 < 13) (i1 : Nat) (h1 : i1 < 2) (i2 : Nat) (h2 : i2 < 2) (a3 : Int32) (a4 : Int32) (a5 : Int32) : Ctr G l yX0_enterPlay cX0_enterPlay 7 none 1 [.ref (ga G 121 i0), .ref (ga G 126 i1), .ref (ga G 124 i2), .int a3, .int a4, .int a5] σ oV (Bk_enterPlay σ i0 i1 i2 a3 a4 a5) := by
  refine ctr_of hG (by decide) (Nat.le_of_ble_eq_true rfl) ?_
  intro X hXl hR hX
  have hX : Ok G X cX0_enterPlay 7 RX0 1 := hX
  unfold Bk_enterPlay
  show Sim G X 7 (MQX G X oV) σ 0 [(0, .ref (ga G 121 i0)), (1, .ref (ga G 126 i1)), (2, .ref (ga G 124 i2)), (3, .int a3), (4, .int a4), (5, .int a5)] [] _
  refine s_iconst (v := 0) (n := 1) hX (dec_of D_X0_enterPlay (i := 0) rfl) rfl (by decide) ?_
  refine s_istore (lv' := [(0, _), (1, _), (2, _), (3, _), (4, _), (5, _), (6, _)]) [1, 2, 3, 4, 5, 6, 0] (n := 3) hX (dec_of D_X0_enterPlay (i := 1) rfl) rfl (by decide) rfl ?_
  refine s_sub [0, 1, 2, 3, 4, 5, 6] rfl (s_lp (pc := 3) (Sf := fun (z1 : ST × Int32) => z1.1) (lvf := fun (z1 : ST × Int32) => [(0, .ref (ga G 121 i0)), (1, .ref (ga G 126 i1)), (2, .ref (ga G 124 i2)), (3, .int a3), (4, .int a4), (5, .int a5), (6, .int z1.2)]) (fun rec2 hre3 z1 => ?_) FU (σ, 0))
  refine s_iload 6 (n := 5) hX (dec_of D_X0_enterPlay (i := 2) rfl) rfl rfl ?_
  refine s_aload_n 2 (n := 6) hX (dec_of D_X0_enterPlay (i := 3) rfl) rfl rfl rfl ?_
  refine s_getI (c := 3) (p := 4) (id := 396) (n := 9) hX cls3 (vk124 (by omega)) (dec_of D_X0_enterPlay (i := 4) rfl) rfl rfl wd_300 ?_
  refine s_icmp_ge (tgt := 122) (n := 12) hX (dec_of D_X0_enterPlay (i := 5) rfl) rfl rfl ?_ ?_
  · refine s_aload_n 0 (n := 123) hX (dec_of D_X0_enterPlay (i := 71) rfl) rfl rfl rfl ?_
    refine s_getR (c := 0) (p := 2) (k' := 1) (n := 126) hX cls0 (vk121 (by omega)) (dec_of D_X0_enterPlay (i := 72) rfl) rfl rfl wd_223 ?_
    refine s_iload_n 3 (n := 127) hX (dec_of D_X0_enterPlay (i := 73) rfl) rfl rfl rfl ?_
    refine s_dup2 (n := 128) hX (dec_of D_X0_enterPlay (i := 74) rfl) rfl rfl rfl ?_
    refine s_iald (n := 129) hX (vk1 (by omega)) (by decide) (dec_of D_X0_enterPlay (i := 75) rfl) rfl (fun v4 => ?_)
    refine s_iload 5 (n := 131) hX (dec_of D_X0_enterPlay (i := 76) rfl) rfl rfl ?_
    refine s_aload_n 1 (n := 132) hX (dec_of D_X0_enterPlay (i := 77) rfl) rfl rfl rfl ?_
    refine s_getR (c := 5) (p := 0) (k' := 13) (n := 135) hX cls5 (vk126 (by omega)) (dec_of D_X0_enterPlay (i := 78) rfl) rfl rfl wd_356 ?_
    refine s_iload_n 3 (n := 136) hX (dec_of D_X0_enterPlay (i := 79) rfl) rfl rfl rfl ?_
    refine s_iald (n := 137) hX (vk13 (by omega)) (by decide) (dec_of D_X0_enterPlay (i := 80) rfl) rfl (fun v5 => ?_)
    refine s_imul (n := 138) hX (dec_of D_X0_enterPlay (i := 81) rfl) rfl ?_
    refine s_iadd (n := 139) hX (dec_of D_X0_enterPlay (i := 82) rfl) rfl ?_
    refine s_iast (n := 140) hX (vk1 (by omega)) (by decide) (dec_of D_X0_enterPlay (i := 83) rfl) rfl (fun s6 => ?_)
    refine s_aload_n 0 (n := 141) hX (dec_of D_X0_enterPlay (i := 84) rfl) rfl rfl rfl ?_
    refine s_getR (c := 0) (p := 3) (k' := 2) (n := 144) hX cls0 (vk121 (by omega)) (dec_of D_X0_enterPlay (i := 85) rfl) rfl rfl wd_225 ?_
    refine s_iload 4 (n := 146) hX (dec_of D_X0_enterPlay (i := 86) rfl) rfl rfl ?_
    refine s_dup2 (n := 147) hX (dec_of D_X0_enterPlay (i := 87) rfl) rfl rfl rfl ?_
    refine s_iald (n := 148) hX (vk2 (by omega)) (by decide) (dec_of D_X0_enterPlay (i := 88) rfl) rfl (fun v7 => ?_)
    refine s_iload 5 (n := 150) hX (dec_of D_X0_enterPlay (i := 89) rfl) rfl rfl ?_
    refine s_aload_n 1 (n := 151) hX (dec_of D_X0_enterPlay (i := 90) rfl) rfl rfl rfl ?_
    refine s_getR (c := 5) (p := 0) (k' := 13) (n := 154) hX cls5 (vk126 (by omega)) (dec_of D_X0_enterPlay (i := 91) rfl) rfl rfl wd_356 ?_
    refine s_iload_n 3 (n := 155) hX (dec_of D_X0_enterPlay (i := 92) rfl) rfl rfl rfl ?_
    refine s_iald (n := 156) hX (vk13 (by omega)) (by decide) (dec_of D_X0_enterPlay (i := 93) rfl) rfl (fun v8 => ?_)
    refine s_imul (n := 157) hX (dec_of D_X0_enterPlay (i := 94) rfl) rfl ?_
    refine s_iadd (n := 158) hX (dec_of D_X0_enterPlay (i := 95) rfl) rfl ?_
    refine s_iast (n := 159) hX (vk2 (by omega)) (by decide) (dec_of D_X0_enterPlay (i := 96) rfl) rfl (fun s9 => ?_)
    refine s_aload_n 0 (n := 160) hX (dec_of D_X0_enterPlay (i := 97) rfl) rfl rfl rfl ?_
    refine s_getR (c := 0) (p := 4) (k' := 3) (n := 163) hX cls0 (vk121 (by omega)) (dec_of D_X0_enterPlay (i := 98) rfl) rfl rfl wd_227 ?_
    refine s_iload 4 (n := 165) hX (dec_of D_X0_enterPlay (i := 99) rfl) rfl rfl ?_
    refine s_dup2 (n := 166) hX (dec_of D_X0_enterPlay (i := 100) rfl) rfl rfl rfl ?_
    refine s_iald (n := 167) hX (vk3 (by omega)) (by decide) (dec_of D_X0_enterPlay (i := 101) rfl) rfl (fun v10 => ?_)
    refine s_iload 5 (n := 169) hX (dec_of D_X0_enterPlay (i := 102) rfl) rfl rfl ?_
    refine s_iadd (n := 170) hX (dec_of D_X0_enterPlay (i := 103) rfl) rfl ?_
    refine s_iast (n := 171) hX (vk3 (by omega)) (by decide) (dec_of D_X0_enterPlay (i := 104) rfl) rfl (fun s11 => ?_)
    exact s_vret hX hR (dec_of D_X0_enterPlay (i := 105) rfl) rfl
  · refine s_aload_n 2 (n := 13) hX (dec_of D_X0_enterPlay (i := 6) rfl) rfl rfl rfl ?_
    refine s_getR (c := 3) (p := 2) (k' := 11) (n := 16) hX cls3 (vk124 (by omega)) (dec_of D_X0_enterPlay (i := 7) rfl) rfl rfl wd_295 ?_
    refine s_iload 6 (n := 18) hX (dec_of D_X0_enterPlay (i := 8) rfl) rfl rfl ?_
    refine s_iald (n := 19) hX (vk11 (by omega)) (by decide) (dec_of D_X0_enterPlay (i := 9) rfl) rfl (fun v12 => ?_)
    refine s_if_ne (tgt := 52) (n := 22) hX (dec_of D_X0_enterPlay (i := 10) rfl) rfl rfl ?_ ?_
    · refine s_aload_n 2 (n := 53) hX (dec_of D_X0_enterPlay (i := 30) rfl) rfl rfl rfl ?_
      refine s_getR (c := 3) (p := 2) (k' := 11) (n := 56) hX cls3 (vk124 (by omega)) (dec_of D_X0_enterPlay (i := 31) rfl) rfl rfl wd_295 ?_
      refine s_iload 6 (n := 58) hX (dec_of D_X0_enterPlay (i := 32) rfl) rfl rfl ?_
      refine s_iald (n := 59) hX (vk11 (by omega)) (by decide) (dec_of D_X0_enterPlay (i := 33) rfl) rfl (fun v13 => ?_)
      refine s_iconst (v := 1) (n := 60) hX (dec_of D_X0_enterPlay (i := 34) rfl) rfl (by decide) ?_
      refine s_icmp_ne (tgt := 100) (n := 63) hX (dec_of D_X0_enterPlay (i := 35) rfl) rfl rfl ?_ ?_
      · refine s_aload_n 0 (n := 101) hX (dec_of D_X0_enterPlay (i := 58) rfl) rfl rfl rfl ?_
        refine s_getR (c := 0) (p := 1) (k' := 0) (n := 104) hX cls0 (vk121 (by omega)) (dec_of D_X0_enterPlay (i := 59) rfl) rfl rfl wd_220 ?_
        refine s_iload_n 3 (n := 105) hX (dec_of D_X0_enterPlay (i := 60) rfl) rfl rfl rfl ?_
        refine s_dup2 (n := 106) hX (dec_of D_X0_enterPlay (i := 61) rfl) rfl rfl rfl ?_
        refine s_iald (n := 107) hX (vk0 (by omega)) (by decide) (dec_of D_X0_enterPlay (i := 62) rfl) rfl (fun v14 => ?_)
        refine s_aload_n 2 (n := 108) hX (dec_of D_X0_enterPlay (i := 63) rfl) rfl rfl rfl ?_
        refine s_getR (c := 3) (p := 0) (k' := 9) (n := 111) hX cls3 (vk124 (by omega)) (dec_of D_X0_enterPlay (i := 64) rfl) rfl rfl wd_290 ?_
        refine s_iload 6 (n := 113) hX (dec_of D_X0_enterPlay (i := 65) rfl) rfl rfl ?_
        refine s_iald (n := 114) hX (vk9 (by omega)) (by decide) (dec_of D_X0_enterPlay (i := 66) rfl) rfl (fun v15 => ?_)
        refine s_iadd (n := 115) hX (dec_of D_X0_enterPlay (i := 67) rfl) rfl ?_
        refine s_iast (n := 116) hX (vk0 (by omega)) (by decide) (dec_of D_X0_enterPlay (i := 68) rfl) rfl (fun s16 => ?_)
        refine s_iinc (v := z1.2 + 1) (lv' := [(0, _), (1, _), (2, _), (3, _), (4, _), (5, _), (6, _)]) 6 [1, 2, 3, 4, 5, 6, 0] (n := 119) hX (dec_of D_X0_enterPlay (i := 69) rfl) rfl rfl rfl (by decide) rfl ?_
        refine s_goto (n := 3) hX (dec_of D_X0_enterPlay (i := 70) rfl) rfl ?_
        exact s_sub [0, 1, 2, 3, 4, 5, 6] rfl (hre3 (s16, (z1.2 + 1)))
      · refine s_aload_n 0 (n := 64) hX (dec_of D_X0_enterPlay (i := 36) rfl) rfl rfl rfl ?_
        refine s_getR (c := 0) (p := 8) (k' := 7) (n := 67) hX cls0 (vk121 (by omega)) (dec_of D_X0_enterPlay (i := 37) rfl) rfl rfl wd_236 ?_
        refine s_iload_n 3 (n := 68) hX (dec_of D_X0_enterPlay (i := 38) rfl) rfl rfl rfl ?_
        refine s_iload 4 (n := 70) hX (dec_of D_X0_enterPlay (i := 39) rfl) rfl rfl ?_
        refine s_iload 6 (n := 72) hX (dec_of D_X0_enterPlay (i := 40) rfl) rfl rfl ?_
        refine s_aload_n 1 (n := 73) hX (dec_of D_X0_enterPlay (i := 41) rfl) rfl rfl rfl ?_
        refine s_getR (c := 5) (p := 4) (k' := 17) (n := 76) hX cls5 (vk126 (by omega)) (dec_of D_X0_enterPlay (i := 42) rfl) rfl rfl wd_368 ?_
        refine s_iload 4 (n := 78) hX (dec_of D_X0_enterPlay (i := 43) rfl) rfl rfl ?_
        refine s_iald (n := 79) hX (vk17 (by omega)) (by decide) (dec_of D_X0_enterPlay (i := 44) rfl) rfl (fun v17 => ?_)
        refine s_isub (n := 80) hX (dec_of D_X0_enterPlay (i := 45) rfl) rfl ?_
        refine s_callNI (n := 83) hX wd_893 wd_892 wd_83 (dec_of D_X0_enterPlay (i := 46) rfl) rfl (by decide) (c_X9_slotOf (l := _) hG _ _ _ _) rfl rfl (Nat.le_of_ble_eq_true rfl) (fun q18 => ?_)
        refine s_bipush (v := 9) (n := 85) hX (dec_of D_X0_enterPlay (i := 47) rfl) rfl (by decide) ?_
        refine s_imul (n := 86) hX (dec_of D_X0_enterPlay (i := 48) rfl) rfl ?_
        refine s_dup2 (n := 87) hX (dec_of D_X0_enterPlay (i := 49) rfl) rfl rfl rfl ?_
        refine s_iald (n := 88) hX (vk7 (by omega)) (by decide) (dec_of D_X0_enterPlay (i := 50) rfl) rfl (fun v19 => ?_)
        refine s_aload_n 2 (n := 89) hX (dec_of D_X0_enterPlay (i := 51) rfl) rfl rfl rfl ?_
        refine s_getR (c := 3) (p := 0) (k' := 9) (n := 92) hX cls3 (vk124 (by omega)) (dec_of D_X0_enterPlay (i := 52) rfl) rfl rfl wd_290 ?_
        refine s_iload 6 (n := 94) hX (dec_of D_X0_enterPlay (i := 53) rfl) rfl rfl ?_
        refine s_iald (n := 95) hX (vk9 (by omega)) (by decide) (dec_of D_X0_enterPlay (i := 54) rfl) rfl (fun v20 => ?_)
        refine s_iadd (n := 96) hX (dec_of D_X0_enterPlay (i := 55) rfl) rfl ?_
        refine s_iast (n := 97) hX (vk7 (by omega)) (by decide) (dec_of D_X0_enterPlay (i := 56) rfl) rfl (fun s21 => ?_)
        refine s_goto (n := 116) hX (dec_of D_X0_enterPlay (i := 57) rfl) rfl ?_
        refine s_iinc (v := z1.2 + 1) (lv' := [(0, _), (1, _), (2, _), (3, _), (4, _), (5, _), (6, _)]) 6 [1, 2, 3, 4, 5, 6, 0] (n := 119) hX (dec_of D_X0_enterPlay (i := 69) rfl) rfl rfl rfl (by decide) rfl ?_
        refine s_goto (n := 3) hX (dec_of D_X0_enterPlay (i := 70) rfl) rfl ?_
        exact s_sub [0, 1, 2, 3, 4, 5, 6] rfl (hre3 (s21, (z1.2 + 1)))
    · refine s_aload_n 0 (n := 23) hX (dec_of D_X0_enterPlay (i := 11) rfl) rfl rfl rfl ?_
      refine s_getR (c := 0) (p := 5) (k' := 4) (n := 26) hX cls0 (vk121 (by omega)) (dec_of D_X0_enterPlay (i := 12) rfl) rfl rfl wd_229 ?_
      refine s_aload_n 2 (n := 27) hX (dec_of D_X0_enterPlay (i := 13) rfl) rfl rfl rfl ?_
      refine s_getR (c := 3) (p := 1) (k' := 10) (n := 30) hX cls3 (vk124 (by omega)) (dec_of D_X0_enterPlay (i := 14) rfl) rfl rfl wd_293 ?_
      refine s_iload 6 (n := 32) hX (dec_of D_X0_enterPlay (i := 15) rfl) rfl rfl ?_
      refine s_iald (n := 33) hX (vk10 (by omega)) (by decide) (dec_of D_X0_enterPlay (i := 16) rfl) rfl (fun v22 => ?_)
      refine s_bipush (v := 6) (n := 35) hX (dec_of D_X0_enterPlay (i := 17) rfl) rfl (by decide) ?_
      refine s_imul (n := 36) hX (dec_of D_X0_enterPlay (i := 18) rfl) rfl ?_
      refine s_iload_n 3 (n := 37) hX (dec_of D_X0_enterPlay (i := 19) rfl) rfl rfl rfl ?_
      refine s_iadd (n := 38) hX (dec_of D_X0_enterPlay (i := 20) rfl) rfl ?_
      refine s_dup2 (n := 39) hX (dec_of D_X0_enterPlay (i := 21) rfl) rfl rfl rfl ?_
      refine s_iald (n := 40) hX (vk4 (by omega)) (by decide) (dec_of D_X0_enterPlay (i := 22) rfl) rfl (fun v23 => ?_)
      refine s_aload_n 2 (n := 41) hX (dec_of D_X0_enterPlay (i := 23) rfl) rfl rfl rfl ?_
      refine s_getR (c := 3) (p := 0) (k' := 9) (n := 44) hX cls3 (vk124 (by omega)) (dec_of D_X0_enterPlay (i := 24) rfl) rfl rfl wd_290 ?_
      refine s_iload 6 (n := 46) hX (dec_of D_X0_enterPlay (i := 25) rfl) rfl rfl ?_
      refine s_iald (n := 47) hX (vk9 (by omega)) (by decide) (dec_of D_X0_enterPlay (i := 26) rfl) rfl (fun v24 => ?_)
      refine s_iadd (n := 48) hX (dec_of D_X0_enterPlay (i := 27) rfl) rfl ?_
      refine s_iast (n := 49) hX (vk4 (by omega)) (by decide) (dec_of D_X0_enterPlay (i := 28) rfl) rfl (fun s25 => ?_)
      refine s_goto (n := 116) hX (dec_of D_X0_enterPlay (i := 29) rfl) rfl ?_
      refine s_iinc (v := z1.2 + 1) (lv' := [(0, _), (1, _), (2, _), (3, _), (4, _), (5, _), (6, _)]) 6 [1, 2, 3, 4, 5, 6, 0] (n := 119) hX (dec_of D_X0_enterPlay (i := 69) rfl) rfl rfl rfl (by decide) rfl ?_
      refine s_goto (n := 3) hX (dec_of D_X0_enterPlay (i := 70) rfl) rfl ?_
      exact s_sub [0, 1, 2, 3, 4, 5, 6] rfl (hre3 (s25, (z1.2 + 1)))
def T_X0_ageSlot : List (Nat × Instr × Nat) := [(0, .iload_n 1, 1), (1, .bipush 9, 2), (3, .imul, 1), (4, .istore_n 3, 1), (5, .aload_n 0, 1), (6, .getfield 40, 3), (9, .iload_n 3, 1), (10, .iload_n 2, 1), (11, .iadd, 1), (12, .iconst 1, 1), (13, .isub, 1), (14, .iaload, 1), (15, .istore 4, 2), (17, .iload_n 2, 1), (18, .iconst 1, 1), (19, .isub, 1), (20, .istore 5, 2), (22, .iload 5, 2), (24, .ifCond .le 29, 3), (27, .aload_n 0, 1), (28, .getfield 40, 3), (31, .iload_n 3, 1), (32, .iload 5, 2), (34, .iadd, 1), (35, .aload_n 0, 1), (36, .getfield 40, 3), (39, .iload_n 3, 1), (40, .iload 5, 2), (42, .iadd, 1), (43, .iconst 1, 1), (44, .isub, 1), (45, .iaload, 1), (46, .iastore, 1), (47, .iinc 5 (-1), 3), (50, .goto (-28), 3), (53, .aload_n 0, 1), (54, .getfield 40, 3), (57, .iload_n 3, 1), (58, .iconst 0, 1), (59, .iastore, 1), (60, .iload 4, 2), (62, .ireturn, 1)]
theorem D_X0_ageSlot : dchk cX0_ageSlot T_X0_ageSlot = true := by decide +kernel
def Bk_ageSlot (σ : ST) (i0 : Nat) (a1 : Int32) (a2 : Int32) : Option (Int32 × ST) :=
  lt_ ((a1 * 9)) (fun x1 => bd_ (ldI σ 7 i0 ((x1 + a2) - 1)) (fun v2 => lt_ ((a2 - 1)) (fun x3 => lp_ (fun rec5 (z4 : ST × Int32) => (if z4.2 ≤ 0 then bd_ (stI z4.1 7 i0 x1 0) (fun s7 => some (v2, s7)) else bd_ (ldI z4.1 7 i0 ((x1 + z4.2) - 1)) (fun v8 => bd_ (stI z4.1 7 i0 (x1 + z4.2) v8) (fun s9 => rec5 (s9, (z4.2 + (-1))))))) FU (σ, x3))))
set_option maxHeartbeats 4000000 in
set_option maxRecDepth 100000 in
theorem c_X0_ageSlot {G : GW} (hG : Good G) {l : Launch} (σ : ST) (i0 : Nat) (h0 : i0 < 13) (a1 : Int32) (a2 : Int32) : Ctr G l yX0_ageSlot cX0_ageSlot 6 (some .int) 0 [.ref (ga G 121 i0), .int a1, .int a2] σ oP (Bk_ageSlot σ i0 a1 a2) := by
  refine ctr_of hG (by decide) (Nat.le_of_ble_eq_true rfl) ?_
  intro X hXl hR hX
  have hX : Ok G X cX0_ageSlot 6 RX0 0 := hX
  unfold Bk_ageSlot
  show Sim G X 6 (MQX G X oP) σ 0 [(0, .ref (ga G 121 i0)), (1, .int a1), (2, .int a2)] [] _
  refine s_iload_n 1 (n := 1) hX (dec_of D_X0_ageSlot (i := 0) rfl) rfl rfl rfl ?_
  refine s_bipush (v := 9) (n := 3) hX (dec_of D_X0_ageSlot (i := 1) rfl) rfl (by decide) ?_
  refine s_imul (n := 4) hX (dec_of D_X0_ageSlot (i := 2) rfl) rfl ?_
  refine s_topi (fun x1 => ?_)
  refine s_istore_n (lv' := [(0, _), (1, _), (2, _), (3, _)]) [1, 2, 3, 0] (n := 5) hX (dec_of D_X0_ageSlot (i := 3) rfl) rfl rfl (by decide) rfl ?_
  refine s_aload_n 0 (n := 6) hX (dec_of D_X0_ageSlot (i := 4) rfl) rfl rfl rfl ?_
  refine s_getR (c := 0) (p := 8) (k' := 7) (n := 9) hX cls0 (vk121 (by omega)) (dec_of D_X0_ageSlot (i := 5) rfl) rfl rfl wd_236 ?_
  refine s_iload_n 3 (n := 10) hX (dec_of D_X0_ageSlot (i := 6) rfl) rfl rfl rfl ?_
  refine s_iload_n 2 (n := 11) hX (dec_of D_X0_ageSlot (i := 7) rfl) rfl rfl rfl ?_
  refine s_iadd (n := 12) hX (dec_of D_X0_ageSlot (i := 8) rfl) rfl ?_
  refine s_iconst (v := 1) (n := 13) hX (dec_of D_X0_ageSlot (i := 9) rfl) rfl (by decide) ?_
  refine s_isub (n := 14) hX (dec_of D_X0_ageSlot (i := 10) rfl) rfl ?_
  refine s_iald (n := 15) hX (vk7 (by omega)) (by decide) (dec_of D_X0_ageSlot (i := 11) rfl) rfl (fun v2 => ?_)
  refine s_istore (lv' := [(0, _), (1, _), (2, _), (3, _), (4, _)]) [1, 2, 3, 4, 0] (n := 17) hX (dec_of D_X0_ageSlot (i := 12) rfl) rfl (by decide) rfl ?_
  refine s_iload_n 2 (n := 18) hX (dec_of D_X0_ageSlot (i := 13) rfl) rfl rfl rfl ?_
  refine s_iconst (v := 1) (n := 19) hX (dec_of D_X0_ageSlot (i := 14) rfl) rfl (by decide) ?_
  refine s_isub (n := 20) hX (dec_of D_X0_ageSlot (i := 15) rfl) rfl ?_
  refine s_topi (fun x3 => ?_)
  refine s_istore (lv' := [(0, _), (1, _), (2, _), (3, _), (4, _), (5, _)]) [1, 2, 3, 4, 5, 0] (n := 22) hX (dec_of D_X0_ageSlot (i := 16) rfl) rfl (by decide) rfl ?_
  refine s_sub [0, 3, 4, 5] rfl (s_lp (pc := 22) (Sf := fun (z4 : ST × Int32) => z4.1) (lvf := fun (z4 : ST × Int32) => [(0, .ref (ga G 121 i0)), (3, .int x1), (4, .int v2), (5, .int z4.2)]) (fun rec5 hre6 z4 => ?_) FU (σ, x3))
  refine s_iload 3 (n := 24) hX (dec_of D_X0_ageSlot (i := 17) rfl) rfl rfl ?_
  refine s_if_le (tgt := 53) (n := 27) hX (dec_of D_X0_ageSlot (i := 18) rfl) rfl rfl ?_ ?_
  · refine s_aload_n 0 (n := 54) hX (dec_of D_X0_ageSlot (i := 35) rfl) rfl rfl rfl ?_
    refine s_getR (c := 0) (p := 8) (k' := 7) (n := 57) hX cls0 (vk121 (by omega)) (dec_of D_X0_ageSlot (i := 36) rfl) rfl rfl wd_236 ?_
    refine s_iload_n 1 (n := 58) hX (dec_of D_X0_ageSlot (i := 37) rfl) rfl rfl rfl ?_
    refine s_iconst (v := 0) (n := 59) hX (dec_of D_X0_ageSlot (i := 38) rfl) rfl (by decide) ?_
    refine s_iast (n := 60) hX (vk7 (by omega)) (by decide) (dec_of D_X0_ageSlot (i := 39) rfl) rfl (fun s7 => ?_)
    refine s_iload 2 (n := 62) hX (dec_of D_X0_ageSlot (i := 40) rfl) rfl rfl ?_
    exact s_iret hX hR (dec_of D_X0_ageSlot (i := 41) rfl) rfl
  · refine s_aload_n 0 (n := 28) hX (dec_of D_X0_ageSlot (i := 19) rfl) rfl rfl rfl ?_
    refine s_getR (c := 0) (p := 8) (k' := 7) (n := 31) hX cls0 (vk121 (by omega)) (dec_of D_X0_ageSlot (i := 20) rfl) rfl rfl wd_236 ?_
    refine s_iload_n 1 (n := 32) hX (dec_of D_X0_ageSlot (i := 21) rfl) rfl rfl rfl ?_
    refine s_iload 3 (n := 34) hX (dec_of D_X0_ageSlot (i := 22) rfl) rfl rfl ?_
    refine s_iadd (n := 35) hX (dec_of D_X0_ageSlot (i := 23) rfl) rfl ?_
    refine s_aload_n 0 (n := 36) hX (dec_of D_X0_ageSlot (i := 24) rfl) rfl rfl rfl ?_
    refine s_getR (c := 0) (p := 8) (k' := 7) (n := 39) hX cls0 (vk121 (by omega)) (dec_of D_X0_ageSlot (i := 25) rfl) rfl rfl wd_236 ?_
    refine s_iload_n 1 (n := 40) hX (dec_of D_X0_ageSlot (i := 26) rfl) rfl rfl rfl ?_
    refine s_iload 3 (n := 42) hX (dec_of D_X0_ageSlot (i := 27) rfl) rfl rfl ?_
    refine s_iadd (n := 43) hX (dec_of D_X0_ageSlot (i := 28) rfl) rfl ?_
    refine s_iconst (v := 1) (n := 44) hX (dec_of D_X0_ageSlot (i := 29) rfl) rfl (by decide) ?_
    refine s_isub (n := 45) hX (dec_of D_X0_ageSlot (i := 30) rfl) rfl ?_
    refine s_iald (n := 46) hX (vk7 (by omega)) (by decide) (dec_of D_X0_ageSlot (i := 31) rfl) rfl (fun v8 => ?_)
    refine s_iast (n := 47) hX (vk7 (by omega)) (by decide) (dec_of D_X0_ageSlot (i := 32) rfl) rfl (fun s9 => ?_)
    refine s_iinc (v := z4.2 + (-1)) (lv' := [(0, _), (3, _), (4, _), (5, _)]) 3 [1, 2, 3, 0] (n := 50) hX (dec_of D_X0_ageSlot (i := 33) rfl) rfl rfl rfl (by decide) rfl ?_
    refine s_goto (n := 22) hX (dec_of D_X0_ageSlot (i := 34) rfl) rfl ?_
    exact s_sub [0, 1, 2, 3] rfl (hre6 (s9, (z4.2 + (-1))))
theorem lk_RX0_99 : LkV RX0 99 RX0 yX0_ageSlot cX0_ageSlot 6 (some .int) 2 := ⟨wd_902, wd_903, wd_904, wd_86, wd_905, by decide +kernel, by decide⟩
def T_X0_passYear : List (Nat × Instr × Nat) := [(0, .aload_n 0, 1), (1, .dup, 1), (2, .getfield 53, 3), (5, .iconst 1, 1), (6, .iadd, 1), (7, .putfield 53, 3), (10, .iconst 0, 1), (11, .istore_n 2, 1), (12, .iconst 0, 1), (13, .istore_n 3, 1), (14, .iload_n 3, 1), (15, .aload_n 1, 1), (16, .getfield 93, 3), (19, .if_icmp .ge 76, 3), (22, .iload_n 3, 1), (23, .iconst 0, 1), (24, .iconst 0, 1), (25, .invokestatic 86, 3), (28, .istore 4, 2), (30, .iload 4, 2), (32, .iload_n 3, 1), (33, .iconst 1, 1), (34, .iadd, 1), (35, .iconst 0, 1), (36, .iconst 0, 1), (37, .invokestatic 86, 3), (40, .if_icmp .ge 49, 3), (43, .aload_n 0, 1), (44, .iload 4, 2), (46, .aload_n 1, 1), (47, .getfield 96, 3), (50, .invokevirtual 99, 3), (53, .istore 5, 2), (55, .aload_n 0, 1), (56, .getfield 37, 3), (59, .iload 4, 2), (61, .dup2, 1), (62, .iaload, 1), (63, .iload 5, 2), (65, .iadd, 1), (66, .iastore, 1), (67, .aload_n 0, 1), (68, .getfield 18, 3), (71, .iload_n 3, 1), (72, .dup2, 1), (73, .iaload, 1), (74, .iload 5, 2), (76, .iadd, 1), (77, .iastore, 1), (78, .iload_n 2, 1), (79, .iload 5, 2), (81, .iadd, 1), (82, .istore_n 2, 1), (83, .iinc 4 1, 3), (86, .goto (-56), 3), (89, .iinc 3 1, 3), (92, .goto (-78), 3), (95, .iload_n 2, 1), (96, .ireturn, 1)]
theorem D_X0_passYear : dchk cX0_passYear T_X0_passYear = true := by decide +kernel
def Bk_passYear (σ : ST) (i0 : Nat) (i1 : Nat) : Option (Int32 × ST) :=
  lt_ (setF σ 209 i0 ((gF σ 209 i0) + 1)) (fun s1 => lp_ (fun rec3 (z2 : ST × Int32 × Int32) => (if (gF z2.1 529 i1) ≤ z2.2.2 then some (z2.2.1, z2.1) else bd_ (Rp_slotOf z2.1 z2.2.2 0 0) (fun q5 => lp_ (fun rec7 (z6 : ST × Int32 × Int32) => bd_ (Rp_slotOf z6.1 (z2.2.2 + 1) 0 0) (fun q9 => (if q9 ≤ z6.2.2 then rec3 (z6.1, z6.2.1, (z2.2.2 + 1)) else bd_ (Bk_ageSlot z6.1 i0 z6.2.2 (gF z6.1 533 i1)) (fun q10 => bd_ (ldI q10.2 6 i0 z6.2.2) (fun v11 => bd_ (stI q10.2 6 i0 z6.2.2 (v11 + q10.1)) (fun s12 => bd_ (ldI s12 0 i0 z2.2.2) (fun v13 => bd_ (stI s12 0 i0 z2.2.2 (v13 + q10.1)) (fun s14 => lt_ ((z6.2.1 + q10.1)) (fun x15 => rec7 (s14, x15, (z6.2.2 + 1))))))))))) FU (z2.1, z2.2.1, q5)))) FU (s1, 0, 0))
set_option maxHeartbeats 4000000 in
set_option maxRecDepth 100000 in
theorem c_X0_passYear {G : GW} (hG : Good G) {l : Launch} (σ : ST) (i0 : Nat) (h0 : i0 < 13) (i1 : Nat) (h1 : i1 < 2) : Ctr G l yX0_passYear cX0_passYear 6 (some .int) 1 [.ref (ga G 121 i0), .ref (ga G 126 i1)] σ oP (Bk_passYear σ i0 i1) := by
  refine ctr_of hG (by decide) (Nat.le_of_ble_eq_true rfl) ?_
  intro X hXl hR hX
  have hX : Ok G X cX0_passYear 6 RX0 1 := hX
  unfold Bk_passYear
  show Sim G X 6 (MQX G X oP) σ 0 [(0, .ref (ga G 121 i0)), (1, .ref (ga G 126 i1))] [] _
  refine s_aload_n 0 (n := 1) hX (dec_of D_X0_passYear (i := 0) rfl) rfl rfl rfl ?_
  refine s_dup (n := 2) hX (dec_of D_X0_passYear (i := 1) rfl) rfl rfl ?_
  refine s_getI (c := 0) (p := 9) (id := 209) (n := 5) hX cls0 (vk121 (by omega)) (dec_of D_X0_passYear (i := 2) rfl) rfl rfl wd_238 ?_
  refine s_iconst (v := 1) (n := 6) hX (dec_of D_X0_passYear (i := 3) rfl) rfl (by decide) ?_
  refine s_iadd (n := 7) hX (dec_of D_X0_passYear (i := 4) rfl) rfl ?_
  refine s_putI (c := 0) (p := 9) (n := 10) hX cls0 (vk121 (by omega)) (dec_of D_X0_passYear (i := 5) rfl) rfl rfl (by decide) wd_238 rfl rfl rfl (fun s1 => ?_)
  refine s_iconst (v := 0) (n := 11) hX (dec_of D_X0_passYear (i := 6) rfl) rfl (by decide) ?_
  refine s_istore_n (lv' := [(0, _), (1, _), (2, _)]) [1, 2, 0] (n := 12) hX (dec_of D_X0_passYear (i := 7) rfl) rfl rfl (by decide) rfl ?_
  refine s_iconst (v := 0) (n := 13) hX (dec_of D_X0_passYear (i := 8) rfl) rfl (by decide) ?_
  refine s_istore_n (lv' := [(0, _), (1, _), (2, _), (3, _)]) [1, 2, 3, 0] (n := 14) hX (dec_of D_X0_passYear (i := 9) rfl) rfl rfl (by decide) rfl ?_
  refine s_sub [0, 1, 2, 3] rfl (s_lp (pc := 14) (Sf := fun (z2 : ST × Int32 × Int32) => z2.1) (lvf := fun (z2 : ST × Int32 × Int32) => [(0, .ref (ga G 121 i0)), (1, .ref (ga G 126 i1)), (2, .int z2.2.1), (3, .int z2.2.2)]) (fun rec3 hre4 z2 => ?_) FU (s1, 0, 0))
  refine s_iload_n 3 (n := 15) hX (dec_of D_X0_passYear (i := 10) rfl) rfl rfl rfl ?_
  refine s_aload_n 1 (n := 16) hX (dec_of D_X0_passYear (i := 11) rfl) rfl rfl rfl ?_
  refine s_getI (c := 5) (p := 9) (id := 529) (n := 19) hX cls5 (vk126 (by omega)) (dec_of D_X0_passYear (i := 12) rfl) rfl rfl wd_390 ?_
  refine s_icmp_ge (tgt := 95) (n := 22) hX (dec_of D_X0_passYear (i := 13) rfl) rfl rfl ?_ ?_
  · refine s_iload_n 2 (n := 96) hX (dec_of D_X0_passYear (i := 57) rfl) rfl rfl rfl ?_
    exact s_iret hX hR (dec_of D_X0_passYear (i := 58) rfl) rfl
  · refine s_iload_n 3 (n := 23) hX (dec_of D_X0_passYear (i := 14) rfl) rfl rfl rfl ?_
    refine s_iconst (v := 0) (n := 24) hX (dec_of D_X0_passYear (i := 15) rfl) rfl (by decide) ?_
    refine s_iconst (v := 0) (n := 25) hX (dec_of D_X0_passYear (i := 16) rfl) rfl (by decide) ?_
    refine s_callNI (n := 28) hX wd_893 wd_892 wd_83 (dec_of D_X0_passYear (i := 17) rfl) rfl (by decide) (c_X9_slotOf (l := _) hG _ _ _ _) rfl rfl (Nat.le_of_ble_eq_true rfl) (fun q5 => ?_)
    refine s_istore (lv' := [(0, _), (1, _), (2, _), (3, _), (4, _)]) [1, 2, 3, 4, 0] (n := 30) hX (dec_of D_X0_passYear (i := 18) rfl) rfl (by decide) rfl ?_
    refine s_sub [0, 1, 2, 3, 4] rfl (s_lp (pc := 30) (Sf := fun (z6 : ST × Int32 × Int32) => z6.1) (lvf := fun (z6 : ST × Int32 × Int32) => [(0, .ref (ga G 121 i0)), (1, .ref (ga G 126 i1)), (2, .int z6.2.1), (3, .int z2.2.2), (4, .int z6.2.2)]) (fun rec7 hre8 z6 => ?_) FU (z2.1, z2.2.1, q5))
    refine s_iload 4 (n := 32) hX (dec_of D_X0_passYear (i := 19) rfl) rfl rfl ?_
    refine s_iload_n 3 (n := 33) hX (dec_of D_X0_passYear (i := 20) rfl) rfl rfl rfl ?_
    refine s_iconst (v := 1) (n := 34) hX (dec_of D_X0_passYear (i := 21) rfl) rfl (by decide) ?_
    refine s_iadd (n := 35) hX (dec_of D_X0_passYear (i := 22) rfl) rfl ?_
    refine s_iconst (v := 0) (n := 36) hX (dec_of D_X0_passYear (i := 23) rfl) rfl (by decide) ?_
    refine s_iconst (v := 0) (n := 37) hX (dec_of D_X0_passYear (i := 24) rfl) rfl (by decide) ?_
    refine s_callNI (n := 40) hX wd_893 wd_892 wd_83 (dec_of D_X0_passYear (i := 25) rfl) rfl (by decide) (c_X9_slotOf (l := _) hG _ _ _ _) rfl rfl (Nat.le_of_ble_eq_true rfl) (fun q9 => ?_)
    refine s_icmp_ge (tgt := 89) (n := 43) hX (dec_of D_X0_passYear (i := 26) rfl) rfl rfl ?_ ?_
    · refine s_iinc (v := z2.2.2 + 1) (lv' := [(0, _), (1, _), (2, _), (3, _), (4, _)]) 3 [1, 2, 3, 0, 4] (n := 92) hX (dec_of D_X0_passYear (i := 55) rfl) rfl rfl rfl (by decide) rfl ?_
      refine s_goto (n := 14) hX (dec_of D_X0_passYear (i := 56) rfl) rfl ?_
      exact s_sub [0, 1, 2, 3] rfl (hre4 (z6.1, z6.2.1, (z2.2.2 + 1)))
    · refine s_aload_n 0 (n := 44) hX (dec_of D_X0_passYear (i := 27) rfl) rfl rfl rfl ?_
      refine s_iload 4 (n := 46) hX (dec_of D_X0_passYear (i := 28) rfl) rfl rfl ?_
      refine s_aload_n 1 (n := 47) hX (dec_of D_X0_passYear (i := 29) rfl) rfl rfl rfl ?_
      refine s_getI (c := 5) (p := 13) (id := 533) (n := 50) hX cls5 (vk126 (by omega)) (dec_of D_X0_passYear (i := 30) rfl) rfl rfl wd_409 ?_
      refine s_callVP (c := 0) (n := 53) hX cls0 (vk121 (by omega)) lk_RX0_99 (dec_of D_X0_passYear (i := 31) rfl) rfl (by decide) (c_X0_ageSlot (l := _) hG _ _ (by omega) _ _) rfl rfl (Nat.le_of_ble_eq_true rfl) (fun q10 => ?_)
      refine s_istore (lv' := [(0, _), (1, _), (2, _), (3, _), (4, _), (5, _)]) [1, 2, 3, 4, 5, 0] (n := 55) hX (dec_of D_X0_passYear (i := 32) rfl) rfl (by decide) rfl ?_
      refine s_aload_n 0 (n := 56) hX (dec_of D_X0_passYear (i := 33) rfl) rfl rfl rfl ?_
      refine s_getR (c := 0) (p := 7) (k' := 6) (n := 59) hX cls0 (vk121 (by omega)) (dec_of D_X0_passYear (i := 34) rfl) rfl rfl wd_234 ?_
      refine s_iload 4 (n := 61) hX (dec_of D_X0_passYear (i := 35) rfl) rfl rfl ?_
      refine s_dup2 (n := 62) hX (dec_of D_X0_passYear (i := 36) rfl) rfl rfl rfl ?_
      refine s_iald (n := 63) hX (vk6 (by omega)) (by decide) (dec_of D_X0_passYear (i := 37) rfl) rfl (fun v11 => ?_)
      refine s_iload 5 (n := 65) hX (dec_of D_X0_passYear (i := 38) rfl) rfl rfl ?_
      refine s_iadd (n := 66) hX (dec_of D_X0_passYear (i := 39) rfl) rfl ?_
      refine s_iast (n := 67) hX (vk6 (by omega)) (by decide) (dec_of D_X0_passYear (i := 40) rfl) rfl (fun s12 => ?_)
      refine s_aload_n 0 (n := 68) hX (dec_of D_X0_passYear (i := 41) rfl) rfl rfl rfl ?_
      refine s_getR (c := 0) (p := 1) (k' := 0) (n := 71) hX cls0 (vk121 (by omega)) (dec_of D_X0_passYear (i := 42) rfl) rfl rfl wd_220 ?_
      refine s_iload_n 3 (n := 72) hX (dec_of D_X0_passYear (i := 43) rfl) rfl rfl rfl ?_
      refine s_dup2 (n := 73) hX (dec_of D_X0_passYear (i := 44) rfl) rfl rfl rfl ?_
      refine s_iald (n := 74) hX (vk0 (by omega)) (by decide) (dec_of D_X0_passYear (i := 45) rfl) rfl (fun v13 => ?_)
      refine s_iload 5 (n := 76) hX (dec_of D_X0_passYear (i := 46) rfl) rfl rfl ?_
      refine s_iadd (n := 77) hX (dec_of D_X0_passYear (i := 47) rfl) rfl ?_
      refine s_iast (n := 78) hX (vk0 (by omega)) (by decide) (dec_of D_X0_passYear (i := 48) rfl) rfl (fun s14 => ?_)
      refine s_iload_n 2 (n := 79) hX (dec_of D_X0_passYear (i := 49) rfl) rfl rfl rfl ?_
      refine s_iload 5 (n := 81) hX (dec_of D_X0_passYear (i := 50) rfl) rfl rfl ?_
      refine s_iadd (n := 82) hX (dec_of D_X0_passYear (i := 51) rfl) rfl ?_
      refine s_topi (fun x15 => ?_)
      refine s_istore_n (lv' := [(0, _), (1, _), (2, _), (3, _), (4, _), (5, _)]) [1, 2, 0, 3, 4, 5] (n := 83) hX (dec_of D_X0_passYear (i := 52) rfl) rfl rfl (by decide) rfl ?_
      refine s_iinc (v := z6.2.2 + 1) (lv' := [(0, _), (1, _), (2, _), (3, _), (4, _), (5, _)]) 4 [1, 2, 3, 4, 0, 5] (n := 86) hX (dec_of D_X0_passYear (i := 53) rfl) rfl rfl rfl (by decide) rfl ?_
      refine s_goto (n := 30) hX (dec_of D_X0_passYear (i := 54) rfl) rfl ?_
      exact s_sub [0, 1, 2, 3, 4] rfl (hre8 (s14, x15, (z6.2.2 + 1)))
def T_X8_hasRole : List (Nat × Instr × Nat) := [(0, .aload_n 0, 1), (1, .getfield 15, 3), (4, .iload_n 1, 1), (5, .iaload, 1), (6, .iload_n 2, 1), (7, .ishr, 1), (8, .iconst 1, 1), (9, .iand, 1), (10, .iconst 1, 1), (11, .if_icmp .ne 7, 3), (14, .iconst 1, 1), (15, .goto 4, 3), (18, .iconst 0, 1), (19, .ireturn, 1)]
theorem D_X8_hasRole : dchk cX8_hasRole T_X8_hasRole = true := by decide +kernel
def Wo_hasRole (σ : ST) (i0 : Nat) (a1 : Int32) (a2 : Int32) : Option Int32 :=
  bd_ (ldI σ 25 i0 a1) (fun v1 => (if ((v1 >>> (a2 &&& 31)) &&& 1) = 1 then some 1 else some 0))
set_option maxHeartbeats 4000000 in
set_option maxRecDepth 100000 in
theorem c_X8_hasRole {G : GW} (hG : Good G) {l : Launch} (σ : ST) (i0 : Nat) (h0 : i0 < 14) (a1 : Int32) (a2 : Int32) : Ctr G l yX8_hasRole cX8_hasRole 3 (some .boolean) 0 [.ref (ga G 129 i0), .int a1, .int a2] σ (oI σ) (Wo_hasRole σ i0 a1 a2) := by
  refine ctr_of hG (by decide) (Nat.le_of_ble_eq_true rfl) ?_
  intro X hXl hR hX
  have hX : Ok G X cX8_hasRole 3 RX8 0 := hX
  unfold Wo_hasRole
  show Sim G X 3 (MQX G X (oI σ)) σ 0 [(0, .ref (ga G 129 i0)), (1, .int a1), (2, .int a2)] [] _
  refine s_aload_n 0 (n := 1) hX (dec_of D_X8_hasRole (i := 0) rfl) rfl rfl rfl ?_
  refine s_getR (c := 8) (p := 1) (k' := 25) (n := 4) hX cls8 (vk129 (by omega)) (dec_of D_X8_hasRole (i := 1) rfl) rfl rfl wd_200 ?_
  refine s_iload_n 1 (n := 5) hX (dec_of D_X8_hasRole (i := 2) rfl) rfl rfl rfl ?_
  refine s_iald (n := 6) hX (vk25 (by omega)) (by decide) (dec_of D_X8_hasRole (i := 3) rfl) rfl (fun v1 => ?_)
  refine s_iload_n 2 (n := 7) hX (dec_of D_X8_hasRole (i := 4) rfl) rfl rfl rfl ?_
  refine s_ishr (n := 8) hX (dec_of D_X8_hasRole (i := 5) rfl) rfl ?_
  refine s_iconst (v := 1) (n := 9) hX (dec_of D_X8_hasRole (i := 6) rfl) rfl (by decide) ?_
  refine s_iand (n := 10) hX (dec_of D_X8_hasRole (i := 7) rfl) rfl ?_
  refine s_iconst (v := 1) (n := 11) hX (dec_of D_X8_hasRole (i := 8) rfl) rfl (by decide) ?_
  refine s_icmp_ne (tgt := 18) (n := 14) hX (dec_of D_X8_hasRole (i := 9) rfl) rfl rfl ?_ ?_
  · refine s_iconst (v := 0) (n := 19) hX (dec_of D_X8_hasRole (i := 12) rfl) rfl (by decide) ?_
    exact s_zret hX hR (dec_of D_X8_hasRole (i := 13) rfl) rfl rfl
  · refine s_iconst (v := 1) (n := 15) hX (dec_of D_X8_hasRole (i := 10) rfl) rfl (by decide) ?_
    refine s_goto (n := 19) hX (dec_of D_X8_hasRole (i := 11) rfl) rfl ?_
    exact s_zret hX hR (dec_of D_X8_hasRole (i := 13) rfl) rfl rfl
theorem lk_RX8_41 : LkV RX8 41 RX8 yX8_hasRole cX8_hasRole 3 (some .boolean) 2 := ⟨wd_754, wd_755, wd_756, wd_87, wd_757, by decide +kernel, by decide⟩
def T_X8_payable : List (Nat × Instr × Nat) := [(0, .aload_n 0, 1), (1, .iload_n 1, 1), (2, .iload_n 3, 1), (3, .invokevirtual 41, 3), (6, .ifCond .ne 5, 3), (9, .iconst 0, 1), (10, .ireturn, 1), (11, .iload_n 1, 1), (12, .iload_n 2, 1), (13, .if_icmp .eq 12, 3), (16, .aload_n 0, 1), (17, .getfield 9, 3), (20, .iload_n 1, 1), (21, .iaload, 1), (22, .ifCond .ne 5, 3), (25, .iconst 1, 1), (26, .ireturn, 1), (27, .aload_n 0, 1), (28, .getfield 9, 3), (31, .iload_n 1, 1), (32, .iaload, 1), (33, .iconst 1, 1), (34, .if_icmp .ne 26, 3), (37, .aload_n 0, 1), (38, .getfield 9, 3), (41, .iload_n 2, 1), (42, .iaload, 1), (43, .iconst 2, 1), (44, .if_icmp .eq 16, 3), (47, .aload_n 0, 1), (48, .iload_n 2, 1), (49, .iload_n 3, 1), (50, .invokevirtual 41, 3), (53, .ifCond .eq 7, 3), (56, .iconst 1, 1), (57, .goto 4, 3), (60, .iconst 0, 1), (61, .ireturn, 1)]
theorem D_X8_payable : dchk cX8_payable T_X8_payable = true := by decide +kernel
def Wo_payable (σ : ST) (i0 : Nat) (a1 : Int32) (a2 : Int32) (a3 : Int32) : Option Int32 :=
  bd_ (Wo_hasRole (σ) i0 a1 a3) (fun q1 => (if q1 = 0 then some 0 else (if a1 = a2 then some 1 else bd_ (ldI σ 24 i0 a1) (fun v2 => (if v2 = 0 then some 1 else bd_ (ldI σ 24 i0 a1) (fun v3 => (if v3 = 1 then bd_ (ldI σ 24 i0 a2) (fun v4 => (if v4 = 2 then some 0 else bd_ (Wo_hasRole (σ) i0 a2 a3) (fun q5 => (if q5 = 0 then some 0 else some 1)))) else some 0)))))))
set_option maxHeartbeats 4000000 in
set_option maxRecDepth 100000 in
theorem c_X8_payable {G : GW} (hG : Good G) {l : Launch} (σ : ST) (i0 : Nat) (h0 : i0 < 14) (a1 : Int32) (a2 : Int32) (a3 : Int32) : Ctr G l yX8_payable cX8_payable 4 (some .boolean) 1 [.ref (ga G 129 i0), .int a1, .int a2, .int a3] σ (oI σ) (Wo_payable σ i0 a1 a2 a3) := by
  refine ctr_of hG (by decide) (Nat.le_of_ble_eq_true rfl) ?_
  intro X hXl hR hX
  have hX : Ok G X cX8_payable 4 RX8 1 := hX
  unfold Wo_payable
  show Sim G X 4 (MQX G X (oI σ)) σ 0 [(0, .ref (ga G 129 i0)), (1, .int a1), (2, .int a2), (3, .int a3)] [] _
  refine s_aload_n 0 (n := 1) hX (dec_of D_X8_payable (i := 0) rfl) rfl rfl rfl ?_
  refine s_iload_n 1 (n := 2) hX (dec_of D_X8_payable (i := 1) rfl) rfl rfl rfl ?_
  refine s_iload_n 3 (n := 3) hX (dec_of D_X8_payable (i := 2) rfl) rfl rfl rfl ?_
  refine s_callVI (c := 8) (n := 6) hX cls8 (vk129 (by omega)) lk_RX8_41 (dec_of D_X8_payable (i := 3) rfl) rfl (by decide) (c_X8_hasRole (l := _) hG _ _ (by omega) _ _) rfl rfl (Nat.le_of_ble_eq_true rfl) (fun q1 => ?_)
  refine s_if_ne (tgt := 11) (n := 9) hX (dec_of D_X8_payable (i := 4) rfl) rfl rfl ?_ ?_
  · refine s_iload_n 1 (n := 12) hX (dec_of D_X8_payable (i := 7) rfl) rfl rfl rfl ?_
    refine s_iload_n 2 (n := 13) hX (dec_of D_X8_payable (i := 8) rfl) rfl rfl rfl ?_
    refine s_icmp_eq (tgt := 25) (n := 16) hX (dec_of D_X8_payable (i := 9) rfl) rfl rfl ?_ ?_
    · refine s_iconst (v := 1) (n := 26) hX (dec_of D_X8_payable (i := 15) rfl) rfl (by decide) ?_
      exact s_zret hX hR (dec_of D_X8_payable (i := 16) rfl) rfl rfl
    · refine s_aload_n 0 (n := 17) hX (dec_of D_X8_payable (i := 10) rfl) rfl rfl rfl ?_
      refine s_getR (c := 8) (p := 0) (k' := 24) (n := 20) hX cls8 (vk129 (by omega)) (dec_of D_X8_payable (i := 11) rfl) rfl rfl wd_198 ?_
      refine s_iload_n 1 (n := 21) hX (dec_of D_X8_payable (i := 12) rfl) rfl rfl rfl ?_
      refine s_iald (n := 22) hX (vk24 (by omega)) (by decide) (dec_of D_X8_payable (i := 13) rfl) rfl (fun v2 => ?_)
      refine s_if_ne (tgt := 27) (n := 25) hX (dec_of D_X8_payable (i := 14) rfl) rfl rfl ?_ ?_
      · refine s_aload_n 0 (n := 28) hX (dec_of D_X8_payable (i := 17) rfl) rfl rfl rfl ?_
        refine s_getR (c := 8) (p := 0) (k' := 24) (n := 31) hX cls8 (vk129 (by omega)) (dec_of D_X8_payable (i := 18) rfl) rfl rfl wd_198 ?_
        refine s_iload_n 1 (n := 32) hX (dec_of D_X8_payable (i := 19) rfl) rfl rfl rfl ?_
        refine s_iald (n := 33) hX (vk24 (by omega)) (by decide) (dec_of D_X8_payable (i := 20) rfl) rfl (fun v3 => ?_)
        refine s_iconst (v := 1) (n := 34) hX (dec_of D_X8_payable (i := 21) rfl) rfl (by decide) ?_
        refine s_icmp_ne (tgt := 60) (n := 37) hX (dec_of D_X8_payable (i := 22) rfl) rfl rfl ?_ ?_
        · refine s_iconst (v := 0) (n := 61) hX (dec_of D_X8_payable (i := 36) rfl) rfl (by decide) ?_
          exact s_zret hX hR (dec_of D_X8_payable (i := 37) rfl) rfl rfl
        · refine s_aload_n 0 (n := 38) hX (dec_of D_X8_payable (i := 23) rfl) rfl rfl rfl ?_
          refine s_getR (c := 8) (p := 0) (k' := 24) (n := 41) hX cls8 (vk129 (by omega)) (dec_of D_X8_payable (i := 24) rfl) rfl rfl wd_198 ?_
          refine s_iload_n 2 (n := 42) hX (dec_of D_X8_payable (i := 25) rfl) rfl rfl rfl ?_
          refine s_iald (n := 43) hX (vk24 (by omega)) (by decide) (dec_of D_X8_payable (i := 26) rfl) rfl (fun v4 => ?_)
          refine s_iconst (v := 2) (n := 44) hX (dec_of D_X8_payable (i := 27) rfl) rfl (by decide) ?_
          refine s_icmp_eq (tgt := 60) (n := 47) hX (dec_of D_X8_payable (i := 28) rfl) rfl rfl ?_ ?_
          · refine s_iconst (v := 0) (n := 61) hX (dec_of D_X8_payable (i := 36) rfl) rfl (by decide) ?_
            exact s_zret hX hR (dec_of D_X8_payable (i := 37) rfl) rfl rfl
          · refine s_aload_n 0 (n := 48) hX (dec_of D_X8_payable (i := 29) rfl) rfl rfl rfl ?_
            refine s_iload_n 2 (n := 49) hX (dec_of D_X8_payable (i := 30) rfl) rfl rfl rfl ?_
            refine s_iload_n 3 (n := 50) hX (dec_of D_X8_payable (i := 31) rfl) rfl rfl rfl ?_
            refine s_callVI (c := 8) (n := 53) hX cls8 (vk129 (by omega)) lk_RX8_41 (dec_of D_X8_payable (i := 32) rfl) rfl (by decide) (c_X8_hasRole (l := _) hG _ _ (by omega) _ _) rfl rfl (Nat.le_of_ble_eq_true rfl) (fun q5 => ?_)
            refine s_if_eq (tgt := 60) (n := 56) hX (dec_of D_X8_payable (i := 33) rfl) rfl rfl ?_ ?_
            · refine s_iconst (v := 0) (n := 61) hX (dec_of D_X8_payable (i := 36) rfl) rfl (by decide) ?_
              exact s_zret hX hR (dec_of D_X8_payable (i := 37) rfl) rfl rfl
            · refine s_iconst (v := 1) (n := 57) hX (dec_of D_X8_payable (i := 34) rfl) rfl (by decide) ?_
              refine s_goto (n := 61) hX (dec_of D_X8_payable (i := 35) rfl) rfl ?_
              exact s_zret hX hR (dec_of D_X8_payable (i := 37) rfl) rfl rfl
      · refine s_iconst (v := 1) (n := 26) hX (dec_of D_X8_payable (i := 15) rfl) rfl (by decide) ?_
        exact s_zret hX hR (dec_of D_X8_payable (i := 16) rfl) rfl rfl
  · refine s_iconst (v := 0) (n := 10) hX (dec_of D_X8_payable (i := 5) rfl) rfl (by decide) ?_
    exact s_zret hX hR (dec_of D_X8_payable (i := 6) rfl) rfl rfl
def T_X0_keptAtSlot : List (Nat × Instr × Nat) := [(0, .iconst 0, 1), (1, .istore_n 2, 1), (2, .iconst 0, 1), (3, .istore_n 3, 1), (4, .iload_n 3, 1), (5, .bipush 9, 2), (7, .if_icmp .ge 23, 3), (10, .iload_n 2, 1), (11, .aload_n 0, 1), (12, .getfield 40, 3), (15, .iload_n 1, 1), (16, .bipush 9, 2), (18, .imul, 1), (19, .iload_n 3, 1), (20, .iadd, 1), (21, .iaload, 1), (22, .iadd, 1), (23, .istore_n 2, 1), (24, .iinc 3 1, 3), (27, .goto (-23), 3), (30, .iload_n 2, 1), (31, .ireturn, 1)]
theorem D_X0_keptAtSlot : dchk cX0_keptAtSlot T_X0_keptAtSlot = true := by decide +kernel
def Bk_keptAtSlot (σ : ST) (i0 : Nat) (a1 : Int32) : Option Int32 :=
  lp_ (fun rec2 (z1 : Int32 × Int32) => (if 9 ≤ z1.2 then some z1.1 else bd_ (ldI σ 7 i0 ((a1 * 9) + z1.2)) (fun v4 => lt_ ((z1.1 + v4)) (fun x5 => rec2 (x5, (z1.2 + 1)))))) FU (0, 0)
set_option maxHeartbeats 4000000 in
set_option maxRecDepth 100000 in
theorem c_X0_keptAtSlot {G : GW} (hG : Good G) {l : Launch} (σ : ST) (i0 : Nat) (h0 : i0 < 13) (a1 : Int32) : Ctr G l yX0_keptAtSlot cX0_keptAtSlot 4 (some .int) 0 [.ref (ga G 121 i0), .int a1] σ (oI σ) (Bk_keptAtSlot σ i0 a1) := by
  refine ctr_of hG (by decide) (Nat.le_of_ble_eq_true rfl) ?_
  intro X hXl hR hX
  have hX : Ok G X cX0_keptAtSlot 4 RX0 0 := hX
  unfold Bk_keptAtSlot
  show Sim G X 4 (MQX G X (oI σ)) σ 0 [(0, .ref (ga G 121 i0)), (1, .int a1)] [] _
  refine s_iconst (v := 0) (n := 1) hX (dec_of D_X0_keptAtSlot (i := 0) rfl) rfl (by decide) ?_
  refine s_istore_n (lv' := [(0, _), (1, _), (2, _)]) [1, 2, 0] (n := 2) hX (dec_of D_X0_keptAtSlot (i := 1) rfl) rfl rfl (by decide) rfl ?_
  refine s_iconst (v := 0) (n := 3) hX (dec_of D_X0_keptAtSlot (i := 2) rfl) rfl (by decide) ?_
  refine s_istore_n (lv' := [(0, _), (1, _), (2, _), (3, _)]) [1, 2, 3, 0] (n := 4) hX (dec_of D_X0_keptAtSlot (i := 3) rfl) rfl rfl (by decide) rfl ?_
  refine s_sub [0, 1, 2, 3] rfl (s_lp (pc := 4) (Sf := fun (z1 : Int32 × Int32) => σ) (lvf := fun (z1 : Int32 × Int32) => [(0, .ref (ga G 121 i0)), (1, .int a1), (2, .int z1.1), (3, .int z1.2)]) (fun rec2 hre3 z1 => ?_) FU (0, 0))
  refine s_iload_n 3 (n := 5) hX (dec_of D_X0_keptAtSlot (i := 4) rfl) rfl rfl rfl ?_
  refine s_bipush (v := 9) (n := 7) hX (dec_of D_X0_keptAtSlot (i := 5) rfl) rfl (by decide) ?_
  refine s_icmp_ge (tgt := 30) (n := 10) hX (dec_of D_X0_keptAtSlot (i := 6) rfl) rfl rfl ?_ ?_
  · refine s_iload_n 2 (n := 31) hX (dec_of D_X0_keptAtSlot (i := 20) rfl) rfl rfl rfl ?_
    exact s_iret hX hR (dec_of D_X0_keptAtSlot (i := 21) rfl) rfl
  · refine s_iload_n 2 (n := 11) hX (dec_of D_X0_keptAtSlot (i := 7) rfl) rfl rfl rfl ?_
    refine s_aload_n 0 (n := 12) hX (dec_of D_X0_keptAtSlot (i := 8) rfl) rfl rfl rfl ?_
    refine s_getR (c := 0) (p := 8) (k' := 7) (n := 15) hX cls0 (vk121 (by omega)) (dec_of D_X0_keptAtSlot (i := 9) rfl) rfl rfl wd_236 ?_
    refine s_iload_n 1 (n := 16) hX (dec_of D_X0_keptAtSlot (i := 10) rfl) rfl rfl rfl ?_
    refine s_bipush (v := 9) (n := 18) hX (dec_of D_X0_keptAtSlot (i := 11) rfl) rfl (by decide) ?_
    refine s_imul (n := 19) hX (dec_of D_X0_keptAtSlot (i := 12) rfl) rfl ?_
    refine s_iload_n 3 (n := 20) hX (dec_of D_X0_keptAtSlot (i := 13) rfl) rfl rfl rfl ?_
    refine s_iadd (n := 21) hX (dec_of D_X0_keptAtSlot (i := 14) rfl) rfl ?_
    refine s_iald (n := 22) hX (vk7 (by omega)) (by decide) (dec_of D_X0_keptAtSlot (i := 15) rfl) rfl (fun v4 => ?_)
    refine s_iadd (n := 23) hX (dec_of D_X0_keptAtSlot (i := 16) rfl) rfl ?_
    refine s_topi (fun x5 => ?_)
    refine s_istore_n (lv' := [(0, _), (1, _), (2, _), (3, _)]) [1, 2, 0, 3] (n := 24) hX (dec_of D_X0_keptAtSlot (i := 17) rfl) rfl rfl (by decide) rfl ?_
    refine s_iinc (v := z1.2 + 1) (lv' := [(0, _), (1, _), (2, _), (3, _)]) 3 [1, 2, 3, 0] (n := 27) hX (dec_of D_X0_keptAtSlot (i := 18) rfl) rfl rfl rfl (by decide) rfl ?_
    refine s_goto (n := 4) hX (dec_of D_X0_keptAtSlot (i := 19) rfl) rfl ?_
    exact s_sub [0, 1, 2, 3] rfl (hre3 (x5, (z1.2 + 1)))
theorem lk_RX0_106 : LkV RX0 106 RX8 yX8_payable cX8_payable 4 (some .boolean) 3 := ⟨wd_926, wd_751, wd_752, wd_87, wd_753, by decide +kernel, by decide⟩
theorem lk_RX0_110 : LkV RX0 110 RX0 yX0_keptAtSlot cX0_keptAtSlot 4 (some .int) 1 := ⟨wd_927, wd_928, wd_929, wd_86, wd_930, by decide +kernel, by decide⟩
def T_X0_worthOfSeat : List (Nat × Instr × Nat) := [(0, .iconst 0, 1), (1, .istore 5, 2), (3, .iconst 0, 1), (4, .istore 6, 2), (6, .iload 6, 2), (8, .aload_n 1, 1), (9, .getfield 93, 3), (12, .if_icmp .ge 60, 3), (15, .aload_n 0, 1), (16, .getfield 12, 3), (19, .iload 6, 2), (21, .aload_n 0, 1), (22, .getfield 12, 3), (25, .getfield 103, 3), (28, .iload_n 2, 1), (29, .iaload, 1), (30, .iconst 1, 1), (31, .invokevirtual 106, 3), (34, .ifCond .eq 32, 3), (37, .iload 6, 2), (39, .iload_n 3, 1), (40, .iload 4, 2), (42, .invokestatic 86, 3), (45, .istore 7, 2), (47, .iload 5, 2), (49, .aload_n 0, 1), (50, .iload 7, 2), (52, .invokevirtual 110, 3), (55, .aload_n 0, 1), (56, .getfield 37, 3), (59, .iload 7, 2), (61, .iaload, 1), (62, .iadd, 1), (63, .iadd, 1), (64, .istore 5, 2), (66, .iinc 6 1, 3), (69, .goto (-63), 3), (72, .iload 5, 2), (74, .ireturn, 1)]
theorem D_X0_worthOfSeat : dchk cX0_worthOfSeat T_X0_worthOfSeat = true := by decide +kernel
def Bk_worthOfSeat (σ : ST) (i0 : Nat) (i1 : Nat) (a2 : Int32) (a3 : Int32) (a4 : Int32) : Option Int32 :=
  lp_ (fun rec2 (z1 : Int32 × Int32) => (if (gF σ 529 i1) ≤ z1.2 then some z1.1 else bd_ (ldI σ 26 i0 a2) (fun v4 => bd_ (Wo_payable (σ) i0 z1.2 v4 1) (fun q5 => (if q5 = 0 then rec2 (z1.1, (z1.2 + 1)) else bd_ (Rp_slotOf (σ) z1.2 a3 a4) (fun q6 => bd_ (Bk_keptAtSlot (σ) i0 q6) (fun q7 => bd_ (ldI σ 6 i0 q6) (fun v8 => lt_ ((z1.1 + (q7 + v8))) (fun x9 => rec2 (x9, (z1.2 + 1))))))))))) FU (0, 0)
set_option maxHeartbeats 4000000 in
set_option maxRecDepth 100000 in
theorem c_X0_worthOfSeat {G : GW} (hG : Good G) {l : Launch} (σ : ST) (i0 : Nat) (h0 : i0 < 13) (i1 : Nat) (h1 : i1 < 2) (a2 : Int32) (a3 : Int32) (a4 : Int32) : Ctr G l yX0_worthOfSeat cX0_worthOfSeat 8 (some .int) 2 [.ref (ga G 121 i0), .ref (ga G 126 i1), .int a2, .int a3, .int a4] σ (oI σ) (Bk_worthOfSeat σ i0 i1 a2 a3 a4) := by
  refine ctr_of hG (by decide) (Nat.le_of_ble_eq_true rfl) ?_
  intro X hXl hR hX
  have hX : Ok G X cX0_worthOfSeat 8 RX0 2 := hX
  unfold Bk_worthOfSeat
  show Sim G X 8 (MQX G X (oI σ)) σ 0 [(0, .ref (ga G 121 i0)), (1, .ref (ga G 126 i1)), (2, .int a2), (3, .int a3), (4, .int a4)] [] _
  refine s_iconst (v := 0) (n := 1) hX (dec_of D_X0_worthOfSeat (i := 0) rfl) rfl (by decide) ?_
  refine s_istore (lv' := [(0, _), (1, _), (2, _), (3, _), (4, _), (5, _)]) [1, 2, 3, 4, 5, 0] (n := 3) hX (dec_of D_X0_worthOfSeat (i := 1) rfl) rfl (by decide) rfl ?_
  refine s_iconst (v := 0) (n := 4) hX (dec_of D_X0_worthOfSeat (i := 2) rfl) rfl (by decide) ?_
  refine s_istore (lv' := [(0, _), (1, _), (2, _), (3, _), (4, _), (5, _), (6, _)]) [1, 2, 3, 4, 5, 6, 0] (n := 6) hX (dec_of D_X0_worthOfSeat (i := 3) rfl) rfl (by decide) rfl ?_
  refine s_sub [0, 1, 2, 3, 4, 5, 6] rfl (s_lp (pc := 6) (Sf := fun (z1 : Int32 × Int32) => σ) (lvf := fun (z1 : Int32 × Int32) => [(0, .ref (ga G 121 i0)), (1, .ref (ga G 126 i1)), (2, .int a2), (3, .int a3), (4, .int a4), (5, .int z1.1), (6, .int z1.2)]) (fun rec2 hre3 z1 => ?_) FU (0, 0))
  refine s_iload 6 (n := 8) hX (dec_of D_X0_worthOfSeat (i := 4) rfl) rfl rfl ?_
  refine s_aload_n 1 (n := 9) hX (dec_of D_X0_worthOfSeat (i := 5) rfl) rfl rfl rfl ?_
  refine s_getI (c := 5) (p := 9) (id := 529) (n := 12) hX cls5 (vk126 (by omega)) (dec_of D_X0_worthOfSeat (i := 6) rfl) rfl rfl wd_390 ?_
  refine s_icmp_ge (tgt := 72) (n := 15) hX (dec_of D_X0_worthOfSeat (i := 7) rfl) rfl rfl ?_ ?_
  · refine s_iload 5 (n := 74) hX (dec_of D_X0_worthOfSeat (i := 37) rfl) rfl rfl ?_
    exact s_iret hX hR (dec_of D_X0_worthOfSeat (i := 38) rfl) rfl
  · refine s_aload_n 0 (n := 16) hX (dec_of D_X0_worthOfSeat (i := 8) rfl) rfl rfl rfl ?_
    refine s_getR (c := 0) (p := 0) (k' := 129) (n := 19) hX cls0 (vk121 (by omega)) (dec_of D_X0_worthOfSeat (i := 9) rfl) rfl rfl wd_218 ?_
    refine s_iload 6 (n := 21) hX (dec_of D_X0_worthOfSeat (i := 10) rfl) rfl rfl ?_
    refine s_aload_n 0 (n := 22) hX (dec_of D_X0_worthOfSeat (i := 11) rfl) rfl rfl rfl ?_
    refine s_getR (c := 0) (p := 0) (k' := 129) (n := 25) hX cls0 (vk121 (by omega)) (dec_of D_X0_worthOfSeat (i := 12) rfl) rfl rfl wd_218 ?_
    refine s_getR (c := 8) (p := 2) (k' := 26) (n := 28) hX cls8 (vk129 (by omega)) (dec_of D_X0_worthOfSeat (i := 13) rfl) rfl rfl wd_204 ?_
    refine s_iload_n 2 (n := 29) hX (dec_of D_X0_worthOfSeat (i := 14) rfl) rfl rfl rfl ?_
    refine s_iald (n := 30) hX (vk26 (by omega)) (by decide) (dec_of D_X0_worthOfSeat (i := 15) rfl) rfl (fun v4 => ?_)
    refine s_iconst (v := 1) (n := 31) hX (dec_of D_X0_worthOfSeat (i := 16) rfl) rfl (by decide) ?_
    refine s_callVI (c := 8) (n := 34) hX cls8 (vk129 (by omega)) lk_RX0_106 (dec_of D_X0_worthOfSeat (i := 17) rfl) rfl (by decide) (c_X8_payable (l := _) hG _ _ (by omega) _ _ _) rfl rfl (Nat.le_of_ble_eq_true rfl) (fun q5 => ?_)
    refine s_if_eq (tgt := 66) (n := 37) hX (dec_of D_X0_worthOfSeat (i := 18) rfl) rfl rfl ?_ ?_
    · refine s_iinc (v := z1.2 + 1) (lv' := [(0, _), (1, _), (2, _), (3, _), (4, _), (5, _), (6, _)]) 6 [1, 2, 3, 4, 5, 6, 0] (n := 69) hX (dec_of D_X0_worthOfSeat (i := 35) rfl) rfl rfl rfl (by decide) rfl ?_
      refine s_goto (n := 6) hX (dec_of D_X0_worthOfSeat (i := 36) rfl) rfl ?_
      exact s_sub [0, 1, 2, 3, 4, 5, 6] rfl (hre3 (z1.1, (z1.2 + 1)))
    · refine s_iload 6 (n := 39) hX (dec_of D_X0_worthOfSeat (i := 19) rfl) rfl rfl ?_
      refine s_iload_n 3 (n := 40) hX (dec_of D_X0_worthOfSeat (i := 20) rfl) rfl rfl rfl ?_
      refine s_iload 4 (n := 42) hX (dec_of D_X0_worthOfSeat (i := 21) rfl) rfl rfl ?_
      refine s_callNI (n := 45) hX wd_893 wd_892 wd_83 (dec_of D_X0_worthOfSeat (i := 22) rfl) rfl (by decide) (c_X9_slotOf (l := _) hG _ _ _ _) rfl rfl (Nat.le_of_ble_eq_true rfl) (fun q6 => ?_)
      refine s_istore (lv' := [(0, _), (1, _), (2, _), (3, _), (4, _), (5, _), (6, _), (7, _)]) [1, 2, 3, 4, 5, 6, 7, 0] (n := 47) hX (dec_of D_X0_worthOfSeat (i := 23) rfl) rfl (by decide) rfl ?_
      refine s_iload 5 (n := 49) hX (dec_of D_X0_worthOfSeat (i := 24) rfl) rfl rfl ?_
      refine s_aload_n 0 (n := 50) hX (dec_of D_X0_worthOfSeat (i := 25) rfl) rfl rfl rfl ?_
      refine s_iload 7 (n := 52) hX (dec_of D_X0_worthOfSeat (i := 26) rfl) rfl rfl ?_
      refine s_callVI (c := 0) (n := 55) hX cls0 (vk121 (by omega)) lk_RX0_110 (dec_of D_X0_worthOfSeat (i := 27) rfl) rfl (by decide) (c_X0_keptAtSlot (l := _) hG _ _ (by omega) _) rfl rfl (Nat.le_of_ble_eq_true rfl) (fun q7 => ?_)
      refine s_aload_n 0 (n := 56) hX (dec_of D_X0_worthOfSeat (i := 28) rfl) rfl rfl rfl ?_
      refine s_getR (c := 0) (p := 7) (k' := 6) (n := 59) hX cls0 (vk121 (by omega)) (dec_of D_X0_worthOfSeat (i := 29) rfl) rfl rfl wd_234 ?_
      refine s_iload 7 (n := 61) hX (dec_of D_X0_worthOfSeat (i := 30) rfl) rfl rfl ?_
      refine s_iald (n := 62) hX (vk6 (by omega)) (by decide) (dec_of D_X0_worthOfSeat (i := 31) rfl) rfl (fun v8 => ?_)
      refine s_iadd (n := 63) hX (dec_of D_X0_worthOfSeat (i := 32) rfl) rfl ?_
      refine s_iadd (n := 64) hX (dec_of D_X0_worthOfSeat (i := 33) rfl) rfl ?_
      refine s_topi (fun x9 => ?_)
      refine s_istore (lv' := [(0, _), (1, _), (2, _), (3, _), (4, _), (5, _), (6, _), (7, _)]) [1, 2, 3, 4, 5, 0, 6, 7] (n := 66) hX (dec_of D_X0_worthOfSeat (i := 34) rfl) rfl (by decide) rfl ?_
      refine s_iinc (v := z1.2 + 1) (lv' := [(0, _), (1, _), (2, _), (3, _), (4, _), (5, _), (6, _), (7, _)]) 6 [1, 2, 3, 4, 5, 6, 0, 7] (n := 69) hX (dec_of D_X0_worthOfSeat (i := 35) rfl) rfl rfl rfl (by decide) rfl ?_
      refine s_goto (n := 6) hX (dec_of D_X0_worthOfSeat (i := 36) rfl) rfl ?_
      exact s_sub [0, 1, 2, 3, 4, 5, 6] rfl (hre3 (x9, (z1.2 + 1)))
def T_X0_keepNothing : List (Nat × Instr × Nat) := [(0, .iconst 0, 1), (1, .istore_n 2, 1), (2, .iload_n 2, 1), (3, .bipush 9, 2), (5, .if_icmp .ge 21, 3), (8, .aload_n 0, 1), (9, .getfield 40, 3), (12, .iload_n 1, 1), (13, .bipush 9, 2), (15, .imul, 1), (16, .iload_n 2, 1), (17, .iadd, 1), (18, .iconst 0, 1), (19, .iastore, 1), (20, .iinc 2 1, 3), (23, .goto (-21), 3), (26, .return_, 1)]
theorem D_X0_keepNothing : dchk cX0_keepNothing T_X0_keepNothing = true := by decide +kernel
def Bk_keepNothing (σ : ST) (i0 : Nat) (a1 : Int32) : Option ST :=
  lp_ (fun rec2 (z1 : ST × Int32) => (if 9 ≤ z1.2 then some z1.1 else bd_ (stI z1.1 7 i0 ((a1 * 9) + z1.2) 0) (fun s4 => rec2 (s4, (z1.2 + 1))))) FU (σ, 0)
set_option maxHeartbeats 4000000 in
set_option maxRecDepth 100000 in
theorem c_X0_keepNothing {G : GW} (hG : Good G) {l : Launch} (σ : ST) (i0 : Nat) (h0 : i0 < 13) (a1 : Int32) : Ctr G l yX0_keepNothing cX0_keepNothing 3 none 0 [.ref (ga G 121 i0), .int a1] σ oV (Bk_keepNothing σ i0 a1) := by
  refine ctr_of hG (by decide) (Nat.le_of_ble_eq_true rfl) ?_
  intro X hXl hR hX
  have hX : Ok G X cX0_keepNothing 3 RX0 0 := hX
  unfold Bk_keepNothing
  show Sim G X 3 (MQX G X oV) σ 0 [(0, .ref (ga G 121 i0)), (1, .int a1)] [] _
  refine s_iconst (v := 0) (n := 1) hX (dec_of D_X0_keepNothing (i := 0) rfl) rfl (by decide) ?_
  refine s_istore_n (lv' := [(0, _), (1, _), (2, _)]) [1, 2, 0] (n := 2) hX (dec_of D_X0_keepNothing (i := 1) rfl) rfl rfl (by decide) rfl ?_
  refine s_sub [0, 1, 2] rfl (s_lp (pc := 2) (Sf := fun (z1 : ST × Int32) => z1.1) (lvf := fun (z1 : ST × Int32) => [(0, .ref (ga G 121 i0)), (1, .int a1), (2, .int z1.2)]) (fun rec2 hre3 z1 => ?_) FU (σ, 0))
  refine s_iload_n 2 (n := 3) hX (dec_of D_X0_keepNothing (i := 2) rfl) rfl rfl rfl ?_
  refine s_bipush (v := 9) (n := 5) hX (dec_of D_X0_keepNothing (i := 3) rfl) rfl (by decide) ?_
  refine s_icmp_ge (tgt := 26) (n := 8) hX (dec_of D_X0_keepNothing (i := 4) rfl) rfl rfl ?_ ?_
  · exact s_vret hX hR (dec_of D_X0_keepNothing (i := 16) rfl) rfl
  · refine s_aload_n 0 (n := 9) hX (dec_of D_X0_keepNothing (i := 5) rfl) rfl rfl rfl ?_
    refine s_getR (c := 0) (p := 8) (k' := 7) (n := 12) hX cls0 (vk121 (by omega)) (dec_of D_X0_keepNothing (i := 6) rfl) rfl rfl wd_236 ?_
    refine s_iload_n 1 (n := 13) hX (dec_of D_X0_keepNothing (i := 7) rfl) rfl rfl rfl ?_
    refine s_bipush (v := 9) (n := 15) hX (dec_of D_X0_keepNothing (i := 8) rfl) rfl (by decide) ?_
    refine s_imul (n := 16) hX (dec_of D_X0_keepNothing (i := 9) rfl) rfl ?_
    refine s_iload_n 2 (n := 17) hX (dec_of D_X0_keepNothing (i := 10) rfl) rfl rfl rfl ?_
    refine s_iadd (n := 18) hX (dec_of D_X0_keepNothing (i := 11) rfl) rfl ?_
    refine s_iconst (v := 0) (n := 19) hX (dec_of D_X0_keepNothing (i := 12) rfl) rfl (by decide) ?_
    refine s_iast (n := 20) hX (vk7 (by omega)) (by decide) (dec_of D_X0_keepNothing (i := 13) rfl) rfl (fun s4 => ?_)
    refine s_iinc (v := z1.2 + 1) (lv' := [(0, _), (1, _), (2, _)]) 2 [1, 2, 0] (n := 23) hX (dec_of D_X0_keepNothing (i := 14) rfl) rfl rfl rfl (by decide) rfl ?_
    refine s_goto (n := 2) hX (dec_of D_X0_keepNothing (i := 15) rfl) rfl ?_
    exact s_sub [0, 1, 2] rfl (hre3 (s4, (z1.2 + 1)))
theorem lk_RX0_114 : LkV RX0 114 RX0 yX0_worthOfSeat cX0_worthOfSeat 8 (some .int) 4 := ⟨wd_922, wd_923, wd_924, wd_86, wd_925, by decide +kernel, by decide⟩
theorem lk_RX0_118 : LkV RX0 118 RX0 yX0_keepNothing cX0_keepNothing 3 none 1 := ⟨wd_931, wd_932, wd_933, wd_86, wd_934, by decide +kernel, by decide⟩
def T_X0_enterClaim : List (Nat × Instr × Nat) := [(0, .aload_n 0, 1), (1, .aload_n 1, 1), (2, .iload_n 2, 1), (3, .iload_n 3, 1), (4, .iload 4, 2), (6, .invokevirtual 114, 3), (9, .istore 5, 2), (11, .iconst 0, 1), (12, .istore 6, 2), (14, .iload 6, 2), (16, .aload_n 1, 1), (17, .getfield 93, 3), (20, .if_icmp .ge 120, 3), (23, .iload 6, 2), (25, .iload_n 3, 1), (26, .iload 4, 2), (28, .invokestatic 86, 3), (31, .istore 7, 2), (33, .aload_n 0, 1), (34, .iload 7, 2), (36, .invokevirtual 110, 3), (39, .istore 8, 2), (41, .aload_n 0, 1), (42, .getfield 12, 3), (45, .iload 6, 2), (47, .aload_n 0, 1), (48, .getfield 12, 3), (51, .getfield 103, 3), (54, .iload_n 2, 1), (55, .iaload, 1), (56, .iconst 1, 1), (57, .invokevirtual 106, 3), (60, .ifCond .eq 48, 3), (63, .aload_n 0, 1), (64, .getfield 31, 3), (67, .iload_n 2, 1), (68, .bipush 6, 2), (70, .imul, 1), (71, .iload 6, 2), (73, .iadd, 1), (74, .dup2, 1), (75, .iaload, 1), (76, .iload 8, 2), (78, .aload_n 0, 1), (79, .getfield 37, 3), (82, .iload 7, 2), (84, .iaload, 1), (85, .iadd, 1), (86, .iadd, 1), (87, .iastore, 1), (88, .aload_n 0, 1), (89, .getfield 18, 3), (92, .iload 6, 2), (94, .dup2, 1), (95, .iaload, 1), (96, .aload_n 0, 1), (97, .getfield 37, 3), (100, .iload 7, 2), (102, .iaload, 1), (103, .isub, 1), (104, .iastore, 1), (105, .goto 15, 3), (108, .aload_n 0, 1), (109, .getfield 18, 3), (112, .iload 6, 2), (114, .dup2, 1), (115, .iaload, 1), (116, .iload 8, 2), (118, .iadd, 1), (119, .iastore, 1), (120, .aload_n 0, 1), (121, .getfield 37, 3), (124, .iload 7, 2), (126, .iconst 0, 1), (127, .iastore, 1), (128, .aload_n 0, 1), (129, .iload 7, 2), (131, .invokevirtual 118, 3), (134, .iinc 6 1, 3), (137, .goto (-123), 3), (140, .aload_n 0, 1), (141, .getfield 12, 3), (144, .getfield 122, 3), (147, .iload_n 3, 1), (148, .iconst 5, 1), (149, .imul, 1), (150, .iload 4, 2), (152, .iadd, 1), (153, .iload_n 2, 1), (154, .iastore, 1), (155, .iload 5, 2), (157, .ireturn, 1)]
theorem D_X0_enterClaim : dchk cX0_enterClaim T_X0_enterClaim = true := by decide +kernel
def Bk_enterClaim (σ : ST) (i0 : Nat) (i1 : Nat) (a2 : Int32) (a3 : Int32) (a4 : Int32) : Option (Int32 × ST) :=
  bd_ (Bk_worthOfSeat (σ) i0 i1 a2 a3 a4) (fun q1 => lp_ (fun rec3 (z2 : ST × Int32) => (if (gF z2.1 529 i1) ≤ z2.2 then bd_ (stI z2.1 27 i0 ((a3 * 5) + a4) a2) (fun s5 => some (q1, s5)) else bd_ (Rp_slotOf z2.1 z2.2 a3 a4) (fun q6 => bd_ (Bk_keptAtSlot z2.1 i0 q6) (fun q7 => bd_ (ldI z2.1 26 i0 a2) (fun v8 => bd_ (Wo_payable z2.1 i0 z2.2 v8 1) (fun q9 => lk_ (fun kk11 => (if q9 = 0 then bd_ (ldI z2.1 0 i0 z2.2) (fun v15 => bd_ (stI z2.1 0 i0 z2.2 (v15 + q7)) (fun s16 => kk11 s16)) else bd_ (ldI z2.1 4 i0 ((a2 * 6) + z2.2)) (fun v17 => bd_ (ldI z2.1 6 i0 q6) (fun v18 => bd_ (stI z2.1 4 i0 ((a2 * 6) + z2.2) (v17 + (q7 + v18))) (fun s19 => bd_ (ldI s19 0 i0 z2.2) (fun v20 => bd_ (ldI s19 6 i0 q6) (fun v21 => bd_ (stI s19 0 i0 z2.2 (v20 - v21)) (fun s22 => kk11 s22)))))))) (fun (j10 : ST) => bd_ (stI j10 6 i0 q6 0) (fun s13 => bd_ (Bk_keepNothing s13 i0 q6) (fun q14 => rec3 (q14, (z2.2 + 1))))))))))) FU (σ, 0))
set_option maxHeartbeats 4000000 in
set_option maxRecDepth 100000 in
theorem c_X0_enterClaim {G : GW} (hG : Good G) {l : Launch} (σ : ST) (i0 : Nat) (h0 : i0 < 13) (i1 : Nat) (h1 : i1 < 2) (a2 : Int32) (a3 : Int32) (a4 : Int32) : Ctr G l yX0_enterClaim cX0_enterClaim 9 (some .int) 3 [.ref (ga G 121 i0), .ref (ga G 126 i1), .int a2, .int a3, .int a4] σ oP (Bk_enterClaim σ i0 i1 a2 a3 a4) := by
  refine ctr_of hG (by decide) (Nat.le_of_ble_eq_true rfl) ?_
  intro X hXl hR hX
  have hX : Ok G X cX0_enterClaim 9 RX0 3 := hX
  unfold Bk_enterClaim
  show Sim G X 9 (MQX G X oP) σ 0 [(0, .ref (ga G 121 i0)), (1, .ref (ga G 126 i1)), (2, .int a2), (3, .int a3), (4, .int a4)] [] _
  refine s_aload_n 0 (n := 1) hX (dec_of D_X0_enterClaim (i := 0) rfl) rfl rfl rfl ?_
  refine s_aload_n 1 (n := 2) hX (dec_of D_X0_enterClaim (i := 1) rfl) rfl rfl rfl ?_
  refine s_iload_n 2 (n := 3) hX (dec_of D_X0_enterClaim (i := 2) rfl) rfl rfl rfl ?_
  refine s_iload_n 3 (n := 4) hX (dec_of D_X0_enterClaim (i := 3) rfl) rfl rfl rfl ?_
  refine s_iload 4 (n := 6) hX (dec_of D_X0_enterClaim (i := 4) rfl) rfl rfl ?_
  refine s_callVI (c := 0) (n := 9) hX cls0 (vk121 (by omega)) lk_RX0_114 (dec_of D_X0_enterClaim (i := 5) rfl) rfl (by decide) (c_X0_worthOfSeat (l := _) hG _ _ (by omega) _ (by omega) _ _ _) rfl rfl (Nat.le_of_ble_eq_true rfl) (fun q1 => ?_)
  refine s_istore (lv' := [(0, _), (1, _), (2, _), (3, _), (4, _), (5, _)]) [1, 2, 3, 4, 5, 0] (n := 11) hX (dec_of D_X0_enterClaim (i := 6) rfl) rfl (by decide) rfl ?_
  refine s_iconst (v := 0) (n := 12) hX (dec_of D_X0_enterClaim (i := 7) rfl) rfl (by decide) ?_
  refine s_istore (lv' := [(0, _), (1, _), (2, _), (3, _), (4, _), (5, _), (6, _)]) [1, 2, 3, 4, 5, 6, 0] (n := 14) hX (dec_of D_X0_enterClaim (i := 8) rfl) rfl (by decide) rfl ?_
  refine s_sub [0, 1, 2, 3, 4, 5, 6] rfl (s_lp (pc := 14) (Sf := fun (z2 : ST × Int32) => z2.1) (lvf := fun (z2 : ST × Int32) => [(0, .ref (ga G 121 i0)), (1, .ref (ga G 126 i1)), (2, .int a2), (3, .int a3), (4, .int a4), (5, .int q1), (6, .int z2.2)]) (fun rec3 hre4 z2 => ?_) FU (σ, 0))
  refine s_iload 6 (n := 16) hX (dec_of D_X0_enterClaim (i := 9) rfl) rfl rfl ?_
  refine s_aload_n 1 (n := 17) hX (dec_of D_X0_enterClaim (i := 10) rfl) rfl rfl rfl ?_
  refine s_getI (c := 5) (p := 9) (id := 529) (n := 20) hX cls5 (vk126 (by omega)) (dec_of D_X0_enterClaim (i := 11) rfl) rfl rfl wd_390 ?_
  refine s_icmp_ge (tgt := 140) (n := 23) hX (dec_of D_X0_enterClaim (i := 12) rfl) rfl rfl ?_ ?_
  · refine s_aload_n 0 (n := 141) hX (dec_of D_X0_enterClaim (i := 80) rfl) rfl rfl rfl ?_
    refine s_getR (c := 0) (p := 0) (k' := 129) (n := 144) hX cls0 (vk121 (by omega)) (dec_of D_X0_enterClaim (i := 81) rfl) rfl rfl wd_218 ?_
    refine s_getR (c := 8) (p := 3) (k' := 27) (n := 147) hX cls8 (vk129 (by omega)) (dec_of D_X0_enterClaim (i := 82) rfl) rfl rfl wd_207 ?_
    refine s_iload_n 3 (n := 148) hX (dec_of D_X0_enterClaim (i := 83) rfl) rfl rfl rfl ?_
    refine s_iconst (v := 5) (n := 149) hX (dec_of D_X0_enterClaim (i := 84) rfl) rfl (by decide) ?_
    refine s_imul (n := 150) hX (dec_of D_X0_enterClaim (i := 85) rfl) rfl ?_
    refine s_iload 4 (n := 152) hX (dec_of D_X0_enterClaim (i := 86) rfl) rfl rfl ?_
    refine s_iadd (n := 153) hX (dec_of D_X0_enterClaim (i := 87) rfl) rfl ?_
    refine s_iload_n 2 (n := 154) hX (dec_of D_X0_enterClaim (i := 88) rfl) rfl rfl rfl ?_
    refine s_iast (n := 155) hX (vk27 (by omega)) (by decide) (dec_of D_X0_enterClaim (i := 89) rfl) rfl (fun s5 => ?_)
    refine s_iload 5 (n := 157) hX (dec_of D_X0_enterClaim (i := 90) rfl) rfl rfl ?_
    exact s_iret hX hR (dec_of D_X0_enterClaim (i := 91) rfl) rfl
  · refine s_iload 6 (n := 25) hX (dec_of D_X0_enterClaim (i := 13) rfl) rfl rfl ?_
    refine s_iload_n 3 (n := 26) hX (dec_of D_X0_enterClaim (i := 14) rfl) rfl rfl rfl ?_
    refine s_iload 4 (n := 28) hX (dec_of D_X0_enterClaim (i := 15) rfl) rfl rfl ?_
    refine s_callNI (n := 31) hX wd_893 wd_892 wd_83 (dec_of D_X0_enterClaim (i := 16) rfl) rfl (by decide) (c_X9_slotOf (l := _) hG _ _ _ _) rfl rfl (Nat.le_of_ble_eq_true rfl) (fun q6 => ?_)
    refine s_istore (lv' := [(0, _), (1, _), (2, _), (3, _), (4, _), (5, _), (6, _), (7, _)]) [1, 2, 3, 4, 5, 6, 7, 0] (n := 33) hX (dec_of D_X0_enterClaim (i := 17) rfl) rfl (by decide) rfl ?_
    refine s_aload_n 0 (n := 34) hX (dec_of D_X0_enterClaim (i := 18) rfl) rfl rfl rfl ?_
    refine s_iload 7 (n := 36) hX (dec_of D_X0_enterClaim (i := 19) rfl) rfl rfl ?_
    refine s_callVI (c := 0) (n := 39) hX cls0 (vk121 (by omega)) lk_RX0_110 (dec_of D_X0_enterClaim (i := 20) rfl) rfl (by decide) (c_X0_keptAtSlot (l := _) hG _ _ (by omega) _) rfl rfl (Nat.le_of_ble_eq_true rfl) (fun q7 => ?_)
    refine s_istore (lv' := [(0, _), (1, _), (2, _), (3, _), (4, _), (5, _), (6, _), (7, _), (8, _)]) [1, 2, 3, 4, 5, 6, 7, 8, 0] (n := 41) hX (dec_of D_X0_enterClaim (i := 21) rfl) rfl (by decide) rfl ?_
    refine s_aload_n 0 (n := 42) hX (dec_of D_X0_enterClaim (i := 22) rfl) rfl rfl rfl ?_
    refine s_getR (c := 0) (p := 0) (k' := 129) (n := 45) hX cls0 (vk121 (by omega)) (dec_of D_X0_enterClaim (i := 23) rfl) rfl rfl wd_218 ?_
    refine s_iload 6 (n := 47) hX (dec_of D_X0_enterClaim (i := 24) rfl) rfl rfl ?_
    refine s_aload_n 0 (n := 48) hX (dec_of D_X0_enterClaim (i := 25) rfl) rfl rfl rfl ?_
    refine s_getR (c := 0) (p := 0) (k' := 129) (n := 51) hX cls0 (vk121 (by omega)) (dec_of D_X0_enterClaim (i := 26) rfl) rfl rfl wd_218 ?_
    refine s_getR (c := 8) (p := 2) (k' := 26) (n := 54) hX cls8 (vk129 (by omega)) (dec_of D_X0_enterClaim (i := 27) rfl) rfl rfl wd_204 ?_
    refine s_iload_n 2 (n := 55) hX (dec_of D_X0_enterClaim (i := 28) rfl) rfl rfl rfl ?_
    refine s_iald (n := 56) hX (vk26 (by omega)) (by decide) (dec_of D_X0_enterClaim (i := 29) rfl) rfl (fun v8 => ?_)
    refine s_iconst (v := 1) (n := 57) hX (dec_of D_X0_enterClaim (i := 30) rfl) rfl (by decide) ?_
    refine s_callVI (c := 8) (n := 60) hX cls8 (vk129 (by omega)) lk_RX0_106 (dec_of D_X0_enterClaim (i := 31) rfl) rfl (by decide) (c_X8_payable (l := _) hG _ _ (by omega) _ _ _) rfl rfl (Nat.le_of_ble_eq_true rfl) (fun q9 => ?_)
    refine s_lk (pcj := 120) (Sf := fun (j10 : ST) => j10) (lvf := fun (j10 : ST) => [(0, .ref (ga G 121 i0)), (1, .ref (ga G 126 i1)), (2, .int a2), (3, .int a3), (4, .int a4), (5, .int q1), (6, .int z2.2), (7, .int q6)]) (stf := fun (j10 : ST) => []) (fun j10 => ?_) (fun kk11 hkk12 => ?_)
    · refine s_aload_n 0 (n := 121) hX (dec_of D_X0_enterClaim (i := 70) rfl) rfl rfl rfl ?_
      refine s_getR (c := 0) (p := 7) (k' := 6) (n := 124) hX cls0 (vk121 (by omega)) (dec_of D_X0_enterClaim (i := 71) rfl) rfl rfl wd_234 ?_
      refine s_iload 7 (n := 126) hX (dec_of D_X0_enterClaim (i := 72) rfl) rfl rfl ?_
      refine s_iconst (v := 0) (n := 127) hX (dec_of D_X0_enterClaim (i := 73) rfl) rfl (by decide) ?_
      refine s_iast (n := 128) hX (vk6 (by omega)) (by decide) (dec_of D_X0_enterClaim (i := 74) rfl) rfl (fun s13 => ?_)
      refine s_aload_n 0 (n := 129) hX (dec_of D_X0_enterClaim (i := 75) rfl) rfl rfl rfl ?_
      refine s_iload 7 (n := 131) hX (dec_of D_X0_enterClaim (i := 76) rfl) rfl rfl ?_
      refine s_callVV (c := 0) (n := 134) hX cls0 (vk121 (by omega)) lk_RX0_118 (dec_of D_X0_enterClaim (i := 77) rfl) rfl (by decide) (c_X0_keepNothing (l := _) hG _ _ (by omega) _) rfl rfl (Nat.le_of_ble_eq_true rfl) (fun q14 => ?_)
      refine s_iinc (v := z2.2 + 1) (lv' := [(0, _), (1, _), (2, _), (3, _), (4, _), (5, _), (6, _), (7, _)]) 6 [1, 2, 3, 4, 5, 6, 0, 7] (n := 137) hX (dec_of D_X0_enterClaim (i := 78) rfl) rfl rfl rfl (by decide) rfl ?_
      refine s_goto (n := 14) hX (dec_of D_X0_enterClaim (i := 79) rfl) rfl ?_
      exact s_sub [0, 1, 2, 3, 4, 5, 6] rfl (hre4 (q14, (z2.2 + 1)))
    · refine s_if_eq (tgt := 108) (n := 63) hX (dec_of D_X0_enterClaim (i := 32) rfl) rfl rfl ?_ ?_
      · refine s_aload_n 0 (n := 109) hX (dec_of D_X0_enterClaim (i := 62) rfl) rfl rfl rfl ?_
        refine s_getR (c := 0) (p := 1) (k' := 0) (n := 112) hX cls0 (vk121 (by omega)) (dec_of D_X0_enterClaim (i := 63) rfl) rfl rfl wd_220 ?_
        refine s_iload 6 (n := 114) hX (dec_of D_X0_enterClaim (i := 64) rfl) rfl rfl ?_
        refine s_dup2 (n := 115) hX (dec_of D_X0_enterClaim (i := 65) rfl) rfl rfl rfl ?_
        refine s_iald (n := 116) hX (vk0 (by omega)) (by decide) (dec_of D_X0_enterClaim (i := 66) rfl) rfl (fun v15 => ?_)
        refine s_iload 8 (n := 118) hX (dec_of D_X0_enterClaim (i := 67) rfl) rfl rfl ?_
        refine s_iadd (n := 119) hX (dec_of D_X0_enterClaim (i := 68) rfl) rfl ?_
        refine s_iast (n := 120) hX (vk0 (by omega)) (by decide) (dec_of D_X0_enterClaim (i := 69) rfl) rfl (fun s16 => ?_)
        exact s_sub [0, 1, 2, 3, 4, 5, 6, 7] rfl (hkk12 s16)
      · refine s_aload_n 0 (n := 64) hX (dec_of D_X0_enterClaim (i := 33) rfl) rfl rfl rfl ?_
        refine s_getR (c := 0) (p := 5) (k' := 4) (n := 67) hX cls0 (vk121 (by omega)) (dec_of D_X0_enterClaim (i := 34) rfl) rfl rfl wd_229 ?_
        refine s_iload_n 2 (n := 68) hX (dec_of D_X0_enterClaim (i := 35) rfl) rfl rfl rfl ?_
        refine s_bipush (v := 6) (n := 70) hX (dec_of D_X0_enterClaim (i := 36) rfl) rfl (by decide) ?_
        refine s_imul (n := 71) hX (dec_of D_X0_enterClaim (i := 37) rfl) rfl ?_
        refine s_iload 6 (n := 73) hX (dec_of D_X0_enterClaim (i := 38) rfl) rfl rfl ?_
        refine s_iadd (n := 74) hX (dec_of D_X0_enterClaim (i := 39) rfl) rfl ?_
        refine s_dup2 (n := 75) hX (dec_of D_X0_enterClaim (i := 40) rfl) rfl rfl rfl ?_
        refine s_iald (n := 76) hX (vk4 (by omega)) (by decide) (dec_of D_X0_enterClaim (i := 41) rfl) rfl (fun v17 => ?_)
        refine s_iload 8 (n := 78) hX (dec_of D_X0_enterClaim (i := 42) rfl) rfl rfl ?_
        refine s_aload_n 0 (n := 79) hX (dec_of D_X0_enterClaim (i := 43) rfl) rfl rfl rfl ?_
        refine s_getR (c := 0) (p := 7) (k' := 6) (n := 82) hX cls0 (vk121 (by omega)) (dec_of D_X0_enterClaim (i := 44) rfl) rfl rfl wd_234 ?_
        refine s_iload 7 (n := 84) hX (dec_of D_X0_enterClaim (i := 45) rfl) rfl rfl ?_
        refine s_iald (n := 85) hX (vk6 (by omega)) (by decide) (dec_of D_X0_enterClaim (i := 46) rfl) rfl (fun v18 => ?_)
        refine s_iadd (n := 86) hX (dec_of D_X0_enterClaim (i := 47) rfl) rfl ?_
        refine s_iadd (n := 87) hX (dec_of D_X0_enterClaim (i := 48) rfl) rfl ?_
        refine s_iast (n := 88) hX (vk4 (by omega)) (by decide) (dec_of D_X0_enterClaim (i := 49) rfl) rfl (fun s19 => ?_)
        refine s_aload_n 0 (n := 89) hX (dec_of D_X0_enterClaim (i := 50) rfl) rfl rfl rfl ?_
        refine s_getR (c := 0) (p := 1) (k' := 0) (n := 92) hX cls0 (vk121 (by omega)) (dec_of D_X0_enterClaim (i := 51) rfl) rfl rfl wd_220 ?_
        refine s_iload 6 (n := 94) hX (dec_of D_X0_enterClaim (i := 52) rfl) rfl rfl ?_
        refine s_dup2 (n := 95) hX (dec_of D_X0_enterClaim (i := 53) rfl) rfl rfl rfl ?_
        refine s_iald (n := 96) hX (vk0 (by omega)) (by decide) (dec_of D_X0_enterClaim (i := 54) rfl) rfl (fun v20 => ?_)
        refine s_aload_n 0 (n := 97) hX (dec_of D_X0_enterClaim (i := 55) rfl) rfl rfl rfl ?_
        refine s_getR (c := 0) (p := 7) (k' := 6) (n := 100) hX cls0 (vk121 (by omega)) (dec_of D_X0_enterClaim (i := 56) rfl) rfl rfl wd_234 ?_
        refine s_iload 7 (n := 102) hX (dec_of D_X0_enterClaim (i := 57) rfl) rfl rfl ?_
        refine s_iald (n := 103) hX (vk6 (by omega)) (by decide) (dec_of D_X0_enterClaim (i := 58) rfl) rfl (fun v21 => ?_)
        refine s_isub (n := 104) hX (dec_of D_X0_enterClaim (i := 59) rfl) rfl ?_
        refine s_iast (n := 105) hX (vk0 (by omega)) (by decide) (dec_of D_X0_enterClaim (i := 60) rfl) rfl (fun s22 => ?_)
        refine s_goto (n := 120) hX (dec_of D_X0_enterClaim (i := 61) rfl) rfl ?_
        exact s_sub [0, 1, 2, 3, 4, 5, 6, 7] rfl (hkk12 s22)
def T_X0_enterPart : List (Nat × Instr × Nat) := [(0, .aload_n 0, 1), (1, .getfield 18, 3), (4, .iload_n 3, 1), (5, .iaload, 1), (6, .istore 4, 2), (8, .iconst 0, 1), (9, .istore 5, 2), (11, .iload 5, 2), (13, .aload_n 1, 1), (14, .getfield 125, 3), (17, .if_icmp .ge 31, 3), (20, .aload_n 0, 1), (21, .getfield 34, 3), (24, .iload 5, 2), (26, .bipush 6, 2), (28, .imul, 1), (29, .iload_n 3, 1), (30, .iadd, 1), (31, .dup2, 1), (32, .iaload, 1), (33, .aload_n 2, 1), (34, .getfield 128, 3), (37, .iload 5, 2), (39, .iaload, 1), (40, .iadd, 1), (41, .iastore, 1), (42, .iinc 5 1, 3), (45, .goto (-34), 3), (48, .aload_n 0, 1), (49, .getfield 18, 3), (52, .iload_n 3, 1), (53, .iconst 0, 1), (54, .iastore, 1), (55, .iload_n 3, 1), (56, .iconst 0, 1), (57, .iconst 0, 1), (58, .invokestatic 86, 3), (61, .istore 5, 2), (63, .iload 5, 2), (65, .iload_n 3, 1), (66, .iconst 1, 1), (67, .iadd, 1), (68, .iconst 0, 1), (69, .iconst 0, 1), (70, .invokestatic 86, 3), (73, .if_icmp .ge 17, 3), (76, .aload_n 0, 1), (77, .getfield 37, 3), (80, .iload 5, 2), (82, .iconst 0, 1), (83, .iastore, 1), (84, .iinc 5 1, 3), (87, .goto (-24), 3), (90, .iload 4, 2), (92, .ireturn, 1)]
theorem D_X0_enterPart : dchk cX0_enterPart T_X0_enterPart = true := by decide +kernel
def Bk_enterPart (σ : ST) (i0 : Nat) (i1 : Nat) (a3 : Int32) : Option (Int32 × ST) :=
  bd_ (ldI σ 0 i0 a3) (fun v1 => lp_ (fun rec3 (z2 : ST × Int32) => (if (gF z2.1 530 i1) ≤ z2.2 then bd_ (stI z2.1 0 i0 a3 0) (fun s5 => bd_ (Rp_slotOf s5 a3 0 0) (fun q6 => lp_ (fun rec8 (z7 : ST × Int32) => bd_ (Rp_slotOf z7.1 (a3 + 1) 0 0) (fun q10 => (if q10 ≤ z7.2 then some (v1, z7.1) else bd_ (stI z7.1 6 i0 z7.2 0) (fun s11 => rec8 (s11, (z7.2 + 1)))))) FU (s5, q6))) else bd_ (ldI z2.1 5 i0 ((z2.2 * 6) + a3)) (fun v12 => bd_ (ldI z2.1 8 0 z2.2) (fun v13 => bd_ (stI z2.1 5 i0 ((z2.2 * 6) + a3) (v12 + v13)) (fun s14 => rec3 (s14, (z2.2 + 1))))))) FU (σ, 0))
set_option maxHeartbeats 4000000 in
set_option maxRecDepth 100000 in
theorem c_X0_enterPart {G : GW} (hG : Good G) {l : Launch} (σ : ST) (i0 : Nat) (h0 : i0 < 13) (i1 : Nat) (h1 : i1 < 2) (a3 : Int32) : Ctr G l yX0_enterPart cX0_enterPart 6 (some .int) 1 [.ref (ga G 121 i0), .ref (ga G 126 i1), .ref (ga G 122 0), .int a3] σ oP (Bk_enterPart σ i0 i1 a3) := by
  refine ctr_of hG (by decide) (Nat.le_of_ble_eq_true rfl) ?_
  intro X hXl hR hX
  have hX : Ok G X cX0_enterPart 6 RX0 1 := hX
  unfold Bk_enterPart
  show Sim G X 6 (MQX G X oP) σ 0 [(0, .ref (ga G 121 i0)), (1, .ref (ga G 126 i1)), (2, .ref (ga G 122 0)), (3, .int a3)] [] _
  refine s_aload_n 0 (n := 1) hX (dec_of D_X0_enterPart (i := 0) rfl) rfl rfl rfl ?_
  refine s_getR (c := 0) (p := 1) (k' := 0) (n := 4) hX cls0 (vk121 (by omega)) (dec_of D_X0_enterPart (i := 1) rfl) rfl rfl wd_220 ?_
  refine s_iload_n 3 (n := 5) hX (dec_of D_X0_enterPart (i := 2) rfl) rfl rfl rfl ?_
  refine s_iald (n := 6) hX (vk0 (by omega)) (by decide) (dec_of D_X0_enterPart (i := 3) rfl) rfl (fun v1 => ?_)
  refine s_istore (lv' := [(0, _), (1, _), (2, _), (3, _), (4, _)]) [1, 2, 3, 4, 0] (n := 8) hX (dec_of D_X0_enterPart (i := 4) rfl) rfl (by decide) rfl ?_
  refine s_iconst (v := 0) (n := 9) hX (dec_of D_X0_enterPart (i := 5) rfl) rfl (by decide) ?_
  refine s_istore (lv' := [(0, _), (1, _), (2, _), (3, _), (4, _), (5, _)]) [1, 2, 3, 4, 5, 0] (n := 11) hX (dec_of D_X0_enterPart (i := 6) rfl) rfl (by decide) rfl ?_
  refine s_sub [0, 1, 2, 3, 4, 5] rfl (s_lp (pc := 11) (Sf := fun (z2 : ST × Int32) => z2.1) (lvf := fun (z2 : ST × Int32) => [(0, .ref (ga G 121 i0)), (1, .ref (ga G 126 i1)), (2, .ref (ga G 122 0)), (3, .int a3), (4, .int v1), (5, .int z2.2)]) (fun rec3 hre4 z2 => ?_) FU (σ, 0))
  refine s_iload 5 (n := 13) hX (dec_of D_X0_enterPart (i := 7) rfl) rfl rfl ?_
  refine s_aload_n 1 (n := 14) hX (dec_of D_X0_enterPart (i := 8) rfl) rfl rfl rfl ?_
  refine s_getI (c := 5) (p := 10) (id := 530) (n := 17) hX cls5 (vk126 (by omega)) (dec_of D_X0_enterPart (i := 9) rfl) rfl rfl wd_396 ?_
  refine s_icmp_ge (tgt := 48) (n := 20) hX (dec_of D_X0_enterPart (i := 10) rfl) rfl rfl ?_ ?_
  · refine s_aload_n 0 (n := 49) hX (dec_of D_X0_enterPart (i := 28) rfl) rfl rfl rfl ?_
    refine s_getR (c := 0) (p := 1) (k' := 0) (n := 52) hX cls0 (vk121 (by omega)) (dec_of D_X0_enterPart (i := 29) rfl) rfl rfl wd_220 ?_
    refine s_iload_n 3 (n := 53) hX (dec_of D_X0_enterPart (i := 30) rfl) rfl rfl rfl ?_
    refine s_iconst (v := 0) (n := 54) hX (dec_of D_X0_enterPart (i := 31) rfl) rfl (by decide) ?_
    refine s_iast (n := 55) hX (vk0 (by omega)) (by decide) (dec_of D_X0_enterPart (i := 32) rfl) rfl (fun s5 => ?_)
    refine s_iload_n 3 (n := 56) hX (dec_of D_X0_enterPart (i := 33) rfl) rfl rfl rfl ?_
    refine s_iconst (v := 0) (n := 57) hX (dec_of D_X0_enterPart (i := 34) rfl) rfl (by decide) ?_
    refine s_iconst (v := 0) (n := 58) hX (dec_of D_X0_enterPart (i := 35) rfl) rfl (by decide) ?_
    refine s_callNI (n := 61) hX wd_893 wd_892 wd_83 (dec_of D_X0_enterPart (i := 36) rfl) rfl (by decide) (c_X9_slotOf (l := _) hG _ _ _ _) rfl rfl (Nat.le_of_ble_eq_true rfl) (fun q6 => ?_)
    refine s_istore (lv' := [(0, _), (1, _), (2, _), (3, _), (4, _), (5, _)]) [1, 2, 3, 4, 5, 0] (n := 63) hX (dec_of D_X0_enterPart (i := 37) rfl) rfl (by decide) rfl ?_
    refine s_sub [0, 3, 4, 5] rfl (s_lp (pc := 63) (Sf := fun (z7 : ST × Int32) => z7.1) (lvf := fun (z7 : ST × Int32) => [(0, .ref (ga G 121 i0)), (3, .int a3), (4, .int v1), (5, .int z7.2)]) (fun rec8 hre9 z7 => ?_) FU (s5, q6))
    refine s_iload 3 (n := 65) hX (dec_of D_X0_enterPart (i := 38) rfl) rfl rfl ?_
    refine s_iload_n 1 (n := 66) hX (dec_of D_X0_enterPart (i := 39) rfl) rfl rfl rfl ?_
    refine s_iconst (v := 1) (n := 67) hX (dec_of D_X0_enterPart (i := 40) rfl) rfl (by decide) ?_
    refine s_iadd (n := 68) hX (dec_of D_X0_enterPart (i := 41) rfl) rfl ?_
    refine s_iconst (v := 0) (n := 69) hX (dec_of D_X0_enterPart (i := 42) rfl) rfl (by decide) ?_
    refine s_iconst (v := 0) (n := 70) hX (dec_of D_X0_enterPart (i := 43) rfl) rfl (by decide) ?_
    refine s_callNI (n := 73) hX wd_893 wd_892 wd_83 (dec_of D_X0_enterPart (i := 44) rfl) rfl (by decide) (c_X9_slotOf (l := _) hG _ _ _ _) rfl rfl (Nat.le_of_ble_eq_true rfl) (fun q10 => ?_)
    refine s_icmp_ge (tgt := 90) (n := 76) hX (dec_of D_X0_enterPart (i := 45) rfl) rfl rfl ?_ ?_
    · refine s_iload 2 (n := 92) hX (dec_of D_X0_enterPart (i := 53) rfl) rfl rfl ?_
      exact s_iret hX hR (dec_of D_X0_enterPart (i := 54) rfl) rfl
    · refine s_aload_n 0 (n := 77) hX (dec_of D_X0_enterPart (i := 46) rfl) rfl rfl rfl ?_
      refine s_getR (c := 0) (p := 7) (k' := 6) (n := 80) hX cls0 (vk121 (by omega)) (dec_of D_X0_enterPart (i := 47) rfl) rfl rfl wd_234 ?_
      refine s_iload 3 (n := 82) hX (dec_of D_X0_enterPart (i := 48) rfl) rfl rfl ?_
      refine s_iconst (v := 0) (n := 83) hX (dec_of D_X0_enterPart (i := 49) rfl) rfl (by decide) ?_
      refine s_iast (n := 84) hX (vk6 (by omega)) (by decide) (dec_of D_X0_enterPart (i := 50) rfl) rfl (fun s11 => ?_)
      refine s_iinc (v := z7.2 + 1) (lv' := [(0, _), (3, _), (4, _), (5, _)]) 3 [1, 2, 3, 0] (n := 87) hX (dec_of D_X0_enterPart (i := 51) rfl) rfl rfl rfl (by decide) rfl ?_
      refine s_goto (n := 63) hX (dec_of D_X0_enterPart (i := 52) rfl) rfl ?_
      exact s_sub [0, 1, 2, 3] rfl (hre9 (s11, (z7.2 + 1)))
  · refine s_aload_n 0 (n := 21) hX (dec_of D_X0_enterPart (i := 11) rfl) rfl rfl rfl ?_
    refine s_getR (c := 0) (p := 6) (k' := 5) (n := 24) hX cls0 (vk121 (by omega)) (dec_of D_X0_enterPart (i := 12) rfl) rfl rfl wd_232 ?_
    refine s_iload 5 (n := 26) hX (dec_of D_X0_enterPart (i := 13) rfl) rfl rfl ?_
    refine s_bipush (v := 6) (n := 28) hX (dec_of D_X0_enterPart (i := 14) rfl) rfl (by decide) ?_
    refine s_imul (n := 29) hX (dec_of D_X0_enterPart (i := 15) rfl) rfl ?_
    refine s_iload_n 3 (n := 30) hX (dec_of D_X0_enterPart (i := 16) rfl) rfl rfl rfl ?_
    refine s_iadd (n := 31) hX (dec_of D_X0_enterPart (i := 17) rfl) rfl ?_
    refine s_dup2 (n := 32) hX (dec_of D_X0_enterPart (i := 18) rfl) rfl rfl rfl ?_
    refine s_iald (n := 33) hX (vk5 (by omega)) (by decide) (dec_of D_X0_enterPart (i := 19) rfl) rfl (fun v12 => ?_)
    refine s_aload_n 2 (n := 34) hX (dec_of D_X0_enterPart (i := 20) rfl) rfl rfl rfl ?_
    refine s_getR (c := 1) (p := 0) (k' := 8) (n := 37) hX cls1 (vk122 (by omega)) (dec_of D_X0_enterPart (i := 21) rfl) rfl rfl wd_339 ?_
    refine s_iload 5 (n := 39) hX (dec_of D_X0_enterPart (i := 22) rfl) rfl rfl ?_
    refine s_iald (n := 40) hX (vk8 (by omega)) (by decide) (dec_of D_X0_enterPart (i := 23) rfl) rfl (fun v13 => ?_)
    refine s_iadd (n := 41) hX (dec_of D_X0_enterPart (i := 24) rfl) rfl ?_
    refine s_iast (n := 42) hX (vk5 (by omega)) (by decide) (dec_of D_X0_enterPart (i := 25) rfl) rfl (fun s14 => ?_)
    refine s_iinc (v := z2.2 + 1) (lv' := [(0, _), (1, _), (2, _), (3, _), (4, _), (5, _)]) 5 [1, 2, 3, 4, 5, 0] (n := 45) hX (dec_of D_X0_enterPart (i := 26) rfl) rfl rfl rfl (by decide) rfl ?_
    refine s_goto (n := 11) hX (dec_of D_X0_enterPart (i := 27) rfl) rfl ?_
    exact s_sub [0, 1, 2, 3, 4, 5] rfl (hre4 (s14, (z2.2 + 1)))
def T_X0_paidBoth : List (Nat × Instr × Nat) := [(0, .aload_n 0, 1), (1, .getfield 31, 3), (4, .iload_n 1, 1), (5, .bipush 6, 2), (7, .imul, 1), (8, .iload_n 2, 1), (9, .iadd, 1), (10, .iaload, 1), (11, .aload_n 0, 1), (12, .getfield 34, 3), (15, .iload_n 1, 1), (16, .bipush 6, 2), (18, .imul, 1), (19, .iload_n 2, 1), (20, .iadd, 1), (21, .iaload, 1), (22, .iadd, 1), (23, .ireturn, 1)]
theorem D_X0_paidBoth : dchk cX0_paidBoth T_X0_paidBoth = true := by decide +kernel
def Bk_paidBoth (σ : ST) (i0 : Nat) (a1 : Int32) (a2 : Int32) : Option Int32 :=
  bd_ (ldI σ 4 i0 ((a1 * 6) + a2)) (fun v1 => bd_ (ldI σ 5 i0 ((a1 * 6) + a2)) (fun v2 => some (v1 + v2)))
set_option maxHeartbeats 4000000 in
set_option maxRecDepth 100000 in
theorem c_X0_paidBoth {G : GW} (hG : Good G) {l : Launch} (σ : ST) (i0 : Nat) (h0 : i0 < 13) (a1 : Int32) (a2 : Int32) : Ctr G l yX0_paidBoth cX0_paidBoth 3 (some .int) 0 [.ref (ga G 121 i0), .int a1, .int a2] σ (oI σ) (Bk_paidBoth σ i0 a1 a2) := by
  refine ctr_of hG (by decide) (Nat.le_of_ble_eq_true rfl) ?_
  intro X hXl hR hX
  have hX : Ok G X cX0_paidBoth 3 RX0 0 := hX
  unfold Bk_paidBoth
  show Sim G X 3 (MQX G X (oI σ)) σ 0 [(0, .ref (ga G 121 i0)), (1, .int a1), (2, .int a2)] [] _
  refine s_aload_n 0 (n := 1) hX (dec_of D_X0_paidBoth (i := 0) rfl) rfl rfl rfl ?_
  refine s_getR (c := 0) (p := 5) (k' := 4) (n := 4) hX cls0 (vk121 (by omega)) (dec_of D_X0_paidBoth (i := 1) rfl) rfl rfl wd_229 ?_
  refine s_iload_n 1 (n := 5) hX (dec_of D_X0_paidBoth (i := 2) rfl) rfl rfl rfl ?_
  refine s_bipush (v := 6) (n := 7) hX (dec_of D_X0_paidBoth (i := 3) rfl) rfl (by decide) ?_
  refine s_imul (n := 8) hX (dec_of D_X0_paidBoth (i := 4) rfl) rfl ?_
  refine s_iload_n 2 (n := 9) hX (dec_of D_X0_paidBoth (i := 5) rfl) rfl rfl rfl ?_
  refine s_iadd (n := 10) hX (dec_of D_X0_paidBoth (i := 6) rfl) rfl ?_
  refine s_iald (n := 11) hX (vk4 (by omega)) (by decide) (dec_of D_X0_paidBoth (i := 7) rfl) rfl (fun v1 => ?_)
  refine s_aload_n 0 (n := 12) hX (dec_of D_X0_paidBoth (i := 8) rfl) rfl rfl rfl ?_
  refine s_getR (c := 0) (p := 6) (k' := 5) (n := 15) hX cls0 (vk121 (by omega)) (dec_of D_X0_paidBoth (i := 9) rfl) rfl rfl wd_232 ?_
  refine s_iload_n 1 (n := 16) hX (dec_of D_X0_paidBoth (i := 10) rfl) rfl rfl rfl ?_
  refine s_bipush (v := 6) (n := 18) hX (dec_of D_X0_paidBoth (i := 11) rfl) rfl (by decide) ?_
  refine s_imul (n := 19) hX (dec_of D_X0_paidBoth (i := 12) rfl) rfl ?_
  refine s_iload_n 2 (n := 20) hX (dec_of D_X0_paidBoth (i := 13) rfl) rfl rfl rfl ?_
  refine s_iadd (n := 21) hX (dec_of D_X0_paidBoth (i := 14) rfl) rfl ?_
  refine s_iald (n := 22) hX (vk5 (by omega)) (by decide) (dec_of D_X0_paidBoth (i := 15) rfl) rfl (fun v2 => ?_)
  refine s_iadd (n := 23) hX (dec_of D_X0_paidBoth (i := 16) rfl) rfl ?_
  exact s_iret hX hR (dec_of D_X0_paidBoth (i := 17) rfl) rfl
theorem lk_RX0_133 : LkV RX0 133 RX0 yX0_paidBoth cX0_paidBoth 3 (some .int) 2 := ⟨wd_723, wd_724, wd_725, wd_86, wd_726, by decide +kernel, by decide⟩
def T_X0_paidTo : List (Nat × Instr × Nat) := [(0, .iconst 0, 1), (1, .istore_n 3, 1), (2, .iconst 0, 1), (3, .istore 4, 2), (5, .iload 4, 2), (7, .aload_n 1, 1), (8, .getfield 93, 3), (11, .if_icmp .ge 19, 3), (14, .iload_n 3, 1), (15, .aload_n 0, 1), (16, .iload_n 2, 1), (17, .iload 4, 2), (19, .invokevirtual 133, 3), (22, .iadd, 1), (23, .istore_n 3, 1), (24, .iinc 4 1, 3), (27, .goto (-22), 3), (30, .iload_n 3, 1), (31, .ireturn, 1)]
theorem D_X0_paidTo : dchk cX0_paidTo T_X0_paidTo = true := by decide +kernel
def Bk_paidTo (σ : ST) (i0 : Nat) (i1 : Nat) (a2 : Int32) : Option Int32 :=
  lp_ (fun rec2 (z1 : Int32 × Int32) => (if (gF σ 529 i1) ≤ z1.2 then some z1.1 else bd_ (Bk_paidBoth (σ) i0 a2 z1.2) (fun q4 => lt_ ((z1.1 + q4)) (fun x5 => rec2 (x5, (z1.2 + 1)))))) FU (0, 0)
set_option maxHeartbeats 4000000 in
set_option maxRecDepth 100000 in
theorem c_X0_paidTo {G : GW} (hG : Good G) {l : Launch} (σ : ST) (i0 : Nat) (h0 : i0 < 13) (i1 : Nat) (h1 : i1 < 2) (a2 : Int32) : Ctr G l yX0_paidTo cX0_paidTo 5 (some .int) 1 [.ref (ga G 121 i0), .ref (ga G 126 i1), .int a2] σ (oI σ) (Bk_paidTo σ i0 i1 a2) := by
  refine ctr_of hG (by decide) (Nat.le_of_ble_eq_true rfl) ?_
  intro X hXl hR hX
  have hX : Ok G X cX0_paidTo 5 RX0 1 := hX
  unfold Bk_paidTo
  show Sim G X 5 (MQX G X (oI σ)) σ 0 [(0, .ref (ga G 121 i0)), (1, .ref (ga G 126 i1)), (2, .int a2)] [] _
  refine s_iconst (v := 0) (n := 1) hX (dec_of D_X0_paidTo (i := 0) rfl) rfl (by decide) ?_
  refine s_istore_n (lv' := [(0, _), (1, _), (2, _), (3, _)]) [1, 2, 3, 0] (n := 2) hX (dec_of D_X0_paidTo (i := 1) rfl) rfl rfl (by decide) rfl ?_
  refine s_iconst (v := 0) (n := 3) hX (dec_of D_X0_paidTo (i := 2) rfl) rfl (by decide) ?_
  refine s_istore (lv' := [(0, _), (1, _), (2, _), (3, _), (4, _)]) [1, 2, 3, 4, 0] (n := 5) hX (dec_of D_X0_paidTo (i := 3) rfl) rfl (by decide) rfl ?_
  refine s_sub [0, 1, 2, 3, 4] rfl (s_lp (pc := 5) (Sf := fun (z1 : Int32 × Int32) => σ) (lvf := fun (z1 : Int32 × Int32) => [(0, .ref (ga G 121 i0)), (1, .ref (ga G 126 i1)), (2, .int a2), (3, .int z1.1), (4, .int z1.2)]) (fun rec2 hre3 z1 => ?_) FU (0, 0))
  refine s_iload 4 (n := 7) hX (dec_of D_X0_paidTo (i := 4) rfl) rfl rfl ?_
  refine s_aload_n 1 (n := 8) hX (dec_of D_X0_paidTo (i := 5) rfl) rfl rfl rfl ?_
  refine s_getI (c := 5) (p := 9) (id := 529) (n := 11) hX cls5 (vk126 (by omega)) (dec_of D_X0_paidTo (i := 6) rfl) rfl rfl wd_390 ?_
  refine s_icmp_ge (tgt := 30) (n := 14) hX (dec_of D_X0_paidTo (i := 7) rfl) rfl rfl ?_ ?_
  · refine s_iload_n 3 (n := 31) hX (dec_of D_X0_paidTo (i := 17) rfl) rfl rfl rfl ?_
    exact s_iret hX hR (dec_of D_X0_paidTo (i := 18) rfl) rfl
  · refine s_iload_n 3 (n := 15) hX (dec_of D_X0_paidTo (i := 8) rfl) rfl rfl rfl ?_
    refine s_aload_n 0 (n := 16) hX (dec_of D_X0_paidTo (i := 9) rfl) rfl rfl rfl ?_
    refine s_iload_n 2 (n := 17) hX (dec_of D_X0_paidTo (i := 10) rfl) rfl rfl rfl ?_
    refine s_iload 4 (n := 19) hX (dec_of D_X0_paidTo (i := 11) rfl) rfl rfl ?_
    refine s_callVI (c := 0) (n := 22) hX cls0 (vk121 (by omega)) lk_RX0_133 (dec_of D_X0_paidTo (i := 12) rfl) rfl (by decide) (c_X0_paidBoth (l := _) hG _ _ (by omega) _ _) rfl rfl (Nat.le_of_ble_eq_true rfl) (fun q4 => ?_)
    refine s_iadd (n := 23) hX (dec_of D_X0_paidTo (i := 13) rfl) rfl ?_
    refine s_topi (fun x5 => ?_)
    refine s_istore_n (lv' := [(0, _), (1, _), (2, _), (3, _), (4, _)]) [1, 2, 3, 0, 4] (n := 24) hX (dec_of D_X0_paidTo (i := 14) rfl) rfl rfl (by decide) rfl ?_
    refine s_iinc (v := z1.2 + 1) (lv' := [(0, _), (1, _), (2, _), (3, _), (4, _)]) 4 [1, 2, 3, 4, 0] (n := 27) hX (dec_of D_X0_paidTo (i := 15) rfl) rfl rfl rfl (by decide) rfl ?_
    refine s_goto (n := 5) hX (dec_of D_X0_paidTo (i := 16) rfl) rfl ?_
    exact s_sub [0, 1, 2, 3, 4] rfl (hre3 (x5, (z1.2 + 1)))
def T_X0_partsTo : List (Nat × Instr × Nat) := [(0, .iconst 0, 1), (1, .istore_n 3, 1), (2, .iconst 0, 1), (3, .istore 4, 2), (5, .iload 4, 2), (7, .aload_n 1, 1), (8, .getfield 93, 3), (11, .if_icmp .ge 24, 3), (14, .iload_n 3, 1), (15, .aload_n 0, 1), (16, .getfield 34, 3), (19, .iload_n 2, 1), (20, .bipush 6, 2), (22, .imul, 1), (23, .iload 4, 2), (25, .iadd, 1), (26, .iaload, 1), (27, .iadd, 1), (28, .istore_n 3, 1), (29, .iinc 4 1, 3), (32, .goto (-27), 3), (35, .iload_n 3, 1), (36, .ireturn, 1)]
theorem D_X0_partsTo : dchk cX0_partsTo T_X0_partsTo = true := by decide +kernel
def Bk_partsTo (σ : ST) (i0 : Nat) (i1 : Nat) (a2 : Int32) : Option Int32 :=
  lp_ (fun rec2 (z1 : Int32 × Int32) => (if (gF σ 529 i1) ≤ z1.2 then some z1.1 else bd_ (ldI σ 5 i0 ((a2 * 6) + z1.2)) (fun v4 => lt_ ((z1.1 + v4)) (fun x5 => rec2 (x5, (z1.2 + 1)))))) FU (0, 0)
set_option maxHeartbeats 4000000 in
set_option maxRecDepth 100000 in
theorem c_X0_partsTo {G : GW} (hG : Good G) {l : Launch} (σ : ST) (i0 : Nat) (h0 : i0 < 13) (i1 : Nat) (h1 : i1 < 2) (a2 : Int32) : Ctr G l yX0_partsTo cX0_partsTo 5 (some .int) 0 [.ref (ga G 121 i0), .ref (ga G 126 i1), .int a2] σ (oI σ) (Bk_partsTo σ i0 i1 a2) := by
  refine ctr_of hG (by decide) (Nat.le_of_ble_eq_true rfl) ?_
  intro X hXl hR hX
  have hX : Ok G X cX0_partsTo 5 RX0 0 := hX
  unfold Bk_partsTo
  show Sim G X 5 (MQX G X (oI σ)) σ 0 [(0, .ref (ga G 121 i0)), (1, .ref (ga G 126 i1)), (2, .int a2)] [] _
  refine s_iconst (v := 0) (n := 1) hX (dec_of D_X0_partsTo (i := 0) rfl) rfl (by decide) ?_
  refine s_istore_n (lv' := [(0, _), (1, _), (2, _), (3, _)]) [1, 2, 3, 0] (n := 2) hX (dec_of D_X0_partsTo (i := 1) rfl) rfl rfl (by decide) rfl ?_
  refine s_iconst (v := 0) (n := 3) hX (dec_of D_X0_partsTo (i := 2) rfl) rfl (by decide) ?_
  refine s_istore (lv' := [(0, _), (1, _), (2, _), (3, _), (4, _)]) [1, 2, 3, 4, 0] (n := 5) hX (dec_of D_X0_partsTo (i := 3) rfl) rfl (by decide) rfl ?_
  refine s_sub [0, 1, 2, 3, 4] rfl (s_lp (pc := 5) (Sf := fun (z1 : Int32 × Int32) => σ) (lvf := fun (z1 : Int32 × Int32) => [(0, .ref (ga G 121 i0)), (1, .ref (ga G 126 i1)), (2, .int a2), (3, .int z1.1), (4, .int z1.2)]) (fun rec2 hre3 z1 => ?_) FU (0, 0))
  refine s_iload 4 (n := 7) hX (dec_of D_X0_partsTo (i := 4) rfl) rfl rfl ?_
  refine s_aload_n 1 (n := 8) hX (dec_of D_X0_partsTo (i := 5) rfl) rfl rfl rfl ?_
  refine s_getI (c := 5) (p := 9) (id := 529) (n := 11) hX cls5 (vk126 (by omega)) (dec_of D_X0_partsTo (i := 6) rfl) rfl rfl wd_390 ?_
  refine s_icmp_ge (tgt := 35) (n := 14) hX (dec_of D_X0_partsTo (i := 7) rfl) rfl rfl ?_ ?_
  · refine s_iload_n 3 (n := 36) hX (dec_of D_X0_partsTo (i := 21) rfl) rfl rfl rfl ?_
    exact s_iret hX hR (dec_of D_X0_partsTo (i := 22) rfl) rfl
  · refine s_iload_n 3 (n := 15) hX (dec_of D_X0_partsTo (i := 8) rfl) rfl rfl rfl ?_
    refine s_aload_n 0 (n := 16) hX (dec_of D_X0_partsTo (i := 9) rfl) rfl rfl rfl ?_
    refine s_getR (c := 0) (p := 6) (k' := 5) (n := 19) hX cls0 (vk121 (by omega)) (dec_of D_X0_partsTo (i := 10) rfl) rfl rfl wd_232 ?_
    refine s_iload_n 2 (n := 20) hX (dec_of D_X0_partsTo (i := 11) rfl) rfl rfl rfl ?_
    refine s_bipush (v := 6) (n := 22) hX (dec_of D_X0_partsTo (i := 12) rfl) rfl (by decide) ?_
    refine s_imul (n := 23) hX (dec_of D_X0_partsTo (i := 13) rfl) rfl ?_
    refine s_iload 4 (n := 25) hX (dec_of D_X0_partsTo (i := 14) rfl) rfl rfl ?_
    refine s_iadd (n := 26) hX (dec_of D_X0_partsTo (i := 15) rfl) rfl ?_
    refine s_iald (n := 27) hX (vk5 (by omega)) (by decide) (dec_of D_X0_partsTo (i := 16) rfl) rfl (fun v4 => ?_)
    refine s_iadd (n := 28) hX (dec_of D_X0_partsTo (i := 17) rfl) rfl ?_
    refine s_topi (fun x5 => ?_)
    refine s_istore_n (lv' := [(0, _), (1, _), (2, _), (3, _), (4, _)]) [1, 2, 3, 0, 4] (n := 29) hX (dec_of D_X0_partsTo (i := 18) rfl) rfl rfl (by decide) rfl ?_
    refine s_iinc (v := z1.2 + 1) (lv' := [(0, _), (1, _), (2, _), (3, _), (4, _)]) 4 [1, 2, 3, 4, 0] (n := 32) hX (dec_of D_X0_partsTo (i := 19) rfl) rfl rfl rfl (by decide) rfl ?_
    refine s_goto (n := 5) hX (dec_of D_X0_partsTo (i := 20) rfl) rfl ?_
    exact s_sub [0, 1, 2, 3, 4] rfl (hre3 (x5, (z1.2 + 1)))
def T_X0_weightIn : List (Nat × Instr × Nat) := [(0, .iconst 0, 1), (1, .istore_n 3, 1), (2, .iconst 0, 1), (3, .istore 4, 2), (5, .iload 4, 2), (7, .aload_n 1, 1), (8, .getfield 125, 3), (11, .if_icmp .ge 24, 3), (14, .iload_n 3, 1), (15, .aload_n 0, 1), (16, .getfield 31, 3), (19, .iload 4, 2), (21, .bipush 6, 2), (23, .imul, 1), (24, .iload_n 2, 1), (25, .iadd, 1), (26, .iaload, 1), (27, .iadd, 1), (28, .istore_n 3, 1), (29, .iinc 4 1, 3), (32, .goto (-27), 3), (35, .iload_n 3, 1), (36, .ireturn, 1)]
theorem D_X0_weightIn : dchk cX0_weightIn T_X0_weightIn = true := by decide +kernel
def Bk_weightIn (σ : ST) (i0 : Nat) (i1 : Nat) (a2 : Int32) : Option Int32 :=
  lp_ (fun rec2 (z1 : Int32 × Int32) => (if (gF σ 530 i1) ≤ z1.2 then some z1.1 else bd_ (ldI σ 4 i0 ((z1.2 * 6) + a2)) (fun v4 => lt_ ((z1.1 + v4)) (fun x5 => rec2 (x5, (z1.2 + 1)))))) FU (0, 0)
set_option maxHeartbeats 4000000 in
set_option maxRecDepth 100000 in
theorem c_X0_weightIn {G : GW} (hG : Good G) {l : Launch} (σ : ST) (i0 : Nat) (h0 : i0 < 13) (i1 : Nat) (h1 : i1 < 2) (a2 : Int32) : Ctr G l yX0_weightIn cX0_weightIn 5 (some .int) 0 [.ref (ga G 121 i0), .ref (ga G 126 i1), .int a2] σ (oI σ) (Bk_weightIn σ i0 i1 a2) := by
  refine ctr_of hG (by decide) (Nat.le_of_ble_eq_true rfl) ?_
  intro X hXl hR hX
  have hX : Ok G X cX0_weightIn 5 RX0 0 := hX
  unfold Bk_weightIn
  show Sim G X 5 (MQX G X (oI σ)) σ 0 [(0, .ref (ga G 121 i0)), (1, .ref (ga G 126 i1)), (2, .int a2)] [] _
  refine s_iconst (v := 0) (n := 1) hX (dec_of D_X0_weightIn (i := 0) rfl) rfl (by decide) ?_
  refine s_istore_n (lv' := [(0, _), (1, _), (2, _), (3, _)]) [1, 2, 3, 0] (n := 2) hX (dec_of D_X0_weightIn (i := 1) rfl) rfl rfl (by decide) rfl ?_
  refine s_iconst (v := 0) (n := 3) hX (dec_of D_X0_weightIn (i := 2) rfl) rfl (by decide) ?_
  refine s_istore (lv' := [(0, _), (1, _), (2, _), (3, _), (4, _)]) [1, 2, 3, 4, 0] (n := 5) hX (dec_of D_X0_weightIn (i := 3) rfl) rfl (by decide) rfl ?_
  refine s_sub [0, 1, 2, 3, 4] rfl (s_lp (pc := 5) (Sf := fun (z1 : Int32 × Int32) => σ) (lvf := fun (z1 : Int32 × Int32) => [(0, .ref (ga G 121 i0)), (1, .ref (ga G 126 i1)), (2, .int a2), (3, .int z1.1), (4, .int z1.2)]) (fun rec2 hre3 z1 => ?_) FU (0, 0))
  refine s_iload 4 (n := 7) hX (dec_of D_X0_weightIn (i := 4) rfl) rfl rfl ?_
  refine s_aload_n 1 (n := 8) hX (dec_of D_X0_weightIn (i := 5) rfl) rfl rfl rfl ?_
  refine s_getI (c := 5) (p := 10) (id := 530) (n := 11) hX cls5 (vk126 (by omega)) (dec_of D_X0_weightIn (i := 6) rfl) rfl rfl wd_396 ?_
  refine s_icmp_ge (tgt := 35) (n := 14) hX (dec_of D_X0_weightIn (i := 7) rfl) rfl rfl ?_ ?_
  · refine s_iload_n 3 (n := 36) hX (dec_of D_X0_weightIn (i := 21) rfl) rfl rfl rfl ?_
    exact s_iret hX hR (dec_of D_X0_weightIn (i := 22) rfl) rfl
  · refine s_iload_n 3 (n := 15) hX (dec_of D_X0_weightIn (i := 8) rfl) rfl rfl rfl ?_
    refine s_aload_n 0 (n := 16) hX (dec_of D_X0_weightIn (i := 9) rfl) rfl rfl rfl ?_
    refine s_getR (c := 0) (p := 5) (k' := 4) (n := 19) hX cls0 (vk121 (by omega)) (dec_of D_X0_weightIn (i := 10) rfl) rfl rfl wd_229 ?_
    refine s_iload 4 (n := 21) hX (dec_of D_X0_weightIn (i := 11) rfl) rfl rfl ?_
    refine s_bipush (v := 6) (n := 23) hX (dec_of D_X0_weightIn (i := 12) rfl) rfl (by decide) ?_
    refine s_imul (n := 24) hX (dec_of D_X0_weightIn (i := 13) rfl) rfl ?_
    refine s_iload_n 2 (n := 25) hX (dec_of D_X0_weightIn (i := 14) rfl) rfl rfl rfl ?_
    refine s_iadd (n := 26) hX (dec_of D_X0_weightIn (i := 15) rfl) rfl ?_
    refine s_iald (n := 27) hX (vk4 (by omega)) (by decide) (dec_of D_X0_weightIn (i := 16) rfl) rfl (fun v4 => ?_)
    refine s_iadd (n := 28) hX (dec_of D_X0_weightIn (i := 17) rfl) rfl ?_
    refine s_topi (fun x5 => ?_)
    refine s_istore_n (lv' := [(0, _), (1, _), (2, _), (3, _), (4, _)]) [1, 2, 3, 0, 4] (n := 29) hX (dec_of D_X0_weightIn (i := 18) rfl) rfl rfl (by decide) rfl ?_
    refine s_iinc (v := z1.2 + 1) (lv' := [(0, _), (1, _), (2, _), (3, _), (4, _)]) 4 [1, 2, 3, 4, 0] (n := 32) hX (dec_of D_X0_weightIn (i := 19) rfl) rfl rfl rfl (by decide) rfl ?_
    refine s_goto (n := 5) hX (dec_of D_X0_weightIn (i := 20) rfl) rfl ?_
    exact s_sub [0, 1, 2, 3, 4] rfl (hre3 (x5, (z1.2 + 1)))
def T_X0_partsIn : List (Nat × Instr × Nat) := [(0, .iconst 0, 1), (1, .istore_n 3, 1), (2, .iconst 0, 1), (3, .istore 4, 2), (5, .iload 4, 2), (7, .aload_n 1, 1), (8, .getfield 125, 3), (11, .if_icmp .ge 24, 3), (14, .iload_n 3, 1), (15, .aload_n 0, 1), (16, .getfield 34, 3), (19, .iload 4, 2), (21, .bipush 6, 2), (23, .imul, 1), (24, .iload_n 2, 1), (25, .iadd, 1), (26, .iaload, 1), (27, .iadd, 1), (28, .istore_n 3, 1), (29, .iinc 4 1, 3), (32, .goto (-27), 3), (35, .iload_n 3, 1), (36, .ireturn, 1)]
theorem D_X0_partsIn : dchk cX0_partsIn T_X0_partsIn = true := by decide +kernel
def Bk_partsIn (σ : ST) (i0 : Nat) (i1 : Nat) (a2 : Int32) : Option Int32 :=
  lp_ (fun rec2 (z1 : Int32 × Int32) => (if (gF σ 530 i1) ≤ z1.2 then some z1.1 else bd_ (ldI σ 5 i0 ((z1.2 * 6) + a2)) (fun v4 => lt_ ((z1.1 + v4)) (fun x5 => rec2 (x5, (z1.2 + 1)))))) FU (0, 0)
set_option maxHeartbeats 4000000 in
set_option maxRecDepth 100000 in
theorem c_X0_partsIn {G : GW} (hG : Good G) {l : Launch} (σ : ST) (i0 : Nat) (h0 : i0 < 13) (i1 : Nat) (h1 : i1 < 2) (a2 : Int32) : Ctr G l yX0_partsIn cX0_partsIn 5 (some .int) 0 [.ref (ga G 121 i0), .ref (ga G 126 i1), .int a2] σ (oI σ) (Bk_partsIn σ i0 i1 a2) := by
  refine ctr_of hG (by decide) (Nat.le_of_ble_eq_true rfl) ?_
  intro X hXl hR hX
  have hX : Ok G X cX0_partsIn 5 RX0 0 := hX
  unfold Bk_partsIn
  show Sim G X 5 (MQX G X (oI σ)) σ 0 [(0, .ref (ga G 121 i0)), (1, .ref (ga G 126 i1)), (2, .int a2)] [] _
  refine s_iconst (v := 0) (n := 1) hX (dec_of D_X0_partsIn (i := 0) rfl) rfl (by decide) ?_
  refine s_istore_n (lv' := [(0, _), (1, _), (2, _), (3, _)]) [1, 2, 3, 0] (n := 2) hX (dec_of D_X0_partsIn (i := 1) rfl) rfl rfl (by decide) rfl ?_
  refine s_iconst (v := 0) (n := 3) hX (dec_of D_X0_partsIn (i := 2) rfl) rfl (by decide) ?_
  refine s_istore (lv' := [(0, _), (1, _), (2, _), (3, _), (4, _)]) [1, 2, 3, 4, 0] (n := 5) hX (dec_of D_X0_partsIn (i := 3) rfl) rfl (by decide) rfl ?_
  refine s_sub [0, 1, 2, 3, 4] rfl (s_lp (pc := 5) (Sf := fun (z1 : Int32 × Int32) => σ) (lvf := fun (z1 : Int32 × Int32) => [(0, .ref (ga G 121 i0)), (1, .ref (ga G 126 i1)), (2, .int a2), (3, .int z1.1), (4, .int z1.2)]) (fun rec2 hre3 z1 => ?_) FU (0, 0))
  refine s_iload 4 (n := 7) hX (dec_of D_X0_partsIn (i := 4) rfl) rfl rfl ?_
  refine s_aload_n 1 (n := 8) hX (dec_of D_X0_partsIn (i := 5) rfl) rfl rfl rfl ?_
  refine s_getI (c := 5) (p := 10) (id := 530) (n := 11) hX cls5 (vk126 (by omega)) (dec_of D_X0_partsIn (i := 6) rfl) rfl rfl wd_396 ?_
  refine s_icmp_ge (tgt := 35) (n := 14) hX (dec_of D_X0_partsIn (i := 7) rfl) rfl rfl ?_ ?_
  · refine s_iload_n 3 (n := 36) hX (dec_of D_X0_partsIn (i := 21) rfl) rfl rfl rfl ?_
    exact s_iret hX hR (dec_of D_X0_partsIn (i := 22) rfl) rfl
  · refine s_iload_n 3 (n := 15) hX (dec_of D_X0_partsIn (i := 8) rfl) rfl rfl rfl ?_
    refine s_aload_n 0 (n := 16) hX (dec_of D_X0_partsIn (i := 9) rfl) rfl rfl rfl ?_
    refine s_getR (c := 0) (p := 6) (k' := 5) (n := 19) hX cls0 (vk121 (by omega)) (dec_of D_X0_partsIn (i := 10) rfl) rfl rfl wd_232 ?_
    refine s_iload 4 (n := 21) hX (dec_of D_X0_partsIn (i := 11) rfl) rfl rfl ?_
    refine s_bipush (v := 6) (n := 23) hX (dec_of D_X0_partsIn (i := 12) rfl) rfl (by decide) ?_
    refine s_imul (n := 24) hX (dec_of D_X0_partsIn (i := 13) rfl) rfl ?_
    refine s_iload_n 2 (n := 25) hX (dec_of D_X0_partsIn (i := 14) rfl) rfl rfl rfl ?_
    refine s_iadd (n := 26) hX (dec_of D_X0_partsIn (i := 15) rfl) rfl ?_
    refine s_iald (n := 27) hX (vk5 (by omega)) (by decide) (dec_of D_X0_partsIn (i := 16) rfl) rfl (fun v4 => ?_)
    refine s_iadd (n := 28) hX (dec_of D_X0_partsIn (i := 17) rfl) rfl ?_
    refine s_topi (fun x5 => ?_)
    refine s_istore_n (lv' := [(0, _), (1, _), (2, _), (3, _), (4, _)]) [1, 2, 3, 0, 4] (n := 29) hX (dec_of D_X0_partsIn (i := 18) rfl) rfl rfl (by decide) rfl ?_
    refine s_iinc (v := z1.2 + 1) (lv' := [(0, _), (1, _), (2, _), (3, _), (4, _)]) 4 [1, 2, 3, 4, 0] (n := 32) hX (dec_of D_X0_partsIn (i := 19) rfl) rfl rfl rfl (by decide) rfl ?_
    refine s_goto (n := 5) hX (dec_of D_X0_partsIn (i := 20) rfl) rfl ?_
    exact s_sub [0, 1, 2, 3, 4] rfl (hre3 (x5, (z1.2 + 1)))
theorem lk_RX0_136 : LkV RX0 136 RX0 yX0_weightIn cX0_weightIn 5 (some .int) 2 := ⟨wd_1098, wd_944, wd_945, wd_86, wd_946, by decide +kernel, by decide⟩
theorem lk_RX0_140 : LkV RX0 140 RX0 yX0_partsIn cX0_partsIn 5 (some .int) 2 := ⟨wd_1099, wd_1100, wd_1101, wd_86, wd_1102, by decide +kernel, by decide⟩
def T_X0_paidIn : List (Nat × Instr × Nat) := [(0, .aload_n 0, 1), (1, .aload_n 1, 1), (2, .iload_n 2, 1), (3, .invokevirtual 136, 3), (6, .aload_n 0, 1), (7, .aload_n 1, 1), (8, .iload_n 2, 1), (9, .invokevirtual 140, 3), (12, .iadd, 1), (13, .ireturn, 1)]
theorem D_X0_paidIn : dchk cX0_paidIn T_X0_paidIn = true := by decide +kernel
def Bk_paidIn (σ : ST) (i0 : Nat) (i1 : Nat) (a2 : Int32) : Option Int32 :=
  bd_ (Bk_weightIn (σ) i0 i1 a2) (fun q1 => bd_ (Bk_partsIn (σ) i0 i1 a2) (fun q2 => some (q1 + q2)))
set_option maxHeartbeats 4000000 in
set_option maxRecDepth 100000 in
theorem c_X0_paidIn {G : GW} (hG : Good G) {l : Launch} (σ : ST) (i0 : Nat) (h0 : i0 < 13) (i1 : Nat) (h1 : i1 < 2) (a2 : Int32) : Ctr G l yX0_paidIn cX0_paidIn 3 (some .int) 1 [.ref (ga G 121 i0), .ref (ga G 126 i1), .int a2] σ (oI σ) (Bk_paidIn σ i0 i1 a2) := by
  refine ctr_of hG (by decide) (Nat.le_of_ble_eq_true rfl) ?_
  intro X hXl hR hX
  have hX : Ok G X cX0_paidIn 3 RX0 1 := hX
  unfold Bk_paidIn
  show Sim G X 3 (MQX G X (oI σ)) σ 0 [(0, .ref (ga G 121 i0)), (1, .ref (ga G 126 i1)), (2, .int a2)] [] _
  refine s_aload_n 0 (n := 1) hX (dec_of D_X0_paidIn (i := 0) rfl) rfl rfl rfl ?_
  refine s_aload_n 1 (n := 2) hX (dec_of D_X0_paidIn (i := 1) rfl) rfl rfl rfl ?_
  refine s_iload_n 2 (n := 3) hX (dec_of D_X0_paidIn (i := 2) rfl) rfl rfl rfl ?_
  refine s_callVI (c := 0) (n := 6) hX cls0 (vk121 (by omega)) lk_RX0_136 (dec_of D_X0_paidIn (i := 3) rfl) rfl (by decide) (c_X0_weightIn (l := _) hG _ _ (by omega) _ (by omega) _) rfl rfl (Nat.le_of_ble_eq_true rfl) (fun q1 => ?_)
  refine s_aload_n 0 (n := 7) hX (dec_of D_X0_paidIn (i := 4) rfl) rfl rfl rfl ?_
  refine s_aload_n 1 (n := 8) hX (dec_of D_X0_paidIn (i := 5) rfl) rfl rfl rfl ?_
  refine s_iload_n 2 (n := 9) hX (dec_of D_X0_paidIn (i := 6) rfl) rfl rfl rfl ?_
  refine s_callVI (c := 0) (n := 12) hX cls0 (vk121 (by omega)) lk_RX0_140 (dec_of D_X0_paidIn (i := 7) rfl) rfl (by decide) (c_X0_partsIn (l := _) hG _ _ (by omega) _ (by omega) _) rfl rfl (Nat.le_of_ble_eq_true rfl) (fun q2 => ?_)
  refine s_iadd (n := 13) hX (dec_of D_X0_paidIn (i := 8) rfl) rfl ?_
  exact s_iret hX hR (dec_of D_X0_paidIn (i := 9) rfl) rfl
def T_X0_paidAcross : List (Nat × Instr × Nat) := [(0, .iconst 0, 1), (1, .istore 4, 2), (3, .iconst 0, 1), (4, .istore 5, 2), (6, .iload 5, 2), (8, .aload_n 1, 1), (9, .getfield 125, 3), (12, .if_icmp .ge 35, 3), (15, .aload_n 0, 1), (16, .getfield 12, 3), (19, .getfield 103, 3), (22, .iload 5, 2), (24, .iaload, 1), (25, .iload_n 3, 1), (26, .if_icmp .ne 15, 3), (29, .iload 4, 2), (31, .aload_n 0, 1), (32, .iload 5, 2), (34, .iload_n 2, 1), (35, .invokevirtual 133, 3), (38, .iadd, 1), (39, .istore 4, 2), (41, .iinc 5 1, 3), (44, .goto (-38), 3), (47, .iload 4, 2), (49, .ireturn, 1)]
theorem D_X0_paidAcross : dchk cX0_paidAcross T_X0_paidAcross = true := by decide +kernel
def Bk_paidAcross (σ : ST) (i0 : Nat) (i1 : Nat) (a2 : Int32) (a3 : Int32) : Option Int32 :=
  lp_ (fun rec2 (z1 : Int32 × Int32) => (if (gF σ 530 i1) ≤ z1.2 then some z1.1 else bd_ (ldI σ 26 i0 z1.2) (fun v4 => (if v4 = a3 then bd_ (Bk_paidBoth (σ) i0 z1.2 a2) (fun q5 => lt_ ((z1.1 + q5)) (fun x6 => rec2 (x6, (z1.2 + 1)))) else rec2 (z1.1, (z1.2 + 1)))))) FU (0, 0)
set_option maxHeartbeats 4000000 in
set_option maxRecDepth 100000 in
theorem c_X0_paidAcross {G : GW} (hG : Good G) {l : Launch} (σ : ST) (i0 : Nat) (h0 : i0 < 13) (i1 : Nat) (h1 : i1 < 2) (a2 : Int32) (a3 : Int32) : Ctr G l yX0_paidAcross cX0_paidAcross 6 (some .int) 1 [.ref (ga G 121 i0), .ref (ga G 126 i1), .int a2, .int a3] σ (oI σ) (Bk_paidAcross σ i0 i1 a2 a3) := by
  refine ctr_of hG (by decide) (Nat.le_of_ble_eq_true rfl) ?_
  intro X hXl hR hX
  have hX : Ok G X cX0_paidAcross 6 RX0 1 := hX
  unfold Bk_paidAcross
  show Sim G X 6 (MQX G X (oI σ)) σ 0 [(0, .ref (ga G 121 i0)), (1, .ref (ga G 126 i1)), (2, .int a2), (3, .int a3)] [] _
  refine s_iconst (v := 0) (n := 1) hX (dec_of D_X0_paidAcross (i := 0) rfl) rfl (by decide) ?_
  refine s_istore (lv' := [(0, _), (1, _), (2, _), (3, _), (4, _)]) [1, 2, 3, 4, 0] (n := 3) hX (dec_of D_X0_paidAcross (i := 1) rfl) rfl (by decide) rfl ?_
  refine s_iconst (v := 0) (n := 4) hX (dec_of D_X0_paidAcross (i := 2) rfl) rfl (by decide) ?_
  refine s_istore (lv' := [(0, _), (1, _), (2, _), (3, _), (4, _), (5, _)]) [1, 2, 3, 4, 5, 0] (n := 6) hX (dec_of D_X0_paidAcross (i := 3) rfl) rfl (by decide) rfl ?_
  refine s_sub [0, 1, 2, 3, 4, 5] rfl (s_lp (pc := 6) (Sf := fun (z1 : Int32 × Int32) => σ) (lvf := fun (z1 : Int32 × Int32) => [(0, .ref (ga G 121 i0)), (1, .ref (ga G 126 i1)), (2, .int a2), (3, .int a3), (4, .int z1.1), (5, .int z1.2)]) (fun rec2 hre3 z1 => ?_) FU (0, 0))
  refine s_iload 5 (n := 8) hX (dec_of D_X0_paidAcross (i := 4) rfl) rfl rfl ?_
  refine s_aload_n 1 (n := 9) hX (dec_of D_X0_paidAcross (i := 5) rfl) rfl rfl rfl ?_
  refine s_getI (c := 5) (p := 10) (id := 530) (n := 12) hX cls5 (vk126 (by omega)) (dec_of D_X0_paidAcross (i := 6) rfl) rfl rfl wd_396 ?_
  refine s_icmp_ge (tgt := 47) (n := 15) hX (dec_of D_X0_paidAcross (i := 7) rfl) rfl rfl ?_ ?_
  · refine s_iload 4 (n := 49) hX (dec_of D_X0_paidAcross (i := 24) rfl) rfl rfl ?_
    exact s_iret hX hR (dec_of D_X0_paidAcross (i := 25) rfl) rfl
  · refine s_aload_n 0 (n := 16) hX (dec_of D_X0_paidAcross (i := 8) rfl) rfl rfl rfl ?_
    refine s_getR (c := 0) (p := 0) (k' := 129) (n := 19) hX cls0 (vk121 (by omega)) (dec_of D_X0_paidAcross (i := 9) rfl) rfl rfl wd_218 ?_
    refine s_getR (c := 8) (p := 2) (k' := 26) (n := 22) hX cls8 (vk129 (by omega)) (dec_of D_X0_paidAcross (i := 10) rfl) rfl rfl wd_204 ?_
    refine s_iload 5 (n := 24) hX (dec_of D_X0_paidAcross (i := 11) rfl) rfl rfl ?_
    refine s_iald (n := 25) hX (vk26 (by omega)) (by decide) (dec_of D_X0_paidAcross (i := 12) rfl) rfl (fun v4 => ?_)
    refine s_iload_n 3 (n := 26) hX (dec_of D_X0_paidAcross (i := 13) rfl) rfl rfl rfl ?_
    refine s_icmp_ne (tgt := 41) (n := 29) hX (dec_of D_X0_paidAcross (i := 14) rfl) rfl rfl ?_ ?_
    · refine s_iinc (v := z1.2 + 1) (lv' := [(0, _), (1, _), (2, _), (3, _), (4, _), (5, _)]) 5 [1, 2, 3, 4, 5, 0] (n := 44) hX (dec_of D_X0_paidAcross (i := 22) rfl) rfl rfl rfl (by decide) rfl ?_
      refine s_goto (n := 6) hX (dec_of D_X0_paidAcross (i := 23) rfl) rfl ?_
      exact s_sub [0, 1, 2, 3, 4, 5] rfl (hre3 (z1.1, (z1.2 + 1)))
    · refine s_iload 4 (n := 31) hX (dec_of D_X0_paidAcross (i := 15) rfl) rfl rfl ?_
      refine s_aload_n 0 (n := 32) hX (dec_of D_X0_paidAcross (i := 16) rfl) rfl rfl rfl ?_
      refine s_iload 5 (n := 34) hX (dec_of D_X0_paidAcross (i := 17) rfl) rfl rfl ?_
      refine s_iload_n 2 (n := 35) hX (dec_of D_X0_paidAcross (i := 18) rfl) rfl rfl rfl ?_
      refine s_callVI (c := 0) (n := 38) hX cls0 (vk121 (by omega)) lk_RX0_133 (dec_of D_X0_paidAcross (i := 19) rfl) rfl (by decide) (c_X0_paidBoth (l := _) hG _ _ (by omega) _ _) rfl rfl (Nat.le_of_ble_eq_true rfl) (fun q5 => ?_)
      refine s_iadd (n := 39) hX (dec_of D_X0_paidAcross (i := 20) rfl) rfl ?_
      refine s_topi (fun x6 => ?_)
      refine s_istore (lv' := [(0, _), (1, _), (2, _), (3, _), (4, _), (5, _)]) [1, 2, 3, 4, 0, 5] (n := 41) hX (dec_of D_X0_paidAcross (i := 21) rfl) rfl (by decide) rfl ?_
      refine s_iinc (v := z1.2 + 1) (lv' := [(0, _), (1, _), (2, _), (3, _), (4, _), (5, _)]) 5 [1, 2, 3, 4, 5, 0] (n := 44) hX (dec_of D_X0_paidAcross (i := 22) rfl) rfl rfl rfl (by decide) rfl ?_
      refine s_goto (n := 6) hX (dec_of D_X0_paidAcross (i := 23) rfl) rfl ?_
      exact s_sub [0, 1, 2, 3, 4, 5] rfl (hre3 (x6, (z1.2 + 1)))
theorem lk_RX0_143 : LkV RX0 143 RX0 yX0_paidAcross cX0_paidAcross 6 (some .int) 3 := ⟨wd_1074, wd_1063, wd_1064, wd_86, wd_1065, by decide +kernel, by decide⟩
def T_X0_netOf : List (Nat × Instr × Nat) := [(0, .iconst 0, 1), (1, .istore_n 3, 1), (2, .iconst 0, 1), (3, .istore 4, 2), (5, .iload 4, 2), (7, .aload_n 1, 1), (8, .getfield 93, 3), (11, .if_icmp .ge 29, 3), (14, .iload_n 3, 1), (15, .aload_n 0, 1), (16, .aload_n 1, 1), (17, .iload 4, 2), (19, .iload_n 2, 1), (20, .invokevirtual 143, 3), (23, .aload_n 0, 1), (24, .aload_n 1, 1), (25, .iload_n 2, 1), (26, .iload 4, 2), (28, .invokevirtual 143, 3), (31, .isub, 1), (32, .iadd, 1), (33, .istore_n 3, 1), (34, .iinc 4 1, 3), (37, .goto (-32), 3), (40, .iload_n 3, 1), (41, .ireturn, 1)]
theorem D_X0_netOf : dchk cX0_netOf T_X0_netOf = true := by decide +kernel
def Bk_netOf (σ : ST) (i0 : Nat) (i1 : Nat) (a2 : Int32) : Option Int32 :=
  lp_ (fun rec2 (z1 : Int32 × Int32) => (if (gF σ 529 i1) ≤ z1.2 then some z1.1 else bd_ (Bk_paidAcross (σ) i0 i1 z1.2 a2) (fun q4 => bd_ (Bk_paidAcross (σ) i0 i1 a2 z1.2) (fun q5 => lt_ ((z1.1 + (q4 - q5))) (fun x6 => rec2 (x6, (z1.2 + 1))))))) FU (0, 0)
set_option maxHeartbeats 4000000 in
set_option maxRecDepth 100000 in
theorem c_X0_netOf {G : GW} (hG : Good G) {l : Launch} (σ : ST) (i0 : Nat) (h0 : i0 < 13) (i1 : Nat) (h1 : i1 < 2) (a2 : Int32) : Ctr G l yX0_netOf cX0_netOf 5 (some .int) 2 [.ref (ga G 121 i0), .ref (ga G 126 i1), .int a2] σ (oI σ) (Bk_netOf σ i0 i1 a2) := by
  refine ctr_of hG (by decide) (Nat.le_of_ble_eq_true rfl) ?_
  intro X hXl hR hX
  have hX : Ok G X cX0_netOf 5 RX0 2 := hX
  unfold Bk_netOf
  show Sim G X 5 (MQX G X (oI σ)) σ 0 [(0, .ref (ga G 121 i0)), (1, .ref (ga G 126 i1)), (2, .int a2)] [] _
  refine s_iconst (v := 0) (n := 1) hX (dec_of D_X0_netOf (i := 0) rfl) rfl (by decide) ?_
  refine s_istore_n (lv' := [(0, _), (1, _), (2, _), (3, _)]) [1, 2, 3, 0] (n := 2) hX (dec_of D_X0_netOf (i := 1) rfl) rfl rfl (by decide) rfl ?_
  refine s_iconst (v := 0) (n := 3) hX (dec_of D_X0_netOf (i := 2) rfl) rfl (by decide) ?_
  refine s_istore (lv' := [(0, _), (1, _), (2, _), (3, _), (4, _)]) [1, 2, 3, 4, 0] (n := 5) hX (dec_of D_X0_netOf (i := 3) rfl) rfl (by decide) rfl ?_
  refine s_sub [0, 1, 2, 3, 4] rfl (s_lp (pc := 5) (Sf := fun (z1 : Int32 × Int32) => σ) (lvf := fun (z1 : Int32 × Int32) => [(0, .ref (ga G 121 i0)), (1, .ref (ga G 126 i1)), (2, .int a2), (3, .int z1.1), (4, .int z1.2)]) (fun rec2 hre3 z1 => ?_) FU (0, 0))
  refine s_iload 4 (n := 7) hX (dec_of D_X0_netOf (i := 4) rfl) rfl rfl ?_
  refine s_aload_n 1 (n := 8) hX (dec_of D_X0_netOf (i := 5) rfl) rfl rfl rfl ?_
  refine s_getI (c := 5) (p := 9) (id := 529) (n := 11) hX cls5 (vk126 (by omega)) (dec_of D_X0_netOf (i := 6) rfl) rfl rfl wd_390 ?_
  refine s_icmp_ge (tgt := 40) (n := 14) hX (dec_of D_X0_netOf (i := 7) rfl) rfl rfl ?_ ?_
  · refine s_iload_n 3 (n := 41) hX (dec_of D_X0_netOf (i := 24) rfl) rfl rfl rfl ?_
    exact s_iret hX hR (dec_of D_X0_netOf (i := 25) rfl) rfl
  · refine s_iload_n 3 (n := 15) hX (dec_of D_X0_netOf (i := 8) rfl) rfl rfl rfl ?_
    refine s_aload_n 0 (n := 16) hX (dec_of D_X0_netOf (i := 9) rfl) rfl rfl rfl ?_
    refine s_aload_n 1 (n := 17) hX (dec_of D_X0_netOf (i := 10) rfl) rfl rfl rfl ?_
    refine s_iload 4 (n := 19) hX (dec_of D_X0_netOf (i := 11) rfl) rfl rfl ?_
    refine s_iload_n 2 (n := 20) hX (dec_of D_X0_netOf (i := 12) rfl) rfl rfl rfl ?_
    refine s_callVI (c := 0) (n := 23) hX cls0 (vk121 (by omega)) lk_RX0_143 (dec_of D_X0_netOf (i := 13) rfl) rfl (by decide) (c_X0_paidAcross (l := _) hG _ _ (by omega) _ (by omega) _ _) rfl rfl (Nat.le_of_ble_eq_true rfl) (fun q4 => ?_)
    refine s_aload_n 0 (n := 24) hX (dec_of D_X0_netOf (i := 14) rfl) rfl rfl rfl ?_
    refine s_aload_n 1 (n := 25) hX (dec_of D_X0_netOf (i := 15) rfl) rfl rfl rfl ?_
    refine s_iload_n 2 (n := 26) hX (dec_of D_X0_netOf (i := 16) rfl) rfl rfl rfl ?_
    refine s_iload 4 (n := 28) hX (dec_of D_X0_netOf (i := 17) rfl) rfl rfl ?_
    refine s_callVI (c := 0) (n := 31) hX cls0 (vk121 (by omega)) lk_RX0_143 (dec_of D_X0_netOf (i := 18) rfl) rfl (by decide) (c_X0_paidAcross (l := _) hG _ _ (by omega) _ (by omega) _ _) rfl rfl (Nat.le_of_ble_eq_true rfl) (fun q5 => ?_)
    refine s_isub (n := 32) hX (dec_of D_X0_netOf (i := 19) rfl) rfl ?_
    refine s_iadd (n := 33) hX (dec_of D_X0_netOf (i := 20) rfl) rfl ?_
    refine s_topi (fun x6 => ?_)
    refine s_istore_n (lv' := [(0, _), (1, _), (2, _), (3, _), (4, _)]) [1, 2, 3, 0, 4] (n := 34) hX (dec_of D_X0_netOf (i := 21) rfl) rfl rfl (by decide) rfl ?_
    refine s_iinc (v := z1.2 + 1) (lv' := [(0, _), (1, _), (2, _), (3, _), (4, _)]) 4 [1, 2, 3, 4, 0] (n := 37) hX (dec_of D_X0_netOf (i := 22) rfl) rfl rfl rfl (by decide) rfl ?_
    refine s_goto (n := 5) hX (dec_of D_X0_netOf (i := 23) rfl) rfl ?_
    exact s_sub [0, 1, 2, 3, 4] rfl (hre3 (x6, (z1.2 + 1)))
def T_X0_keptOfSession : List (Nat × Instr × Nat) := [(0, .iconst 0, 1), (1, .istore_n 3, 1), (2, .iconst 0, 1), (3, .istore 4, 2), (5, .iload 4, 2), (7, .aload_n 1, 1), (8, .getfield 93, 3), (11, .if_icmp .ge 44, 3), (14, .iconst 0, 1), (15, .istore 5, 2), (17, .iload 5, 2), (19, .aload_n 1, 1), (20, .getfield 147, 3), (23, .iload_n 2, 1), (24, .iaload, 1), (25, .if_icmp .ge 24, 3), (28, .iload_n 3, 1), (29, .aload_n 0, 1), (30, .iload 4, 2), (32, .iload_n 2, 1), (33, .iload 5, 2), (35, .invokestatic 86, 3), (38, .invokevirtual 110, 3), (41, .iadd, 1), (42, .istore_n 3, 1), (43, .iinc 5 1, 3), (46, .goto (-29), 3), (49, .iinc 4 1, 3), (52, .goto (-47), 3), (55, .iload_n 3, 1), (56, .ireturn, 1)]
theorem D_X0_keptOfSession : dchk cX0_keptOfSession T_X0_keptOfSession = true := by decide +kernel
def Bk_keptOfSession (σ : ST) (i0 : Nat) (i1 : Nat) (a2 : Int32) : Option Int32 :=
  lp_ (fun rec2 (z1 : Int32 × Int32) => (if (gF σ 529 i1) ≤ z1.2 then some z1.1 else lp_ (fun rec5 (z4 : Int32 × Int32) => bd_ (ldI σ 18 i1 a2) (fun v7 => (if v7 ≤ z4.2 then rec2 (z4.1, (z1.2 + 1)) else bd_ (Rp_slotOf (σ) z1.2 a2 z4.2) (fun q8 => bd_ (Bk_keptAtSlot (σ) i0 q8) (fun q9 => lt_ ((z4.1 + q9)) (fun x10 => rec5 (x10, (z4.2 + 1)))))))) FU (z1.1, 0))) FU (0, 0)
set_option maxHeartbeats 4000000 in
set_option maxRecDepth 100000 in
theorem c_X0_keptOfSession {G : GW} (hG : Good G) {l : Launch} (σ : ST) (i0 : Nat) (h0 : i0 < 13) (i1 : Nat) (h1 : i1 < 2) (a2 : Int32) : Ctr G l yX0_keptOfSession cX0_keptOfSession 6 (some .int) 1 [.ref (ga G 121 i0), .ref (ga G 126 i1), .int a2] σ (oI σ) (Bk_keptOfSession σ i0 i1 a2) := by
  refine ctr_of hG (by decide) (Nat.le_of_ble_eq_true rfl) ?_
  intro X hXl hR hX
  have hX : Ok G X cX0_keptOfSession 6 RX0 1 := hX
  unfold Bk_keptOfSession
  show Sim G X 6 (MQX G X (oI σ)) σ 0 [(0, .ref (ga G 121 i0)), (1, .ref (ga G 126 i1)), (2, .int a2)] [] _
  refine s_iconst (v := 0) (n := 1) hX (dec_of D_X0_keptOfSession (i := 0) rfl) rfl (by decide) ?_
  refine s_istore_n (lv' := [(0, _), (1, _), (2, _), (3, _)]) [1, 2, 3, 0] (n := 2) hX (dec_of D_X0_keptOfSession (i := 1) rfl) rfl rfl (by decide) rfl ?_
  refine s_iconst (v := 0) (n := 3) hX (dec_of D_X0_keptOfSession (i := 2) rfl) rfl (by decide) ?_
  refine s_istore (lv' := [(0, _), (1, _), (2, _), (3, _), (4, _)]) [1, 2, 3, 4, 0] (n := 5) hX (dec_of D_X0_keptOfSession (i := 3) rfl) rfl (by decide) rfl ?_
  refine s_sub [0, 1, 2, 3, 4] rfl (s_lp (pc := 5) (Sf := fun (z1 : Int32 × Int32) => σ) (lvf := fun (z1 : Int32 × Int32) => [(0, .ref (ga G 121 i0)), (1, .ref (ga G 126 i1)), (2, .int a2), (3, .int z1.1), (4, .int z1.2)]) (fun rec2 hre3 z1 => ?_) FU (0, 0))
  refine s_iload 4 (n := 7) hX (dec_of D_X0_keptOfSession (i := 4) rfl) rfl rfl ?_
  refine s_aload_n 1 (n := 8) hX (dec_of D_X0_keptOfSession (i := 5) rfl) rfl rfl rfl ?_
  refine s_getI (c := 5) (p := 9) (id := 529) (n := 11) hX cls5 (vk126 (by omega)) (dec_of D_X0_keptOfSession (i := 6) rfl) rfl rfl wd_390 ?_
  refine s_icmp_ge (tgt := 55) (n := 14) hX (dec_of D_X0_keptOfSession (i := 7) rfl) rfl rfl ?_ ?_
  · refine s_iload_n 3 (n := 56) hX (dec_of D_X0_keptOfSession (i := 29) rfl) rfl rfl rfl ?_
    exact s_iret hX hR (dec_of D_X0_keptOfSession (i := 30) rfl) rfl
  · refine s_iconst (v := 0) (n := 15) hX (dec_of D_X0_keptOfSession (i := 8) rfl) rfl (by decide) ?_
    refine s_istore (lv' := [(0, _), (1, _), (2, _), (3, _), (4, _), (5, _)]) [1, 2, 3, 4, 5, 0] (n := 17) hX (dec_of D_X0_keptOfSession (i := 9) rfl) rfl (by decide) rfl ?_
    refine s_sub [0, 1, 2, 3, 4, 5] rfl (s_lp (pc := 17) (Sf := fun (z4 : Int32 × Int32) => σ) (lvf := fun (z4 : Int32 × Int32) => [(0, .ref (ga G 121 i0)), (1, .ref (ga G 126 i1)), (2, .int a2), (3, .int z4.1), (4, .int z1.2), (5, .int z4.2)]) (fun rec5 hre6 z4 => ?_) FU (z1.1, 0))
    refine s_iload 5 (n := 19) hX (dec_of D_X0_keptOfSession (i := 10) rfl) rfl rfl ?_
    refine s_aload_n 1 (n := 20) hX (dec_of D_X0_keptOfSession (i := 11) rfl) rfl rfl rfl ?_
    refine s_getR (c := 5) (p := 5) (k' := 18) (n := 23) hX cls5 (vk126 (by omega)) (dec_of D_X0_keptOfSession (i := 12) rfl) rfl rfl wd_376 ?_
    refine s_iload_n 2 (n := 24) hX (dec_of D_X0_keptOfSession (i := 13) rfl) rfl rfl rfl ?_
    refine s_iald (n := 25) hX (vk18 (by omega)) (by decide) (dec_of D_X0_keptOfSession (i := 14) rfl) rfl (fun v7 => ?_)
    refine s_icmp_ge (tgt := 49) (n := 28) hX (dec_of D_X0_keptOfSession (i := 15) rfl) rfl rfl ?_ ?_
    · refine s_iinc (v := z1.2 + 1) (lv' := [(0, _), (1, _), (2, _), (3, _), (4, _), (5, _)]) 4 [1, 2, 3, 4, 0, 5] (n := 52) hX (dec_of D_X0_keptOfSession (i := 27) rfl) rfl rfl rfl (by decide) rfl ?_
      refine s_goto (n := 5) hX (dec_of D_X0_keptOfSession (i := 28) rfl) rfl ?_
      exact s_sub [0, 1, 2, 3, 4] rfl (hre3 (z4.1, (z1.2 + 1)))
    · refine s_iload_n 3 (n := 29) hX (dec_of D_X0_keptOfSession (i := 16) rfl) rfl rfl rfl ?_
      refine s_aload_n 0 (n := 30) hX (dec_of D_X0_keptOfSession (i := 17) rfl) rfl rfl rfl ?_
      refine s_iload 4 (n := 32) hX (dec_of D_X0_keptOfSession (i := 18) rfl) rfl rfl ?_
      refine s_iload_n 2 (n := 33) hX (dec_of D_X0_keptOfSession (i := 19) rfl) rfl rfl rfl ?_
      refine s_iload 5 (n := 35) hX (dec_of D_X0_keptOfSession (i := 20) rfl) rfl rfl ?_
      refine s_callNI (n := 38) hX wd_893 wd_892 wd_83 (dec_of D_X0_keptOfSession (i := 21) rfl) rfl (by decide) (c_X9_slotOf (l := _) hG _ _ _ _) rfl rfl (Nat.le_of_ble_eq_true rfl) (fun q8 => ?_)
      refine s_callVI (c := 0) (n := 41) hX cls0 (vk121 (by omega)) lk_RX0_110 (dec_of D_X0_keptOfSession (i := 22) rfl) rfl (by decide) (c_X0_keptAtSlot (l := _) hG _ _ (by omega) _) rfl rfl (Nat.le_of_ble_eq_true rfl) (fun q9 => ?_)
      refine s_iadd (n := 42) hX (dec_of D_X0_keptOfSession (i := 23) rfl) rfl ?_
      refine s_topi (fun x10 => ?_)
      refine s_istore_n (lv' := [(0, _), (1, _), (2, _), (3, _), (4, _), (5, _)]) [1, 2, 3, 0, 4, 5] (n := 43) hX (dec_of D_X0_keptOfSession (i := 24) rfl) rfl rfl (by decide) rfl ?_
      refine s_iinc (v := z4.2 + 1) (lv' := [(0, _), (1, _), (2, _), (3, _), (4, _), (5, _)]) 5 [1, 2, 3, 4, 5, 0] (n := 46) hX (dec_of D_X0_keptOfSession (i := 25) rfl) rfl rfl rfl (by decide) rfl ?_
      refine s_goto (n := 17) hX (dec_of D_X0_keptOfSession (i := 26) rfl) rfl ?_
      exact s_sub [0, 1, 2, 3, 4, 5] rfl (hre6 (x10, (z4.2 + 1)))
def T_X0_keptSince : List (Nat × Instr × Nat) := [(0, .iconst 0, 1), (1, .istore_n 3, 1), (2, .iload_n 1, 1), (3, .iconst 0, 1), (4, .iconst 0, 1), (5, .invokestatic 86, 3), (8, .istore 4, 2), (10, .iload 4, 2), (12, .iload_n 1, 1), (13, .iconst 1, 1), (14, .iadd, 1), (15, .iconst 0, 1), (16, .iconst 0, 1), (17, .invokestatic 86, 3), (20, .if_icmp .ge 45, 3), (23, .iload_n 2, 1), (24, .iconst 0, 1), (25, .invokestatic 153, 3), (28, .istore 5, 2), (30, .iload 5, 2), (32, .bipush 9, 2), (34, .if_icmp .ge 25, 3), (37, .iload_n 3, 1), (38, .aload_n 0, 1), (39, .getfield 40, 3), (42, .iload 4, 2), (44, .bipush 9, 2), (46, .imul, 1), (47, .iload 5, 2), (49, .iadd, 1), (50, .iaload, 1), (51, .iadd, 1), (52, .istore_n 3, 1), (53, .iinc 5 1, 3), (56, .goto (-26), 3), (59, .iinc 4 1, 3), (62, .goto (-52), 3), (65, .iload_n 3, 1), (66, .ireturn, 1)]
theorem D_X0_keptSince : dchk cX0_keptSince T_X0_keptSince = true := by decide +kernel
def Bk_keptSince (σ : ST) (i0 : Nat) (a1 : Int32) (a2 : Int32) : Option Int32 :=
  bd_ (Rp_slotOf (σ) a1 0 0) (fun q1 => lp_ (fun rec3 (z2 : Int32 × Int32) => bd_ (Rp_slotOf (σ) (a1 + 1) 0 0) (fun q5 => (if q5 ≤ z2.2 then some z2.1 else lt_ ((if a2 < 0 then 0 else a2)) (fun x6 => lp_ (fun rec8 (z7 : Int32 × Int32) => (if 9 ≤ z7.2 then rec3 (z7.1, (z2.2 + 1)) else bd_ (ldI σ 7 i0 ((z2.2 * 9) + z7.2)) (fun v10 => lt_ ((z7.1 + v10)) (fun x11 => rec8 (x11, (z7.2 + 1)))))) FU (z2.1, x6))))) FU (0, q1))
set_option maxHeartbeats 4000000 in
set_option maxRecDepth 100000 in
theorem c_X0_keptSince {G : GW} (hG : Good G) {l : Launch} (σ : ST) (i0 : Nat) (h0 : i0 < 13) (a1 : Int32) (a2 : Int32) : Ctr G l yX0_keptSince cX0_keptSince 6 (some .int) 1 [.ref (ga G 121 i0), .int a1, .int a2] σ (oI σ) (Bk_keptSince σ i0 a1 a2) := by
  refine ctr_of hG (by decide) (Nat.le_of_ble_eq_true rfl) ?_
  intro X hXl hR hX
  have hX : Ok G X cX0_keptSince 6 RX0 1 := hX
  unfold Bk_keptSince
  show Sim G X 6 (MQX G X (oI σ)) σ 0 [(0, .ref (ga G 121 i0)), (1, .int a1), (2, .int a2)] [] _
  refine s_iconst (v := 0) (n := 1) hX (dec_of D_X0_keptSince (i := 0) rfl) rfl (by decide) ?_
  refine s_istore_n (lv' := [(0, _), (1, _), (2, _), (3, _)]) [1, 2, 3, 0] (n := 2) hX (dec_of D_X0_keptSince (i := 1) rfl) rfl rfl (by decide) rfl ?_
  refine s_iload_n 1 (n := 3) hX (dec_of D_X0_keptSince (i := 2) rfl) rfl rfl rfl ?_
  refine s_iconst (v := 0) (n := 4) hX (dec_of D_X0_keptSince (i := 3) rfl) rfl (by decide) ?_
  refine s_iconst (v := 0) (n := 5) hX (dec_of D_X0_keptSince (i := 4) rfl) rfl (by decide) ?_
  refine s_callNI (n := 8) hX wd_893 wd_892 wd_83 (dec_of D_X0_keptSince (i := 5) rfl) rfl (by decide) (c_X9_slotOf (l := _) hG _ _ _ _) rfl rfl (Nat.le_of_ble_eq_true rfl) (fun q1 => ?_)
  refine s_istore (lv' := [(0, _), (1, _), (2, _), (3, _), (4, _)]) [1, 2, 3, 4, 0] (n := 10) hX (dec_of D_X0_keptSince (i := 6) rfl) rfl (by decide) rfl ?_
  refine s_sub [0, 1, 2, 3, 4] rfl (s_lp (pc := 10) (Sf := fun (z2 : Int32 × Int32) => σ) (lvf := fun (z2 : Int32 × Int32) => [(0, .ref (ga G 121 i0)), (1, .int a1), (2, .int a2), (3, .int z2.1), (4, .int z2.2)]) (fun rec3 hre4 z2 => ?_) FU (0, q1))
  refine s_iload 4 (n := 12) hX (dec_of D_X0_keptSince (i := 7) rfl) rfl rfl ?_
  refine s_iload_n 1 (n := 13) hX (dec_of D_X0_keptSince (i := 8) rfl) rfl rfl rfl ?_
  refine s_iconst (v := 1) (n := 14) hX (dec_of D_X0_keptSince (i := 9) rfl) rfl (by decide) ?_
  refine s_iadd (n := 15) hX (dec_of D_X0_keptSince (i := 10) rfl) rfl ?_
  refine s_iconst (v := 0) (n := 16) hX (dec_of D_X0_keptSince (i := 11) rfl) rfl (by decide) ?_
  refine s_iconst (v := 0) (n := 17) hX (dec_of D_X0_keptSince (i := 12) rfl) rfl (by decide) ?_
  refine s_callNI (n := 20) hX wd_893 wd_892 wd_83 (dec_of D_X0_keptSince (i := 13) rfl) rfl (by decide) (c_X9_slotOf (l := _) hG _ _ _ _) rfl rfl (Nat.le_of_ble_eq_true rfl) (fun q5 => ?_)
  refine s_icmp_ge (tgt := 65) (n := 23) hX (dec_of D_X0_keptSince (i := 14) rfl) rfl rfl ?_ ?_
  · refine s_iload_n 3 (n := 66) hX (dec_of D_X0_keptSince (i := 37) rfl) rfl rfl rfl ?_
    exact s_iret hX hR (dec_of D_X0_keptSince (i := 38) rfl) rfl
  · refine s_iload_n 2 (n := 24) hX (dec_of D_X0_keptSince (i := 15) rfl) rfl rfl rfl ?_
    refine s_iconst (v := 0) (n := 25) hX (dec_of D_X0_keptSince (i := 16) rfl) rfl (by decide) ?_
    refine s_mmax (n := 28) hX (dec_of D_X0_keptSince (i := 17) rfl) rfl (by decide) wd_1017 wd_1018 wd_94 wd_1019 (Nat.le_of_ble_eq_true rfl) ?_
    refine s_topi (fun x6 => ?_)
    refine s_istore (lv' := [(0, _), (1, _), (2, _), (3, _), (4, _), (5, _)]) [1, 2, 3, 4, 5, 0] (n := 30) hX (dec_of D_X0_keptSince (i := 18) rfl) rfl (by decide) rfl ?_
    refine s_sub [0, 1, 2, 3, 4, 5] rfl (s_lp (pc := 30) (Sf := fun (z7 : Int32 × Int32) => σ) (lvf := fun (z7 : Int32 × Int32) => [(0, .ref (ga G 121 i0)), (1, .int a1), (2, .int a2), (3, .int z7.1), (4, .int z2.2), (5, .int z7.2)]) (fun rec8 hre9 z7 => ?_) FU (z2.1, x6))
    refine s_iload 5 (n := 32) hX (dec_of D_X0_keptSince (i := 19) rfl) rfl rfl ?_
    refine s_bipush (v := 9) (n := 34) hX (dec_of D_X0_keptSince (i := 20) rfl) rfl (by decide) ?_
    refine s_icmp_ge (tgt := 59) (n := 37) hX (dec_of D_X0_keptSince (i := 21) rfl) rfl rfl ?_ ?_
    · refine s_iinc (v := z2.2 + 1) (lv' := [(0, _), (1, _), (2, _), (3, _), (4, _), (5, _)]) 4 [1, 2, 3, 4, 0, 5] (n := 62) hX (dec_of D_X0_keptSince (i := 35) rfl) rfl rfl rfl (by decide) rfl ?_
      refine s_goto (n := 10) hX (dec_of D_X0_keptSince (i := 36) rfl) rfl ?_
      exact s_sub [0, 1, 2, 3, 4] rfl (hre4 (z7.1, (z2.2 + 1)))
    · refine s_iload_n 3 (n := 38) hX (dec_of D_X0_keptSince (i := 22) rfl) rfl rfl rfl ?_
      refine s_aload_n 0 (n := 39) hX (dec_of D_X0_keptSince (i := 23) rfl) rfl rfl rfl ?_
      refine s_getR (c := 0) (p := 8) (k' := 7) (n := 42) hX cls0 (vk121 (by omega)) (dec_of D_X0_keptSince (i := 24) rfl) rfl rfl wd_236 ?_
      refine s_iload 4 (n := 44) hX (dec_of D_X0_keptSince (i := 25) rfl) rfl rfl ?_
      refine s_bipush (v := 9) (n := 46) hX (dec_of D_X0_keptSince (i := 26) rfl) rfl (by decide) ?_
      refine s_imul (n := 47) hX (dec_of D_X0_keptSince (i := 27) rfl) rfl ?_
      refine s_iload 5 (n := 49) hX (dec_of D_X0_keptSince (i := 28) rfl) rfl rfl ?_
      refine s_iadd (n := 50) hX (dec_of D_X0_keptSince (i := 29) rfl) rfl ?_
      refine s_iald (n := 51) hX (vk7 (by omega)) (by decide) (dec_of D_X0_keptSince (i := 30) rfl) rfl (fun v10 => ?_)
      refine s_iadd (n := 52) hX (dec_of D_X0_keptSince (i := 31) rfl) rfl ?_
      refine s_topi (fun x11 => ?_)
      refine s_istore_n (lv' := [(0, _), (1, _), (2, _), (3, _), (4, _), (5, _)]) [1, 2, 3, 0, 4, 5] (n := 53) hX (dec_of D_X0_keptSince (i := 32) rfl) rfl rfl (by decide) rfl ?_
      refine s_iinc (v := z7.2 + 1) (lv' := [(0, _), (1, _), (2, _), (3, _), (4, _), (5, _)]) 5 [1, 2, 3, 4, 5, 0] (n := 56) hX (dec_of D_X0_keptSince (i := 33) rfl) rfl rfl rfl (by decide) rfl ?_
      refine s_goto (n := 30) hX (dec_of D_X0_keptSince (i := 34) rfl) rfl ?_
      exact s_sub [0, 1, 2, 3, 4, 5] rfl (hre9 (x11, (z7.2 + 1)))
theorem lk_RX0_150 : LkV RX0 150 RX0 yX0_keptSince cX0_keptSince 6 (some .int) 2 := ⟨wd_1028, wd_1014, wd_1015, wd_86, wd_1016, by decide +kernel, by decide⟩
def T_X0_keptIn : List (Nat × Instr × Nat) := [(0, .aload_n 0, 1), (1, .iload_n 1, 1), (2, .iconst 0, 1), (3, .invokevirtual 150, 3), (6, .ireturn, 1)]
theorem D_X0_keptIn : dchk cX0_keptIn T_X0_keptIn = true := by decide +kernel
def Bk_keptIn (σ : ST) (i0 : Nat) (a1 : Int32) : Option Int32 :=
  bd_ (Bk_keptSince (σ) i0 a1 0) (fun q1 => some q1)
set_option maxHeartbeats 4000000 in
set_option maxRecDepth 100000 in
theorem c_X0_keptIn {G : GW} (hG : Good G) {l : Launch} (σ : ST) (i0 : Nat) (h0 : i0 < 13) (a1 : Int32) : Ctr G l yX0_keptIn cX0_keptIn 2 (some .int) 2 [.ref (ga G 121 i0), .int a1] σ (oI σ) (Bk_keptIn σ i0 a1) := by
  refine ctr_of hG (by decide) (Nat.le_of_ble_eq_true rfl) ?_
  intro X hXl hR hX
  have hX : Ok G X cX0_keptIn 2 RX0 2 := hX
  unfold Bk_keptIn
  show Sim G X 2 (MQX G X (oI σ)) σ 0 [(0, .ref (ga G 121 i0)), (1, .int a1)] [] _
  refine s_aload_n 0 (n := 1) hX (dec_of D_X0_keptIn (i := 0) rfl) rfl rfl rfl ?_
  refine s_iload_n 1 (n := 2) hX (dec_of D_X0_keptIn (i := 1) rfl) rfl rfl rfl ?_
  refine s_iconst (v := 0) (n := 3) hX (dec_of D_X0_keptIn (i := 2) rfl) rfl (by decide) ?_
  refine s_callVI (c := 0) (n := 6) hX cls0 (vk121 (by omega)) lk_RX0_150 (dec_of D_X0_keptIn (i := 3) rfl) rfl (by decide) (c_X0_keptSince (l := _) hG _ _ (by omega) _ _) rfl rfl (Nat.le_of_ble_eq_true rfl) (fun q1 => ?_)
  exact s_iret hX hR (dec_of D_X0_keptIn (i := 4) rfl) rfl
def T_X0_eldestKept : List (Nat × Instr × Nat) := [(0, .bipush 8, 2), (2, .istore_n 2, 1), (3, .iload_n 2, 1), (4, .ifCond .lt 20, 3), (7, .aload_n 0, 1), (8, .iload_n 1, 1), (9, .iload_n 2, 1), (10, .invokevirtual 150, 3), (13, .ifCond .le 5, 3), (16, .iload_n 2, 1), (17, .ireturn, 1), (18, .iinc 2 (-1), 3), (21, .goto (-18), 3), (24, .iconst (-1), 1), (25, .ireturn, 1)]
theorem D_X0_eldestKept : dchk cX0_eldestKept T_X0_eldestKept = true := by decide +kernel
def Bk_eldestKept (σ : ST) (i0 : Nat) (a1 : Int32) : Option Int32 :=
  lp_ (fun rec2 (z1 : Int32) => (if z1 < 0 then some (-1) else bd_ (Bk_keptSince (σ) i0 a1 z1) (fun q4 => (if q4 ≤ 0 then rec2 (z1 + (-1)) else some z1)))) FU 8
set_option maxHeartbeats 4000000 in
set_option maxRecDepth 100000 in
theorem c_X0_eldestKept {G : GW} (hG : Good G) {l : Launch} (σ : ST) (i0 : Nat) (h0 : i0 < 13) (a1 : Int32) : Ctr G l yX0_eldestKept cX0_eldestKept 3 (some .int) 2 [.ref (ga G 121 i0), .int a1] σ (oI σ) (Bk_eldestKept σ i0 a1) := by
  refine ctr_of hG (by decide) (Nat.le_of_ble_eq_true rfl) ?_
  intro X hXl hR hX
  have hX : Ok G X cX0_eldestKept 3 RX0 2 := hX
  unfold Bk_eldestKept
  show Sim G X 3 (MQX G X (oI σ)) σ 0 [(0, .ref (ga G 121 i0)), (1, .int a1)] [] _
  refine s_bipush (v := 8) (n := 2) hX (dec_of D_X0_eldestKept (i := 0) rfl) rfl (by decide) ?_
  refine s_istore_n (lv' := [(0, _), (1, _), (2, _)]) [1, 2, 0] (n := 3) hX (dec_of D_X0_eldestKept (i := 1) rfl) rfl rfl (by decide) rfl ?_
  refine s_sub [0, 1, 2] rfl (s_lp (pc := 3) (Sf := fun (z1 : Int32) => σ) (lvf := fun (z1 : Int32) => [(0, .ref (ga G 121 i0)), (1, .int a1), (2, .int z1)]) (fun rec2 hre3 z1 => ?_) FU 8)
  refine s_iload_n 2 (n := 4) hX (dec_of D_X0_eldestKept (i := 2) rfl) rfl rfl rfl ?_
  refine s_if_lt (tgt := 24) (n := 7) hX (dec_of D_X0_eldestKept (i := 3) rfl) rfl rfl ?_ ?_
  · refine s_iconst (v := (-1)) (n := 25) hX (dec_of D_X0_eldestKept (i := 13) rfl) rfl (by decide) ?_
    exact s_iret hX hR (dec_of D_X0_eldestKept (i := 14) rfl) rfl
  · refine s_aload_n 0 (n := 8) hX (dec_of D_X0_eldestKept (i := 4) rfl) rfl rfl rfl ?_
    refine s_iload_n 1 (n := 9) hX (dec_of D_X0_eldestKept (i := 5) rfl) rfl rfl rfl ?_
    refine s_iload_n 2 (n := 10) hX (dec_of D_X0_eldestKept (i := 6) rfl) rfl rfl rfl ?_
    refine s_callVI (c := 0) (n := 13) hX cls0 (vk121 (by omega)) lk_RX0_150 (dec_of D_X0_eldestKept (i := 7) rfl) rfl (by decide) (c_X0_keptSince (l := _) hG _ _ (by omega) _ _) rfl rfl (Nat.le_of_ble_eq_true rfl) (fun q4 => ?_)
    refine s_if_le (tgt := 18) (n := 16) hX (dec_of D_X0_eldestKept (i := 8) rfl) rfl rfl ?_ ?_
    · refine s_iinc (v := z1 + (-1)) (lv' := [(0, _), (1, _), (2, _)]) 2 [1, 2, 0] (n := 21) hX (dec_of D_X0_eldestKept (i := 11) rfl) rfl rfl rfl (by decide) rfl ?_
      refine s_goto (n := 3) hX (dec_of D_X0_eldestKept (i := 12) rfl) rfl ?_
      exact s_sub [0, 1, 2] rfl (hre3 (z1 + (-1)))
    · refine s_iload_n 2 (n := 17) hX (dec_of D_X0_eldestKept (i := 9) rfl) rfl rfl rfl ?_
      exact s_iret hX hR (dec_of D_X0_eldestKept (i := 10) rfl) rfl
def T_X0_lapsedIn : List (Nat × Instr × Nat) := [(0, .iconst 0, 1), (1, .istore_n 2, 1), (2, .iload_n 1, 1), (3, .iconst 0, 1), (4, .iconst 0, 1), (5, .invokestatic 86, 3), (8, .istore_n 3, 1), (9, .iload_n 3, 1), (10, .iload_n 1, 1), (11, .iconst 1, 1), (12, .iadd, 1), (13, .iconst 0, 1), (14, .iconst 0, 1), (15, .invokestatic 86, 3), (18, .if_icmp .ge 18, 3), (21, .iload_n 2, 1), (22, .aload_n 0, 1), (23, .getfield 37, 3), (26, .iload_n 3, 1), (27, .iaload, 1), (28, .iadd, 1), (29, .istore_n 2, 1), (30, .iinc 3 1, 3), (33, .goto (-24), 3), (36, .iload_n 2, 1), (37, .ireturn, 1)]
theorem D_X0_lapsedIn : dchk cX0_lapsedIn T_X0_lapsedIn = true := by decide +kernel
def Bk_lapsedIn (σ : ST) (i0 : Nat) (a1 : Int32) : Option Int32 :=
  bd_ (Rp_slotOf (σ) a1 0 0) (fun q1 => lp_ (fun rec3 (z2 : Int32 × Int32) => bd_ (Rp_slotOf (σ) (a1 + 1) 0 0) (fun q5 => (if q5 ≤ z2.2 then some z2.1 else bd_ (ldI σ 6 i0 z2.2) (fun v6 => lt_ ((z2.1 + v6)) (fun x7 => rec3 (x7, (z2.2 + 1))))))) FU (0, q1))
set_option maxHeartbeats 4000000 in
set_option maxRecDepth 100000 in
theorem c_X0_lapsedIn {G : GW} (hG : Good G) {l : Launch} (σ : ST) (i0 : Nat) (h0 : i0 < 13) (a1 : Int32) : Ctr G l yX0_lapsedIn cX0_lapsedIn 4 (some .int) 1 [.ref (ga G 121 i0), .int a1] σ (oI σ) (Bk_lapsedIn σ i0 a1) := by
  refine ctr_of hG (by decide) (Nat.le_of_ble_eq_true rfl) ?_
  intro X hXl hR hX
  have hX : Ok G X cX0_lapsedIn 4 RX0 1 := hX
  unfold Bk_lapsedIn
  show Sim G X 4 (MQX G X (oI σ)) σ 0 [(0, .ref (ga G 121 i0)), (1, .int a1)] [] _
  refine s_iconst (v := 0) (n := 1) hX (dec_of D_X0_lapsedIn (i := 0) rfl) rfl (by decide) ?_
  refine s_istore_n (lv' := [(0, _), (1, _), (2, _)]) [1, 2, 0] (n := 2) hX (dec_of D_X0_lapsedIn (i := 1) rfl) rfl rfl (by decide) rfl ?_
  refine s_iload_n 1 (n := 3) hX (dec_of D_X0_lapsedIn (i := 2) rfl) rfl rfl rfl ?_
  refine s_iconst (v := 0) (n := 4) hX (dec_of D_X0_lapsedIn (i := 3) rfl) rfl (by decide) ?_
  refine s_iconst (v := 0) (n := 5) hX (dec_of D_X0_lapsedIn (i := 4) rfl) rfl (by decide) ?_
  refine s_callNI (n := 8) hX wd_893 wd_892 wd_83 (dec_of D_X0_lapsedIn (i := 5) rfl) rfl (by decide) (c_X9_slotOf (l := _) hG _ _ _ _) rfl rfl (Nat.le_of_ble_eq_true rfl) (fun q1 => ?_)
  refine s_istore_n (lv' := [(0, _), (1, _), (2, _), (3, _)]) [1, 2, 3, 0] (n := 9) hX (dec_of D_X0_lapsedIn (i := 6) rfl) rfl rfl (by decide) rfl ?_
  refine s_sub [0, 1, 2, 3] rfl (s_lp (pc := 9) (Sf := fun (z2 : Int32 × Int32) => σ) (lvf := fun (z2 : Int32 × Int32) => [(0, .ref (ga G 121 i0)), (1, .int a1), (2, .int z2.1), (3, .int z2.2)]) (fun rec3 hre4 z2 => ?_) FU (0, q1))
  refine s_iload_n 3 (n := 10) hX (dec_of D_X0_lapsedIn (i := 7) rfl) rfl rfl rfl ?_
  refine s_iload_n 1 (n := 11) hX (dec_of D_X0_lapsedIn (i := 8) rfl) rfl rfl rfl ?_
  refine s_iconst (v := 1) (n := 12) hX (dec_of D_X0_lapsedIn (i := 9) rfl) rfl (by decide) ?_
  refine s_iadd (n := 13) hX (dec_of D_X0_lapsedIn (i := 10) rfl) rfl ?_
  refine s_iconst (v := 0) (n := 14) hX (dec_of D_X0_lapsedIn (i := 11) rfl) rfl (by decide) ?_
  refine s_iconst (v := 0) (n := 15) hX (dec_of D_X0_lapsedIn (i := 12) rfl) rfl (by decide) ?_
  refine s_callNI (n := 18) hX wd_893 wd_892 wd_83 (dec_of D_X0_lapsedIn (i := 13) rfl) rfl (by decide) (c_X9_slotOf (l := _) hG _ _ _ _) rfl rfl (Nat.le_of_ble_eq_true rfl) (fun q5 => ?_)
  refine s_icmp_ge (tgt := 36) (n := 21) hX (dec_of D_X0_lapsedIn (i := 14) rfl) rfl rfl ?_ ?_
  · refine s_iload_n 2 (n := 37) hX (dec_of D_X0_lapsedIn (i := 24) rfl) rfl rfl rfl ?_
    exact s_iret hX hR (dec_of D_X0_lapsedIn (i := 25) rfl) rfl
  · refine s_iload_n 2 (n := 22) hX (dec_of D_X0_lapsedIn (i := 15) rfl) rfl rfl rfl ?_
    refine s_aload_n 0 (n := 23) hX (dec_of D_X0_lapsedIn (i := 16) rfl) rfl rfl rfl ?_
    refine s_getR (c := 0) (p := 7) (k' := 6) (n := 26) hX cls0 (vk121 (by omega)) (dec_of D_X0_lapsedIn (i := 17) rfl) rfl rfl wd_234 ?_
    refine s_iload_n 3 (n := 27) hX (dec_of D_X0_lapsedIn (i := 18) rfl) rfl rfl rfl ?_
    refine s_iald (n := 28) hX (vk6 (by omega)) (by decide) (dec_of D_X0_lapsedIn (i := 19) rfl) rfl (fun v6 => ?_)
    refine s_iadd (n := 29) hX (dec_of D_X0_lapsedIn (i := 20) rfl) rfl ?_
    refine s_topi (fun x7 => ?_)
    refine s_istore_n (lv' := [(0, _), (1, _), (2, _), (3, _)]) [1, 2, 0, 3] (n := 30) hX (dec_of D_X0_lapsedIn (i := 21) rfl) rfl rfl (by decide) rfl ?_
    refine s_iinc (v := z2.2 + 1) (lv' := [(0, _), (1, _), (2, _), (3, _)]) 3 [1, 2, 3, 0] (n := 33) hX (dec_of D_X0_lapsedIn (i := 22) rfl) rfl rfl rfl (by decide) rfl ?_
    refine s_goto (n := 9) hX (dec_of D_X0_lapsedIn (i := 23) rfl) rfl ?_
    exact s_sub [0, 1, 2, 3] rfl (hre4 (x7, (z2.2 + 1)))
def T_X1_addCent : List (Nat × Instr × Nat) := [(0, .iconst 0, 1), (1, .istore_n 2, 1), (2, .iconst 1, 1), (3, .istore_n 3, 1), (4, .iload_n 3, 1), (5, .iload_n 1, 1), (6, .if_icmp .ge 27, 3), (9, .aload_n 0, 1), (10, .getfield 15, 3), (13, .iload_n 3, 1), (14, .laload, 1), (15, .aload_n 0, 1), (16, .getfield 15, 3), (19, .iload_n 2, 1), (20, .laload, 1), (21, .lcmp, 1), (22, .ifCond .le 5, 3), (25, .iload_n 3, 1), (26, .istore_n 2, 1), (27, .iinc 3 1, 3), (30, .goto (-26), 3), (33, .aload_n 0, 1), (34, .getfield 9, 3), (37, .iload_n 2, 1), (38, .dup2, 1), (39, .iaload, 1), (40, .iconst 1, 1), (41, .iadd, 1), (42, .iastore, 1), (43, .aload_n 0, 1), (44, .getfield 15, 3), (47, .iload_n 2, 1), (48, .ldc2_w 47, 3), (51, .lastore, 1), (52, .return_, 1)]
theorem D_X1_addCent : dchk cX1_addCent T_X1_addCent = true := by decide +kernel
def Bs_addCent (σ : ST) (a1 : Int32) : Option ST :=
  lp_ (fun rec2 (z1 : Int32 × Int32) => (if a1 ≤ z1.2 then bd_ (ldI σ 8 0 z1.1) (fun v4 => bd_ (stI σ 8 0 z1.1 (v4 + 1)) (fun s5 => bd_ (stL s5 100 0 z1.1 (-1)) (fun s6 => some s6))) else bd_ (ldL σ 100 0 z1.2) (fun v7 => bd_ (ldL σ 100 0 z1.1) (fun v8 => (if (lg_cmp v7 v8) ≤ 0 then rec2 (z1.1, (z1.2 + 1)) else rec2 (z1.2, (z1.2 + 1))))))) FU (0, 1)
set_option maxHeartbeats 4000000 in
set_option maxRecDepth 100000 in
theorem c_X1_addCent {G : GW} (hG : Good G) {l : Launch} (σ : ST) (a1 : Int32) : Ctr G l yX1_addCent cX1_addCent 4 none 0 [.ref (ga G 122 0), .int a1] σ oV (Bs_addCent σ a1) := by
  refine ctr_of hG (by decide) (Nat.le_of_ble_eq_true rfl) ?_
  intro X hXl hR hX
  have hX : Ok G X cX1_addCent 4 RX1 0 := hX
  unfold Bs_addCent
  show Sim G X 4 (MQX G X oV) σ 0 [(0, .ref (ga G 122 0)), (1, .int a1)] [] _
  refine s_iconst (v := 0) (n := 1) hX (dec_of D_X1_addCent (i := 0) rfl) rfl (by decide) ?_
  refine s_istore_n (lv' := [(0, _), (1, _), (2, _)]) [1, 2, 0] (n := 2) hX (dec_of D_X1_addCent (i := 1) rfl) rfl rfl (by decide) rfl ?_
  refine s_iconst (v := 1) (n := 3) hX (dec_of D_X1_addCent (i := 2) rfl) rfl (by decide) ?_
  refine s_istore_n (lv' := [(0, _), (1, _), (2, _), (3, _)]) [1, 2, 3, 0] (n := 4) hX (dec_of D_X1_addCent (i := 3) rfl) rfl rfl (by decide) rfl ?_
  refine s_sub [0, 1, 2, 3] rfl (s_lp (pc := 4) (Sf := fun (z1 : Int32 × Int32) => σ) (lvf := fun (z1 : Int32 × Int32) => [(0, .ref (ga G 122 0)), (1, .int a1), (2, .int z1.1), (3, .int z1.2)]) (fun rec2 hre3 z1 => ?_) FU (0, 1))
  refine s_iload_n 3 (n := 5) hX (dec_of D_X1_addCent (i := 4) rfl) rfl rfl rfl ?_
  refine s_iload_n 1 (n := 6) hX (dec_of D_X1_addCent (i := 5) rfl) rfl rfl rfl ?_
  refine s_icmp_ge (tgt := 33) (n := 9) hX (dec_of D_X1_addCent (i := 6) rfl) rfl rfl ?_ ?_
  · refine s_aload_n 0 (n := 34) hX (dec_of D_X1_addCent (i := 21) rfl) rfl rfl rfl ?_
    refine s_getR (c := 1) (p := 0) (k' := 8) (n := 37) hX cls1 (vk122 (by omega)) (dec_of D_X1_addCent (i := 22) rfl) rfl rfl wd_338 ?_
    refine s_iload_n 2 (n := 38) hX (dec_of D_X1_addCent (i := 23) rfl) rfl rfl rfl ?_
    refine s_dup2 (n := 39) hX (dec_of D_X1_addCent (i := 24) rfl) rfl rfl rfl ?_
    refine s_iald (n := 40) hX (vk8 (by omega)) (by decide) (dec_of D_X1_addCent (i := 25) rfl) rfl (fun v4 => ?_)
    refine s_iconst (v := 1) (n := 41) hX (dec_of D_X1_addCent (i := 26) rfl) rfl (by decide) ?_
    refine s_iadd (n := 42) hX (dec_of D_X1_addCent (i := 27) rfl) rfl ?_
    refine s_iast (n := 43) hX (vk8 (by omega)) (by decide) (dec_of D_X1_addCent (i := 28) rfl) rfl (fun s5 => ?_)
    refine s_aload_n 0 (n := 44) hX (dec_of D_X1_addCent (i := 29) rfl) rfl rfl rfl ?_
    refine s_getR (c := 1) (p := 1) (k' := 100) (n := 47) hX cls1 (vk122 (by omega)) (dec_of D_X1_addCent (i := 30) rfl) rfl rfl wd_341 ?_
    refine s_iload_n 2 (n := 48) hX (dec_of D_X1_addCent (i := 31) rfl) rfl rfl rfl ?_
    refine s_ldc2 (v := (-1)) (n := 51) hX (dec_of D_X1_addCent (i := 32) rfl) rfl wd_961 ?_
    refine s_last (n := 52) hX (vk100 (by omega)) (by decide) (dec_of D_X1_addCent (i := 33) rfl) rfl (fun s6 => ?_)
    exact s_vret hX hR (dec_of D_X1_addCent (i := 34) rfl) rfl
  · refine s_aload_n 0 (n := 10) hX (dec_of D_X1_addCent (i := 7) rfl) rfl rfl rfl ?_
    refine s_getR (c := 1) (p := 1) (k' := 100) (n := 13) hX cls1 (vk122 (by omega)) (dec_of D_X1_addCent (i := 8) rfl) rfl rfl wd_341 ?_
    refine s_iload_n 3 (n := 14) hX (dec_of D_X1_addCent (i := 9) rfl) rfl rfl rfl ?_
    refine s_lald (n := 15) hX (vk100 (by omega)) (by decide) (dec_of D_X1_addCent (i := 10) rfl) rfl (fun v7 => ?_)
    refine s_aload_n 0 (n := 16) hX (dec_of D_X1_addCent (i := 11) rfl) rfl rfl rfl ?_
    refine s_getR (c := 1) (p := 1) (k' := 100) (n := 19) hX cls1 (vk122 (by omega)) (dec_of D_X1_addCent (i := 12) rfl) rfl rfl wd_341 ?_
    refine s_iload_n 2 (n := 20) hX (dec_of D_X1_addCent (i := 13) rfl) rfl rfl rfl ?_
    refine s_lald (n := 21) hX (vk100 (by omega)) (by decide) (dec_of D_X1_addCent (i := 14) rfl) rfl (fun v8 => ?_)
    refine s_lcmp (n := 22) hX (dec_of D_X1_addCent (i := 15) rfl) rfl ?_
    refine s_if_le (tgt := 27) (n := 25) hX (dec_of D_X1_addCent (i := 16) rfl) rfl rfl ?_ ?_
    · refine s_iinc (v := z1.2 + 1) (lv' := [(0, _), (1, _), (2, _), (3, _)]) 3 [1, 2, 3, 0] (n := 30) hX (dec_of D_X1_addCent (i := 19) rfl) rfl rfl rfl (by decide) rfl ?_
      refine s_goto (n := 4) hX (dec_of D_X1_addCent (i := 20) rfl) rfl ?_
      exact s_sub [0, 1, 2, 3] rfl (hre3 (z1.1, (z1.2 + 1)))
    · refine s_iload_n 3 (n := 26) hX (dec_of D_X1_addCent (i := 17) rfl) rfl rfl rfl ?_
      refine s_istore_n (lv' := [(0, _), (1, _), (2, _), (3, _)]) [1, 2, 0, 3] (n := 27) hX (dec_of D_X1_addCent (i := 18) rfl) rfl rfl (by decide) rfl ?_
      refine s_iinc (v := z1.2 + 1) (lv' := [(0, _), (1, _), (2, _), (3, _)]) 3 [1, 2, 3, 0] (n := 30) hX (dec_of D_X1_addCent (i := 19) rfl) rfl rfl rfl (by decide) rfl ?_
      refine s_goto (n := 4) hX (dec_of D_X1_addCent (i := 20) rfl) rfl ?_
      exact s_sub [0, 1, 2, 3] rfl (hre3 (z1.2, (z1.2 + 1)))
theorem lk_RX1_19 : LkS RX1 19 yJ7_fill_53178 cJ7_fill_53178 4 none 2 := ⟨wd_955, wd_658, wd_100, wd_659, by decide +kernel, by decide⟩
theorem lk_RX1_25 : LkV RX1 25 RX0 yX0_weightIn cX0_weightIn 5 (some .int) 2 := ⟨wd_956, wd_944, wd_945, wd_86, wd_946, by decide +kernel, by decide⟩
theorem lk_RX1_43 : LkV RX1 43 RX1 yX1_addCent cX1_addCent 4 none 1 := ⟨wd_957, wd_958, wd_959, wd_91, wd_960, by decide +kernel, by decide⟩
def T_X1_reckon : List (Nat × Instr × Nat) := [(0, .aload_n 0, 1), (1, .getfield 9, 3), (4, .iconst 0, 1), (5, .invokestatic 19, 3), (8, .aload_n 2, 1), (9, .aload_n 1, 1), (10, .iload_n 3, 1), (11, .invokevirtual 25, 3), (14, .i2l, 1), (15, .lstore 4, 2), (17, .lload 4, 2), (19, .lconst 1, 1), (20, .lcmp, 1), (21, .ifCond .ge 4, 3), (24, .return_, 1), (25, .aload_n 2, 1), (26, .getfield 31, 3), (29, .iload_n 3, 1), (30, .iaload, 1), (31, .istore 6, 2), (33, .iconst 0, 1), (34, .istore 7, 2), (36, .iload 7, 2), (38, .aload_n 1, 1), (39, .getfield 34, 3), (42, .if_icmp .ge 69, 3), (45, .aload_n 2, 1), (46, .getfield 31, 3), (49, .iload_n 3, 1), (50, .iaload, 1), (51, .i2l, 1), (52, .aload_n 2, 1), (53, .getfield 40, 3), (56, .iload 7, 2), (58, .bipush 6, 2), (60, .imul, 1), (61, .iload_n 3, 1), (62, .iadd, 1), (63, .iaload, 1), (64, .i2l, 1), (65, .lmul, 1), (66, .lstore 8, 2), (68, .aload_n 0, 1), (69, .getfield 9, 3), (72, .iload 7, 2), (74, .lload 8, 2), (76, .lload 4, 2), (78, .ldiv, 1), (79, .l2i, 1), (80, .iastore, 1), (81, .aload_n 0, 1), (82, .getfield 15, 3), (85, .iload 7, 2), (87, .lload 8, 2), (89, .lload 4, 2), (91, .lrem, 1), (92, .lastore, 1), (93, .iload 6, 2), (95, .aload_n 0, 1), (96, .getfield 9, 3), (99, .iload 7, 2), (101, .iaload, 1), (102, .isub, 1), (103, .istore 6, 2), (105, .iinc 7 1, 3), (108, .goto (-72), 3), (111, .iconst 0, 1), (112, .istore 7, 2), (114, .iload 7, 2), (116, .iload 6, 2), (118, .if_icmp .ge 17, 3), (121, .aload_n 0, 1), (122, .aload_n 1, 1), (123, .getfield 34, 3), (126, .invokevirtual 43, 3), (129, .iinc 7 1, 3), (132, .goto (-18), 3), (135, .return_, 1)]
theorem D_X1_reckon : dchk cX1_reckon T_X1_reckon = true := by decide +kernel
def Bs_reckon (σ : ST) (i1 : Nat) (i2 : Nat) (a3 : Int32) : Option ST :=
  bd_ (Jk_fill (σ) 8 0 0) (fun q1 => bd_ (Bk_weightIn q1 i2 i1 a3) (fun q2 => lt_ ((Int32.toInt64 q2)) (fun x3 => (if 0 ≤ (lg_cmp x3 1) then bd_ (ldI q1 0 i2 a3) (fun v4 => lp_ (fun rec6 (z5 : ST × Int32 × Int32) => (if (gF z5.1 530 i1) ≤ z5.2.2 then lp_ (fun rec9 (z8 : ST × Int32) => (if z5.2.1 ≤ z8.2 then some z8.1 else bd_ (Bs_addCent z8.1 (gF z8.1 530 i1)) (fun q11 => rec9 (q11, (z8.2 + 1))))) FU (z5.1, 0) else bd_ (ldI z5.1 0 i2 a3) (fun v12 => bd_ (ldI z5.1 4 i2 ((z5.2.2 * 6) + a3)) (fun v13 => lt_ (((Int32.toInt64 v12) * (Int32.toInt64 v13))) (fun x14 => bd_ (ldv x14 x3) (fun v15 => bd_ (stI z5.1 8 0 z5.2.2 (Int64.toInt32 v15)) (fun s16 => bd_ (lrm x14 x3) (fun v17 => bd_ (stL s16 100 0 z5.2.2 v17) (fun s18 => bd_ (ldI s18 8 0 z5.2.2) (fun v19 => lt_ ((z5.2.1 - v19)) (fun x20 => rec6 (s18, x20, (z5.2.2 + 1))))))))))))) FU (q1, v4, 0)) else some q1))))
set_option maxHeartbeats 4000000 in
set_option maxRecDepth 100000 in
theorem c_X1_reckon {G : GW} (hG : Good G) {l : Launch} (σ : ST) (i1 : Nat) (h1 : i1 < 2) (i2 : Nat) (h2 : i2 < 13) (a3 : Int32) : Ctr G l yX1_reckon cX1_reckon 10 none 1 [.ref (ga G 122 0), .ref (ga G 126 i1), .ref (ga G 121 i2), .int a3] σ oV (Bs_reckon σ i1 i2 a3) := by
  refine ctr_of hG (by decide) (Nat.le_of_ble_eq_true rfl) ?_
  intro X hXl hR hX
  have hX : Ok G X cX1_reckon 10 RX1 1 := hX
  unfold Bs_reckon
  show Sim G X 10 (MQX G X oV) σ 0 [(0, .ref (ga G 122 0)), (1, .ref (ga G 126 i1)), (2, .ref (ga G 121 i2)), (3, .int a3)] [] _
  refine s_aload_n 0 (n := 1) hX (dec_of D_X1_reckon (i := 0) rfl) rfl rfl rfl ?_
  refine s_getR (c := 1) (p := 0) (k' := 8) (n := 4) hX cls1 (vk122 (by omega)) (dec_of D_X1_reckon (i := 1) rfl) rfl rfl wd_338 ?_
  refine s_iconst (v := 0) (n := 5) hX (dec_of D_X1_reckon (i := 2) rfl) rfl (by decide) ?_
  refine s_callSV (n := 8) hX lk_RX1_19 (dec_of D_X1_reckon (i := 3) rfl) rfl (by decide) (c_J7_fill_53178 (l := _) hG _ _ _ (vk8 (by omega)) (by decide) _) rfl rfl (Nat.le_of_ble_eq_true rfl) (fun q1 => ?_)
  refine s_aload_n 2 (n := 9) hX (dec_of D_X1_reckon (i := 4) rfl) rfl rfl rfl ?_
  refine s_aload_n 1 (n := 10) hX (dec_of D_X1_reckon (i := 5) rfl) rfl rfl rfl ?_
  refine s_iload_n 3 (n := 11) hX (dec_of D_X1_reckon (i := 6) rfl) rfl rfl rfl ?_
  refine s_callVI (c := 0) (n := 14) hX cls0 (vk121 (by omega)) lk_RX1_25 (dec_of D_X1_reckon (i := 7) rfl) rfl (by decide) (c_X0_weightIn (l := _) hG _ _ (by omega) _ (by omega) _) rfl rfl (Nat.le_of_ble_eq_true rfl) (fun q2 => ?_)
  refine s_i2l (n := 15) hX (dec_of D_X1_reckon (i := 8) rfl) rfl ?_
  refine s_topl (fun x3 => ?_)
  refine s_lstore (lv' := [(0, _), (1, _), (2, _), (3, _), (4, _)]) [1, 2, 3, 4, 0] (n := 17) hX (dec_of D_X1_reckon (i := 9) rfl) rfl (by decide) rfl ?_
  refine s_lload 4 (n := 19) hX (dec_of D_X1_reckon (i := 10) rfl) rfl rfl ?_
  refine s_lconst (v := 1) (n := 20) hX (dec_of D_X1_reckon (i := 11) rfl) rfl (by decide) ?_
  refine s_lcmp (n := 21) hX (dec_of D_X1_reckon (i := 12) rfl) rfl ?_
  refine s_if_ge (tgt := 25) (n := 24) hX (dec_of D_X1_reckon (i := 13) rfl) rfl rfl ?_ ?_
  · refine s_aload_n 2 (n := 26) hX (dec_of D_X1_reckon (i := 15) rfl) rfl rfl rfl ?_
    refine s_getR (c := 0) (p := 1) (k' := 0) (n := 29) hX cls0 (vk121 (by omega)) (dec_of D_X1_reckon (i := 16) rfl) rfl rfl wd_221 ?_
    refine s_iload_n 3 (n := 30) hX (dec_of D_X1_reckon (i := 17) rfl) rfl rfl rfl ?_
    refine s_iald (n := 31) hX (vk0 (by omega)) (by decide) (dec_of D_X1_reckon (i := 18) rfl) rfl (fun v4 => ?_)
    refine s_istore (lv' := [(0, _), (1, _), (2, _), (3, _), (4, _), (6, _)]) [1, 2, 3, 4, 5, 0] (n := 33) hX (dec_of D_X1_reckon (i := 19) rfl) rfl (by decide) rfl ?_
    refine s_iconst (v := 0) (n := 34) hX (dec_of D_X1_reckon (i := 20) rfl) rfl (by decide) ?_
    refine s_istore (lv' := [(0, _), (1, _), (2, _), (3, _), (4, _), (6, _), (7, _)]) [1, 2, 3, 4, 5, 6, 0] (n := 36) hX (dec_of D_X1_reckon (i := 21) rfl) rfl (by decide) rfl ?_
    refine s_sub [0, 1, 2, 3, 4, 5, 6] rfl (s_lp (pc := 36) (Sf := fun (z5 : ST × Int32 × Int32) => z5.1) (lvf := fun (z5 : ST × Int32 × Int32) => [(0, .ref (ga G 122 0)), (1, .ref (ga G 126 i1)), (2, .ref (ga G 121 i2)), (3, .int a3), (4, .long x3), (6, .int z5.2.1), (7, .int z5.2.2)]) (fun rec6 hre7 z5 => ?_) FU (q1, v4, 0))
    refine s_iload 6 (n := 38) hX (dec_of D_X1_reckon (i := 22) rfl) rfl rfl ?_
    refine s_aload_n 1 (n := 39) hX (dec_of D_X1_reckon (i := 23) rfl) rfl rfl rfl ?_
    refine s_getI (c := 5) (p := 10) (id := 530) (n := 42) hX cls5 (vk126 (by omega)) (dec_of D_X1_reckon (i := 24) rfl) rfl rfl wd_394 ?_
    refine s_icmp_ge (tgt := 111) (n := 45) hX (dec_of D_X1_reckon (i := 25) rfl) rfl rfl ?_ ?_
    · refine s_iconst (v := 0) (n := 112) hX (dec_of D_X1_reckon (i := 66) rfl) rfl (by decide) ?_
      refine s_istore (lv' := [(0, _), (1, _), (2, _), (3, _), (4, _), (6, _), (7, _)]) [1, 2, 3, 4, 5, 6, 0] (n := 114) hX (dec_of D_X1_reckon (i := 67) rfl) rfl (by decide) rfl ?_
      refine s_sub [0, 1, 5, 6] rfl (s_lp (pc := 114) (Sf := fun (z8 : ST × Int32) => z8.1) (lvf := fun (z8 : ST × Int32) => [(0, .ref (ga G 122 0)), (1, .ref (ga G 126 i1)), (6, .int z5.2.1), (7, .int z8.2)]) (fun rec9 hre10 z8 => ?_) FU (z5.1, 0))
      refine s_iload 3 (n := 116) hX (dec_of D_X1_reckon (i := 68) rfl) rfl rfl ?_
      refine s_iload 2 (n := 118) hX (dec_of D_X1_reckon (i := 69) rfl) rfl rfl ?_
      refine s_icmp_ge (tgt := 135) (n := 121) hX (dec_of D_X1_reckon (i := 70) rfl) rfl rfl ?_ ?_
      · exact s_vret hX hR (dec_of D_X1_reckon (i := 77) rfl) rfl
      · refine s_aload_n 0 (n := 122) hX (dec_of D_X1_reckon (i := 71) rfl) rfl rfl rfl ?_
        refine s_aload_n 1 (n := 123) hX (dec_of D_X1_reckon (i := 72) rfl) rfl rfl rfl ?_
        refine s_getI (c := 5) (p := 10) (id := 530) (n := 126) hX cls5 (vk126 (by omega)) (dec_of D_X1_reckon (i := 73) rfl) rfl rfl wd_394 ?_
        refine s_callVV (c := 1) (n := 129) hX cls1 (vk122 (by omega)) lk_RX1_43 (dec_of D_X1_reckon (i := 74) rfl) rfl (by decide) (c_X1_addCent (l := _) hG _ _) rfl rfl (Nat.le_of_ble_eq_true rfl) (fun q11 => ?_)
        refine s_iinc (v := z8.2 + 1) (lv' := [(0, _), (1, _), (6, _), (7, _)]) 3 [1, 2, 3, 0] (n := 132) hX (dec_of D_X1_reckon (i := 75) rfl) rfl rfl rfl (by decide) rfl ?_
        refine s_goto (n := 114) hX (dec_of D_X1_reckon (i := 76) rfl) rfl ?_
        exact s_sub [0, 1, 2, 3] rfl (hre10 (q11, (z8.2 + 1)))
    · refine s_aload_n 2 (n := 46) hX (dec_of D_X1_reckon (i := 26) rfl) rfl rfl rfl ?_
      refine s_getR (c := 0) (p := 1) (k' := 0) (n := 49) hX cls0 (vk121 (by omega)) (dec_of D_X1_reckon (i := 27) rfl) rfl rfl wd_221 ?_
      refine s_iload_n 3 (n := 50) hX (dec_of D_X1_reckon (i := 28) rfl) rfl rfl rfl ?_
      refine s_iald (n := 51) hX (vk0 (by omega)) (by decide) (dec_of D_X1_reckon (i := 29) rfl) rfl (fun v12 => ?_)
      refine s_i2l (n := 52) hX (dec_of D_X1_reckon (i := 30) rfl) rfl ?_
      refine s_aload_n 2 (n := 53) hX (dec_of D_X1_reckon (i := 31) rfl) rfl rfl rfl ?_
      refine s_getR (c := 0) (p := 5) (k' := 4) (n := 56) hX cls0 (vk121 (by omega)) (dec_of D_X1_reckon (i := 32) rfl) rfl rfl wd_230 ?_
      refine s_iload 6 (n := 58) hX (dec_of D_X1_reckon (i := 33) rfl) rfl rfl ?_
      refine s_bipush (v := 6) (n := 60) hX (dec_of D_X1_reckon (i := 34) rfl) rfl (by decide) ?_
      refine s_imul (n := 61) hX (dec_of D_X1_reckon (i := 35) rfl) rfl ?_
      refine s_iload_n 3 (n := 62) hX (dec_of D_X1_reckon (i := 36) rfl) rfl rfl rfl ?_
      refine s_iadd (n := 63) hX (dec_of D_X1_reckon (i := 37) rfl) rfl ?_
      refine s_iald (n := 64) hX (vk4 (by omega)) (by decide) (dec_of D_X1_reckon (i := 38) rfl) rfl (fun v13 => ?_)
      refine s_i2l (n := 65) hX (dec_of D_X1_reckon (i := 39) rfl) rfl ?_
      refine s_lmul (n := 66) hX (dec_of D_X1_reckon (i := 40) rfl) rfl ?_
      refine s_topl (fun x14 => ?_)
      refine s_lstore (lv' := [(0, _), (1, _), (2, _), (3, _), (4, _), (6, _), (7, _), (8, _)]) [1, 2, 3, 4, 5, 6, 7, 0] (n := 68) hX (dec_of D_X1_reckon (i := 41) rfl) rfl (by decide) rfl ?_
      refine s_aload_n 0 (n := 69) hX (dec_of D_X1_reckon (i := 42) rfl) rfl rfl rfl ?_
      refine s_getR (c := 1) (p := 0) (k' := 8) (n := 72) hX cls1 (vk122 (by omega)) (dec_of D_X1_reckon (i := 43) rfl) rfl rfl wd_338 ?_
      refine s_iload 6 (n := 74) hX (dec_of D_X1_reckon (i := 44) rfl) rfl rfl ?_
      refine s_lload 7 (n := 76) hX (dec_of D_X1_reckon (i := 45) rfl) rfl rfl ?_
      refine s_lload 4 (n := 78) hX (dec_of D_X1_reckon (i := 46) rfl) rfl rfl ?_
      refine s_ldiv (n := 79) hX (dec_of D_X1_reckon (i := 47) rfl) rfl (fun v15 => ?_)
      refine s_l2i (n := 80) hX (dec_of D_X1_reckon (i := 48) rfl) rfl ?_
      refine s_iast (n := 81) hX (vk8 (by omega)) (by decide) (dec_of D_X1_reckon (i := 49) rfl) rfl (fun s16 => ?_)
      refine s_aload_n 0 (n := 82) hX (dec_of D_X1_reckon (i := 50) rfl) rfl rfl rfl ?_
      refine s_getR (c := 1) (p := 1) (k' := 100) (n := 85) hX cls1 (vk122 (by omega)) (dec_of D_X1_reckon (i := 51) rfl) rfl rfl wd_341 ?_
      refine s_iload 6 (n := 87) hX (dec_of D_X1_reckon (i := 52) rfl) rfl rfl ?_
      refine s_lload 7 (n := 89) hX (dec_of D_X1_reckon (i := 53) rfl) rfl rfl ?_
      refine s_lload 4 (n := 91) hX (dec_of D_X1_reckon (i := 54) rfl) rfl rfl ?_
      refine s_lrem (n := 92) hX (dec_of D_X1_reckon (i := 55) rfl) rfl (fun v17 => ?_)
      refine s_last (n := 93) hX (vk100 (by omega)) (by decide) (dec_of D_X1_reckon (i := 56) rfl) rfl (fun s18 => ?_)
      refine s_iload 5 (n := 95) hX (dec_of D_X1_reckon (i := 57) rfl) rfl rfl ?_
      refine s_aload_n 0 (n := 96) hX (dec_of D_X1_reckon (i := 58) rfl) rfl rfl rfl ?_
      refine s_getR (c := 1) (p := 0) (k' := 8) (n := 99) hX cls1 (vk122 (by omega)) (dec_of D_X1_reckon (i := 59) rfl) rfl rfl wd_338 ?_
      refine s_iload 6 (n := 101) hX (dec_of D_X1_reckon (i := 60) rfl) rfl rfl ?_
      refine s_iald (n := 102) hX (vk8 (by omega)) (by decide) (dec_of D_X1_reckon (i := 61) rfl) rfl (fun v19 => ?_)
      refine s_isub (n := 103) hX (dec_of D_X1_reckon (i := 62) rfl) rfl ?_
      refine s_topi (fun x20 => ?_)
      refine s_istore (lv' := [(0, _), (1, _), (2, _), (3, _), (4, _), (6, _), (7, _), (8, _)]) [1, 2, 3, 4, 5, 0, 6, 7] (n := 105) hX (dec_of D_X1_reckon (i := 63) rfl) rfl (by decide) rfl ?_
      refine s_iinc (v := z5.2.2 + 1) (lv' := [(0, _), (1, _), (2, _), (3, _), (4, _), (6, _), (7, _), (8, _)]) 6 [1, 2, 3, 4, 5, 6, 0, 7] (n := 108) hX (dec_of D_X1_reckon (i := 64) rfl) rfl rfl rfl (by decide) rfl ?_
      refine s_goto (n := 36) hX (dec_of D_X1_reckon (i := 65) rfl) rfl ?_
      exact s_sub [0, 1, 2, 3, 4, 5, 6] rfl (hre7 (s18, x20, (z5.2.2 + 1)))
  · exact s_vret hX hR (dec_of D_X1_reckon (i := 14) rfl) rfl
def T_X2_forget : List (Nat × Instr × Nat) := [(0, .aload_n 0, 1), (1, .iconst 0, 1), (2, .putfield 18, 3), (5, .return_, 1)]
theorem D_X2_forget : dchk cX2_forget T_X2_forget = true := by decide +kernel
def Hi_forget (σ : ST)  : Option ST :=
  lt_ (setF σ 330 0 0) (fun s1 => some s1)
set_option maxHeartbeats 4000000 in
set_option maxRecDepth 100000 in
theorem c_X2_forget {G : GW} (hG : Good G) {l : Launch} (σ : ST)  : Ctr G l yX2_forget cX2_forget 1 none 0 [.ref (ga G 123 0)] σ oV (Hi_forget σ ) := by
  refine ctr_of hG (by decide) (Nat.le_of_ble_eq_true rfl) ?_
  intro X hXl hR hX
  have hX : Ok G X cX2_forget 1 RX2 0 := hX
  unfold Hi_forget
  show Sim G X 1 (MQX G X oV) σ 0 [(0, .ref (ga G 123 0))] [] _
  refine s_aload_n 0 (n := 1) hX (dec_of D_X2_forget (i := 0) rfl) rfl rfl rfl ?_
  refine s_iconst (v := 0) (n := 2) hX (dec_of D_X2_forget (i := 1) rfl) rfl (by decide) ?_
  refine s_putI (c := 2) (p := 2) (n := 5) hX cls2 (vk123 (by omega)) (dec_of D_X2_forget (i := 2) rfl) rfl rfl (by decide) wd_272 rfl rfl rfl (fun s1 => ?_)
  exact s_vret hX hR (dec_of D_X2_forget (i := 3) rfl) rfl
theorem lk_RX2_25 : LkV RX2 25 RX0 yX0_copyFrom cX0_copyFrom 2 none 1 := ⟨wd_880, wd_881, wd_882, wd_86, wd_883, by decide +kernel, by decide⟩
def T_X2_remember : List (Nat × Instr × Nat) := [(0, .aload_n 0, 1), (1, .aload_n 0, 1), (2, .getfield 22, 3), (5, .iconst 1, 1), (6, .iadd, 1), (7, .bipush 12, 2), (9, .irem, 1), (10, .putfield 22, 3), (13, .aload_n 0, 1), (14, .getfield 11, 3), (17, .aload_n 0, 1), (18, .getfield 22, 3), (21, .aaload, 1), (22, .aload_n 1, 1), (23, .invokevirtual 25, 3), (26, .aload_n 0, 1), (27, .aload_n 0, 1), (28, .getfield 18, 3), (31, .iconst 1, 1), (32, .iadd, 1), (33, .bipush 12, 2), (35, .invokestatic 29, 3), (38, .putfield 18, 3), (41, .return_, 1)]
theorem D_X2_remember : dchk cX2_remember T_X2_remember = true := by decide +kernel
def Hi_remember (σ : ST) (i1 : Nat) : Option ST :=
  bd_ (irm ((gF σ 329 0) + 1) 12) (fun v1 => lt_ (setF σ 329 0 v1) (fun s2 => bd_ (ldB (gF s2 329 0)) (fun rr3 => bd_ (Bk_copyFrom s2 rr3 i1) (fun q4 => lt_ (setF q4 330 0 (if 12 < ((gF q4 330 0) + 1) then 12 else ((gF q4 330 0) + 1))) (fun s5 => some s5)))))
set_option maxHeartbeats 4000000 in
set_option maxRecDepth 100000 in
theorem c_X2_remember {G : GW} (hG : Good G) {l : Launch} (σ : ST) (i1 : Nat) (h1 : i1 < 13) : Ctr G l yX2_remember cX2_remember 2 none 3 [.ref (ga G 123 0), .ref (ga G 121 i1)] σ oV (Hi_remember σ i1) := by
  refine ctr_of hG (by decide) (Nat.le_of_ble_eq_true rfl) ?_
  intro X hXl hR hX
  have hX : Ok G X cX2_remember 2 RX2 3 := hX
  unfold Hi_remember
  show Sim G X 2 (MQX G X oV) σ 0 [(0, .ref (ga G 123 0)), (1, .ref (ga G 121 i1))] [] _
  refine s_aload_n 0 (n := 1) hX (dec_of D_X2_remember (i := 0) rfl) rfl rfl rfl ?_
  refine s_aload_n 0 (n := 2) hX (dec_of D_X2_remember (i := 1) rfl) rfl rfl rfl ?_
  refine s_getI (c := 2) (p := 1) (id := 329) (n := 5) hX cls2 (vk123 (by omega)) (dec_of D_X2_remember (i := 2) rfl) rfl rfl wd_271 ?_
  refine s_iconst (v := 1) (n := 6) hX (dec_of D_X2_remember (i := 3) rfl) rfl (by decide) ?_
  refine s_iadd (n := 7) hX (dec_of D_X2_remember (i := 4) rfl) rfl ?_
  refine s_bipush (v := 12) (n := 9) hX (dec_of D_X2_remember (i := 5) rfl) rfl (by decide) ?_
  refine s_irem (n := 10) hX (dec_of D_X2_remember (i := 6) rfl) rfl (fun v1 => ?_)
  refine s_putI (c := 2) (p := 1) (n := 13) hX cls2 (vk123 (by omega)) (dec_of D_X2_remember (i := 7) rfl) rfl rfl (by decide) wd_271 rfl rfl rfl (fun s2 => ?_)
  refine s_aload_n 0 (n := 14) hX (dec_of D_X2_remember (i := 8) rfl) rfl rfl rfl ?_
  refine s_getR (c := 2) (p := 0) (k' := 120) (n := 17) hX cls2 (vk123 (by omega)) (dec_of D_X2_remember (i := 9) rfl) rfl rfl wd_270 ?_
  refine s_aload_n 0 (n := 18) hX (dec_of D_X2_remember (i := 10) rfl) rfl rfl rfl ?_
  refine s_getI (c := 2) (p := 1) (id := 329) (n := 21) hX cls2 (vk123 (by omega)) (dec_of D_X2_remember (i := 11) rfl) rfl rfl wd_271 ?_
  refine s_aald (n := 22) hX (dec_of D_X2_remember (i := 12) rfl) rfl (fun rr3 hrr3 => ?_)
  refine s_aload_n 1 (n := 23) hX (dec_of D_X2_remember (i := 13) rfl) rfl rfl rfl ?_
  refine s_callVV (c := 0) (n := 26) hX cls0 (vk121 (by omega)) lk_RX2_25 (dec_of D_X2_remember (i := 14) rfl) rfl (by decide) (c_X0_copyFrom (l := _) hG _ _ (by omega) _ (by omega)) rfl rfl (Nat.le_of_ble_eq_true rfl) (fun q4 => ?_)
  refine s_aload_n 0 (n := 27) hX (dec_of D_X2_remember (i := 15) rfl) rfl rfl rfl ?_
  refine s_aload_n 0 (n := 28) hX (dec_of D_X2_remember (i := 16) rfl) rfl rfl rfl ?_
  refine s_getI (c := 2) (p := 2) (id := 330) (n := 31) hX cls2 (vk123 (by omega)) (dec_of D_X2_remember (i := 17) rfl) rfl rfl wd_272 ?_
  refine s_iconst (v := 1) (n := 32) hX (dec_of D_X2_remember (i := 18) rfl) rfl (by decide) ?_
  refine s_iadd (n := 33) hX (dec_of D_X2_remember (i := 19) rfl) rfl ?_
  refine s_bipush (v := 12) (n := 35) hX (dec_of D_X2_remember (i := 20) rfl) rfl (by decide) ?_
  refine s_mmin (n := 38) hX (dec_of D_X2_remember (i := 21) rfl) rfl (by decide) wd_886 wd_490 wd_94 wd_491 (Nat.le_of_ble_eq_true rfl) ?_
  refine s_putI (c := 2) (p := 2) (n := 41) hX cls2 (vk123 (by omega)) (dec_of D_X2_remember (i := 22) rfl) rfl rfl (by decide) wd_272 rfl rfl rfl (fun s5 => ?_)
  exact s_vret hX hR (dec_of D_X2_remember (i := 23) rfl) rfl
def T_X2_recall : List (Nat × Instr × Nat) := [(0, .aload_n 0, 1), (1, .getfield 18, 3), (4, .ifCond .ne 5, 3), (7, .iconst 0, 1), (8, .ireturn, 1), (9, .aload_n 1, 1), (10, .aload_n 0, 1), (11, .getfield 11, 3), (14, .aload_n 0, 1), (15, .getfield 22, 3), (18, .aaload, 1), (19, .invokevirtual 25, 3), (22, .aload_n 0, 1), (23, .aload_n 0, 1), (24, .getfield 22, 3), (27, .bipush 12, 2), (29, .iadd, 1), (30, .iconst 1, 1), (31, .isub, 1), (32, .bipush 12, 2), (34, .irem, 1), (35, .putfield 22, 3), (38, .aload_n 0, 1), (39, .dup, 1), (40, .getfield 18, 3), (43, .iconst 1, 1), (44, .isub, 1), (45, .putfield 18, 3), (48, .iconst 1, 1), (49, .ireturn, 1)]
theorem D_X2_recall : dchk cX2_recall T_X2_recall = true := by decide +kernel
def Hi_recall (σ : ST) (i1 : Nat) : Option (Int32 × ST) :=
  (if (gF σ 330 0) = 0 then some (0, σ) else bd_ (ldB (gF σ 329 0)) (fun rr1 => bd_ (Bk_copyFrom (σ) i1 rr1) (fun q2 => bd_ (irm (((gF q2 329 0) + 12) - 1) 12) (fun v3 => lt_ (setF q2 329 0 v3) (fun s4 => lt_ (setF s4 330 0 ((gF s4 330 0) - 1)) (fun s5 => some (1, s5)))))))
set_option maxHeartbeats 4000000 in
set_option maxRecDepth 100000 in
theorem c_X2_recall {G : GW} (hG : Good G) {l : Launch} (σ : ST) (i1 : Nat) (h1 : i1 < 13) : Ctr G l yX2_recall cX2_recall 2 (some .boolean) 3 [.ref (ga G 123 0), .ref (ga G 121 i1)] σ oP (Hi_recall σ i1) := by
  refine ctr_of hG (by decide) (Nat.le_of_ble_eq_true rfl) ?_
  intro X hXl hR hX
  have hX : Ok G X cX2_recall 2 RX2 3 := hX
  unfold Hi_recall
  show Sim G X 2 (MQX G X oP) σ 0 [(0, .ref (ga G 123 0)), (1, .ref (ga G 121 i1))] [] _
  refine s_aload_n 0 (n := 1) hX (dec_of D_X2_recall (i := 0) rfl) rfl rfl rfl ?_
  refine s_getI (c := 2) (p := 2) (id := 330) (n := 4) hX cls2 (vk123 (by omega)) (dec_of D_X2_recall (i := 1) rfl) rfl rfl wd_272 ?_
  refine s_if_ne (tgt := 9) (n := 7) hX (dec_of D_X2_recall (i := 2) rfl) rfl rfl ?_ ?_
  · refine s_aload_n 1 (n := 10) hX (dec_of D_X2_recall (i := 5) rfl) rfl rfl rfl ?_
    refine s_aload_n 0 (n := 11) hX (dec_of D_X2_recall (i := 6) rfl) rfl rfl rfl ?_
    refine s_getR (c := 2) (p := 0) (k' := 120) (n := 14) hX cls2 (vk123 (by omega)) (dec_of D_X2_recall (i := 7) rfl) rfl rfl wd_270 ?_
    refine s_aload_n 0 (n := 15) hX (dec_of D_X2_recall (i := 8) rfl) rfl rfl rfl ?_
    refine s_getI (c := 2) (p := 1) (id := 329) (n := 18) hX cls2 (vk123 (by omega)) (dec_of D_X2_recall (i := 9) rfl) rfl rfl wd_271 ?_
    refine s_aald (n := 19) hX (dec_of D_X2_recall (i := 10) rfl) rfl (fun rr1 hrr1 => ?_)
    refine s_callVV (c := 0) (n := 22) hX cls0 (vk121 (by omega)) lk_RX2_25 (dec_of D_X2_recall (i := 11) rfl) rfl (by decide) (c_X0_copyFrom (l := _) hG _ _ (by omega) _ (by omega)) rfl rfl (Nat.le_of_ble_eq_true rfl) (fun q2 => ?_)
    refine s_aload_n 0 (n := 23) hX (dec_of D_X2_recall (i := 12) rfl) rfl rfl rfl ?_
    refine s_aload_n 0 (n := 24) hX (dec_of D_X2_recall (i := 13) rfl) rfl rfl rfl ?_
    refine s_getI (c := 2) (p := 1) (id := 329) (n := 27) hX cls2 (vk123 (by omega)) (dec_of D_X2_recall (i := 14) rfl) rfl rfl wd_271 ?_
    refine s_bipush (v := 12) (n := 29) hX (dec_of D_X2_recall (i := 15) rfl) rfl (by decide) ?_
    refine s_iadd (n := 30) hX (dec_of D_X2_recall (i := 16) rfl) rfl ?_
    refine s_iconst (v := 1) (n := 31) hX (dec_of D_X2_recall (i := 17) rfl) rfl (by decide) ?_
    refine s_isub (n := 32) hX (dec_of D_X2_recall (i := 18) rfl) rfl ?_
    refine s_bipush (v := 12) (n := 34) hX (dec_of D_X2_recall (i := 19) rfl) rfl (by decide) ?_
    refine s_irem (n := 35) hX (dec_of D_X2_recall (i := 20) rfl) rfl (fun v3 => ?_)
    refine s_putI (c := 2) (p := 1) (n := 38) hX cls2 (vk123 (by omega)) (dec_of D_X2_recall (i := 21) rfl) rfl rfl (by decide) wd_271 rfl rfl rfl (fun s4 => ?_)
    refine s_aload_n 0 (n := 39) hX (dec_of D_X2_recall (i := 22) rfl) rfl rfl rfl ?_
    refine s_dup (n := 40) hX (dec_of D_X2_recall (i := 23) rfl) rfl rfl ?_
    refine s_getI (c := 2) (p := 2) (id := 330) (n := 43) hX cls2 (vk123 (by omega)) (dec_of D_X2_recall (i := 24) rfl) rfl rfl wd_272 ?_
    refine s_iconst (v := 1) (n := 44) hX (dec_of D_X2_recall (i := 25) rfl) rfl (by decide) ?_
    refine s_isub (n := 45) hX (dec_of D_X2_recall (i := 26) rfl) rfl ?_
    refine s_putI (c := 2) (p := 2) (n := 48) hX cls2 (vk123 (by omega)) (dec_of D_X2_recall (i := 27) rfl) rfl rfl (by decide) wd_272 rfl rfl rfl (fun s5 => ?_)
    refine s_iconst (v := 1) (n := 49) hX (dec_of D_X2_recall (i := 28) rfl) rfl (by decide) ?_
    exact s_zret hX hR (dec_of D_X2_recall (i := 29) rfl) rfl rfl
  · refine s_iconst (v := 0) (n := 8) hX (dec_of D_X2_recall (i := 3) rfl) rfl (by decide) ?_
    exact s_zret hX hR (dec_of D_X2_recall (i := 4) rfl) rfl rfl
def T_X5_headsIn : List (Nat × Instr × Nat) := [(0, .aload_n 0, 1), (1, .getfield 24, 3), (4, .iload_n 1, 1), (5, .iaload, 1), (6, .aload_n 0, 1), (7, .getfield 27, 3), (10, .iload_n 1, 1), (11, .iaload, 1), (12, .iadd, 1), (13, .ireturn, 1)]
theorem D_X5_headsIn : dchk cX5_headsIn T_X5_headsIn = true := by decide +kernel
def Rl_headsIn (σ : ST) (i0 : Nat) (a1 : Int32) : Option Int32 :=
  bd_ (ldI σ 17 i0 a1) (fun v1 => bd_ (ldI σ 18 i0 a1) (fun v2 => some (v1 + v2)))
set_option maxHeartbeats 4000000 in
set_option maxRecDepth 100000 in
theorem c_X5_headsIn {G : GW} (hG : Good G) {l : Launch} (σ : ST) (i0 : Nat) (h0 : i0 < 2) (a1 : Int32) : Ctr G l yX5_headsIn cX5_headsIn 2 (some .int) 0 [.ref (ga G 126 i0), .int a1] σ (oI σ) (Rl_headsIn σ i0 a1) := by
  refine ctr_of hG (by decide) (Nat.le_of_ble_eq_true rfl) ?_
  intro X hXl hR hX
  have hX : Ok G X cX5_headsIn 2 RX5 0 := hX
  unfold Rl_headsIn
  show Sim G X 2 (MQX G X (oI σ)) σ 0 [(0, .ref (ga G 126 i0)), (1, .int a1)] [] _
  refine s_aload_n 0 (n := 1) hX (dec_of D_X5_headsIn (i := 0) rfl) rfl rfl rfl ?_
  refine s_getR (c := 5) (p := 4) (k' := 17) (n := 4) hX cls5 (vk126 (by omega)) (dec_of D_X5_headsIn (i := 1) rfl) rfl rfl wd_367 ?_
  refine s_iload_n 1 (n := 5) hX (dec_of D_X5_headsIn (i := 2) rfl) rfl rfl rfl ?_
  refine s_iald (n := 6) hX (vk17 (by omega)) (by decide) (dec_of D_X5_headsIn (i := 3) rfl) rfl (fun v1 => ?_)
  refine s_aload_n 0 (n := 7) hX (dec_of D_X5_headsIn (i := 4) rfl) rfl rfl rfl ?_
  refine s_getR (c := 5) (p := 5) (k' := 18) (n := 10) hX cls5 (vk126 (by omega)) (dec_of D_X5_headsIn (i := 5) rfl) rfl rfl wd_372 ?_
  refine s_iload_n 1 (n := 11) hX (dec_of D_X5_headsIn (i := 6) rfl) rfl rfl rfl ?_
  refine s_iald (n := 12) hX (vk18 (by omega)) (by decide) (dec_of D_X5_headsIn (i := 7) rfl) rfl (fun v2 => ?_)
  refine s_iadd (n := 13) hX (dec_of D_X5_headsIn (i := 8) rfl) rfl ?_
  exact s_iret hX hR (dec_of D_X5_headsIn (i := 9) rfl) rfl
def T_X5_leadsIn : List (Nat × Instr × Nat) := [(0, .iconst 0, 1), (1, .istore_n 2, 1), (2, .iconst 0, 1), (3, .istore_n 3, 1), (4, .iload_n 3, 1), (5, .aload_n 0, 1), (6, .getfield 24, 3), (9, .iload_n 1, 1), (10, .iaload, 1), (11, .if_icmp .ge 26, 3), (14, .aload_n 0, 1), (15, .getfield 33, 3), (18, .iload_n 1, 1), (19, .bipush 8, 2), (21, .imul, 1), (22, .iload_n 3, 1), (23, .iadd, 1), (24, .iaload, 1), (25, .ifCond .ne 6, 3), (28, .iinc 2 1, 3), (31, .iinc 3 1, 3), (34, .goto (-30), 3), (37, .iload_n 2, 1), (38, .ireturn, 1)]
theorem D_X5_leadsIn : dchk cX5_leadsIn T_X5_leadsIn = true := by decide +kernel
def Rl_leadsIn (σ : ST) (i0 : Nat) (a1 : Int32) : Option Int32 :=
  lp_ (fun rec2 (z1 : Int32 × Int32) => bd_ (ldI σ 17 i0 a1) (fun v4 => (if v4 ≤ z1.2 then some z1.1 else bd_ (ldI σ 20 i0 ((a1 * 8) + z1.2)) (fun v5 => (if v5 = 0 then rec2 ((z1.1 + 1), (z1.2 + 1)) else rec2 (z1.1, (z1.2 + 1))))))) FU (0, 0)
set_option maxHeartbeats 4000000 in
set_option maxRecDepth 100000 in
theorem c_X5_leadsIn {G : GW} (hG : Good G) {l : Launch} (σ : ST) (i0 : Nat) (h0 : i0 < 2) (a1 : Int32) : Ctr G l yX5_leadsIn cX5_leadsIn 4 (some .int) 0 [.ref (ga G 126 i0), .int a1] σ (oI σ) (Rl_leadsIn σ i0 a1) := by
  refine ctr_of hG (by decide) (Nat.le_of_ble_eq_true rfl) ?_
  intro X hXl hR hX
  have hX : Ok G X cX5_leadsIn 4 RX5 0 := hX
  unfold Rl_leadsIn
  show Sim G X 4 (MQX G X (oI σ)) σ 0 [(0, .ref (ga G 126 i0)), (1, .int a1)] [] _
  refine s_iconst (v := 0) (n := 1) hX (dec_of D_X5_leadsIn (i := 0) rfl) rfl (by decide) ?_
  refine s_istore_n (lv' := [(0, _), (1, _), (2, _)]) [1, 2, 0] (n := 2) hX (dec_of D_X5_leadsIn (i := 1) rfl) rfl rfl (by decide) rfl ?_
  refine s_iconst (v := 0) (n := 3) hX (dec_of D_X5_leadsIn (i := 2) rfl) rfl (by decide) ?_
  refine s_istore_n (lv' := [(0, _), (1, _), (2, _), (3, _)]) [1, 2, 3, 0] (n := 4) hX (dec_of D_X5_leadsIn (i := 3) rfl) rfl rfl (by decide) rfl ?_
  refine s_sub [0, 1, 2, 3] rfl (s_lp (pc := 4) (Sf := fun (z1 : Int32 × Int32) => σ) (lvf := fun (z1 : Int32 × Int32) => [(0, .ref (ga G 126 i0)), (1, .int a1), (2, .int z1.1), (3, .int z1.2)]) (fun rec2 hre3 z1 => ?_) FU (0, 0))
  refine s_iload_n 3 (n := 5) hX (dec_of D_X5_leadsIn (i := 4) rfl) rfl rfl rfl ?_
  refine s_aload_n 0 (n := 6) hX (dec_of D_X5_leadsIn (i := 5) rfl) rfl rfl rfl ?_
  refine s_getR (c := 5) (p := 4) (k' := 17) (n := 9) hX cls5 (vk126 (by omega)) (dec_of D_X5_leadsIn (i := 6) rfl) rfl rfl wd_367 ?_
  refine s_iload_n 1 (n := 10) hX (dec_of D_X5_leadsIn (i := 7) rfl) rfl rfl rfl ?_
  refine s_iald (n := 11) hX (vk17 (by omega)) (by decide) (dec_of D_X5_leadsIn (i := 8) rfl) rfl (fun v4 => ?_)
  refine s_icmp_ge (tgt := 37) (n := 14) hX (dec_of D_X5_leadsIn (i := 9) rfl) rfl rfl ?_ ?_
  · refine s_iload_n 2 (n := 38) hX (dec_of D_X5_leadsIn (i := 22) rfl) rfl rfl rfl ?_
    exact s_iret hX hR (dec_of D_X5_leadsIn (i := 23) rfl) rfl
  · refine s_aload_n 0 (n := 15) hX (dec_of D_X5_leadsIn (i := 10) rfl) rfl rfl rfl ?_
    refine s_getR (c := 5) (p := 7) (k' := 20) (n := 18) hX cls5 (vk126 (by omega)) (dec_of D_X5_leadsIn (i := 11) rfl) rfl rfl wd_381 ?_
    refine s_iload_n 1 (n := 19) hX (dec_of D_X5_leadsIn (i := 12) rfl) rfl rfl rfl ?_
    refine s_bipush (v := 8) (n := 21) hX (dec_of D_X5_leadsIn (i := 13) rfl) rfl (by decide) ?_
    refine s_imul (n := 22) hX (dec_of D_X5_leadsIn (i := 14) rfl) rfl ?_
    refine s_iload_n 3 (n := 23) hX (dec_of D_X5_leadsIn (i := 15) rfl) rfl rfl rfl ?_
    refine s_iadd (n := 24) hX (dec_of D_X5_leadsIn (i := 16) rfl) rfl ?_
    refine s_iald (n := 25) hX (vk20 (by omega)) (by decide) (dec_of D_X5_leadsIn (i := 17) rfl) rfl (fun v5 => ?_)
    refine s_if_ne (tgt := 31) (n := 28) hX (dec_of D_X5_leadsIn (i := 18) rfl) rfl rfl ?_ ?_
    · refine s_iinc (v := z1.2 + 1) (lv' := [(0, _), (1, _), (2, _), (3, _)]) 3 [1, 2, 3, 0] (n := 34) hX (dec_of D_X5_leadsIn (i := 20) rfl) rfl rfl rfl (by decide) rfl ?_
      refine s_goto (n := 4) hX (dec_of D_X5_leadsIn (i := 21) rfl) rfl ?_
      exact s_sub [0, 1, 2, 3] rfl (hre3 (z1.1, (z1.2 + 1)))
    · refine s_iinc (v := z1.1 + 1) (lv' := [(0, _), (1, _), (2, _), (3, _)]) 2 [1, 2, 0, 3] (n := 31) hX (dec_of D_X5_leadsIn (i := 19) rfl) rfl rfl rfl (by decide) rfl ?_
      refine s_iinc (v := z1.2 + 1) (lv' := [(0, _), (1, _), (2, _), (3, _)]) 3 [1, 2, 3, 0] (n := 34) hX (dec_of D_X5_leadsIn (i := 20) rfl) rfl rfl rfl (by decide) rfl ?_
      refine s_goto (n := 4) hX (dec_of D_X5_leadsIn (i := 21) rfl) rfl ?_
      exact s_sub [0, 1, 2, 3] rfl (hre3 ((z1.1 + 1), (z1.2 + 1)))
def T_X5_roleAt : List (Nat × Instr × Nat) := [(0, .iload_n 2, 1), (1, .aload_n 0, 1), (2, .getfield 24, 3), (5, .iload_n 1, 1), (6, .iaload, 1), (7, .if_icmp .ge 17, 3), (10, .aload_n 0, 1), (11, .getfield 33, 3), (14, .iload_n 1, 1), (15, .bipush 8, 2), (17, .imul, 1), (18, .iload_n 2, 1), (19, .iadd, 1), (20, .iaload, 1), (21, .goto 4, 3), (24, .iconst 1, 1), (25, .ireturn, 1)]
theorem D_X5_roleAt : dchk cX5_roleAt T_X5_roleAt = true := by decide +kernel
def Rl_roleAt (σ : ST) (i0 : Nat) (a1 : Int32) (a2 : Int32) : Option Int32 :=
  bd_ (ldI σ 17 i0 a1) (fun v1 => (if v1 ≤ a2 then some 1 else bd_ (ldI σ 20 i0 ((a1 * 8) + a2)) (fun v2 => some v2)))
set_option maxHeartbeats 4000000 in
set_option maxRecDepth 100000 in
theorem c_X5_roleAt {G : GW} (hG : Good G) {l : Launch} (σ : ST) (i0 : Nat) (h0 : i0 < 2) (a1 : Int32) (a2 : Int32) : Ctr G l yX5_roleAt cX5_roleAt 3 (some .int) 0 [.ref (ga G 126 i0), .int a1, .int a2] σ (oI σ) (Rl_roleAt σ i0 a1 a2) := by
  refine ctr_of hG (by decide) (Nat.le_of_ble_eq_true rfl) ?_
  intro X hXl hR hX
  have hX : Ok G X cX5_roleAt 3 RX5 0 := hX
  unfold Rl_roleAt
  show Sim G X 3 (MQX G X (oI σ)) σ 0 [(0, .ref (ga G 126 i0)), (1, .int a1), (2, .int a2)] [] _
  refine s_iload_n 2 (n := 1) hX (dec_of D_X5_roleAt (i := 0) rfl) rfl rfl rfl ?_
  refine s_aload_n 0 (n := 2) hX (dec_of D_X5_roleAt (i := 1) rfl) rfl rfl rfl ?_
  refine s_getR (c := 5) (p := 4) (k' := 17) (n := 5) hX cls5 (vk126 (by omega)) (dec_of D_X5_roleAt (i := 2) rfl) rfl rfl wd_367 ?_
  refine s_iload_n 1 (n := 6) hX (dec_of D_X5_roleAt (i := 3) rfl) rfl rfl rfl ?_
  refine s_iald (n := 7) hX (vk17 (by omega)) (by decide) (dec_of D_X5_roleAt (i := 4) rfl) rfl (fun v1 => ?_)
  refine s_icmp_ge (tgt := 24) (n := 10) hX (dec_of D_X5_roleAt (i := 5) rfl) rfl rfl ?_ ?_
  · refine s_iconst (v := 1) (n := 25) hX (dec_of D_X5_roleAt (i := 15) rfl) rfl (by decide) ?_
    exact s_iret hX hR (dec_of D_X5_roleAt (i := 16) rfl) rfl
  · refine s_aload_n 0 (n := 11) hX (dec_of D_X5_roleAt (i := 6) rfl) rfl rfl rfl ?_
    refine s_getR (c := 5) (p := 7) (k' := 20) (n := 14) hX cls5 (vk126 (by omega)) (dec_of D_X5_roleAt (i := 7) rfl) rfl rfl wd_381 ?_
    refine s_iload_n 1 (n := 15) hX (dec_of D_X5_roleAt (i := 8) rfl) rfl rfl rfl ?_
    refine s_bipush (v := 8) (n := 17) hX (dec_of D_X5_roleAt (i := 9) rfl) rfl (by decide) ?_
    refine s_imul (n := 18) hX (dec_of D_X5_roleAt (i := 10) rfl) rfl ?_
    refine s_iload_n 2 (n := 19) hX (dec_of D_X5_roleAt (i := 11) rfl) rfl rfl rfl ?_
    refine s_iadd (n := 20) hX (dec_of D_X5_roleAt (i := 12) rfl) rfl ?_
    refine s_iald (n := 21) hX (vk20 (by omega)) (by decide) (dec_of D_X5_roleAt (i := 13) rfl) rfl (fun v2 => ?_)
    refine s_goto (n := 25) hX (dec_of D_X5_roleAt (i := 14) rfl) rfl ?_
    exact s_iret hX hR (dec_of D_X5_roleAt (i := 16) rfl) rfl
theorem lk_RX3_53 : LkV RX3 53 RX5 yX5_roleAt cX5_roleAt 3 (some .int) 2 := ⟨wd_842, wd_843, wd_844, wd_92, wd_845, by decide +kernel, by decide⟩
def T_X3_handOut : List (Nat × Instr × Nat) := [(0, .iload 5, 2), (2, .iconst 1, 1), (3, .if_icmp .ge 4, 3), (6, .return_, 1), (7, .iload 4, 2), (9, .iload 5, 2), (11, .idiv, 1), (12, .istore 6, 2), (14, .iload 4, 2), (16, .iload 5, 2), (18, .irem, 1), (19, .istore 7, 2), (21, .iconst 0, 1), (22, .istore 8, 2), (24, .iload 8, 2), (26, .aload_n 0, 1), (27, .getfield 30, 3), (30, .if_icmp .ge 44, 3), (33, .aload_n 1, 1), (34, .iload_n 2, 1), (35, .iload 8, 2), (37, .invokevirtual 53, 3), (40, .iload_n 3, 1), (41, .if_icmp .ne 27, 3), (44, .aload_n 0, 1), (45, .getfield 9, 3), (48, .iload 8, 2), (50, .iload 7, 2), (52, .ifCond .le 10, 3), (55, .iload 6, 2), (57, .iconst 1, 1), (58, .iadd, 1), (59, .goto 5, 3), (62, .iload 6, 2), (64, .iastore, 1), (65, .iinc 7 (-1), 3), (68, .iinc 8 1, 3), (71, .goto (-47), 3), (74, .return_, 1)]
theorem D_X3_handOut : dchk cX3_handOut T_X3_handOut = true := by decide +kernel
def Oc_handOut (σ : ST) (i0 : Nat) (i1 : Nat) (a2 : Int32) (a3 : Int32) (a4 : Int32) (a5 : Int32) : Option ST :=
  (if 1 ≤ a5 then bd_ (idv a4 a5) (fun v1 => bd_ (irm a4 a5) (fun v2 => lp_ (fun rec4 (z3 : ST × Int32 × Int32) => (if (gF z3.1 396 i0) ≤ z3.2.2 then some z3.1 else bd_ (Rl_roleAt z3.1 i1 a2 z3.2.2) (fun q6 => (if q6 = a3 then (if z3.2.1 ≤ 0 then bd_ (stI z3.1 9 i0 z3.2.2 v1) (fun s7 => rec4 (s7, (z3.2.1 + (-1)), (z3.2.2 + 1))) else bd_ (stI z3.1 9 i0 z3.2.2 (v1 + 1)) (fun s8 => rec4 (s8, (z3.2.1 + (-1)), (z3.2.2 + 1)))) else rec4 (z3.1, z3.2.1, (z3.2.2 + 1)))))) FU (σ, v2, 0))) else some σ)
set_option maxHeartbeats 4000000 in
set_option maxRecDepth 100000 in
theorem c_X3_handOut {G : GW} (hG : Good G) {l : Launch} (σ : ST) (i0 : Nat) (h0 : i0 < 2) (i1 : Nat) (h1 : i1 < 2) (a2 : Int32) (a3 : Int32) (a4 : Int32) (a5 : Int32) : Ctr G l yX3_handOut cX3_handOut 9 none 1 [.ref (ga G 124 i0), .ref (ga G 126 i1), .int a2, .int a3, .int a4, .int a5] σ oV (Oc_handOut σ i0 i1 a2 a3 a4 a5) := by
  refine ctr_of hG (by decide) (Nat.le_of_ble_eq_true rfl) ?_
  intro X hXl hR hX
  have hX : Ok G X cX3_handOut 9 RX3 1 := hX
  unfold Oc_handOut
  show Sim G X 9 (MQX G X oV) σ 0 [(0, .ref (ga G 124 i0)), (1, .ref (ga G 126 i1)), (2, .int a2), (3, .int a3), (4, .int a4), (5, .int a5)] [] _
  refine s_iload 5 (n := 2) hX (dec_of D_X3_handOut (i := 0) rfl) rfl rfl ?_
  refine s_iconst (v := 1) (n := 3) hX (dec_of D_X3_handOut (i := 1) rfl) rfl (by decide) ?_
  refine s_icmp_ge (tgt := 7) (n := 6) hX (dec_of D_X3_handOut (i := 2) rfl) rfl rfl ?_ ?_
  · refine s_iload 4 (n := 9) hX (dec_of D_X3_handOut (i := 4) rfl) rfl rfl ?_
    refine s_iload 5 (n := 11) hX (dec_of D_X3_handOut (i := 5) rfl) rfl rfl ?_
    refine s_idiv (n := 12) hX (dec_of D_X3_handOut (i := 6) rfl) rfl (fun v1 => ?_)
    refine s_istore (lv' := [(0, _), (1, _), (2, _), (3, _), (4, _), (5, _), (6, _)]) [1, 2, 3, 4, 5, 6, 0] (n := 14) hX (dec_of D_X3_handOut (i := 7) rfl) rfl (by decide) rfl ?_
    refine s_iload 4 (n := 16) hX (dec_of D_X3_handOut (i := 8) rfl) rfl rfl ?_
    refine s_iload 5 (n := 18) hX (dec_of D_X3_handOut (i := 9) rfl) rfl rfl ?_
    refine s_irem (n := 19) hX (dec_of D_X3_handOut (i := 10) rfl) rfl (fun v2 => ?_)
    refine s_istore (lv' := [(0, _), (1, _), (2, _), (3, _), (4, _), (5, _), (6, _), (7, _)]) [1, 2, 3, 4, 5, 6, 7, 0] (n := 21) hX (dec_of D_X3_handOut (i := 11) rfl) rfl (by decide) rfl ?_
    refine s_iconst (v := 0) (n := 22) hX (dec_of D_X3_handOut (i := 12) rfl) rfl (by decide) ?_
    refine s_istore (lv' := [(0, _), (1, _), (2, _), (3, _), (4, _), (5, _), (6, _), (7, _), (8, _)]) [1, 2, 3, 4, 5, 6, 7, 8, 0] (n := 24) hX (dec_of D_X3_handOut (i := 13) rfl) rfl (by decide) rfl ?_
    refine s_sub [0, 1, 2, 3, 6, 7, 8] rfl (s_lp (pc := 24) (Sf := fun (z3 : ST × Int32 × Int32) => z3.1) (lvf := fun (z3 : ST × Int32 × Int32) => [(0, .ref (ga G 124 i0)), (1, .ref (ga G 126 i1)), (2, .int a2), (3, .int a3), (6, .int v1), (7, .int z3.2.1), (8, .int z3.2.2)]) (fun rec4 hre5 z3 => ?_) FU (σ, v2, 0))
    refine s_iload 6 (n := 26) hX (dec_of D_X3_handOut (i := 14) rfl) rfl rfl ?_
    refine s_aload_n 0 (n := 27) hX (dec_of D_X3_handOut (i := 15) rfl) rfl rfl rfl ?_
    refine s_getI (c := 3) (p := 4) (id := 396) (n := 30) hX cls3 (vk124 (by omega)) (dec_of D_X3_handOut (i := 16) rfl) rfl rfl wd_299 ?_
    refine s_icmp_ge (tgt := 74) (n := 33) hX (dec_of D_X3_handOut (i := 17) rfl) rfl rfl ?_ ?_
    · exact s_vret hX hR (dec_of D_X3_handOut (i := 38) rfl) rfl
    · refine s_aload_n 1 (n := 34) hX (dec_of D_X3_handOut (i := 18) rfl) rfl rfl rfl ?_
      refine s_iload_n 2 (n := 35) hX (dec_of D_X3_handOut (i := 19) rfl) rfl rfl rfl ?_
      refine s_iload 6 (n := 37) hX (dec_of D_X3_handOut (i := 20) rfl) rfl rfl ?_
      refine s_callVI (c := 5) (n := 40) hX cls5 (vk126 (by omega)) lk_RX3_53 (dec_of D_X3_handOut (i := 21) rfl) rfl (by decide) (c_X5_roleAt (l := _) hG _ _ (by omega) _ _) rfl rfl (Nat.le_of_ble_eq_true rfl) (fun q6 => ?_)
      refine s_iload_n 3 (n := 41) hX (dec_of D_X3_handOut (i := 22) rfl) rfl rfl rfl ?_
      refine s_icmp_ne (tgt := 68) (n := 44) hX (dec_of D_X3_handOut (i := 23) rfl) rfl rfl ?_ ?_
      · refine s_iinc (v := z3.2.2 + 1) (lv' := [(0, _), (1, _), (2, _), (3, _), (6, _), (7, _), (8, _)]) 6 [1, 2, 3, 4, 5, 6, 0] (n := 71) hX (dec_of D_X3_handOut (i := 36) rfl) rfl rfl rfl (by decide) rfl ?_
        refine s_goto (n := 24) hX (dec_of D_X3_handOut (i := 37) rfl) rfl ?_
        exact s_sub [0, 1, 2, 3, 4, 5, 6] rfl (hre5 (z3.1, z3.2.1, (z3.2.2 + 1)))
      · refine s_aload_n 0 (n := 45) hX (dec_of D_X3_handOut (i := 24) rfl) rfl rfl rfl ?_
        refine s_getR (c := 3) (p := 0) (k' := 9) (n := 48) hX cls3 (vk124 (by omega)) (dec_of D_X3_handOut (i := 25) rfl) rfl rfl wd_289 ?_
        refine s_iload 6 (n := 50) hX (dec_of D_X3_handOut (i := 26) rfl) rfl rfl ?_
        refine s_iload 5 (n := 52) hX (dec_of D_X3_handOut (i := 27) rfl) rfl rfl ?_
        refine s_if_le (tgt := 62) (n := 55) hX (dec_of D_X3_handOut (i := 28) rfl) rfl rfl ?_ ?_
        · refine s_iload 4 (n := 64) hX (dec_of D_X3_handOut (i := 33) rfl) rfl rfl ?_
          refine s_iast (n := 65) hX (vk9 (by omega)) (by decide) (dec_of D_X3_handOut (i := 34) rfl) rfl (fun s7 => ?_)
          refine s_iinc (v := z3.2.1 + (-1)) (lv' := [(0, _), (1, _), (2, _), (3, _), (6, _), (7, _), (8, _)]) 5 [1, 2, 3, 4, 5, 0, 6] (n := 68) hX (dec_of D_X3_handOut (i := 35) rfl) rfl rfl rfl (by decide) rfl ?_
          refine s_iinc (v := z3.2.2 + 1) (lv' := [(0, _), (1, _), (2, _), (3, _), (6, _), (7, _), (8, _)]) 6 [1, 2, 3, 4, 5, 6, 0] (n := 71) hX (dec_of D_X3_handOut (i := 36) rfl) rfl rfl rfl (by decide) rfl ?_
          refine s_goto (n := 24) hX (dec_of D_X3_handOut (i := 37) rfl) rfl ?_
          exact s_sub [0, 1, 2, 3, 4, 5, 6] rfl (hre5 (s7, (z3.2.1 + (-1)), (z3.2.2 + 1)))
        · refine s_iload 4 (n := 57) hX (dec_of D_X3_handOut (i := 29) rfl) rfl rfl ?_
          refine s_iconst (v := 1) (n := 58) hX (dec_of D_X3_handOut (i := 30) rfl) rfl (by decide) ?_
          refine s_iadd (n := 59) hX (dec_of D_X3_handOut (i := 31) rfl) rfl ?_
          refine s_goto (n := 64) hX (dec_of D_X3_handOut (i := 32) rfl) rfl ?_
          refine s_iast (n := 65) hX (vk9 (by omega)) (by decide) (dec_of D_X3_handOut (i := 34) rfl) rfl (fun s8 => ?_)
          refine s_iinc (v := z3.2.1 + (-1)) (lv' := [(0, _), (1, _), (2, _), (3, _), (6, _), (7, _), (8, _)]) 5 [1, 2, 3, 4, 5, 0, 6] (n := 68) hX (dec_of D_X3_handOut (i := 35) rfl) rfl rfl rfl (by decide) rfl ?_
          refine s_iinc (v := z3.2.2 + 1) (lv' := [(0, _), (1, _), (2, _), (3, _), (6, _), (7, _), (8, _)]) 6 [1, 2, 3, 4, 5, 6, 0] (n := 71) hX (dec_of D_X3_handOut (i := 36) rfl) rfl rfl rfl (by decide) rfl ?_
          refine s_goto (n := 24) hX (dec_of D_X3_handOut (i := 37) rfl) rfl ?_
          exact s_sub [0, 1, 2, 3, 4, 5, 6] rfl (hre5 (s8, (z3.2.1 + (-1)), (z3.2.2 + 1)))
  · exact s_vret hX hR (dec_of D_X3_handOut (i := 3) rfl) rfl
theorem lk_RX3_61 : LkV RX3 61 RX5 yX5_leadsIn cX5_leadsIn 4 (some .int) 1 := ⟨wd_833, wd_834, wd_835, wd_92, wd_836, by decide +kernel, by decide⟩
theorem lk_RX3_75 : LkV RX3 75 RX3 yX3_handOut cX3_handOut 9 none 5 := ⟨wd_838, wd_839, wd_840, wd_89, wd_841, by decide +kernel, by decide⟩
def T_X3_partMoney : List (Nat × Instr × Nat) := [(0, .aload_n 1, 1), (1, .iload_n 2, 1), (2, .invokevirtual 61, 3), (5, .istore 4, 2), (7, .aload_n 0, 1), (8, .getfield 30, 3), (11, .iload 4, 2), (13, .isub, 1), (14, .istore 5, 2), (16, .iload 4, 2), (18, .ifCond .ne 11, 3), (21, .aload_n 0, 1), (22, .iconst 0, 1), (23, .putfield 64, 3), (26, .goto 33, 3), (29, .iload 5, 2), (31, .ifCond .ne 11, 3), (34, .aload_n 0, 1), (35, .iload_n 3, 1), (36, .putfield 64, 3), (39, .goto 20, 3), (42, .aload_n 0, 1), (43, .iload_n 3, 1), (44, .i2l, 1), (45, .aload_n 1, 1), (46, .getfield 67, 3), (49, .i2l, 1), (50, .lmul, 1), (51, .ldc2_w 70, 3), (54, .ldiv, 1), (55, .l2i, 1), (56, .putfield 64, 3), (59, .aload_n 0, 1), (60, .iload_n 3, 1), (61, .aload_n 0, 1), (62, .getfield 64, 3), (65, .isub, 1), (66, .putfield 72, 3), (69, .aload_n 0, 1), (70, .aload_n 1, 1), (71, .iload_n 2, 1), (72, .iconst 0, 1), (73, .aload_n 0, 1), (74, .getfield 64, 3), (77, .iload 4, 2), (79, .invokevirtual 75, 3), (82, .aload_n 0, 1), (83, .aload_n 1, 1), (84, .iload_n 2, 1), (85, .iconst 1, 1), (86, .aload_n 0, 1), (87, .getfield 72, 3), (90, .iload 5, 2), (92, .invokevirtual 75, 3), (95, .return_, 1)]
theorem D_X3_partMoney : dchk cX3_partMoney T_X3_partMoney = true := by decide +kernel
def Oc_partMoney (σ : ST) (i0 : Nat) (i1 : Nat) (a2 : Int32) (a3 : Int32) : Option ST :=
  bd_ (Rl_leadsIn (σ) i1 a2) (fun q1 => lt_ (((gF σ 396 i0) - q1)) (fun x2 => lk_ (fun kk4 => (if q1 = 0 then lt_ (setF σ 397 i0 0) (fun s12 => kk4 s12) else (if x2 = 0 then lt_ (setF σ 397 i0 a3) (fun s11 => kk4 s11) else bd_ (ldv ((Int32.toInt64 a3) * (Int32.toInt64 (gF σ 532 i1))) 100) (fun v9 => lt_ (setF σ 397 i0 (Int64.toInt32 v9)) (fun s10 => kk4 s10))))) (fun (j3 : ST) => lt_ (setF j3 398 i0 (a3 - (gF j3 397 i0))) (fun s6 => bd_ (Oc_handOut s6 i0 i1 a2 0 (gF s6 397 i0) q1) (fun q7 => bd_ (Oc_handOut q7 i0 i1 a2 1 (gF q7 398 i0) x2) (fun q8 => some q8))))))
set_option maxHeartbeats 4000000 in
set_option maxRecDepth 100000 in
theorem c_X3_partMoney {G : GW} (hG : Good G) {l : Launch} (σ : ST) (i0 : Nat) (h0 : i0 < 2) (i1 : Nat) (h1 : i1 < 2) (a2 : Int32) (a3 : Int32) : Ctr G l yX3_partMoney cX3_partMoney 6 none 2 [.ref (ga G 124 i0), .ref (ga G 126 i1), .int a2, .int a3] σ oV (Oc_partMoney σ i0 i1 a2 a3) := by
  refine ctr_of hG (by decide) (Nat.le_of_ble_eq_true rfl) ?_
  intro X hXl hR hX
  have hX : Ok G X cX3_partMoney 6 RX3 2 := hX
  unfold Oc_partMoney
  show Sim G X 6 (MQX G X oV) σ 0 [(0, .ref (ga G 124 i0)), (1, .ref (ga G 126 i1)), (2, .int a2), (3, .int a3)] [] _
  refine s_aload_n 1 (n := 1) hX (dec_of D_X3_partMoney (i := 0) rfl) rfl rfl rfl ?_
  refine s_iload_n 2 (n := 2) hX (dec_of D_X3_partMoney (i := 1) rfl) rfl rfl rfl ?_
  refine s_callVI (c := 5) (n := 5) hX cls5 (vk126 (by omega)) lk_RX3_61 (dec_of D_X3_partMoney (i := 2) rfl) rfl (by decide) (c_X5_leadsIn (l := _) hG _ _ (by omega) _) rfl rfl (Nat.le_of_ble_eq_true rfl) (fun q1 => ?_)
  refine s_istore (lv' := [(0, _), (1, _), (2, _), (3, _), (4, _)]) [1, 2, 3, 4, 0] (n := 7) hX (dec_of D_X3_partMoney (i := 3) rfl) rfl (by decide) rfl ?_
  refine s_aload_n 0 (n := 8) hX (dec_of D_X3_partMoney (i := 4) rfl) rfl rfl rfl ?_
  refine s_getI (c := 3) (p := 4) (id := 396) (n := 11) hX cls3 (vk124 (by omega)) (dec_of D_X3_partMoney (i := 5) rfl) rfl rfl wd_299 ?_
  refine s_iload 4 (n := 13) hX (dec_of D_X3_partMoney (i := 6) rfl) rfl rfl ?_
  refine s_isub (n := 14) hX (dec_of D_X3_partMoney (i := 7) rfl) rfl ?_
  refine s_topi (fun x2 => ?_)
  refine s_istore (lv' := [(0, _), (1, _), (2, _), (3, _), (4, _), (5, _)]) [1, 2, 3, 4, 5, 0] (n := 16) hX (dec_of D_X3_partMoney (i := 8) rfl) rfl (by decide) rfl ?_
  refine s_iload 4 (n := 18) hX (dec_of D_X3_partMoney (i := 9) rfl) rfl rfl ?_
  refine s_lk (pcj := 59) (Sf := fun (j3 : ST) => j3) (lvf := fun (j3 : ST) => [(0, .ref (ga G 124 i0)), (1, .ref (ga G 126 i1)), (2, .int a2), (3, .int a3), (4, .int q1), (5, .int x2)]) (stf := fun (j3 : ST) => []) (fun j3 => ?_) (fun kk4 hkk5 => ?_)
  · refine s_aload_n 0 (n := 60) hX (dec_of D_X3_partMoney (i := 32) rfl) rfl rfl rfl ?_
    refine s_iload_n 3 (n := 61) hX (dec_of D_X3_partMoney (i := 33) rfl) rfl rfl rfl ?_
    refine s_aload_n 0 (n := 62) hX (dec_of D_X3_partMoney (i := 34) rfl) rfl rfl rfl ?_
    refine s_getI (c := 3) (p := 5) (id := 397) (n := 65) hX cls3 (vk124 (by omega)) (dec_of D_X3_partMoney (i := 35) rfl) rfl rfl wd_301 ?_
    refine s_isub (n := 66) hX (dec_of D_X3_partMoney (i := 36) rfl) rfl ?_
    refine s_putI (c := 3) (p := 6) (n := 69) hX cls3 (vk124 (by omega)) (dec_of D_X3_partMoney (i := 37) rfl) rfl rfl (by decide) wd_303 rfl rfl rfl (fun s6 => ?_)
    refine s_aload_n 0 (n := 70) hX (dec_of D_X3_partMoney (i := 38) rfl) rfl rfl rfl ?_
    refine s_aload_n 1 (n := 71) hX (dec_of D_X3_partMoney (i := 39) rfl) rfl rfl rfl ?_
    refine s_iload_n 2 (n := 72) hX (dec_of D_X3_partMoney (i := 40) rfl) rfl rfl rfl ?_
    refine s_iconst (v := 0) (n := 73) hX (dec_of D_X3_partMoney (i := 41) rfl) rfl (by decide) ?_
    refine s_aload_n 0 (n := 74) hX (dec_of D_X3_partMoney (i := 42) rfl) rfl rfl rfl ?_
    refine s_getI (c := 3) (p := 5) (id := 397) (n := 77) hX cls3 (vk124 (by omega)) (dec_of D_X3_partMoney (i := 43) rfl) rfl rfl wd_301 ?_
    refine s_iload 4 (n := 79) hX (dec_of D_X3_partMoney (i := 44) rfl) rfl rfl ?_
    refine s_callVV (c := 3) (n := 82) hX cls3 (vk124 (by omega)) lk_RX3_75 (dec_of D_X3_partMoney (i := 45) rfl) rfl (by decide) (c_X3_handOut (l := _) hG _ _ (by omega) _ (by omega) _ _ _ _) rfl rfl (Nat.le_of_ble_eq_true rfl) (fun q7 => ?_)
    refine s_aload_n 0 (n := 83) hX (dec_of D_X3_partMoney (i := 46) rfl) rfl rfl rfl ?_
    refine s_aload_n 1 (n := 84) hX (dec_of D_X3_partMoney (i := 47) rfl) rfl rfl rfl ?_
    refine s_iload_n 2 (n := 85) hX (dec_of D_X3_partMoney (i := 48) rfl) rfl rfl rfl ?_
    refine s_iconst (v := 1) (n := 86) hX (dec_of D_X3_partMoney (i := 49) rfl) rfl (by decide) ?_
    refine s_aload_n 0 (n := 87) hX (dec_of D_X3_partMoney (i := 50) rfl) rfl rfl rfl ?_
    refine s_getI (c := 3) (p := 6) (id := 398) (n := 90) hX cls3 (vk124 (by omega)) (dec_of D_X3_partMoney (i := 51) rfl) rfl rfl wd_303 ?_
    refine s_iload 5 (n := 92) hX (dec_of D_X3_partMoney (i := 52) rfl) rfl rfl ?_
    refine s_callVV (c := 3) (n := 95) hX cls3 (vk124 (by omega)) lk_RX3_75 (dec_of D_X3_partMoney (i := 53) rfl) rfl (by decide) (c_X3_handOut (l := _) hG _ _ (by omega) _ (by omega) _ _ _ _) rfl rfl (Nat.le_of_ble_eq_true rfl) (fun q8 => ?_)
    exact s_vret hX hR (dec_of D_X3_partMoney (i := 54) rfl) rfl
  · refine s_if_ne (tgt := 29) (n := 21) hX (dec_of D_X3_partMoney (i := 10) rfl) rfl rfl ?_ ?_
    · refine s_iload 5 (n := 31) hX (dec_of D_X3_partMoney (i := 15) rfl) rfl rfl ?_
      refine s_if_ne (tgt := 42) (n := 34) hX (dec_of D_X3_partMoney (i := 16) rfl) rfl rfl ?_ ?_
      · refine s_aload_n 0 (n := 43) hX (dec_of D_X3_partMoney (i := 21) rfl) rfl rfl rfl ?_
        refine s_iload_n 3 (n := 44) hX (dec_of D_X3_partMoney (i := 22) rfl) rfl rfl rfl ?_
        refine s_i2l (n := 45) hX (dec_of D_X3_partMoney (i := 23) rfl) rfl ?_
        refine s_aload_n 1 (n := 46) hX (dec_of D_X3_partMoney (i := 24) rfl) rfl rfl rfl ?_
        refine s_getI (c := 5) (p := 12) (id := 532) (n := 49) hX cls5 (vk126 (by omega)) (dec_of D_X3_partMoney (i := 25) rfl) rfl rfl wd_405 ?_
        refine s_i2l (n := 50) hX (dec_of D_X3_partMoney (i := 26) rfl) rfl ?_
        refine s_lmul (n := 51) hX (dec_of D_X3_partMoney (i := 27) rfl) rfl ?_
        refine s_ldc2 (v := 100) (n := 54) hX (dec_of D_X3_partMoney (i := 28) rfl) rfl wd_837 ?_
        refine s_ldiv (n := 55) hX (dec_of D_X3_partMoney (i := 29) rfl) rfl (fun v9 => ?_)
        refine s_l2i (n := 56) hX (dec_of D_X3_partMoney (i := 30) rfl) rfl ?_
        refine s_putI (c := 3) (p := 5) (n := 59) hX cls3 (vk124 (by omega)) (dec_of D_X3_partMoney (i := 31) rfl) rfl rfl (by decide) wd_301 rfl rfl rfl (fun s10 => ?_)
        exact s_sub [0, 1, 2, 3, 4, 5] rfl (hkk5 s10)
      · refine s_aload_n 0 (n := 35) hX (dec_of D_X3_partMoney (i := 17) rfl) rfl rfl rfl ?_
        refine s_iload_n 3 (n := 36) hX (dec_of D_X3_partMoney (i := 18) rfl) rfl rfl rfl ?_
        refine s_putI (c := 3) (p := 5) (n := 39) hX cls3 (vk124 (by omega)) (dec_of D_X3_partMoney (i := 19) rfl) rfl rfl (by decide) wd_301 rfl rfl rfl (fun s11 => ?_)
        refine s_goto (n := 59) hX (dec_of D_X3_partMoney (i := 20) rfl) rfl ?_
        exact s_sub [0, 1, 2, 3, 4, 5] rfl (hkk5 s11)
    · refine s_aload_n 0 (n := 22) hX (dec_of D_X3_partMoney (i := 11) rfl) rfl rfl rfl ?_
      refine s_iconst (v := 0) (n := 23) hX (dec_of D_X3_partMoney (i := 12) rfl) rfl (by decide) ?_
      refine s_putI (c := 3) (p := 5) (n := 26) hX cls3 (vk124 (by omega)) (dec_of D_X3_partMoney (i := 13) rfl) rfl rfl (by decide) wd_301 rfl rfl rfl (fun s12 => ?_)
      refine s_goto (n := 59) hX (dec_of D_X3_partMoney (i := 14) rfl) rfl ?_
      exact s_sub [0, 1, 2, 3, 4, 5] rfl (hkk5 s12)

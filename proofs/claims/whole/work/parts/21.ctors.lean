theorem df0 : ∀ j, j < 10 → defaultValue (tyX0 j) = vp_V [.null, .null, .null, .null, .null, .null, .null, .null, .null, .int 0] j := by decide +kernel
theorem df1 : ∀ j, j < 2 → defaultValue (tyX1 j) = vp_V [.null, .null] j := by decide +kernel
theorem df2 : ∀ j, j < 3 → defaultValue (tyX2 j) = vp_V [.null, .int 0, .int 0] j := by decide +kernel
theorem df3 : ∀ j, j < 7 → defaultValue (tyX3 j) = vp_V [.null, .null, .null, .null, .int 0, .int 0, .int 0] j := by decide +kernel
theorem df4 : ∀ j, j < 9 → defaultValue (tyX4 j) = vp_V [.null, .null, .null, .null, .int 0, .int 0, .int 0, .int 0, .int 0] j := by decide +kernel
theorem df5 : ∀ j, j < 14 → defaultValue (tyX5 j) = vp_V [.null, .null, .null, .null, .null, .null, .null, .null, .int 0, .int 0, .int 0, .int 0, .int 0, .int 0] j := by decide +kernel
theorem df6 : ∀ j, j < 1 → defaultValue (tyX6 j) = vp_V [.null] j := by decide +kernel
theorem df7 : ∀ j, j < 7 → defaultValue (tyX7 j) = vp_V [.null, .null, .null, .null, .int 0, .int 0, .int 0] j := by decide +kernel
theorem df8 : ∀ j, j < 4 → defaultValue (tyX8 j) = vp_V [.null, .null, .null, .null] j := by decide +kernel
theorem df9 : ∀ j, j < 9 → defaultValue (tyX9 j) = vp_V [.null, .null, .null, .null, .null, .null, .null, .null, .null] j := by decide +kernel
theorem df10 : ∀ j, j < 50 → defaultValue (tyX10 j) = vp_V [.int 0, .null, .int 0, .null, .null, .null, .null, .null, .int 0, .int 0, .int 0, .int 0, .int 0, .int 0, .null, .null, .int 0, .int 0, .int 0, .int 0, .int 0, .int 0, .int 0, .int 0, .int 0, .int 0, .int 0, .int 0, .int 0, .int 0, .int 0, .int 0, .int 0, .int 0, .int 0, .null, .null, .null, .null, .null, .null, .null, .null, .null, .null, .null, .null, .null, .int 0, .int 0] j := by decide +kernel
def T_X8_init : List (Nat × Instr × Nat) := [(0, .aload_n 0, 1), (1, .invokespecial 3, 3), (4, .aload_n 0, 1), (5, .bipush 6, 2), (7, .newarray .int, 2), (9, .putfield 9, 3), (12, .aload_n 0, 1), (13, .bipush 6, 2), (15, .newarray .int, 2), (17, .putfield 15, 3), (20, .aload_n 0, 1), (21, .bipush 16, 2), (23, .newarray .int, 2), (25, .putfield 18, 3), (28, .aload_n 0, 1), (29, .bipush 40, 2), (31, .newarray .int, 2), (33, .putfield 21, 3), (36, .return_, 1)]
theorem D_X8_init : dchk cX8_init T_X8_init = true := by decide +kernel
def F_X8 (G : GW) (n j : Nat) (C : Nat → va_E) : Nat → va_E := (va_up (va_up (va_up (va_up (va_up (va_up (va_up (va_up C (n) (.inl (gI G, (6, .inl (fun _ => 0))))) j (.inr (8, [.ref (gz G + (n)), .null, .null, .null]))) (n + 1) (.inl (gI G, (6, .inl (fun _ => 0))))) j (.inr (8, [.ref (gz G + (n)), .ref (gz G + (n + 1)), .null, .null]))) (n + 2) (.inl (gI G, (16, .inl (fun _ => 0))))) j (.inr (8, [.ref (gz G + (n)), .ref (gz G + (n + 1)), .ref (gz G + (n + 2)), .null]))) (n + 3) (.inl (gI G, (40, .inl (fun _ => 0))))) j (.inr (8, [.ref (gz G + (n)), .ref (gz G + (n + 1)), .ref (gz G + (n + 2)), .ref (gz G + (n + 3))])))
theorem F_X8_ne {G : GW} {n j i : Nat} {C : Nat → va_E} (h : i < n) (h2 : i ≠ j) : F_X8 G n j C i = C i := by
  unfold F_X8
  repeat first | rw [upC_ne (by omega)]
set_option maxHeartbeats 4000000 in
set_option maxRecDepth 100000 in
theorem c_X8_init {l : Launch} (G : GW) (n j : Nat) (C : Nat → va_E) (hj : j < n) (h0 : C j = .inr (8, [.null, .null, .null, .null])) : CtrC G l yX8_init cX8_init 1 1 4 68 n (n + 4) j C (F_X8 G n j C) := by
  refine ctrC_of (by decide) rfl (by decide) ?_
  intro X hXl hR hX
  have hX : OkC G X cX8_init 1 RX8 1 4 68 := hX
  unfold F_X8
  refine c_aload_n 0 (m := 1) hX (dec_of D_X8_init (i := 0) rfl) rfl rfl rfl ?_
  refine c_obj (m := 4) hX (dec_of D_X8_init (i := 1) rfl) rfl (by decide) wd_197 wd_113 wd_114 ?_
  refine c_aload_n 0 (m := 5) hX (dec_of D_X8_init (i := 2) rfl) rfl rfl rfl ?_
  refine c_bipush (v := 6) (m := 7) hX (dec_of D_X8_init (i := 3) rfl) rfl (by decide) ?_
  refine c_newa (ty := .int) (N := 6) (e := (6, .inl (fun _ => 0))) (cA := gI G) (n1 := n + 1) (a1 := 1) (b1 := 6) 0 (m := 9) hX (dec_of D_X8_init (i := 4) rfl) rfl wd_153 rfl rfl (fun _ => Iff.rfl) (fun _ => rfl) (by decide) (by decide) (by decide) rfl rfl rfl (by decide) (by decide) ?_
  refine c_putF (p := 0) (fs := [.null, .null, .null, .null]) (m := 12) hX cls8 (by omega) (by rw [upC_ne (by omega)]; exact h0) (dec_of D_X8_init (i := 5) rfl) rfl (by decide) wd_198 rfl rfl rfl rfl (Nat.le_of_ble_eq_true rfl) ?_
  refine c_aload_n 0 (m := 13) hX (dec_of D_X8_init (i := 6) rfl) rfl rfl rfl ?_
  refine c_bipush (v := 6) (m := 15) hX (dec_of D_X8_init (i := 7) rfl) rfl (by decide) ?_
  refine c_newa (ty := .int) (N := 6) (e := (6, .inl (fun _ => 0))) (cA := gI G) (n1 := n + 2) (a1 := 2) (b1 := 12) 0 (m := 17) hX (dec_of D_X8_init (i := 8) rfl) rfl wd_153 rfl rfl (fun _ => Iff.rfl) (fun _ => rfl) (by decide) (by decide) (by decide) rfl rfl rfl (by decide) (by decide) ?_
  refine c_putF (p := 1) (fs := [.ref (gz G + (n)), .null, .null, .null]) (m := 20) hX cls8 (by omega) (by rw [upC_ne (by omega), upC_pos] <;> first | done | rfl) (dec_of D_X8_init (i := 9) rfl) rfl (by decide) wd_200 rfl rfl rfl rfl (Nat.le_of_ble_eq_true rfl) ?_
  refine c_aload_n 0 (m := 21) hX (dec_of D_X8_init (i := 10) rfl) rfl rfl rfl ?_
  refine c_bipush (v := 16) (m := 23) hX (dec_of D_X8_init (i := 11) rfl) rfl (by decide) ?_
  refine c_newa (ty := .int) (N := 16) (e := (16, .inl (fun _ => 0))) (cA := gI G) (n1 := n + 3) (a1 := 3) (b1 := 28) 0 (m := 25) hX (dec_of D_X8_init (i := 12) rfl) rfl wd_153 rfl rfl (fun _ => Iff.rfl) (fun _ => rfl) (by decide) (by decide) (by decide) rfl rfl rfl (by decide) (by decide) ?_
  refine c_putF (p := 2) (fs := [.ref (gz G + (n)), .ref (gz G + (n + 1)), .null, .null]) (m := 28) hX cls8 (by omega) (by rw [upC_ne (by omega), upC_pos] <;> first | done | rfl) (dec_of D_X8_init (i := 13) rfl) rfl (by decide) wd_202 rfl rfl rfl rfl (Nat.le_of_ble_eq_true rfl) ?_
  refine c_aload_n 0 (m := 29) hX (dec_of D_X8_init (i := 14) rfl) rfl rfl rfl ?_
  refine c_bipush (v := 40) (m := 31) hX (dec_of D_X8_init (i := 15) rfl) rfl (by decide) ?_
  refine c_newa (ty := .int) (N := 40) (e := (40, .inl (fun _ => 0))) (cA := gI G) (n1 := n + 4) (a1 := 4) (b1 := 68) 0 (m := 33) hX (dec_of D_X8_init (i := 16) rfl) rfl wd_153 rfl rfl (fun _ => Iff.rfl) (fun _ => rfl) (by decide) (by decide) (by decide) rfl rfl rfl (by decide) (by decide) ?_
  refine c_putF (p := 3) (fs := [.ref (gz G + (n)), .ref (gz G + (n + 1)), .ref (gz G + (n + 2)), .null]) (m := 36) hX cls8 (by omega) (by rw [upC_ne (by omega), upC_pos] <;> first | done | rfl) (dec_of D_X8_init (i := 17) rfl) rfl (by decide) wd_206 rfl rfl rfl rfl (Nat.le_of_ble_eq_true rfl) ?_
  exact c_ret hX hR (dec_of D_X8_init (i := 18) rfl) rfl rfl
def T_X7_init : List (Nat × Instr × Nat) := [(0, .aload_n 0, 1), (1, .invokespecial 3, 3), (4, .aload_n 0, 1), (5, .sipush 900, 3), (8, .newarray .int, 2), (10, .putfield 9, 3), (13, .aload_n 0, 1), (14, .sipush 901, 3), (17, .newarray .int, 2), (19, .putfield 15, 3), (22, .aload_n 0, 1), (23, .sipush 901, 3), (26, .newarray .int, 2), (28, .putfield 18, 3), (31, .aload_n 0, 1), (32, .sipush 901, 3), (35, .newarray .long, 2), (37, .putfield 21, 3), (40, .return_, 1)]
theorem D_X7_init : dchk cX7_init T_X7_init = true := by decide +kernel
def F_X7 (G : GW) (n j : Nat) (C : Nat → va_E) : Nat → va_E := (va_up (va_up (va_up (va_up (va_up (va_up (va_up (va_up C (n) (.inl (gI G, (900, .inl (fun _ => 0))))) j (.inr (7, [.ref (gz G + (n)), .null, .null, .null, .int 0, .int 0, .int 0]))) (n + 1) (.inl (gI G, (901, .inl (fun _ => 0))))) j (.inr (7, [.ref (gz G + (n)), .ref (gz G + (n + 1)), .null, .null, .int 0, .int 0, .int 0]))) (n + 2) (.inl (gI G, (901, .inl (fun _ => 0))))) j (.inr (7, [.ref (gz G + (n)), .ref (gz G + (n + 1)), .ref (gz G + (n + 2)), .null, .int 0, .int 0, .int 0]))) (n + 3) (.inl (gJ G, (901, .inr (.inl (fun _ => 0)))))) j (.inr (7, [.ref (gz G + (n)), .ref (gz G + (n + 1)), .ref (gz G + (n + 2)), .ref (gz G + (n + 3)), .int 0, .int 0, .int 0])))
theorem F_X7_ne {G : GW} {n j i : Nat} {C : Nat → va_E} (h : i < n) (h2 : i ≠ j) : F_X7 G n j C i = C i := by
  unfold F_X7
  repeat first | rw [upC_ne (by omega)]
set_option maxHeartbeats 4000000 in
set_option maxRecDepth 100000 in
theorem c_X7_init {l : Launch} (G : GW) (n j : Nat) (C : Nat → va_E) (hj : j < n) (h0 : C j = .inr (7, [.null, .null, .null, .null, .int 0, .int 0, .int 0])) : CtrC G l yX7_init cX7_init 1 1 4 3603 n (n + 4) j C (F_X7 G n j C) := by
  refine ctrC_of (by decide) rfl (by decide) ?_
  intro X hXl hR hX
  have hX : OkC G X cX7_init 1 RX7 1 4 3603 := hX
  unfold F_X7
  refine c_aload_n 0 (m := 1) hX (dec_of D_X7_init (i := 0) rfl) rfl rfl rfl ?_
  refine c_obj (m := 4) hX (dec_of D_X7_init (i := 1) rfl) rfl (by decide) wd_126 wd_113 wd_114 ?_
  refine c_aload_n 0 (m := 5) hX (dec_of D_X7_init (i := 2) rfl) rfl rfl rfl ?_
  refine c_sipush (v := 900) (m := 8) hX (dec_of D_X7_init (i := 3) rfl) rfl (by decide) ?_
  refine c_newa (ty := .int) (N := 900) (e := (900, .inl (fun _ => 0))) (cA := gI G) (n1 := n + 1) (a1 := 1) (b1 := 900) 0 (m := 10) hX (dec_of D_X7_init (i := 4) rfl) rfl wd_153 rfl rfl (fun _ => Iff.rfl) (fun _ => rfl) (by decide) (by decide) (by decide) rfl rfl rfl (by decide) (by decide) ?_
  refine c_putF (p := 0) (fs := [.null, .null, .null, .null, .int 0, .int 0, .int 0]) (m := 13) hX cls7 (by omega) (by rw [upC_ne (by omega)]; exact h0) (dec_of D_X7_init (i := 5) rfl) rfl (by decide) wd_127 rfl rfl rfl rfl (Nat.le_of_ble_eq_true rfl) ?_
  refine c_aload_n 0 (m := 14) hX (dec_of D_X7_init (i := 6) rfl) rfl rfl rfl ?_
  refine c_sipush (v := 901) (m := 17) hX (dec_of D_X7_init (i := 7) rfl) rfl (by decide) ?_
  refine c_newa (ty := .int) (N := 901) (e := (901, .inl (fun _ => 0))) (cA := gI G) (n1 := n + 2) (a1 := 2) (b1 := 1801) 0 (m := 19) hX (dec_of D_X7_init (i := 8) rfl) rfl wd_153 rfl rfl (fun _ => Iff.rfl) (fun _ => rfl) (by decide) (by decide) (by decide) rfl rfl rfl (by decide) (by decide) ?_
  refine c_putF (p := 1) (fs := [.ref (gz G + (n)), .null, .null, .null, .int 0, .int 0, .int 0]) (m := 22) hX cls7 (by omega) (by rw [upC_ne (by omega), upC_pos] <;> first | done | rfl) (dec_of D_X7_init (i := 9) rfl) rfl (by decide) wd_128 rfl rfl rfl rfl (Nat.le_of_ble_eq_true rfl) ?_
  refine c_aload_n 0 (m := 23) hX (dec_of D_X7_init (i := 10) rfl) rfl rfl rfl ?_
  refine c_sipush (v := 901) (m := 26) hX (dec_of D_X7_init (i := 11) rfl) rfl (by decide) ?_
  refine c_newa (ty := .int) (N := 901) (e := (901, .inl (fun _ => 0))) (cA := gI G) (n1 := n + 3) (a1 := 3) (b1 := 2702) 0 (m := 28) hX (dec_of D_X7_init (i := 12) rfl) rfl wd_153 rfl rfl (fun _ => Iff.rfl) (fun _ => rfl) (by decide) (by decide) (by decide) rfl rfl rfl (by decide) (by decide) ?_
  refine c_putF (p := 2) (fs := [.ref (gz G + (n)), .ref (gz G + (n + 1)), .null, .null, .int 0, .int 0, .int 0]) (m := 31) hX cls7 (by omega) (by rw [upC_ne (by omega), upC_pos] <;> first | done | rfl) (dec_of D_X7_init (i := 13) rfl) rfl (by decide) wd_130 rfl rfl rfl rfl (Nat.le_of_ble_eq_true rfl) ?_
  refine c_aload_n 0 (m := 32) hX (dec_of D_X7_init (i := 14) rfl) rfl rfl rfl ?_
  refine c_sipush (v := 901) (m := 35) hX (dec_of D_X7_init (i := 15) rfl) rfl (by decide) ?_
  refine c_newa (ty := .long) (N := 901) (e := (901, .inr (.inl (fun _ => 0)))) (cA := gJ G) (n1 := n + 4) (a1 := 4) (b1 := 3603) 1 (m := 37) hX (dec_of D_X7_init (i := 16) rfl) rfl wd_154 rfl rfl (fun _ => Iff.rfl) (fun _ => rfl) (by decide) (by decide) (by decide) rfl rfl rfl (by decide) (by decide) ?_
  refine c_putF (p := 3) (fs := [.ref (gz G + (n)), .ref (gz G + (n + 1)), .ref (gz G + (n + 2)), .null, .int 0, .int 0, .int 0]) (m := 40) hX cls7 (by omega) (by rw [upC_ne (by omega), upC_pos] <;> first | done | rfl) (dec_of D_X7_init (i := 17) rfl) rfl (by decide) wd_132 rfl rfl rfl rfl (Nat.le_of_ble_eq_true rfl) ?_
  exact c_ret hX hR (dec_of D_X7_init (i := 18) rfl) rfl rfl
def T_X5_init : List (Nat × Instr × Nat) := [(0, .aload_n 0, 1), (1, .invokespecial 3, 3), (4, .aload_n 0, 1), (5, .bipush 6, 2), (7, .newarray .int, 2), (9, .putfield 9, 3), (12, .aload_n 0, 1), (13, .bipush 6, 2), (15, .newarray .int, 2), (17, .putfield 15, 3), (20, .aload_n 0, 1), (21, .bipush 6, 2), (23, .newarray .int, 2), (25, .putfield 18, 3), (28, .aload_n 0, 1), (29, .bipush 16, 2), (31, .newarray .int, 2), (33, .putfield 21, 3), (36, .aload_n 0, 1), (37, .bipush 8, 2), (39, .newarray .int, 2), (41, .putfield 24, 3), (44, .aload_n 0, 1), (45, .bipush 8, 2), (47, .newarray .int, 2), (49, .putfield 27, 3), (52, .aload_n 0, 1), (53, .bipush 64, 2), (55, .newarray .int, 2), (57, .putfield 30, 3), (60, .aload_n 0, 1), (61, .bipush 64, 2), (63, .newarray .int, 2), (65, .putfield 33, 3), (68, .aload_n 0, 1), (69, .bipush 60, 2), (71, .putfield 36, 3), (74, .aload_n 0, 1), (75, .iconst 3, 1), (76, .putfield 40, 3), (79, .return_, 1)]
theorem D_X5_init : dchk cX5_init T_X5_init = true := by decide +kernel
def F_X5 (G : GW) (n j : Nat) (C : Nat → va_E) : Nat → va_E := (va_up (va_up (va_up (va_up (va_up (va_up (va_up (va_up (va_up (va_up (va_up (va_up (va_up (va_up (va_up (va_up (va_up (va_up C (n) (.inl (gI G, (6, .inl (fun _ => 0))))) j (.inr (5, [.ref (gz G + (n)), .null, .null, .null, .null, .null, .null, .null, .int 0, .int 0, .int 0, .int 0, .int 0, .int 0]))) (n + 1) (.inl (gI G, (6, .inl (fun _ => 0))))) j (.inr (5, [.ref (gz G + (n)), .ref (gz G + (n + 1)), .null, .null, .null, .null, .null, .null, .int 0, .int 0, .int 0, .int 0, .int 0, .int 0]))) (n + 2) (.inl (gI G, (6, .inl (fun _ => 0))))) j (.inr (5, [.ref (gz G + (n)), .ref (gz G + (n + 1)), .ref (gz G + (n + 2)), .null, .null, .null, .null, .null, .int 0, .int 0, .int 0, .int 0, .int 0, .int 0]))) (n + 3) (.inl (gI G, (16, .inl (fun _ => 0))))) j (.inr (5, [.ref (gz G + (n)), .ref (gz G + (n + 1)), .ref (gz G + (n + 2)), .ref (gz G + (n + 3)), .null, .null, .null, .null, .int 0, .int 0, .int 0, .int 0, .int 0, .int 0]))) (n + 4) (.inl (gI G, (8, .inl (fun _ => 0))))) j (.inr (5, [.ref (gz G + (n)), .ref (gz G + (n + 1)), .ref (gz G + (n + 2)), .ref (gz G + (n + 3)), .ref (gz G + (n + 4)), .null, .null, .null, .int 0, .int 0, .int 0, .int 0, .int 0, .int 0]))) (n + 5) (.inl (gI G, (8, .inl (fun _ => 0))))) j (.inr (5, [.ref (gz G + (n)), .ref (gz G + (n + 1)), .ref (gz G + (n + 2)), .ref (gz G + (n + 3)), .ref (gz G + (n + 4)), .ref (gz G + (n + 5)), .null, .null, .int 0, .int 0, .int 0, .int 0, .int 0, .int 0]))) (n + 6) (.inl (gI G, (64, .inl (fun _ => 0))))) j (.inr (5, [.ref (gz G + (n)), .ref (gz G + (n + 1)), .ref (gz G + (n + 2)), .ref (gz G + (n + 3)), .ref (gz G + (n + 4)), .ref (gz G + (n + 5)), .ref (gz G + (n + 6)), .null, .int 0, .int 0, .int 0, .int 0, .int 0, .int 0]))) (n + 7) (.inl (gI G, (64, .inl (fun _ => 0))))) j (.inr (5, [.ref (gz G + (n)), .ref (gz G + (n + 1)), .ref (gz G + (n + 2)), .ref (gz G + (n + 3)), .ref (gz G + (n + 4)), .ref (gz G + (n + 5)), .ref (gz G + (n + 6)), .ref (gz G + (n + 7)), .int 0, .int 0, .int 0, .int 0, .int 0, .int 0]))) j (.inr (5, [.ref (gz G + (n)), .ref (gz G + (n + 1)), .ref (gz G + (n + 2)), .ref (gz G + (n + 3)), .ref (gz G + (n + 4)), .ref (gz G + (n + 5)), .ref (gz G + (n + 6)), .ref (gz G + (n + 7)), .int 0, .int 0, .int 0, .int 0, .int 60, .int 0]))) j (.inr (5, [.ref (gz G + (n)), .ref (gz G + (n + 1)), .ref (gz G + (n + 2)), .ref (gz G + (n + 3)), .ref (gz G + (n + 4)), .ref (gz G + (n + 5)), .ref (gz G + (n + 6)), .ref (gz G + (n + 7)), .int 0, .int 0, .int 0, .int 0, .int 60, .int 3])))
theorem F_X5_ne {G : GW} {n j i : Nat} {C : Nat → va_E} (h : i < n) (h2 : i ≠ j) : F_X5 G n j C i = C i := by
  unfold F_X5
  repeat first | rw [upC_ne (by omega)]
set_option maxHeartbeats 4000000 in
set_option maxRecDepth 100000 in
theorem c_X5_init {l : Launch} (G : GW) (n j : Nat) (C : Nat → va_E) (hj : j < n) (h0 : C j = .inr (5, [.null, .null, .null, .null, .null, .null, .null, .null, .int 0, .int 0, .int 0, .int 0, .int 0, .int 0])) : CtrC G l yX5_init cX5_init 1 1 8 178 n (n + 8) j C (F_X5 G n j C) := by
  refine ctrC_of (by decide) rfl (by decide) ?_
  intro X hXl hR hX
  have hX : OkC G X cX5_init 1 RX5 1 8 178 := hX
  unfold F_X5
  refine c_aload_n 0 (m := 1) hX (dec_of D_X5_init (i := 0) rfl) rfl rfl rfl ?_
  refine c_obj (m := 4) hX (dec_of D_X5_init (i := 1) rfl) rfl (by decide) wd_352 wd_113 wd_114 ?_
  refine c_aload_n 0 (m := 5) hX (dec_of D_X5_init (i := 2) rfl) rfl rfl rfl ?_
  refine c_bipush (v := 6) (m := 7) hX (dec_of D_X5_init (i := 3) rfl) rfl (by decide) ?_
  refine c_newa (ty := .int) (N := 6) (e := (6, .inl (fun _ => 0))) (cA := gI G) (n1 := n + 1) (a1 := 1) (b1 := 6) 0 (m := 9) hX (dec_of D_X5_init (i := 4) rfl) rfl wd_153 rfl rfl (fun _ => Iff.rfl) (fun _ => rfl) (by decide) (by decide) (by decide) rfl rfl rfl (by decide) (by decide) ?_
  refine c_putF (p := 0) (fs := [.null, .null, .null, .null, .null, .null, .null, .null, .int 0, .int 0, .int 0, .int 0, .int 0, .int 0]) (m := 12) hX cls5 (by omega) (by rw [upC_ne (by omega)]; exact h0) (dec_of D_X5_init (i := 5) rfl) rfl (by decide) wd_353 rfl rfl rfl rfl (Nat.le_of_ble_eq_true rfl) ?_
  refine c_aload_n 0 (m := 13) hX (dec_of D_X5_init (i := 6) rfl) rfl rfl rfl ?_
  refine c_bipush (v := 6) (m := 15) hX (dec_of D_X5_init (i := 7) rfl) rfl (by decide) ?_
  refine c_newa (ty := .int) (N := 6) (e := (6, .inl (fun _ => 0))) (cA := gI G) (n1 := n + 2) (a1 := 2) (b1 := 12) 0 (m := 17) hX (dec_of D_X5_init (i := 8) rfl) rfl wd_153 rfl rfl (fun _ => Iff.rfl) (fun _ => rfl) (by decide) (by decide) (by decide) rfl rfl rfl (by decide) (by decide) ?_
  refine c_putF (p := 1) (fs := [.ref (gz G + (n)), .null, .null, .null, .null, .null, .null, .null, .int 0, .int 0, .int 0, .int 0, .int 0, .int 0]) (m := 20) hX cls5 (by omega) (by rw [upC_ne (by omega), upC_pos] <;> first | done | rfl) (dec_of D_X5_init (i := 9) rfl) rfl (by decide) wd_358 rfl rfl rfl rfl (Nat.le_of_ble_eq_true rfl) ?_
  refine c_aload_n 0 (m := 21) hX (dec_of D_X5_init (i := 10) rfl) rfl rfl rfl ?_
  refine c_bipush (v := 6) (m := 23) hX (dec_of D_X5_init (i := 11) rfl) rfl (by decide) ?_
  refine c_newa (ty := .int) (N := 6) (e := (6, .inl (fun _ => 0))) (cA := gI G) (n1 := n + 3) (a1 := 3) (b1 := 18) 0 (m := 25) hX (dec_of D_X5_init (i := 12) rfl) rfl wd_153 rfl rfl (fun _ => Iff.rfl) (fun _ => rfl) (by decide) (by decide) (by decide) rfl rfl rfl (by decide) (by decide) ?_
  refine c_putF (p := 2) (fs := [.ref (gz G + (n)), .ref (gz G + (n + 1)), .null, .null, .null, .null, .null, .null, .int 0, .int 0, .int 0, .int 0, .int 0, .int 0]) (m := 28) hX cls5 (by omega) (by rw [upC_ne (by omega), upC_pos] <;> first | done | rfl) (dec_of D_X5_init (i := 13) rfl) rfl (by decide) wd_361 rfl rfl rfl rfl (Nat.le_of_ble_eq_true rfl) ?_
  refine c_aload_n 0 (m := 29) hX (dec_of D_X5_init (i := 14) rfl) rfl rfl rfl ?_
  refine c_bipush (v := 16) (m := 31) hX (dec_of D_X5_init (i := 15) rfl) rfl (by decide) ?_
  refine c_newa (ty := .int) (N := 16) (e := (16, .inl (fun _ => 0))) (cA := gI G) (n1 := n + 4) (a1 := 4) (b1 := 34) 0 (m := 33) hX (dec_of D_X5_init (i := 16) rfl) rfl wd_153 rfl rfl (fun _ => Iff.rfl) (fun _ => rfl) (by decide) (by decide) (by decide) rfl rfl rfl (by decide) (by decide) ?_
  refine c_putF (p := 3) (fs := [.ref (gz G + (n)), .ref (gz G + (n + 1)), .ref (gz G + (n + 2)), .null, .null, .null, .null, .null, .int 0, .int 0, .int 0, .int 0, .int 0, .int 0]) (m := 36) hX cls5 (by omega) (by rw [upC_ne (by omega), upC_pos] <;> first | done | rfl) (dec_of D_X5_init (i := 17) rfl) rfl (by decide) wd_364 rfl rfl rfl rfl (Nat.le_of_ble_eq_true rfl) ?_
  refine c_aload_n 0 (m := 37) hX (dec_of D_X5_init (i := 18) rfl) rfl rfl rfl ?_
  refine c_bipush (v := 8) (m := 39) hX (dec_of D_X5_init (i := 19) rfl) rfl (by decide) ?_
  refine c_newa (ty := .int) (N := 8) (e := (8, .inl (fun _ => 0))) (cA := gI G) (n1 := n + 5) (a1 := 5) (b1 := 42) 0 (m := 41) hX (dec_of D_X5_init (i := 20) rfl) rfl wd_153 rfl rfl (fun _ => Iff.rfl) (fun _ => rfl) (by decide) (by decide) (by decide) rfl rfl rfl (by decide) (by decide) ?_
  refine c_putF (p := 4) (fs := [.ref (gz G + (n)), .ref (gz G + (n + 1)), .ref (gz G + (n + 2)), .ref (gz G + (n + 3)), .null, .null, .null, .null, .int 0, .int 0, .int 0, .int 0, .int 0, .int 0]) (m := 44) hX cls5 (by omega) (by rw [upC_ne (by omega), upC_pos] <;> first | done | rfl) (dec_of D_X5_init (i := 21) rfl) rfl (by decide) wd_367 rfl rfl rfl rfl (Nat.le_of_ble_eq_true rfl) ?_
  refine c_aload_n 0 (m := 45) hX (dec_of D_X5_init (i := 22) rfl) rfl rfl rfl ?_
  refine c_bipush (v := 8) (m := 47) hX (dec_of D_X5_init (i := 23) rfl) rfl (by decide) ?_
  refine c_newa (ty := .int) (N := 8) (e := (8, .inl (fun _ => 0))) (cA := gI G) (n1 := n + 6) (a1 := 6) (b1 := 50) 0 (m := 49) hX (dec_of D_X5_init (i := 24) rfl) rfl wd_153 rfl rfl (fun _ => Iff.rfl) (fun _ => rfl) (by decide) (by decide) (by decide) rfl rfl rfl (by decide) (by decide) ?_
  refine c_putF (p := 5) (fs := [.ref (gz G + (n)), .ref (gz G + (n + 1)), .ref (gz G + (n + 2)), .ref (gz G + (n + 3)), .ref (gz G + (n + 4)), .null, .null, .null, .int 0, .int 0, .int 0, .int 0, .int 0, .int 0]) (m := 52) hX cls5 (by omega) (by rw [upC_ne (by omega), upC_pos] <;> first | done | rfl) (dec_of D_X5_init (i := 25) rfl) rfl (by decide) wd_372 rfl rfl rfl rfl (Nat.le_of_ble_eq_true rfl) ?_
  refine c_aload_n 0 (m := 53) hX (dec_of D_X5_init (i := 26) rfl) rfl rfl rfl ?_
  refine c_bipush (v := 64) (m := 55) hX (dec_of D_X5_init (i := 27) rfl) rfl (by decide) ?_
  refine c_newa (ty := .int) (N := 64) (e := (64, .inl (fun _ => 0))) (cA := gI G) (n1 := n + 7) (a1 := 7) (b1 := 114) 0 (m := 57) hX (dec_of D_X5_init (i := 28) rfl) rfl wd_153 rfl rfl (fun _ => Iff.rfl) (fun _ => rfl) (by decide) (by decide) (by decide) rfl rfl rfl (by decide) (by decide) ?_
  refine c_putF (p := 6) (fs := [.ref (gz G + (n)), .ref (gz G + (n + 1)), .ref (gz G + (n + 2)), .ref (gz G + (n + 3)), .ref (gz G + (n + 4)), .ref (gz G + (n + 5)), .null, .null, .int 0, .int 0, .int 0, .int 0, .int 0, .int 0]) (m := 60) hX cls5 (by omega) (by rw [upC_ne (by omega), upC_pos] <;> first | done | rfl) (dec_of D_X5_init (i := 29) rfl) rfl (by decide) wd_377 rfl rfl rfl rfl (Nat.le_of_ble_eq_true rfl) ?_
  refine c_aload_n 0 (m := 61) hX (dec_of D_X5_init (i := 30) rfl) rfl rfl rfl ?_
  refine c_bipush (v := 64) (m := 63) hX (dec_of D_X5_init (i := 31) rfl) rfl (by decide) ?_
  refine c_newa (ty := .int) (N := 64) (e := (64, .inl (fun _ => 0))) (cA := gI G) (n1 := n + 8) (a1 := 8) (b1 := 178) 0 (m := 65) hX (dec_of D_X5_init (i := 32) rfl) rfl wd_153 rfl rfl (fun _ => Iff.rfl) (fun _ => rfl) (by decide) (by decide) (by decide) rfl rfl rfl (by decide) (by decide) ?_
  refine c_putF (p := 7) (fs := [.ref (gz G + (n)), .ref (gz G + (n + 1)), .ref (gz G + (n + 2)), .ref (gz G + (n + 3)), .ref (gz G + (n + 4)), .ref (gz G + (n + 5)), .ref (gz G + (n + 6)), .null, .int 0, .int 0, .int 0, .int 0, .int 0, .int 0]) (m := 68) hX cls5 (by omega) (by rw [upC_ne (by omega), upC_pos] <;> first | done | rfl) (dec_of D_X5_init (i := 33) rfl) rfl (by decide) wd_381 rfl rfl rfl rfl (Nat.le_of_ble_eq_true rfl) ?_
  refine c_aload_n 0 (m := 69) hX (dec_of D_X5_init (i := 34) rfl) rfl rfl rfl ?_
  refine c_bipush (v := 60) (m := 71) hX (dec_of D_X5_init (i := 35) rfl) rfl (by decide) ?_
  refine c_put (p := 12) (fs := [.ref (gz G + (n)), .ref (gz G + (n + 1)), .ref (gz G + (n + 2)), .ref (gz G + (n + 3)), .ref (gz G + (n + 4)), .ref (gz G + (n + 5)), .ref (gz G + (n + 6)), .ref (gz G + (n + 7)), .int 0, .int 0, .int 0, .int 0, .int 0, .int 0]) (m := 74) hX cls5 (by omega) (by rw [upC_pos] <;> first | done | rfl) (dec_of D_X5_init (i := 36) rfl) rfl (by decide) wd_404 rfl rfl rfl (Nat.le_of_ble_eq_true rfl) ?_
  refine c_aload_n 0 (m := 75) hX (dec_of D_X5_init (i := 37) rfl) rfl rfl rfl ?_
  refine c_iconst (v := 3) (m := 76) hX (dec_of D_X5_init (i := 38) rfl) rfl (by decide) ?_
  refine c_put (p := 13) (fs := [.ref (gz G + (n)), .ref (gz G + (n + 1)), .ref (gz G + (n + 2)), .ref (gz G + (n + 3)), .ref (gz G + (n + 4)), .ref (gz G + (n + 5)), .ref (gz G + (n + 6)), .ref (gz G + (n + 7)), .int 0, .int 0, .int 0, .int 0, .int 60, .int 0]) (m := 79) hX cls5 (by omega) (by rw [upC_pos] <;> first | done | rfl) (dec_of D_X5_init (i := 39) rfl) rfl (by decide) wd_408 rfl rfl rfl (Nat.le_of_ble_eq_true rfl) ?_
  exact c_ret hX hR (dec_of D_X5_init (i := 40) rfl) rfl rfl
def T_X3_init : List (Nat × Instr × Nat) := [(0, .aload_n 0, 1), (1, .invokespecial 3, 3), (4, .aload_n 0, 1), (5, .bipush 13, 2), (7, .newarray .int, 2), (9, .putfield 9, 3), (12, .aload_n 0, 1), (13, .bipush 13, 2), (15, .newarray .int, 2), (17, .putfield 15, 3), (20, .aload_n 0, 1), (21, .bipush 13, 2), (23, .newarray .int, 2), (25, .putfield 18, 3), (28, .aload_n 0, 1), (29, .iconst 3, 1), (30, .newarray .int, 2), (32, .putfield 21, 3), (35, .return_, 1)]
theorem D_X3_init : dchk cX3_init T_X3_init = true := by decide +kernel
def F_X3 (G : GW) (n j : Nat) (C : Nat → va_E) : Nat → va_E := (va_up (va_up (va_up (va_up (va_up (va_up (va_up (va_up C (n) (.inl (gI G, (13, .inl (fun _ => 0))))) j (.inr (3, [.ref (gz G + (n)), .null, .null, .null, .int 0, .int 0, .int 0]))) (n + 1) (.inl (gI G, (13, .inl (fun _ => 0))))) j (.inr (3, [.ref (gz G + (n)), .ref (gz G + (n + 1)), .null, .null, .int 0, .int 0, .int 0]))) (n + 2) (.inl (gI G, (13, .inl (fun _ => 0))))) j (.inr (3, [.ref (gz G + (n)), .ref (gz G + (n + 1)), .ref (gz G + (n + 2)), .null, .int 0, .int 0, .int 0]))) (n + 3) (.inl (gI G, (3, .inl (fun _ => 0))))) j (.inr (3, [.ref (gz G + (n)), .ref (gz G + (n + 1)), .ref (gz G + (n + 2)), .ref (gz G + (n + 3)), .int 0, .int 0, .int 0])))
theorem F_X3_ne {G : GW} {n j i : Nat} {C : Nat → va_E} (h : i < n) (h2 : i ≠ j) : F_X3 G n j C i = C i := by
  unfold F_X3
  repeat first | rw [upC_ne (by omega)]
set_option maxHeartbeats 4000000 in
set_option maxRecDepth 100000 in
theorem c_X3_init {l : Launch} (G : GW) (n j : Nat) (C : Nat → va_E) (hj : j < n) (h0 : C j = .inr (3, [.null, .null, .null, .null, .int 0, .int 0, .int 0])) : CtrC G l yX3_init cX3_init 1 1 4 42 n (n + 4) j C (F_X3 G n j C) := by
  refine ctrC_of (by decide) rfl (by decide) ?_
  intro X hXl hR hX
  have hX : OkC G X cX3_init 1 RX3 1 4 42 := hX
  unfold F_X3
  refine c_aload_n 0 (m := 1) hX (dec_of D_X3_init (i := 0) rfl) rfl rfl rfl ?_
  refine c_obj (m := 4) hX (dec_of D_X3_init (i := 1) rfl) rfl (by decide) wd_288 wd_113 wd_114 ?_
  refine c_aload_n 0 (m := 5) hX (dec_of D_X3_init (i := 2) rfl) rfl rfl rfl ?_
  refine c_bipush (v := 13) (m := 7) hX (dec_of D_X3_init (i := 3) rfl) rfl (by decide) ?_
  refine c_newa (ty := .int) (N := 13) (e := (13, .inl (fun _ => 0))) (cA := gI G) (n1 := n + 1) (a1 := 1) (b1 := 13) 0 (m := 9) hX (dec_of D_X3_init (i := 4) rfl) rfl wd_153 rfl rfl (fun _ => Iff.rfl) (fun _ => rfl) (by decide) (by decide) (by decide) rfl rfl rfl (by decide) (by decide) ?_
  refine c_putF (p := 0) (fs := [.null, .null, .null, .null, .int 0, .int 0, .int 0]) (m := 12) hX cls3 (by omega) (by rw [upC_ne (by omega)]; exact h0) (dec_of D_X3_init (i := 5) rfl) rfl (by decide) wd_289 rfl rfl rfl rfl (Nat.le_of_ble_eq_true rfl) ?_
  refine c_aload_n 0 (m := 13) hX (dec_of D_X3_init (i := 6) rfl) rfl rfl rfl ?_
  refine c_bipush (v := 13) (m := 15) hX (dec_of D_X3_init (i := 7) rfl) rfl (by decide) ?_
  refine c_newa (ty := .int) (N := 13) (e := (13, .inl (fun _ => 0))) (cA := gI G) (n1 := n + 2) (a1 := 2) (b1 := 26) 0 (m := 17) hX (dec_of D_X3_init (i := 8) rfl) rfl wd_153 rfl rfl (fun _ => Iff.rfl) (fun _ => rfl) (by decide) (by decide) (by decide) rfl rfl rfl (by decide) (by decide) ?_
  refine c_putF (p := 1) (fs := [.ref (gz G + (n)), .null, .null, .null, .int 0, .int 0, .int 0]) (m := 20) hX cls3 (by omega) (by rw [upC_ne (by omega), upC_pos] <;> first | done | rfl) (dec_of D_X3_init (i := 9) rfl) rfl (by decide) wd_292 rfl rfl rfl rfl (Nat.le_of_ble_eq_true rfl) ?_
  refine c_aload_n 0 (m := 21) hX (dec_of D_X3_init (i := 10) rfl) rfl rfl rfl ?_
  refine c_bipush (v := 13) (m := 23) hX (dec_of D_X3_init (i := 11) rfl) rfl (by decide) ?_
  refine c_newa (ty := .int) (N := 13) (e := (13, .inl (fun _ => 0))) (cA := gI G) (n1 := n + 3) (a1 := 3) (b1 := 39) 0 (m := 25) hX (dec_of D_X3_init (i := 12) rfl) rfl wd_153 rfl rfl (fun _ => Iff.rfl) (fun _ => rfl) (by decide) (by decide) (by decide) rfl rfl rfl (by decide) (by decide) ?_
  refine c_putF (p := 2) (fs := [.ref (gz G + (n)), .ref (gz G + (n + 1)), .null, .null, .int 0, .int 0, .int 0]) (m := 28) hX cls3 (by omega) (by rw [upC_ne (by omega), upC_pos] <;> first | done | rfl) (dec_of D_X3_init (i := 13) rfl) rfl (by decide) wd_294 rfl rfl rfl rfl (Nat.le_of_ble_eq_true rfl) ?_
  refine c_aload_n 0 (m := 29) hX (dec_of D_X3_init (i := 14) rfl) rfl rfl rfl ?_
  refine c_iconst (v := 3) (m := 30) hX (dec_of D_X3_init (i := 15) rfl) rfl (by decide) ?_
  refine c_newa (ty := .int) (N := 3) (e := (3, .inl (fun _ => 0))) (cA := gI G) (n1 := n + 4) (a1 := 4) (b1 := 42) 0 (m := 32) hX (dec_of D_X3_init (i := 16) rfl) rfl wd_153 rfl rfl (fun _ => Iff.rfl) (fun _ => rfl) (by decide) (by decide) (by decide) rfl rfl rfl (by decide) (by decide) ?_
  refine c_putF (p := 3) (fs := [.ref (gz G + (n)), .ref (gz G + (n + 1)), .ref (gz G + (n + 2)), .null, .int 0, .int 0, .int 0]) (m := 35) hX cls3 (by omega) (by rw [upC_ne (by omega), upC_pos] <;> first | done | rfl) (dec_of D_X3_init (i := 17) rfl) rfl (by decide) wd_296 rfl rfl rfl rfl (Nat.le_of_ble_eq_true rfl) ?_
  exact c_ret hX hR (dec_of D_X3_init (i := 18) rfl) rfl rfl
def T_X1_init : List (Nat × Instr × Nat) := [(0, .aload_n 0, 1), (1, .invokespecial 3, 3), (4, .aload_n 0, 1), (5, .bipush 16, 2), (7, .newarray .int, 2), (9, .putfield 9, 3), (12, .aload_n 0, 1), (13, .bipush 16, 2), (15, .newarray .long, 2), (17, .putfield 15, 3), (20, .return_, 1)]
theorem D_X1_init : dchk cX1_init T_X1_init = true := by decide +kernel
def F_X1 (G : GW) (n j : Nat) (C : Nat → va_E) : Nat → va_E := (va_up (va_up (va_up (va_up C (n) (.inl (gI G, (16, .inl (fun _ => 0))))) j (.inr (1, [.ref (gz G + (n)), .null]))) (n + 1) (.inl (gJ G, (16, .inr (.inl (fun _ => 0)))))) j (.inr (1, [.ref (gz G + (n)), .ref (gz G + (n + 1))])))
theorem F_X1_ne {G : GW} {n j i : Nat} {C : Nat → va_E} (h : i < n) (h2 : i ≠ j) : F_X1 G n j C i = C i := by
  unfold F_X1
  repeat first | rw [upC_ne (by omega)]
set_option maxHeartbeats 4000000 in
set_option maxRecDepth 100000 in
theorem c_X1_init {l : Launch} (G : GW) (n j : Nat) (C : Nat → va_E) (hj : j < n) (h0 : C j = .inr (1, [.null, .null])) : CtrC G l yX1_init cX1_init 1 1 2 32 n (n + 2) j C (F_X1 G n j C) := by
  refine ctrC_of (by decide) rfl (by decide) ?_
  intro X hXl hR hX
  have hX : OkC G X cX1_init 1 RX1 1 2 32 := hX
  unfold F_X1
  refine c_aload_n 0 (m := 1) hX (dec_of D_X1_init (i := 0) rfl) rfl rfl rfl ?_
  refine c_obj (m := 4) hX (dec_of D_X1_init (i := 1) rfl) rfl (by decide) wd_337 wd_113 wd_114 ?_
  refine c_aload_n 0 (m := 5) hX (dec_of D_X1_init (i := 2) rfl) rfl rfl rfl ?_
  refine c_bipush (v := 16) (m := 7) hX (dec_of D_X1_init (i := 3) rfl) rfl (by decide) ?_
  refine c_newa (ty := .int) (N := 16) (e := (16, .inl (fun _ => 0))) (cA := gI G) (n1 := n + 1) (a1 := 1) (b1 := 16) 0 (m := 9) hX (dec_of D_X1_init (i := 4) rfl) rfl wd_153 rfl rfl (fun _ => Iff.rfl) (fun _ => rfl) (by decide) (by decide) (by decide) rfl rfl rfl (by decide) (by decide) ?_
  refine c_putF (p := 0) (fs := [.null, .null]) (m := 12) hX cls1 (by omega) (by rw [upC_ne (by omega)]; exact h0) (dec_of D_X1_init (i := 5) rfl) rfl (by decide) wd_338 rfl rfl rfl rfl (Nat.le_of_ble_eq_true rfl) ?_
  refine c_aload_n 0 (m := 13) hX (dec_of D_X1_init (i := 6) rfl) rfl rfl rfl ?_
  refine c_bipush (v := 16) (m := 15) hX (dec_of D_X1_init (i := 7) rfl) rfl (by decide) ?_
  refine c_newa (ty := .long) (N := 16) (e := (16, .inr (.inl (fun _ => 0)))) (cA := gJ G) (n1 := n + 2) (a1 := 2) (b1 := 32) 1 (m := 17) hX (dec_of D_X1_init (i := 8) rfl) rfl wd_154 rfl rfl (fun _ => Iff.rfl) (fun _ => rfl) (by decide) (by decide) (by decide) rfl rfl rfl (by decide) (by decide) ?_
  refine c_putF (p := 1) (fs := [.ref (gz G + (n)), .null]) (m := 20) hX cls1 (by omega) (by rw [upC_ne (by omega), upC_pos] <;> first | done | rfl) (dec_of D_X1_init (i := 9) rfl) rfl (by decide) wd_341 rfl rfl rfl rfl (Nat.le_of_ble_eq_true rfl) ?_
  exact c_ret hX hR (dec_of D_X1_init (i := 10) rfl) rfl rfl
def T_X6_init : List (Nat × Instr × Nat) := [(0, .aload_n 0, 1), (1, .invokespecial 3, 3), (4, .aload_n 0, 1), (5, .new 9, 3), (8, .dup, 1), (9, .invokespecial 11, 3), (12, .putfield 12, 3), (15, .return_, 1)]
theorem D_X6_init : dchk cX6_init T_X6_init = true := by decide +kernel
def F_X6 (G : GW) (n j : Nat) (C : Nat → va_E) : Nat → va_E := (va_up (F_X3 G (n + 1) (n) (va_up C (n) (.inr (3, [.null, .null, .null, .null, .int 0, .int 0, .int 0])))) j (.inr (6, [.ref (gz G + (n))])))
theorem F_X6_ne {G : GW} {n j i : Nat} {C : Nat → va_E} (h : i < n) (h2 : i ≠ j) : F_X6 G n j C i = C i := by
  unfold F_X6
  repeat first | rw [upC_ne (by omega)] | rw [F_X3_ne (by omega) (by omega)]
set_option maxHeartbeats 4000000 in
set_option maxRecDepth 100000 in
theorem c_X6_init {l : Launch} (G : GW) (n j : Nat) (C : Nat → va_E) (hj : j < n) (h0 : C j = .inr (6, [.null])) : CtrC G l yX6_init cX6_init 1 2 5 49 n (n + 5) j C (F_X6 G n j C) := by
  refine ctrC_of (by decide) rfl (by decide) ?_
  intro X hXl hR hX
  have hX : OkC G X cX6_init 1 RX6 2 5 49 := hX
  unfold F_X6
  refine c_aload_n 0 (m := 1) hX (dec_of D_X6_init (i := 0) rfl) rfl rfl rfl ?_
  refine c_obj (m := 4) hX (dec_of D_X6_init (i := 1) rfl) rfl (by decide) wd_325 wd_113 wd_114 ?_
  refine c_aload_n 0 (m := 5) hX (dec_of D_X6_init (i := 2) rfl) rfl rfl rfl ?_
  refine c_new (fs := [.null, .null, .null, .null, .int 0, .int 0, .int 0]) (n1 := n + 1) (a1 := 1) (b1 := 7) (m := 8) hX cls3 (dec_of D_X6_init (i := 3) rfl) rfl wd_326 wd_284 wd_89 df3 rfl rfl rfl (by decide) (by decide) ?_
  refine c_dup (m := 9) hX (dec_of D_X6_init (i := 4) rfl) rfl rfl ?_
  refine c_ctorN (host := RX9) (n' := n + 5) (a1 := 5) (b1 := 49) (m := 12) hX (dec_of D_X6_init (i := 5) rfl) rfl (c_X3_init (l := _) G (n + 1) (n) _ (by omega) upC_pos) wd_287 wd_286 wd_89 (List.mem_of_getElem? (i := 8) rfl) (by decide +kernel) rfl (by decide) (by decide) rfl rfl (by decide) (by decide) (Nat.le_of_ble_eq_true rfl) ?_
  refine c_putF (p := 0) (fs := [.null]) (m := 15) hX cls6 (by omega) (by rw [F_X3_ne (by omega) (by omega), upC_ne (by omega)]; exact h0) (dec_of D_X6_init (i := 6) rfl) rfl (by decide) wd_328 rfl rfl rfl rfl (Nat.le_of_ble_eq_true rfl) ?_
  exact c_ret hX hR (dec_of D_X6_init (i := 7) rfl) rfl rfl
def T_X4_init : List (Nat × Instr × Nat) := [(0, .aload_n 0, 1), (1, .invokespecial 3, 3), (4, .aload_n 0, 1), (5, .new 9, 3), (8, .dup, 1), (9, .invokespecial 11, 3), (12, .putfield 12, 3), (15, .aload_n 0, 1), (16, .bipush 6, 2), (18, .newarray .long, 2), (20, .putfield 18, 3), (23, .aload_n 0, 1), (24, .bipush 16, 2), (26, .newarray .long, 2), (28, .putfield 22, 3), (31, .aload_n 0, 1), (32, .bipush 8, 2), (34, .newarray .long, 2), (36, .putfield 25, 3), (39, .aload_n 0, 1), (40, .iconst (-1), 1), (41, .putfield 28, 3), (44, .return_, 1)]
theorem D_X4_init : dchk cX4_init T_X4_init = true := by decide +kernel
def F_X4 (G : GW) (n j : Nat) (C : Nat → va_E) : Nat → va_E := (va_up (va_up (va_up (va_up (va_up (va_up (va_up (va_up (F_X7 G (n + 1) (n) (va_up C (n) (.inr (7, [.null, .null, .null, .null, .int 0, .int 0, .int 0])))) j (.inr (4, [.ref (gz G + (n)), .null, .null, .null, .int 0, .int 0, .int 0, .int 0, .int 0]))) (n + 5) (.inl (gJ G, (6, .inr (.inl (fun _ => 0)))))) j (.inr (4, [.ref (gz G + (n)), .ref (gz G + (n + 5)), .null, .null, .int 0, .int 0, .int 0, .int 0, .int 0]))) (n + 6) (.inl (gJ G, (16, .inr (.inl (fun _ => 0)))))) j (.inr (4, [.ref (gz G + (n)), .ref (gz G + (n + 5)), .ref (gz G + (n + 6)), .null, .int 0, .int 0, .int 0, .int 0, .int 0]))) (n + 7) (.inl (gJ G, (8, .inr (.inl (fun _ => 0)))))) j (.inr (4, [.ref (gz G + (n)), .ref (gz G + (n + 5)), .ref (gz G + (n + 6)), .ref (gz G + (n + 7)), .int 0, .int 0, .int 0, .int 0, .int 0]))) j (.inr (4, [.ref (gz G + (n)), .ref (gz G + (n + 5)), .ref (gz G + (n + 6)), .ref (gz G + (n + 7)), .int 0, .int 0, .int 0, .int 0, .int (-1)])))
theorem F_X4_ne {G : GW} {n j i : Nat} {C : Nat → va_E} (h : i < n) (h2 : i ≠ j) : F_X4 G n j C i = C i := by
  unfold F_X4
  repeat first | rw [upC_ne (by omega)] | rw [F_X7_ne (by omega) (by omega)]
set_option maxHeartbeats 4000000 in
set_option maxRecDepth 100000 in
theorem c_X4_init {l : Launch} (G : GW) (n j : Nat) (C : Nat → va_E) (hj : j < n) (h0 : C j = .inr (4, [.null, .null, .null, .null, .int 0, .int 0, .int 0, .int 0, .int 0])) : CtrC G l yX4_init cX4_init 1 2 8 3640 n (n + 8) j C (F_X4 G n j C) := by
  refine ctrC_of (by decide) rfl (by decide) ?_
  intro X hXl hR hX
  have hX : OkC G X cX4_init 1 RX4 2 8 3640 := hX
  unfold F_X4
  refine c_aload_n 0 (m := 1) hX (dec_of D_X4_init (i := 0) rfl) rfl rfl rfl ?_
  refine c_obj (m := 4) hX (dec_of D_X4_init (i := 1) rfl) rfl (by decide) wd_120 wd_113 wd_114 ?_
  refine c_aload_n 0 (m := 5) hX (dec_of D_X4_init (i := 2) rfl) rfl rfl rfl ?_
  refine c_new (fs := [.null, .null, .null, .null, .int 0, .int 0, .int 0]) (n1 := n + 1) (a1 := 1) (b1 := 7) (m := 8) hX cls7 (dec_of D_X4_init (i := 3) rfl) rfl wd_121 wd_122 wd_85 df7 rfl rfl rfl (by decide) (by decide) ?_
  refine c_dup (m := 9) hX (dec_of D_X4_init (i := 4) rfl) rfl rfl ?_
  refine c_ctorN (host := RX9) (n' := n + 5) (a1 := 5) (b1 := 3610) (m := 12) hX (dec_of D_X4_init (i := 5) rfl) rfl (c_X7_init (l := _) G (n + 1) (n) _ (by omega) upC_pos) wd_125 wd_124 wd_85 (List.mem_of_getElem? (i := 1) rfl) (by decide +kernel) rfl (by decide) (by decide) rfl rfl (by decide) (by decide) (Nat.le_of_ble_eq_true rfl) ?_
  refine c_putF (p := 0) (fs := [.null, .null, .null, .null, .int 0, .int 0, .int 0, .int 0, .int 0]) (m := 15) hX cls4 (by omega) (by rw [F_X7_ne (by omega) (by omega), upC_ne (by omega)]; exact h0) (dec_of D_X4_init (i := 6) rfl) rfl (by decide) wd_155 rfl rfl rfl rfl (Nat.le_of_ble_eq_true rfl) ?_
  refine c_aload_n 0 (m := 16) hX (dec_of D_X4_init (i := 7) rfl) rfl rfl rfl ?_
  refine c_bipush (v := 6) (m := 18) hX (dec_of D_X4_init (i := 8) rfl) rfl (by decide) ?_
  refine c_newa (ty := .long) (N := 6) (e := (6, .inr (.inl (fun _ => 0)))) (cA := gJ G) (n1 := n + 6) (a1 := 6) (b1 := 3616) 1 (m := 20) hX (dec_of D_X4_init (i := 9) rfl) rfl wd_154 rfl rfl (fun _ => Iff.rfl) (fun _ => rfl) (by decide) (by decide) (by decide) rfl rfl rfl (by decide) (by decide) ?_
  refine c_putF (p := 1) (fs := [.ref (gz G + (n)), .null, .null, .null, .int 0, .int 0, .int 0, .int 0, .int 0]) (m := 23) hX cls4 (by omega) (by rw [upC_ne (by omega), upC_pos] <;> first | done | rfl) (dec_of D_X4_init (i := 10) rfl) rfl (by decide) wd_157 rfl rfl rfl rfl (Nat.le_of_ble_eq_true rfl) ?_
  refine c_aload_n 0 (m := 24) hX (dec_of D_X4_init (i := 11) rfl) rfl rfl rfl ?_
  refine c_bipush (v := 16) (m := 26) hX (dec_of D_X4_init (i := 12) rfl) rfl (by decide) ?_
  refine c_newa (ty := .long) (N := 16) (e := (16, .inr (.inl (fun _ => 0)))) (cA := gJ G) (n1 := n + 7) (a1 := 7) (b1 := 3632) 1 (m := 28) hX (dec_of D_X4_init (i := 13) rfl) rfl wd_154 rfl rfl (fun _ => Iff.rfl) (fun _ => rfl) (by decide) (by decide) (by decide) rfl rfl rfl (by decide) (by decide) ?_
  refine c_putF (p := 2) (fs := [.ref (gz G + (n)), .ref (gz G + (n + 5)), .null, .null, .int 0, .int 0, .int 0, .int 0, .int 0]) (m := 31) hX cls4 (by omega) (by rw [upC_ne (by omega), upC_pos] <;> first | done | rfl) (dec_of D_X4_init (i := 14) rfl) rfl (by decide) wd_158 rfl rfl rfl rfl (Nat.le_of_ble_eq_true rfl) ?_
  refine c_aload_n 0 (m := 32) hX (dec_of D_X4_init (i := 15) rfl) rfl rfl rfl ?_
  refine c_bipush (v := 8) (m := 34) hX (dec_of D_X4_init (i := 16) rfl) rfl (by decide) ?_
  refine c_newa (ty := .long) (N := 8) (e := (8, .inr (.inl (fun _ => 0)))) (cA := gJ G) (n1 := n + 8) (a1 := 8) (b1 := 3640) 1 (m := 36) hX (dec_of D_X4_init (i := 17) rfl) rfl wd_154 rfl rfl (fun _ => Iff.rfl) (fun _ => rfl) (by decide) (by decide) (by decide) rfl rfl rfl (by decide) (by decide) ?_
  refine c_putF (p := 3) (fs := [.ref (gz G + (n)), .ref (gz G + (n + 5)), .ref (gz G + (n + 6)), .null, .int 0, .int 0, .int 0, .int 0, .int 0]) (m := 39) hX cls4 (by omega) (by rw [upC_ne (by omega), upC_pos] <;> first | done | rfl) (dec_of D_X4_init (i := 18) rfl) rfl (by decide) wd_159 rfl rfl rfl rfl (Nat.le_of_ble_eq_true rfl) ?_
  refine c_aload_n 0 (m := 40) hX (dec_of D_X4_init (i := 19) rfl) rfl rfl rfl ?_
  refine c_iconst (v := (-1)) (m := 41) hX (dec_of D_X4_init (i := 20) rfl) rfl (by decide) ?_
  refine c_put (p := 8) (fs := [.ref (gz G + (n)), .ref (gz G + (n + 5)), .ref (gz G + (n + 6)), .ref (gz G + (n + 7)), .int 0, .int 0, .int 0, .int 0, .int 0]) (m := 44) hX cls4 (by omega) (by rw [upC_pos] <;> first | done | rfl) (dec_of D_X4_init (i := 21) rfl) rfl (by decide) wd_165 rfl rfl rfl (Nat.le_of_ble_eq_true rfl) ?_
  exact c_ret hX hR (dec_of D_X4_init (i := 22) rfl) rfl rfl
def T_X0_init : List (Nat × Instr × Nat) := [(0, .aload_n 0, 1), (1, .invokespecial 3, 3), (4, .aload_n 0, 1), (5, .new 9, 3), (8, .dup, 1), (9, .invokespecial 11, 3), (12, .putfield 12, 3), (15, .aload_n 0, 1), (16, .bipush 6, 2), (18, .newarray .int, 2), (20, .putfield 18, 3), (23, .aload_n 0, 1), (24, .bipush 6, 2), (26, .newarray .int, 2), (28, .putfield 22, 3), (31, .aload_n 0, 1), (32, .bipush 8, 2), (34, .newarray .int, 2), (36, .putfield 25, 3), (39, .aload_n 0, 1), (40, .bipush 8, 2), (42, .newarray .int, 2), (44, .putfield 28, 3), (47, .aload_n 0, 1), (48, .bipush 96, 2), (50, .newarray .int, 2), (52, .putfield 31, 3), (55, .aload_n 0, 1), (56, .bipush 96, 2), (58, .newarray .int, 2), (60, .putfield 34, 3), (63, .aload_n 0, 1), (64, .sipush 240, 3), (67, .newarray .int, 2), (69, .putfield 37, 3), (72, .aload_n 0, 1), (73, .sipush 2160, 3), (76, .newarray .int, 2), (78, .putfield 40, 3), (81, .return_, 1)]
theorem D_X0_init : dchk cX0_init T_X0_init = true := by decide +kernel
def F_X0 (G : GW) (n j : Nat) (C : Nat → va_E) : Nat → va_E := (va_up (va_up (va_up (va_up (va_up (va_up (va_up (va_up (va_up (va_up (va_up (va_up (va_up (va_up (va_up (va_up (va_up (F_X8 G (n + 1) (n) (va_up C (n) (.inr (8, [.null, .null, .null, .null])))) j (.inr (0, [.ref (gz G + (n)), .null, .null, .null, .null, .null, .null, .null, .null, .int 0]))) (n + 5) (.inl (gI G, (6, .inl (fun _ => 0))))) j (.inr (0, [.ref (gz G + (n)), .ref (gz G + (n + 5)), .null, .null, .null, .null, .null, .null, .null, .int 0]))) (n + 6) (.inl (gI G, (6, .inl (fun _ => 0))))) j (.inr (0, [.ref (gz G + (n)), .ref (gz G + (n + 5)), .ref (gz G + (n + 6)), .null, .null, .null, .null, .null, .null, .int 0]))) (n + 7) (.inl (gI G, (8, .inl (fun _ => 0))))) j (.inr (0, [.ref (gz G + (n)), .ref (gz G + (n + 5)), .ref (gz G + (n + 6)), .ref (gz G + (n + 7)), .null, .null, .null, .null, .null, .int 0]))) (n + 8) (.inl (gI G, (8, .inl (fun _ => 0))))) j (.inr (0, [.ref (gz G + (n)), .ref (gz G + (n + 5)), .ref (gz G + (n + 6)), .ref (gz G + (n + 7)), .ref (gz G + (n + 8)), .null, .null, .null, .null, .int 0]))) (n + 9) (.inl (gI G, (96, .inl (fun _ => 0))))) j (.inr (0, [.ref (gz G + (n)), .ref (gz G + (n + 5)), .ref (gz G + (n + 6)), .ref (gz G + (n + 7)), .ref (gz G + (n + 8)), .ref (gz G + (n + 9)), .null, .null, .null, .int 0]))) (n + 10) (.inl (gI G, (96, .inl (fun _ => 0))))) j (.inr (0, [.ref (gz G + (n)), .ref (gz G + (n + 5)), .ref (gz G + (n + 6)), .ref (gz G + (n + 7)), .ref (gz G + (n + 8)), .ref (gz G + (n + 9)), .ref (gz G + (n + 10)), .null, .null, .int 0]))) (n + 11) (.inl (gI G, (240, .inl (fun _ => 0))))) j (.inr (0, [.ref (gz G + (n)), .ref (gz G + (n + 5)), .ref (gz G + (n + 6)), .ref (gz G + (n + 7)), .ref (gz G + (n + 8)), .ref (gz G + (n + 9)), .ref (gz G + (n + 10)), .ref (gz G + (n + 11)), .null, .int 0]))) (n + 12) (.inl (gI G, (2160, .inl (fun _ => 0))))) j (.inr (0, [.ref (gz G + (n)), .ref (gz G + (n + 5)), .ref (gz G + (n + 6)), .ref (gz G + (n + 7)), .ref (gz G + (n + 8)), .ref (gz G + (n + 9)), .ref (gz G + (n + 10)), .ref (gz G + (n + 11)), .ref (gz G + (n + 12)), .int 0])))
theorem F_X0_ne {G : GW} {n j i : Nat} {C : Nat → va_E} (h : i < n) (h2 : i ≠ j) : F_X0 G n j C i = C i := by
  unfold F_X0
  repeat first | rw [upC_ne (by omega)] | rw [F_X8_ne (by omega) (by omega)]
set_option maxHeartbeats 4000000 in
set_option maxRecDepth 100000 in
theorem c_X0_init {l : Launch} (G : GW) (n j : Nat) (C : Nat → va_E) (hj : j < n) (h0 : C j = .inr (0, [.null, .null, .null, .null, .null, .null, .null, .null, .null, .int 0])) : CtrC G l yX0_init cX0_init 1 2 13 2692 n (n + 13) j C (F_X0 G n j C) := by
  refine ctrC_of (by decide) rfl (by decide) ?_
  intro X hXl hR hX
  have hX : OkC G X cX0_init 1 RX0 2 13 2692 := hX
  unfold F_X0
  refine c_aload_n 0 (m := 1) hX (dec_of D_X0_init (i := 0) rfl) rfl rfl rfl ?_
  refine c_obj (m := 4) hX (dec_of D_X0_init (i := 1) rfl) rfl (by decide) wd_191 wd_113 wd_114 ?_
  refine c_aload_n 0 (m := 5) hX (dec_of D_X0_init (i := 2) rfl) rfl rfl rfl ?_
  refine c_new (fs := [.null, .null, .null, .null]) (n1 := n + 1) (a1 := 1) (b1 := 4) (m := 8) hX cls8 (dec_of D_X0_init (i := 3) rfl) rfl wd_192 wd_193 wd_87 df8 rfl rfl rfl (by decide) (by decide) ?_
  refine c_dup (m := 9) hX (dec_of D_X0_init (i := 4) rfl) rfl rfl ?_
  refine c_ctorN (host := RX9) (n' := n + 5) (a1 := 5) (b1 := 72) (m := 12) hX (dec_of D_X0_init (i := 5) rfl) rfl (c_X8_init (l := _) G (n + 1) (n) _ (by omega) upC_pos) wd_196 wd_195 wd_87 (List.mem_of_getElem? (i := 3) rfl) (by decide +kernel) rfl (by decide) (by decide) rfl rfl (by decide) (by decide) (Nat.le_of_ble_eq_true rfl) ?_
  refine c_putF (p := 0) (fs := [.null, .null, .null, .null, .null, .null, .null, .null, .null, .int 0]) (m := 15) hX cls0 (by omega) (by rw [F_X8_ne (by omega) (by omega), upC_ne (by omega)]; exact h0) (dec_of D_X0_init (i := 6) rfl) rfl (by decide) wd_218 rfl rfl rfl rfl (Nat.le_of_ble_eq_true rfl) ?_
  refine c_aload_n 0 (m := 16) hX (dec_of D_X0_init (i := 7) rfl) rfl rfl rfl ?_
  refine c_bipush (v := 6) (m := 18) hX (dec_of D_X0_init (i := 8) rfl) rfl (by decide) ?_
  refine c_newa (ty := .int) (N := 6) (e := (6, .inl (fun _ => 0))) (cA := gI G) (n1 := n + 6) (a1 := 6) (b1 := 78) 0 (m := 20) hX (dec_of D_X0_init (i := 9) rfl) rfl wd_153 rfl rfl (fun _ => Iff.rfl) (fun _ => rfl) (by decide) (by decide) (by decide) rfl rfl rfl (by decide) (by decide) ?_
  refine c_putF (p := 1) (fs := [.ref (gz G + (n)), .null, .null, .null, .null, .null, .null, .null, .null, .int 0]) (m := 23) hX cls0 (by omega) (by rw [upC_ne (by omega), upC_pos] <;> first | done | rfl) (dec_of D_X0_init (i := 10) rfl) rfl (by decide) wd_220 rfl rfl rfl rfl (Nat.le_of_ble_eq_true rfl) ?_
  refine c_aload_n 0 (m := 24) hX (dec_of D_X0_init (i := 11) rfl) rfl rfl rfl ?_
  refine c_bipush (v := 6) (m := 26) hX (dec_of D_X0_init (i := 12) rfl) rfl (by decide) ?_
  refine c_newa (ty := .int) (N := 6) (e := (6, .inl (fun _ => 0))) (cA := gI G) (n1 := n + 7) (a1 := 7) (b1 := 84) 0 (m := 28) hX (dec_of D_X0_init (i := 13) rfl) rfl wd_153 rfl rfl (fun _ => Iff.rfl) (fun _ => rfl) (by decide) (by decide) (by decide) rfl rfl rfl (by decide) (by decide) ?_
  refine c_putF (p := 2) (fs := [.ref (gz G + (n)), .ref (gz G + (n + 5)), .null, .null, .null, .null, .null, .null, .null, .int 0]) (m := 31) hX cls0 (by omega) (by rw [upC_ne (by omega), upC_pos] <;> first | done | rfl) (dec_of D_X0_init (i := 14) rfl) rfl (by decide) wd_223 rfl rfl rfl rfl (Nat.le_of_ble_eq_true rfl) ?_
  refine c_aload_n 0 (m := 32) hX (dec_of D_X0_init (i := 15) rfl) rfl rfl rfl ?_
  refine c_bipush (v := 8) (m := 34) hX (dec_of D_X0_init (i := 16) rfl) rfl (by decide) ?_
  refine c_newa (ty := .int) (N := 8) (e := (8, .inl (fun _ => 0))) (cA := gI G) (n1 := n + 8) (a1 := 8) (b1 := 92) 0 (m := 36) hX (dec_of D_X0_init (i := 17) rfl) rfl wd_153 rfl rfl (fun _ => Iff.rfl) (fun _ => rfl) (by decide) (by decide) (by decide) rfl rfl rfl (by decide) (by decide) ?_
  refine c_putF (p := 3) (fs := [.ref (gz G + (n)), .ref (gz G + (n + 5)), .ref (gz G + (n + 6)), .null, .null, .null, .null, .null, .null, .int 0]) (m := 39) hX cls0 (by omega) (by rw [upC_ne (by omega), upC_pos] <;> first | done | rfl) (dec_of D_X0_init (i := 18) rfl) rfl (by decide) wd_225 rfl rfl rfl rfl (Nat.le_of_ble_eq_true rfl) ?_
  refine c_aload_n 0 (m := 40) hX (dec_of D_X0_init (i := 19) rfl) rfl rfl rfl ?_
  refine c_bipush (v := 8) (m := 42) hX (dec_of D_X0_init (i := 20) rfl) rfl (by decide) ?_
  refine c_newa (ty := .int) (N := 8) (e := (8, .inl (fun _ => 0))) (cA := gI G) (n1 := n + 9) (a1 := 9) (b1 := 100) 0 (m := 44) hX (dec_of D_X0_init (i := 21) rfl) rfl wd_153 rfl rfl (fun _ => Iff.rfl) (fun _ => rfl) (by decide) (by decide) (by decide) rfl rfl rfl (by decide) (by decide) ?_
  refine c_putF (p := 4) (fs := [.ref (gz G + (n)), .ref (gz G + (n + 5)), .ref (gz G + (n + 6)), .ref (gz G + (n + 7)), .null, .null, .null, .null, .null, .int 0]) (m := 47) hX cls0 (by omega) (by rw [upC_ne (by omega), upC_pos] <;> first | done | rfl) (dec_of D_X0_init (i := 22) rfl) rfl (by decide) wd_227 rfl rfl rfl rfl (Nat.le_of_ble_eq_true rfl) ?_
  refine c_aload_n 0 (m := 48) hX (dec_of D_X0_init (i := 23) rfl) rfl rfl rfl ?_
  refine c_bipush (v := 96) (m := 50) hX (dec_of D_X0_init (i := 24) rfl) rfl (by decide) ?_
  refine c_newa (ty := .int) (N := 96) (e := (96, .inl (fun _ => 0))) (cA := gI G) (n1 := n + 10) (a1 := 10) (b1 := 196) 0 (m := 52) hX (dec_of D_X0_init (i := 25) rfl) rfl wd_153 rfl rfl (fun _ => Iff.rfl) (fun _ => rfl) (by decide) (by decide) (by decide) rfl rfl rfl (by decide) (by decide) ?_
  refine c_putF (p := 5) (fs := [.ref (gz G + (n)), .ref (gz G + (n + 5)), .ref (gz G + (n + 6)), .ref (gz G + (n + 7)), .ref (gz G + (n + 8)), .null, .null, .null, .null, .int 0]) (m := 55) hX cls0 (by omega) (by rw [upC_ne (by omega), upC_pos] <;> first | done | rfl) (dec_of D_X0_init (i := 26) rfl) rfl (by decide) wd_229 rfl rfl rfl rfl (Nat.le_of_ble_eq_true rfl) ?_
  refine c_aload_n 0 (m := 56) hX (dec_of D_X0_init (i := 27) rfl) rfl rfl rfl ?_
  refine c_bipush (v := 96) (m := 58) hX (dec_of D_X0_init (i := 28) rfl) rfl (by decide) ?_
  refine c_newa (ty := .int) (N := 96) (e := (96, .inl (fun _ => 0))) (cA := gI G) (n1 := n + 11) (a1 := 11) (b1 := 292) 0 (m := 60) hX (dec_of D_X0_init (i := 29) rfl) rfl wd_153 rfl rfl (fun _ => Iff.rfl) (fun _ => rfl) (by decide) (by decide) (by decide) rfl rfl rfl (by decide) (by decide) ?_
  refine c_putF (p := 6) (fs := [.ref (gz G + (n)), .ref (gz G + (n + 5)), .ref (gz G + (n + 6)), .ref (gz G + (n + 7)), .ref (gz G + (n + 8)), .ref (gz G + (n + 9)), .null, .null, .null, .int 0]) (m := 63) hX cls0 (by omega) (by rw [upC_ne (by omega), upC_pos] <;> first | done | rfl) (dec_of D_X0_init (i := 30) rfl) rfl (by decide) wd_232 rfl rfl rfl rfl (Nat.le_of_ble_eq_true rfl) ?_
  refine c_aload_n 0 (m := 64) hX (dec_of D_X0_init (i := 31) rfl) rfl rfl rfl ?_
  refine c_sipush (v := 240) (m := 67) hX (dec_of D_X0_init (i := 32) rfl) rfl (by decide) ?_
  refine c_newa (ty := .int) (N := 240) (e := (240, .inl (fun _ => 0))) (cA := gI G) (n1 := n + 12) (a1 := 12) (b1 := 532) 0 (m := 69) hX (dec_of D_X0_init (i := 33) rfl) rfl wd_153 rfl rfl (fun _ => Iff.rfl) (fun _ => rfl) (by decide) (by decide) (by decide) rfl rfl rfl (by decide) (by decide) ?_
  refine c_putF (p := 7) (fs := [.ref (gz G + (n)), .ref (gz G + (n + 5)), .ref (gz G + (n + 6)), .ref (gz G + (n + 7)), .ref (gz G + (n + 8)), .ref (gz G + (n + 9)), .ref (gz G + (n + 10)), .null, .null, .int 0]) (m := 72) hX cls0 (by omega) (by rw [upC_ne (by omega), upC_pos] <;> first | done | rfl) (dec_of D_X0_init (i := 34) rfl) rfl (by decide) wd_234 rfl rfl rfl rfl (Nat.le_of_ble_eq_true rfl) ?_
  refine c_aload_n 0 (m := 73) hX (dec_of D_X0_init (i := 35) rfl) rfl rfl rfl ?_
  refine c_sipush (v := 2160) (m := 76) hX (dec_of D_X0_init (i := 36) rfl) rfl (by decide) ?_
  refine c_newa (ty := .int) (N := 2160) (e := (2160, .inl (fun _ => 0))) (cA := gI G) (n1 := n + 13) (a1 := 13) (b1 := 2692) 0 (m := 78) hX (dec_of D_X0_init (i := 37) rfl) rfl wd_153 rfl rfl (fun _ => Iff.rfl) (fun _ => rfl) (by decide) (by decide) (by decide) rfl rfl rfl (by decide) (by decide) ?_
  refine c_putF (p := 8) (fs := [.ref (gz G + (n)), .ref (gz G + (n + 5)), .ref (gz G + (n + 6)), .ref (gz G + (n + 7)), .ref (gz G + (n + 8)), .ref (gz G + (n + 9)), .ref (gz G + (n + 10)), .ref (gz G + (n + 11)), .null, .int 0]) (m := 81) hX cls0 (by omega) (by rw [upC_ne (by omega), upC_pos] <;> first | done | rfl) (dec_of D_X0_init (i := 38) rfl) rfl (by decide) wd_236 rfl rfl rfl rfl (Nat.le_of_ble_eq_true rfl) ?_
  exact c_ret hX hR (dec_of D_X0_init (i := 39) rfl) rfl rfl

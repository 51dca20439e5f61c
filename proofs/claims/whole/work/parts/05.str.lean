/-! ===== the text of words: String's own methods ===== -/
section StrRows
variable {G : GW} {X : CX} {cc : ByteArray} {nL d : Nat} {own : String} {β : Type} {Q : β → State → Prop} {σ : ST} {pc n : Nat} {lv lv' : List (Nat × Value)} {st : List Value} {P P1 P2 : Option β}
theorem s_ldcS {index a : Nat} {tx : String} (hX : Ok G X cc nL own d) (hd : decode cc pc = .ok (.ldc index, 2)) (hn : pc + 2 = n) (hZ : vk_R own index tx a (xs_ X)) (k : Sim G X nL Q σ n lv (.ref a :: st) P) : Sim G X nL Q σ pc lv st P := by
  subst hn; exact fun b hb H locs ls hl hP hS => va_ldcS hX.1 hX.2.1 hX.2.2.2.1 hZ hd (k b hb H locs ls hl hP hS)
theorem s_gets {C f t : String} {v : Value} {index : Nat} (hX : Ok G X cc nL own d) (hZ : va_Z C f t v (Fr G) (xs_ X) (xs_ X).heap) (hd : decode cc pc = .ok (.getstatic index, 3)) (hn : pc + 3 = n) (hw : Cond.fieldLink own index C f t ∈ TB) (k : Sim G X nL Q σ n lv (v :: st) P) : Sim G X nL Q σ pc lv st P := by
  subst hn; exact fun b hb H locs ls hl hP hS => va_gets hX.1 hX.2.1 hZ hS hX.2.2.2.1 (hX.2.2.2.2.1 _ hw) (fun _ h => h) hd (k b hb H locs ls hl hP hS)
theorem s_tget {C f t : String} {v : Value} {index a : Nat} (hX : Ok G X cc nL own d) (hE : va_OF C f t v a (Fr G) (xs_ X) (xs_ X).heap) (hd : decode cc pc = .ok (.getfield index, 3)) (hn : pc + 3 = n) (hw : Cond.fieldLink own index C f t ∈ TB) (k : Sim G X nL Q σ n lv (v :: st) P) : Sim G X nL Q σ pc lv (.ref a :: st) P := by
  subst hn; exact fun b hb H locs ls hl hP hS => vk_getf hX.1 hX.2.1 hE hS hX.2.2.2.1 (hX.2.2.2.2.1 _ hw) (fun _ h => h) hd (k b hb H locs ls hl hP hS)
theorem s_tlen {ty : FieldType} {a N : Nat} {f : Nat → Value} {v : Int32} (hX : Ok G X cc nL own d) (hT : va_T ty a N f (Fr G) (xs_ X) (xs_ X).heap) (hv : Int32.ofNat N = v) (hd : decode cc pc = .ok (.arraylength, 1)) (hn : pc + 1 = n) (k : Sim G X nL Q σ n lv (.int v :: st) P) : Sim G X nL Q σ pc lv (.ref a :: st) P := by
  subst hn; exact fun b hb H locs ls hl hP hS => va_tlen hX.1 hX.2.1 hT hS hv hd (k b hb H locs ls hl hP hS)
theorem s_tb {a N : Nat} {f : Nat → Value} {j : Int32} {v : Value} (hX : Ok G X cc nL own d) (hT : va_T .byte a N f (Fr G) (xs_ X) (xs_ X).heap) (hin : vp_in j N) (hv : f j.toNatClampNeg = v) (hd : decode cc pc = .ok (.baload, 1)) (hn : pc + 1 = n) (k : Sim G X nL Q σ n lv (v :: st) P) : Sim G X nL Q σ pc lv (.int j :: .ref a :: st) P := by
  subst hn; exact fun b hb H locs ls hl hP hS => va_tb hX.1 hX.2.1 hT hS hin hv hd (k b hb H locs ls hl hP hS)
theorem s_i2c {x v : Int32} (hX : Ok G X cc nL own d) (hd : decode cc pc = .ok (.i2c, 1)) (hn : pc + 1 = n) (hv : (x.toUInt32 % 65536).toInt32 = v) (k : Sim G X nL Q σ n lv (.int v :: st) P) : Sim G X nL Q σ pc lv (.int x :: st) P := by
  subst hn; exact fun b hb H locs ls hl hP hS => lv_i2c hX.1 hX.2.1 hd hv (k b hb H locs ls hl hP hS)
theorem s_callT {γ : Type} {index : Nat} {y : MethodName} {bytes : ByteArray} {maxL na d' : Nat} {ret : Option FieldType} {As rest : List Value} {out : γ → Option Value × ST} {Pc : Option γ} {K : γ → Option β} (hX : Ok G X cc nL own d) (L : LkV own index "java/lang/String" y bytes maxL ret na) (hd : decode cc pc = .ok (.invokevirtual index, 3)) (hn : pc + 3 = n) (hdd : d' + 1 ≤ d) (hC : Ctr G X.2.1 y bytes maxL ret d' (.ref (ga G 140 0) :: As) σ out Pc) (hst : st = As.reverse ++ .ref (ga G 140 0) :: rest) (hna : As.length = na) (hroom : (rest.map fun v => v.category).sum ≤ 8) (k : ∀ r, Sim G X nL Q (out r).2 n lv ((out r).1.toList ++ rest) (K r)) : Sim G X nL Q σ pc lv st (bd_ Pc K) := by
  subst hn; subst hst; intro b hb H locs ls hl hP hS
  cases hPc : Pc with
  | none => rw [hPc] at hb; cases hb
  | some r =>
    rw [hPc] at hb
    obtain ⟨h1, h2, h3, h4, h5, h6, h7, h8, h9, h10, h11⟩ := id hX
    have hmax : maxL ≤ 21 := L.2.2.2.2.2.2
    refine s_back (va_runV (S := ⟨h1, h2, h3, h4, h5⟩) (hC r hPc) (cw_V h5 L (by omega) (by omega)) ⟨pcc_blind G _ σ, vk_recv (i := 0) h6.2.2.1 (by decide) hS, fun U hU hW => ⟨rfl, by rw [hU]; exact hP, h6.at hW hU hS⟩⟩ rfl hna hl.1 rfl (lv_room hroom) hd ⟨h10, h11⟩) hS (fun H1 locs1 hP1 hS1 => k r b hb H1 locs1 ls hl hP1 hS1)
theorem s_callTI {index : Nat} {y : MethodName} {bytes : ByteArray} {maxL na d' : Nat} {ret : Option FieldType} {As rest : List Value} {Pc : Option Int32} {K : Int32 → Option β} (hX : Ok G X cc nL own d) (L : LkV own index "java/lang/String" y bytes maxL ret na) (hd : decode cc pc = .ok (.invokevirtual index, 3)) (hn : pc + 3 = n) (hdd : d' + 1 ≤ d) (hC : Ctr G X.2.1 y bytes maxL ret d' (.ref (ga G 140 0) :: As) σ (oI σ) Pc) (hst : st = As.reverse ++ .ref (ga G 140 0) :: rest) (hna : As.length = na) (hroom : (rest.map fun v => v.category).sum ≤ 8) (k : ∀ v, Sim G X nL Q σ n lv (.int v :: rest) (K v)) : Sim G X nL Q σ pc lv st (bd_ Pc K) := s_callT hX L hd hn hdd hC hst hna hroom k
end StrRows
def Wch (j : Nat) : Int32 := wbytes.getD j 0
theorem Wch_ok : ∀ j, j < 79 → (((Wch j &&& 255).toUInt32 % 65536).toInt32 = Wch j ∧ narrow .char (.int (Wch j)) = .int (Wch j)) := by decide +kernel
def Jk_len (_ : ST) : Option Int32 := some 79
def Jk_chr (_ : ST) (j : Int32) : Option Int32 := if inB j 79 = true then some (Wch j.toNatClampNeg) else none
def T_J0_coder_7d493 : List (Nat × Instr × Nat) := [(0, .getstatic 38, 3), (3, .ifCond .eq 10, 3), (6, .aload_n 0, 1), (7, .getfield 15, 3), (10, .goto 4, 3), (13, .iconst 1, 1), (14, .ireturn, 1)]
theorem D_J0_coder_7d493 : dchk cJ0_coder_7d493 T_J0_coder_7d493 = true := by decide +kernel
def T_J0_isLatin1_aae02 : List (Nat × Instr × Nat) := [(0, .getstatic 38, 3), (3, .ifCond .eq 14, 3), (6, .aload_n 0, 1), (7, .getfield 15, 3), (10, .ifCond .ne 7, 3), (13, .iconst 1, 1), (14, .goto 4, 3), (17, .iconst 0, 1), (18, .ireturn, 1)]
theorem D_J0_isLatin1_aae02 : dchk cJ0_isLatin1_aae02 T_J0_isLatin1_aae02 = true := by decide +kernel
def T_J0_length_8abf5 : List (Nat × Instr × Nat) := [(0, .aload_n 0, 1), (1, .getfield 9, 3), (4, .arraylength, 1), (5, .aload_n 0, 1), (6, .invokevirtual 335, 3), (9, .ishr, 1), (10, .ireturn, 1)]
theorem D_J0_length_8abf5 : dchk cJ0_length_8abf5 T_J0_length_8abf5 = true := by decide +kernel
def T_J3_checkIndex_8e157 : List (Nat × Instr × Nat) := [(0, .iload_n 0, 1), (1, .ifCond .lt 8, 3), (4, .iload_n 0, 1), (5, .iload_n 1, 1), (6, .if_icmp .lt 10, 3), (9, .aload_n 2, 1), (10, .iload_n 0, 1), (11, .iload_n 1, 1), (12, .invokestatic 95, 3), (15, .athrow, 1), (16, .iload_n 0, 1), (17, .ireturn, 1)]
theorem D_J3_checkIndex_8e157 : dchk cJ3_checkIndex_8e157 T_J3_checkIndex_8e157 = true := by decide +kernel
def T_J0_checkIndex_df160 : List (Nat × Instr × Nat) := [(0, .iload_n 0, 1), (1, .iload_n 1, 1), (2, .getstatic 1053, 3), (5, .invokestatic 1059, 3), (8, .pop, 1), (9, .return_, 1)]
theorem D_J0_checkIndex_df160 : dchk cJ0_checkIndex_df160 T_J0_checkIndex_df160 = true := by decide +kernel
def T_J1_charAt_3b067 : List (Nat × Instr × Nat) := [(0, .iload_n 1, 1), (1, .aload_n 0, 1), (2, .arraylength, 1), (3, .invokestatic 9, 3), (6, .aload_n 0, 1), (7, .iload_n 1, 1), (8, .baload, 1), (9, .sipush 255, 3), (12, .iand, 1), (13, .i2c, 1), (14, .ireturn, 1)]
theorem D_J1_charAt_3b067 : dchk cJ1_charAt_3b067 T_J1_charAt_3b067 = true := by decide +kernel
def T_J0_charAt_5068e : List (Nat × Instr × Nat) := [(0, .aload_n 0, 1), (1, .invokevirtual 492, 3), (4, .ifCond .eq 12, 3), (7, .aload_n 0, 1), (8, .getfield 9, 3), (11, .iload_n 1, 1), (12, .invokestatic 495, 3), (15, .ireturn, 1), (16, .aload_n 0, 1), (17, .getfield 9, 3), (20, .iload_n 1, 1), (21, .invokestatic 498, 3), (24, .ireturn, 1)]
theorem D_J0_charAt_5068e : dchk cJ0_charAt_5068e T_J0_charAt_5068e = true := by decide +kernel
theorem lk_J0_coder : LkV RJ0 335 "java/lang/String" yJ0_coder_7d493 cJ0_coder_7d493 1 (some .byte) 0 := ⟨wd_516, wd_517, wd_518, wd_95, wd_519, by decide +kernel, by decide⟩
theorem lk_J0_isL : LkV RJ0 492 "java/lang/String" yJ0_isLatin1_aae02 cJ0_isLatin1_aae02 1 (some .boolean) 0 := ⟨wd_526, wd_527, wd_528, wd_95, wd_529, by decide +kernel, by decide⟩
theorem lk_J0_check : LkS RJ0 1059 yJ3_checkIndex_8e157 cJ3_checkIndex_8e157 3 (some .int) 3 := ⟨wd_538, wd_539, wd_97, wd_540, by decide +kernel, by decide⟩
theorem lk_J1_check : LkS RJ1 9 yJ0_checkIndex_df160 cJ0_checkIndex_df160 2 none 2 := ⟨wd_533, wd_534, wd_95, wd_535, by decide +kernel, by decide⟩
theorem lk_J0_l1 : LkS RJ0 495 yJ1_charAt_3b067 cJ1_charAt_3b067 2 (some .char) 2 := ⟨wd_530, wd_531, wd_96, wd_532, by decide +kernel, by decide⟩
theorem lk_X7_len : LkV RX7 74 "java/lang/String" yJ0_length_8abf5 cJ0_length_8abf5 1 (some .int) 0 := ⟨wd_512, wd_513, wd_514, wd_95, wd_515, by decide +kernel, by decide⟩
theorem lk_X7_chr : LkV RX7 80 "java/lang/String" yJ0_charAt_5068e cJ0_charAt_5068e 2 (some .char) 1 := ⟨wd_522, wd_523, wd_524, wd_95, wd_525, by decide +kernel, by decide⟩
theorem lk_X10_len : LkV RX10 127 "java/lang/String" yJ0_length_8abf5 cJ0_length_8abf5 1 (some .int) 0 := ⟨wd_1525, wd_513, wd_514, wd_95, wd_515, by decide +kernel, by decide⟩
theorem lk_X10_chr : LkV RX10 132 "java/lang/String" yJ0_charAt_5068e cJ0_charAt_5068e 2 (some .char) 1 := ⟨wd_1526, wd_523, wd_524, wd_95, wd_525, by decide +kernel, by decide⟩
set_option maxRecDepth 100000 in
theorem c_J0_coder {G : GW} (hG : Good G) {l : Launch} (σ : ST) : Ctr G l yJ0_coder_7d493 cJ0_coder_7d493 1 (some .byte) 0 [.ref (ga G 140 0)] σ (oI σ) (some (0 : Int32)) := by
  refine ctr_of hG (by decide) (Nat.le_of_ble_eq_true rfl) ?_
  intro X hXl hR hX
  have hX : Ok G X cJ0_coder_7d493 1 RJ0 0 := hX
  obtain ⟨hs1, -, -, hs4, -⟩ := hX.2.2.2.2.2.1.2.2
  show Sim G X 1 (MQX G X (oI σ)) σ 0 [(0, .ref (ga G 140 0))] [] (if (1 : Int32) = 0 then none else some (0 : Int32))
  refine s_gets (n := 3) hX hs4 (dec_of D_J0_coder_7d493 (i := 0) rfl) rfl wd_520 ?_
  refine s_if_eq (tgt := 13) (n := 6) hX (dec_of D_J0_coder_7d493 (i := 1) rfl) rfl rfl (fun b hb => by cases hb) ?_
  refine s_aload_n 0 (n := 7) hX (dec_of D_J0_coder_7d493 (i := 2) rfl) rfl rfl rfl ?_
  refine s_tget (n := 10) hX (hs1.1 0 (by decide)).2.1 (dec_of D_J0_coder_7d493 (i := 3) rfl) rfl wd_2043 ?_
  refine s_goto (n := 14) hX (dec_of D_J0_coder_7d493 (i := 4) rfl) rfl ?_
  exact s_zret hX hR (dec_of D_J0_coder_7d493 (i := 6) rfl) rfl rfl
set_option maxRecDepth 100000 in
theorem c_J0_isLatin1 {G : GW} (hG : Good G) {l : Launch} (σ : ST) : Ctr G l yJ0_isLatin1_aae02 cJ0_isLatin1_aae02 1 (some .boolean) 0 [.ref (ga G 140 0)] σ (oI σ) (some (1 : Int32)) := by
  refine ctr_of hG (by decide) (Nat.le_of_ble_eq_true rfl) ?_
  intro X hXl hR hX
  have hX : Ok G X cJ0_isLatin1_aae02 1 RJ0 0 := hX
  obtain ⟨hs1, -, -, hs4, -⟩ := hX.2.2.2.2.2.1.2.2
  show Sim G X 1 (MQX G X (oI σ)) σ 0 [(0, .ref (ga G 140 0))] [] (if (1 : Int32) = 0 then none else if (0 : Int32) = 0 then some (1 : Int32) else none)
  refine s_gets (n := 3) hX hs4 (dec_of D_J0_isLatin1_aae02 (i := 0) rfl) rfl wd_520 ?_
  refine s_if_eq (tgt := 17) (n := 6) hX (dec_of D_J0_isLatin1_aae02 (i := 1) rfl) rfl rfl (fun b hb => by cases hb) ?_
  refine s_aload_n 0 (n := 7) hX (dec_of D_J0_isLatin1_aae02 (i := 2) rfl) rfl rfl rfl ?_
  refine s_tget (n := 10) hX (hs1.1 0 (by decide)).2.1 (dec_of D_J0_isLatin1_aae02 (i := 3) rfl) rfl wd_2043 ?_
  refine s_if_ne (tgt := 17) (n := 13) hX (dec_of D_J0_isLatin1_aae02 (i := 4) rfl) rfl rfl (fun b hb => by cases hb) ?_
  refine s_iconst (v := 1) (n := 14) hX (dec_of D_J0_isLatin1_aae02 (i := 5) rfl) rfl (by decide) ?_
  refine s_goto (n := 18) hX (dec_of D_J0_isLatin1_aae02 (i := 6) rfl) rfl ?_
  exact s_zret hX hR (dec_of D_J0_isLatin1_aae02 (i := 8) rfl) rfl rfl
set_option maxRecDepth 100000 in
theorem c_J0_length {G : GW} (hG : Good G) {l : Launch} (σ : ST) : Ctr G l yJ0_length_8abf5 cJ0_length_8abf5 1 (some .int) 1 [.ref (ga G 140 0)] σ (oI σ) (Jk_len σ) := by
  refine ctr_of hG (by decide) (Nat.le_of_ble_eq_true rfl) ?_
  intro X hXl hR hX
  have hX : Ok G X cJ0_length_8abf5 1 RJ0 1 := hX
  obtain ⟨hs1, -, -, hs4, -⟩ := hX.2.2.2.2.2.1.2.2
  show Sim G X 1 (MQX G X (oI σ)) σ 0 [(0, .ref (ga G 140 0))] [] (bd_ (some (0 : Int32)) (fun v => some ((79 : Int32) >>> (v &&& 31))))
  refine s_aload_n 0 (n := 1) hX (dec_of D_J0_length_8abf5 (i := 0) rfl) rfl rfl rfl ?_
  refine s_tget (n := 4) hX (hs1.1 0 (by decide)).2.2.1 (dec_of D_J0_length_8abf5 (i := 1) rfl) rfl wd_2042 ?_
  refine s_tlen (v := 79) (n := 5) hX (hs1.1 0 (by decide)).2.2.2 (by decide) (dec_of D_J0_length_8abf5 (i := 2) rfl) rfl ?_
  refine s_aload_n 0 (n := 6) hX (dec_of D_J0_length_8abf5 (i := 3) rfl) rfl rfl rfl ?_
  refine s_callTI (n := 9) hX lk_J0_coder (dec_of D_J0_length_8abf5 (i := 4) rfl) rfl (by decide) (c_J0_coder (l := _) hG _) (As := []) rfl rfl (Nat.le_of_ble_eq_true rfl) (fun v => ?_)
  refine s_ishr (n := 10) hX (dec_of D_J0_length_8abf5 (i := 5) rfl) rfl ?_
  exact s_iret hX hR (dec_of D_J0_length_8abf5 (i := 6) rfl) rfl
def okIx (i m : Int32) : Bool := decide (0 ≤ i) && decide (i < m)
set_option maxRecDepth 100000 in
theorem c_J3_checkIndex {G : GW} (hG : Good G) {l : Launch} (σ : ST) (i m : Int32) (f : Option Nat) : Ctr G l yJ3_checkIndex_8e157 cJ3_checkIndex_8e157 3 (some .int) 0 [.int i, .int m, va_rf f] σ (oI σ) (if i < 0 then none else if i < m then some i else none) := by
  refine ctr_of hG (by decide) (by cases f <;> exact Nat.le_of_ble_eq_true rfl) ?_
  intro X hXl hR hX
  have hX : Ok G X cJ3_checkIndex_8e157 3 RJ3 0 := hX
  show Sim G X 3 (MQX G X (oI σ)) σ 0 [(0, .int i), (1, .int m), (2, va_rf f)] [] _
  refine s_iload_n 0 (n := 1) hX (dec_of D_J3_checkIndex_8e157 (i := 0) rfl) rfl rfl rfl ?_
  refine s_if_lt (tgt := 9) (n := 4) hX (dec_of D_J3_checkIndex_8e157 (i := 1) rfl) rfl rfl (fun b hb => by cases hb) ?_
  refine s_iload_n 0 (n := 5) hX (dec_of D_J3_checkIndex_8e157 (i := 2) rfl) rfl rfl rfl ?_
  refine s_iload_n 1 (n := 6) hX (dec_of D_J3_checkIndex_8e157 (i := 3) rfl) rfl rfl rfl ?_
  refine s_icmp_lt (tgt := 16) (n := 9) hX (dec_of D_J3_checkIndex_8e157 (i := 4) rfl) rfl rfl ?_ (fun b hb => by cases hb)
  refine s_iload_n 0 (n := 17) hX (dec_of D_J3_checkIndex_8e157 (i := 10) rfl) rfl rfl rfl ?_
  exact s_iret hX hR (dec_of D_J3_checkIndex_8e157 (i := 11) rfl) rfl
set_option maxRecDepth 100000 in
theorem c_J0_checkIndex {G : GW} (hG : Good G) {l : Launch} (σ : ST) (i m : Int32) : Ctr G l yJ0_checkIndex_df160 cJ0_checkIndex_df160 2 none 1 [.int i, .int m] σ (fun _ : Int32 => (none, σ)) (if i < 0 then none else if i < m then some i else none) := by
  refine ctr_of hG (by decide) (Nat.le_of_ble_eq_true rfl) ?_
  intro X hXl hR hX
  have hX : Ok G X cJ0_checkIndex_df160 2 RJ0 1 := hX
  obtain ⟨-, -, -, -, hs5, -⟩ := hX.2.2.2.2.2.1.2.2
  have hz : ∃ f : Option Nat, va_Z "jdk/internal/util/Preconditions" "SIOOBE_FORMATTER" "Ljava/util/function/BiFunction;" (va_rf f) (Fr G) (xs_ X) (xs_ X).heap := by
    rcases hs5 with h | ⟨t, h⟩
    · exact ⟨none, h⟩
    · exact ⟨some t, h⟩
  obtain ⟨f, hz⟩ := hz
  have e : (if i < 0 then none else if i < m then some i else none) = bd_ (if i < 0 then none else if i < m then some i else none) (fun v => some v) := by
    cases (if i < 0 then none else if i < m then some i else none) <;> rfl
  rw [e]
  show Sim G X 2 (MQX G X (fun _ : Int32 => (none, σ))) σ 0 [(0, .int i), (1, .int m)] [] _
  refine s_iload_n 0 (n := 1) hX (dec_of D_J0_checkIndex_df160 (i := 0) rfl) rfl rfl rfl ?_
  refine s_iload_n 1 (n := 2) hX (dec_of D_J0_checkIndex_df160 (i := 1) rfl) rfl rfl rfl ?_
  refine s_gets (n := 5) hX hz (dec_of D_J0_checkIndex_df160 (i := 2) rfl) rfl wd_536 ?_
  refine s_callSI (n := 8) hX lk_J0_check (dec_of D_J0_checkIndex_df160 (i := 3) rfl) rfl (by decide) (c_J3_checkIndex (l := _) hG _ _ _ f) (rest := []) rfl rfl (Nat.le_of_ble_eq_true rfl) (fun v => ?_)
  refine s_pop (n := 9) hX (dec_of D_J0_checkIndex_df160 (i := 4) rfl) rfl rfl ?_
  exact s_vret hX hR (dec_of D_J0_checkIndex_df160 (i := 5) rfl) rfl
theorem inB_lt {j : Int32} (h : inB j 79 = true) : ¬ j < 0 ∧ j < 79 ∧ j.toNatClampNeg < 79 := by
  simp only [inB, Bool.and_eq_true, decide_eq_true_eq] at h
  have h0 : ¬ j < 0 := Int32.not_lt.mpr h.1
  refine ⟨h0, ?_, h.2⟩
  have h1 : 0 ≤ j.toInt := Int32.le_iff_toInt_le.mp h.1
  have h2 : j.toInt.toNat < 79 := h.2
  apply Int32.lt_iff_toInt_lt.mpr
  show j.toInt < 79
  omega
set_option maxRecDepth 100000 in
theorem c_J1_charAt {G : GW} (hG : Good G) {l : Launch} (σ : ST) (j : Int32) : Ctr G l yJ1_charAt_3b067 cJ1_charAt_3b067 2 (some .char) 2 [.ref (ga G 141 0), .int j] σ (oI σ) (Jk_chr σ j) := by
  refine ctr_of hG (by decide) (Nat.le_of_ble_eq_true rfl) ?_
  intro X hXl hR hX
  have hX : Ok G X cJ1_charAt_3b067 2 RJ1 2 := hX
  obtain ⟨hs1, -⟩ := hX.2.2.2.2.2.1.2.2
  intro b0 hb0
  by_cases h : inB j 79 = true
  · obtain ⟨g1, g2, g3⟩ := inB_lt h
    have hw := Wch_ok _ g3
    have e : Jk_chr σ j = bd_ (if j < 0 then none else if j < 79 then some j else none) (fun _ => some (Wch j.toNatClampNeg)) := by
      rw [if_neg g1, if_pos g2]
      unfold Jk_chr
      rw [if_pos h]
      rfl
    rw [e] at hb0
    revert b0
    show Sim G X 2 (MQX G X (oI σ)) σ 0 [(0, .ref (ga G 141 0)), (1, .int j)] [] _
    refine s_iload_n 1 (n := 1) hX (dec_of D_J1_charAt_3b067 (i := 0) rfl) rfl rfl rfl ?_
    refine s_aload_n 0 (n := 2) hX (dec_of D_J1_charAt_3b067 (i := 1) rfl) rfl rfl rfl ?_
    refine s_tlen (v := 79) (n := 3) hX (hs1.1 0 (by decide)).2.2.2 (by decide) (dec_of D_J1_charAt_3b067 (i := 2) rfl) rfl ?_
    refine s_callS (n := 6) hX lk_J1_check (dec_of D_J1_charAt_3b067 (i := 3) rfl) rfl (by decide) (c_J0_checkIndex (l := _) hG _ _ _) (rest := []) rfl rfl (Nat.le_of_ble_eq_true rfl) (fun v => ?_)
    show Sim G X 2 (MQX G X (oI σ)) σ 6 _ [] _
    refine s_aload_n 0 (n := 7) hX (dec_of D_J1_charAt_3b067 (i := 4) rfl) rfl rfl rfl ?_
    refine s_iload_n 1 (n := 8) hX (dec_of D_J1_charAt_3b067 (i := 5) rfl) rfl rfl rfl ?_
    refine s_tb (v := .int (Wch j.toNatClampNeg)) (n := 9) hX (hs1.1 0 (by decide)).2.2.2 (inB_in h) rfl (dec_of D_J1_charAt_3b067 (i := 6) rfl) rfl ?_
    refine s_sipush (v := 255) (n := 12) hX (dec_of D_J1_charAt_3b067 (i := 7) rfl) rfl (by decide) ?_
    refine s_iand (n := 13) hX (dec_of D_J1_charAt_3b067 (i := 8) rfl) rfl ?_
    refine s_i2c (n := 14) hX (dec_of D_J1_charAt_3b067 (i := 9) rfl) rfl hw.1 ?_
    exact s_zret hX hR (dec_of D_J1_charAt_3b067 (i := 10) rfl) hw.2 rfl
  · simp [Jk_chr, h] at hb0
set_option maxRecDepth 100000 in
theorem c_J0_charAt {G : GW} (hG : Good G) {l : Launch} (σ : ST) (j : Int32) : Ctr G l yJ0_charAt_5068e cJ0_charAt_5068e 2 (some .char) 3 [.ref (ga G 140 0), .int j] σ (oI σ) (Jk_chr σ j) := by
  refine ctr_of hG (by decide) (Nat.le_of_ble_eq_true rfl) ?_
  intro X hXl hR hX
  have hX : Ok G X cJ0_charAt_5068e 2 RJ0 3 := hX
  obtain ⟨hs1, -⟩ := hX.2.2.2.2.2.1.2.2
  intro b0 hb0
  by_cases h : inB j 79 = true
  · obtain ⟨g1, g2, g3⟩ := inB_lt h
    have hw := Wch_ok _ g3
    have e : Jk_chr σ j = bd_ (some (1 : Int32)) (fun q => if q = 0 then none else bd_ (Jk_chr σ j) (fun v => some v)) := by
      unfold Jk_chr
      rw [if_pos h]
      rfl
    rw [e] at hb0
    revert b0
    show Sim G X 2 (MQX G X (oI σ)) σ 0 [(0, .ref (ga G 140 0)), (1, .int j)] [] _
    refine s_aload_n 0 (n := 1) hX (dec_of D_J0_charAt_5068e (i := 0) rfl) rfl rfl rfl ?_
    refine s_callTI (n := 4) hX lk_J0_isL (dec_of D_J0_charAt_5068e (i := 1) rfl) rfl (by decide) (c_J0_isLatin1 (l := _) hG _) (As := []) (rest := []) rfl rfl (Nat.le_of_ble_eq_true rfl) (fun q => ?_)
    refine s_if_eq (tgt := 16) (n := 7) hX (dec_of D_J0_charAt_5068e (i := 2) rfl) rfl rfl (fun b hb => by cases hb) ?_
    refine s_aload_n 0 (n := 8) hX (dec_of D_J0_charAt_5068e (i := 3) rfl) rfl rfl rfl ?_
    refine s_tget (n := 11) hX (hs1.1 0 (by decide)).2.2.1 (dec_of D_J0_charAt_5068e (i := 4) rfl) rfl wd_2042 ?_
    refine s_iload_n 1 (n := 12) hX (dec_of D_J0_charAt_5068e (i := 5) rfl) rfl rfl rfl ?_
    refine s_callS_ (n := 15) (out := oI σ) hX lk_J0_l1 (dec_of D_J0_charAt_5068e (i := 6) rfl) rfl (by decide) (c_J1_charAt (l := _) hG _ _) (rest := []) rfl rfl (Nat.le_of_ble_eq_true rfl) (fun v hv => ?_)
    have hv2 : v = Wch j.toNatClampNeg := by
      unfold Jk_chr at hv
      rw [if_pos h] at hv
      exact (Option.some.inj hv).symm
    subst hv2
    show Sim G X 2 (MQX G X (oI σ)) σ 15 _ [.int (Wch j.toNatClampNeg)] (some (Wch j.toNatClampNeg))
    exact s_zret hX hR (dec_of D_J0_charAt_5068e (i := 7) rfl) hw.2 rfl
  · simp [Jk_chr, h] at hb0

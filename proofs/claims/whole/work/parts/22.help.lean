/-! ===== the law's three helpers: a call that may throw, caught ===== -/
def bump (X : CX) : CX := (X.1, X.2.1, X.2.2.1, X.2.2.2.1, X.2.2.2.2.1, X.2.2.2.2.2.1, X.2.2.2.2.2.2.1, X.2.2.2.2.2.2.2.1, X.2.2.2.2.2.2.2.2.1, X.2.2.2.2.2.2.2.2.2.1, X.2.2.2.2.2.2.2.2.2.2.1 + 1, X.2.2.2.2.2.2.2.2.2.2.2 + 6)
def hhL : List (Nat × Nat × Nat × Nat) := [(0, 10, 13, 13), (0, 10, 17, 15)]
section HelpRows
variable {G : GW} {X : CX} {cc : ByteArray} {nL d : Nat} {own : String} {β : Type} {Q : β → State → Prop} {σ : ST} {pc n : Nat} {lv : List (Nat × Value)} {st : List Value}
theorem Ok.bump (hX : Ok G X cc nL own d) (hc : X.2.2.2.2.2.2.2.2.2.2.1 + 1 ≤ X.2.2.2.1.cells) (hs : X.2.2.2.2.2.2.2.2.2.2.2 + 6 ≤ X.2.2.2.1.slots) : Ok G (bump X) cc nL own d := by
  obtain ⟨h1, h2, h3, h4, h5, h6, h7, h8, h9, h10, h11⟩ := hX
  exact ⟨h1, h2, h3, h4, h5, h6, h7, h8, h9, hc, hs⟩
theorem s_callX {index : Nat} {y : MethodName} {bytes : ByteArray} {maxL na d' : Nat} {ret : Option FieldType} {As rest : List Value} {Pc : Option (Int32 × Int32)} {K : Int32 × Int32 → Option β} (hX : Ok G X cc nL RL d) (hc : X.2.2.2.2.2.2.2.2.2.2.1 + 1 ≤ X.2.2.2.1.cells) (hs : X.2.2.2.2.2.2.2.2.2.2.2 + 6 ≤ X.2.2.2.1.slots) (htab : X.2.2.2.2.2.2.2.2.2.1.exceptionTable.toList = tableOf hhL) (L : LkV RL index RX9 y bytes maxL ret na) (hcl1 : Cond.classLink RL 13 nIOB ∈ TB) (hcl2 : Cond.classLink RL 15 nNSE ∈ TB) (hcov : pc < 10) (hd : decode cc pc = .ok (.invokevirtual index, 3)) (hn : pc + 3 = n) (hdd : d' + 1 ≤ d) (hC : CtrX G X.2.1 y bytes maxL ret d' (.ref (ga G 130 0) :: As) σ Pc) (hst : st = As.reverse ++ .ref (ga G 130 0) :: rest) (hna : As.length = na) (hroom : (rest.map fun v => v.category).sum ≤ 8) (k0 : ∀ v, Sim G (bump X) nL Q σ n lv (.int v :: rest) (K (0, v))) (k1 : ∀ v q, Sim G (bump X) nL Q σ 13 lv [.ref q] (K (1, v))) (k2 : ∀ v q, Sim G (bump X) nL Q σ 17 lv [.ref q] (K (2, v))) : Sim G X nL Q σ pc lv st (bd_ Pc K) := by
  subst hn; subst hst; intro b hb H locs ls hl hP hS
  cases hPc : Pc with
  | none => rw [hPc] at hb; cases hb
  | some r =>
    rw [hPc] at hb
    have hb : K r = some b := hb
    obtain ⟨h1, h2, h3, h4, h5, h6, h7, h8, h9, h10, h11⟩ := id hX
    obtain ⟨-, -, -, -, -, -, -, -, -, -, -, -, -, -, k15, k16⟩ := h6.2.2
    have hmax : maxL ≤ 21 := L.2.2.2.2.2.2
    have hv : vld (121 + 9) 0 := vk130 (by decide)
    obtain ⟨q0, e1, -⟩ := wl_at G (cel G σ) hv
    rw [cel_obj] at e1
    have hg := tb_self y bytes maxL ret L.2.2.2.2.1
    have cw : CallW X.2.2.2.1 (xs_ X) X.2.2.2.2.2.2.1 RL RX9 index y bytes maxL ret (.code y bytes maxL ret :: TB) (rmx d') 1 6 na := by
      refine cwV (rm := rmx d') na h5 (fun w hw => ?_) rfl rfl rfl L.2.2.2.2.2.1 ⟨by show d' + 1 ≤ _; omega, by show 8 + (maxL + 11) + 40 * d' ≤ _; omega⟩
      rcases List.mem_append.mp hw with h | h
      · simp only [List.mem_cons, List.not_mem_nil, or_false] at h
        rcases h with rfl | rfl | rfl | rfl
        · exact ⟨L.1, good_of_word (TB_good L.1)⟩
        · exact ⟨L.2.1, good_of_word (TB_good L.2.1)⟩
        · exact ⟨L.2.2.1, good_of_word (TB_good L.2.2.1)⟩
        · exact ⟨L.2.2.2.1, good_of_word (TB_good L.2.2.2.1)⟩
      · exact hg w h
    have hr := vx_runV (S := ⟨h1, h2, h3, h4, h5⟩) (As := As) (rest := rest) (g := F0 (xm_ X) pc ls (As.reverse ++ .ref (ga G 130 0) :: rest)) (H := H) (locs := locs) (cells := X.2.2.2.2.2.2.2.2.2.2.1) (slots := X.2.2.2.2.2.2.2.2.2.2.2) (e := X.2.2.1) (below := X.2.2.2.2.2.2.2.1) (meth := X.2.2.2.2.2.2.2.2.1) (hC r hPc) cw ⟨pcc_blind G _ σ, va_recv h6.1 hP (ci := 9) (q0 := q0) cls9.1 e1, fun U hU hW => ⟨rfl, by rw [hU]; exact hP, h6.at hW hU hS⟩⟩ rfl hna hl.1 rfl (lv_room hroom) hd ⟨hc, hs⟩
    intro T hT XX
    rcases hr T hT XX with ⟨v, st₀, t, T', Lc, g0, X', hL, e2, e3, ⟨⟨hr1, hv1, hPb⟩, hz, hk⟩, stp⟩ | ⟨q, st₀, t, T', Lc, E, ce, g0, X', hL, e2, e3, ⟨hE, hPb, hz, hk⟩, hce, hcv, hcl, stp⟩
    · cases hv1
      rw [g0] at hz hk
      have hb0 : K (0, r.2) = some b := by rw [← hr1]; exact hb
      obtain ⟨t2, a1, b1⟩ := k0 r.2 b hb0 T'.heap (locs ++ Lc) ls hl (by rw [e2]; exact hPb)
        ⟨Nat.le_trans hS.1 (by rw [e2]; exact hz), fun q g1 g2 => by rw [e2, hk q (Nat.lt_of_lt_of_le g1 hS.1) g2]; exact hS.2.1 q g1 g2, fun q hq => by
          rcases List.mem_append.mp hq with h | h
          · exact hS.2.2 q h
          · exact hL q h⟩ T' rfl X'
      exact ⟨t2, stp t2 a1, b1⟩
    · rw [g0] at hz hk
      have hS1 : va_S (Fr G) (xs_ X).heap T'.heap (locs ++ Lc) := ⟨Nat.le_trans hS.1 (by rw [e2]; exact hz), fun q g1 g2 => by rw [e2, hk q (Nat.lt_of_lt_of_le g1 hS.1) g2]; exact hS.2.1 q g1 g2, fun q hq => by
          rcases List.mem_append.mp hq with h | h
          · exact hS.2.2 q h
          · exact hL q h⟩
      have hP1 : Pic G σ T'.heap := by rw [e2]; exact hPb
      have hce1 : T'.heap[q]? = some ce := by rw [e2]; exact hce
      have cov : ∀ h : Nat, covers (⟨0, 10, h, 13⟩ : ExceptionTableEntry) pc = true := fun h => by simp [covers, hcov]
      have cov2 : ∀ h : Nat, covers (⟨0, 10, h, 15⟩ : ExceptionTableEntry) pc = true := fun h => by simp [covers, hcov]
      rcases hE with ⟨hr1, rfl⟩ | ⟨hr1, rfl⟩
      · have hb0 : K (1, r.2) = some b := by rw [← hr1]; exact hb
        obtain ⟨t2, a1, b1⟩ := vx_catch (own := RL) (name := nIOB) (E := nIOB) (ce := ce) (q := q) h4 [] ⟨0, 10, 13, 13⟩ [⟨0, 10, 17, 15⟩] htab (fun z hz => nomatch hz) (cov 13) (by decide) (h5 _ hcl1) (va_Nw.use rfl k15.1) hce1 hcv hcl (k1 r.2 q b hb0 T'.heap (locs ++ Lc) ls hl hP1 hS1) T' rfl X'
        exact ⟨t2, stp.trans a1, b1⟩
      · have hb0 : K (2, r.2) = some b := by rw [← hr1]; exact hb
        obtain ⟨t2, a1, b1⟩ := vx_catch (own := RL) (name := nNSE) (E := nNSE) (ce := ce) (q := q) h4 [⟨0, 10, 13, 13⟩] ⟨0, 10, 17, 15⟩ [] htab (fun z hz => by
            rcases List.mem_cons.mp hz with rfl | hz
            · exact Or.inr ⟨by decide, nIOB, h5 _ hcl1, k16⟩
            · exact nomatch hz) (cov2 17) (by decide) (h5 _ hcl2) (va_Nw.use rfl k15.2) hce1 hcv hcl (k2 r.2 q b hb0 T'.heap (locs ++ Lc) ls hl hP1 hS1) T' rfl X'
        exact ⟨t2, stp.trans a1, b1⟩
def CtrH (G : GW) (l : Launch) (y : MethodName) (cc : ByteArray) (nL d : Nat) (av : List Value) (σ : ST) (P : Option (Int32 × ST)) : Prop := ∀ b, P = some b → Met l y (.codeWith y cc nL (some .int) hhL :: TB) (rmx d) (Pcc G av σ) (Qcc G (oP b)) 1 6 (Fr G)
theorem ctrH_of {y : MethodName} {l : Launch} {av : List Value} {P : Option (Int32 × ST)} (hG : Good G) (hy : plainName y.cls = true) (hle : (lg_sl av).length ≤ nL) (h : ∀ X : CX, X.2.1 = l → RetIs X (some .int) → X.2.2.2.2.2.2.2.2.2.1.exceptionTable.toList = tableOf hhL → X.2.2.2.2.2.2.2.2.2.2.1 + 1 ≤ X.2.2.2.1.cells → X.2.2.2.2.2.2.2.2.2.2.2 + 6 ≤ X.2.2.2.1.slots → Ok G X cc nL y.cls d → Sim G X nL (MQX G (bump X) oP) σ 0 (lv_args 0 av) [] P) : CtrH G l y cc nL d av σ P := by
  intro b hb
  refine MetFree.of_bodyS (code := cc) (maxLocals := nL) (ret := some .int) hy ?_ ?_
  · intro args s m h hn
    obtain ⟨m9, meth, c, hn9, h1, h2, h3, h4, -, h5, h6, -⟩ := Cond.codeWith_spec (atoms_spec (ws := Cond.codeWith y cc nL (some .int) hhL :: TB) h _ List.mem_cons_self)
    cases hn.symm.trans hn9
    exact ⟨meth, c, h1, h2, h3, h4, h5, h6⟩
  · intro p e s m args below meth c s₁ B hml hv _
    have hh0 : s₁.heap = s.heap := by rw [B.state]; rfl
    obtain ⟨rfl, hP, hK⟩ := hv
    have hts := atoms_spec (ws := Cond.codeWith y cc nL (some .int) hhL :: TB) B.pre
    have hown : s.vm.findClass y.cls = some m.cls := findClass_of_methodNamed B.named
    have hl := lv_entry av (n := nL) hle
    have htab := vx_table (x := y) B (hts _ List.mem_cons_self)
    have body := h (p, l, e, rmx d, s, m, av.toArray, below, meth, c, 0, 0) rfl ⟨B.returns, B.notSynchronized⟩ htab (Nat.le_refl _) (Nat.le_refl _) ⟨B.exec, B.bytes, hml, hown, fun w hw => hts w (List.mem_cons_of_mem _ hw), hK, hG, Nat.le_refl _, Nat.le_refl _, Nat.zero_le _, Nat.zero_le _⟩ b hb s.heap [] _ hl hP va_S.rf
    rw [← lg_entry_eq] at body
    obtain ⟨t, a1, o, b1, b2, b3⟩ := body s₁ hh0 (Stand.of_body B)
    exact ⟨t, o, a1, b1, b2, ⟨b3.1, b3.2⟩⟩
def LkH (index : Nat) (y : MethodName) (bytes : ByteArray) (maxL na : Nat) : Prop := Cond.methodLink RL index y ∈ TB ∧ Cond.static y ∈ TB ∧ Cond.initialized y.cls ∈ TB ∧ Cond.codeWith y bytes maxL (some .int) hhL ∈ TB ∧ (y.cls ≠ "java/lang/invoke/MethodHandle" ∧ y.cls ≠ "java/lang/invoke/VarHandle" ∧ (parseMethodDescriptor y.desc).map (fun d => d.parameters.length) = some na) ∧ maxL ≤ 21
/-- the law calls a helper -/
theorem s_callH {index : Nat} {y : MethodName} {bytes : ByteArray} {maxL na d' : Nat} {As rest : List Value} {Pc : Option (Int32 × ST)} {K : Int32 × ST → Option β} (hX : Ok G X cc nL RL d) (hc : X.2.2.2.2.2.2.2.2.2.2.1 + 1 ≤ X.2.2.2.1.cells) (hs : X.2.2.2.2.2.2.2.2.2.2.2 + 6 ≤ X.2.2.2.1.slots) (L : LkH index y bytes maxL na) (hd : decode cc pc = .ok (.invokestatic index, 3)) (hn : pc + 3 = n) (hdd : d' + 1 ≤ d) (hC : CtrH G X.2.1 y bytes maxL d' As σ Pc) (hst : st = As.reverse ++ rest) (hna : As.length = na) (hroom : (rest.map fun v => v.category).sum ≤ 8) (k : ∀ q, Sim G (bump X) nL Q q.2 n lv (.int q.1 :: rest) (K q)) : Sim G X nL Q σ pc lv st (bd_ Pc K) := by
  subst hn; subst hst; intro b hb H locs ls hl hP hS
  cases hPc : Pc with
  | none => rw [hPc] at hb; cases hb
  | some r =>
    rw [hPc] at hb
    have hb : K r = some b := hb
    obtain ⟨h1, h2, h3, h4, h5, h6, h7, h8, h9, h10, h11⟩ := id hX
    obtain ⟨l1, l2, l3, l4, l5, l6⟩ := L
    have hG2 : GoodIn TB (va_wsS RL index y (.codeWith y bytes maxL (some .int) hhL :: TB)) := fun w hw => by
      have : w ∈ TB := by
        rcases List.mem_append.mp hw with h | h
        · simp only [List.mem_cons, List.not_mem_nil, or_false] at h
          rcases h with rfl | rfl | rfl
          · exact l1
          · exact l2
          · exact l3
        · rcases List.mem_cons.mp h with rfl | h
          · exact l4
          · exact h
      exact ⟨this, good_of_word (TB_good this)⟩
    have hr := vx_runSW (S := ⟨h1, h2, h3, h4, h5⟩) (As := As) (rest := rest) (g := F0 (xm_ X) pc ls (As.reverse ++ rest)) (H := H) (locs := locs) (cells := X.2.2.2.2.2.2.2.2.2.2.1) (slots := X.2.2.2.2.2.2.2.2.2.2.2) (e := X.2.2.1) (below := X.2.2.2.2.2.2.2.1) (meth := X.2.2.2.2.2.2.2.2.1) (hC r hPc) (vx_cwSW (R := X.2.2.2.1) (rm := rmx d') na h5 hG2 rfl rfl rfl l5 ⟨by show d' + 1 ≤ _; omega, by show 8 + (maxL + 11) + 40 * d' ≤ _; omega⟩) ⟨pcc_blind G _ σ, fun U hU hW => ⟨rfl, by rw [hU]; exact hP, h6.at hW hU hS⟩⟩ rfl hna hl.1 rfl (lv_room hroom) hd ⟨hc, hs⟩
    intro T hT XX
    obtain ⟨v, st₀, t, T', Lc, q0, X', hL, e1, e2, ⟨hv, hPb, hz, hk⟩, stp⟩ := hr T hT XX
    cases hv
    rw [q0] at hz hk
    obtain ⟨t2, a1, b1⟩ := k r b hb T'.heap (locs ++ Lc) ls hl (by rw [e1]; exact hPb)
      ⟨Nat.le_trans hS.1 (by rw [e1]; exact hz), fun q g1 g2 => by rw [e1, hk q (Nat.lt_of_lt_of_le g1 hS.1) g2]; exact hS.2.1 q g1 g2, fun q hq => by
        rcases List.mem_append.mp hq with h | h
        · exact hS.2.2 q h
        · exact hL q h⟩ T' rfl X'
    exact ⟨t2, stp t2 a1, b1⟩
end HelpRows
def T_L_land : List (Nat × Instr × Nat) := [(0, .aload_n 3, 1), (1, .iconst 0, 1), (2, .aload_n 0, 1), (3, .iload_n 1, 1), (4, .iload_n 2, 1), (5, .invokevirtual 7, 3), (8, .i2l, 1), (9, .lastore, 1), (10, .goto 11, 3), (13, .astore 4, 2), (15, .iconst 1, 1), (16, .ireturn, 1), (17, .astore 4, 2), (19, .iconst 2, 1), (20, .ireturn, 1), (21, .iconst 0, 1), (22, .ireturn, 1)]
theorem D_L_land : dchk cL_land T_L_land = true := by decide +kernel
def Lw_land (σ : ST) (a1 : Int32) (a2 : Int32) : Option (Int32 × ST) :=
  bd_ (Rp_land σ a1 a2) (fun q => if q.1 = 0 then bd_ (stL σ 105 0 0 (Int32.toInt64 q.2)) (fun s => some (0, s)) else if q.1 = 1 then some (1, σ) else some (2, σ))
set_option maxHeartbeats 4000000 in
set_option maxRecDepth 100000 in
theorem c_L_land {G : GW} (hG : Good G) {l : Launch} (hl0 : l.stackTraces = false) (σ : ST) (a1 : Int32) (a2 : Int32) : CtrH G l yL_land cL_land 5 7 [.ref (ga G 130 0), .int a1, .int a2, .ref (ga G 105 0)] σ (Lw_land σ a1 a2) := by
  refine ctrH_of hG (by decide) (Nat.le_of_ble_eq_true rfl) ?_
  intro X hXl hR htab hc hs hX
  have hX : Ok G X cL_land 5 RL 7 := hX
  have hXB : Ok G (bump X) cL_land 5 RL 7 := hX.bump hc hs
  unfold Lw_land
  show Sim G X 5 (MQX G (bump X) oP) σ 0 [(0, .ref (ga G 130 0)), (1, .int a1), (2, .int a2), (3, .ref (ga G 105 0))] [] _
  refine s_aload_n 3 (n := 1) hX (dec_of D_L_land (i := 0) rfl) rfl rfl rfl ?_
  refine s_iconst (v := 0) (n := 2) hX (dec_of D_L_land (i := 1) rfl) rfl (by decide) ?_
  refine s_aload_n 0 (n := 3) hX (dec_of D_L_land (i := 2) rfl) rfl rfl rfl ?_
  refine s_iload_n 1 (n := 4) hX (dec_of D_L_land (i := 3) rfl) rfl rfl rfl ?_
  refine s_iload_n 2 (n := 5) hX (dec_of D_L_land (i := 4) rfl) rfl rfl rfl ?_
  refine s_callX (n := 8) hX hc hs htab (⟨wd_1214, wd_1215, wd_1216, wd_83, wd_1217, by decide +kernel, by decide⟩ : LkV RL 7 RX9 yX9_land cX9_land 3 (some .int) 2) wd_1212 wd_1213 (by decide) (dec_of D_L_land (i := 5) rfl) rfl (by decide) (c_X9_land (l := _) hG (by rw [hXl]; exact hl0) σ a1 a2) rfl rfl (Nat.le_of_ble_eq_true rfl) (fun v => ?_) (fun v q => ?_) (fun v q => ?_)
  · refine s_pos rfl ?_
    refine s_i2l (n := 9) hXB (dec_of D_L_land (i := 6) rfl) rfl ?_
    refine s_last (n := 10) hXB (vk105 (by decide)) (by decide) (dec_of D_L_land (i := 7) rfl) rfl (fun s => ?_)
    refine s_goto (n := 21) hXB (dec_of D_L_land (i := 8) rfl) rfl ?_
    refine s_iconst (v := 0) (n := 22) hXB (dec_of D_L_land (i := 15) rfl) rfl (by decide) ?_
    exact s_iret hXB hR (dec_of D_L_land (i := 16) rfl) rfl
  · refine s_neg (show ¬ ((1 : Int32) = 0) by decide) ?_
    refine s_pos rfl ?_
    refine s_astore (lv' := [(0, _), (1, _), (2, _), (3, _), (4, _)]) [1, 2, 3, 4, 0] (n := 15) hXB (dec_of D_L_land (i := 9) rfl) rfl (by decide) rfl ?_
    refine s_iconst (v := 1) (n := 16) hXB (dec_of D_L_land (i := 10) rfl) rfl (by decide) ?_
    exact s_iret hXB hR (dec_of D_L_land (i := 11) rfl) rfl
  · refine s_neg (show ¬ ((2 : Int32) = 0) by decide) ?_
    refine s_neg (show ¬ ((2 : Int32) = 1) by decide) ?_
    refine s_astore (lv' := [(0, _), (1, _), (2, _), (3, _), (4, _)]) [1, 2, 3, 4, 0] (n := 19) hXB (dec_of D_L_land (i := 12) rfl) rfl (by decide) rfl ?_
    refine s_iconst (v := 2) (n := 20) hXB (dec_of D_L_land (i := 13) rfl) rfl (by decide) ?_
    exact s_iret hXB hR (dec_of D_L_land (i := 14) rfl) rfl
def T_L_player : List (Nat × Instr × Nat) := [(0, .aload_n 3, 1), (1, .iconst 0, 1), (2, .aload_n 0, 1), (3, .iload_n 1, 1), (4, .iload_n 2, 1), (5, .invokevirtual 17, 3), (8, .i2l, 1), (9, .lastore, 1), (10, .goto 11, 3), (13, .astore 4, 2), (15, .iconst 1, 1), (16, .ireturn, 1), (17, .astore 4, 2), (19, .iconst 2, 1), (20, .ireturn, 1), (21, .iconst 0, 1), (22, .ireturn, 1)]
theorem D_L_player : dchk cL_player T_L_player = true := by decide +kernel
def Lw_player (σ : ST) (a1 : Int32) (a2 : Int32) : Option (Int32 × ST) :=
  bd_ (Rp_player σ a1 a2) (fun q => if q.1 = 0 then bd_ (stL σ 105 0 0 (Int32.toInt64 q.2)) (fun s => some (0, s)) else if q.1 = 1 then some (1, σ) else some (2, σ))
set_option maxHeartbeats 4000000 in
set_option maxRecDepth 100000 in
theorem c_L_player {G : GW} (hG : Good G) {l : Launch} (hl0 : l.stackTraces = false) (σ : ST) (a1 : Int32) (a2 : Int32) : CtrH G l yL_player cL_player 5 7 [.ref (ga G 130 0), .int a1, .int a2, .ref (ga G 105 0)] σ (Lw_player σ a1 a2) := by
  refine ctrH_of hG (by decide) (Nat.le_of_ble_eq_true rfl) ?_
  intro X hXl hR htab hc hs hX
  have hX : Ok G X cL_player 5 RL 7 := hX
  have hXB : Ok G (bump X) cL_player 5 RL 7 := hX.bump hc hs
  unfold Lw_player
  show Sim G X 5 (MQX G (bump X) oP) σ 0 [(0, .ref (ga G 130 0)), (1, .int a1), (2, .int a2), (3, .ref (ga G 105 0))] [] _
  refine s_aload_n 3 (n := 1) hX (dec_of D_L_player (i := 0) rfl) rfl rfl rfl ?_
  refine s_iconst (v := 0) (n := 2) hX (dec_of D_L_player (i := 1) rfl) rfl (by decide) ?_
  refine s_aload_n 0 (n := 3) hX (dec_of D_L_player (i := 2) rfl) rfl rfl rfl ?_
  refine s_iload_n 1 (n := 4) hX (dec_of D_L_player (i := 3) rfl) rfl rfl rfl ?_
  refine s_iload_n 2 (n := 5) hX (dec_of D_L_player (i := 4) rfl) rfl rfl rfl ?_
  refine s_callX (n := 8) hX hc hs htab (⟨wd_1307, wd_1308, wd_1309, wd_83, wd_1310, by decide +kernel, by decide⟩ : LkV RL 17 RX9 yX9_player cX9_player 3 (some .int) 2) wd_1212 wd_1213 (by decide) (dec_of D_L_player (i := 5) rfl) rfl (by decide) (c_X9_player (l := _) hG (by rw [hXl]; exact hl0) σ a1 a2) rfl rfl (Nat.le_of_ble_eq_true rfl) (fun v => ?_) (fun v q => ?_) (fun v q => ?_)
  · refine s_pos rfl ?_
    refine s_i2l (n := 9) hXB (dec_of D_L_player (i := 6) rfl) rfl ?_
    refine s_last (n := 10) hXB (vk105 (by decide)) (by decide) (dec_of D_L_player (i := 7) rfl) rfl (fun s => ?_)
    refine s_goto (n := 21) hXB (dec_of D_L_player (i := 8) rfl) rfl ?_
    refine s_iconst (v := 0) (n := 22) hXB (dec_of D_L_player (i := 15) rfl) rfl (by decide) ?_
    exact s_iret hXB hR (dec_of D_L_player (i := 16) rfl) rfl
  · refine s_neg (show ¬ ((1 : Int32) = 0) by decide) ?_
    refine s_pos rfl ?_
    refine s_astore (lv' := [(0, _), (1, _), (2, _), (3, _), (4, _)]) [1, 2, 3, 4, 0] (n := 15) hXB (dec_of D_L_player (i := 9) rfl) rfl (by decide) rfl ?_
    refine s_iconst (v := 1) (n := 16) hXB (dec_of D_L_player (i := 10) rfl) rfl (by decide) ?_
    exact s_iret hXB hR (dec_of D_L_player (i := 11) rfl) rfl
  · refine s_neg (show ¬ ((2 : Int32) = 0) by decide) ?_
    refine s_neg (show ¬ ((2 : Int32) = 1) by decide) ?_
    refine s_astore (lv' := [(0, _), (1, _), (2, _), (3, _), (4, _)]) [1, 2, 3, 4, 0] (n := 19) hXB (dec_of D_L_player (i := 12) rfl) rfl (by decide) rfl ?_
    refine s_iconst (v := 2) (n := 20) hXB (dec_of D_L_player (i := 13) rfl) rfl (by decide) ?_
    exact s_iret hXB hR (dec_of D_L_player (i := 14) rfl) rfl
def T_L_session : List (Nat × Instr × Nat) := [(0, .aload_n 3, 1), (1, .iconst 0, 1), (2, .aload_n 0, 1), (3, .iload_n 1, 1), (4, .iload_n 2, 1), (5, .invokevirtual 20, 3), (8, .i2l, 1), (9, .lastore, 1), (10, .goto 11, 3), (13, .astore 4, 2), (15, .iconst 1, 1), (16, .ireturn, 1), (17, .astore 4, 2), (19, .iconst 2, 1), (20, .ireturn, 1), (21, .iconst 0, 1), (22, .ireturn, 1)]
theorem D_L_session : dchk cL_session T_L_session = true := by decide +kernel
def Lw_session (σ : ST) (a1 : Int32) (a2 : Int32) : Option (Int32 × ST) :=
  bd_ (Rp_session σ a1 a2) (fun q => if q.1 = 0 then bd_ (stL σ 105 0 0 (Int32.toInt64 q.2)) (fun s => some (0, s)) else if q.1 = 1 then some (1, σ) else some (2, σ))
set_option maxHeartbeats 4000000 in
set_option maxRecDepth 100000 in
theorem c_L_session {G : GW} (hG : Good G) {l : Launch} (hl0 : l.stackTraces = false) (σ : ST) (a1 : Int32) (a2 : Int32) : CtrH G l yL_session cL_session 5 7 [.ref (ga G 130 0), .int a1, .int a2, .ref (ga G 105 0)] σ (Lw_session σ a1 a2) := by
  refine ctrH_of hG (by decide) (Nat.le_of_ble_eq_true rfl) ?_
  intro X hXl hR htab hc hs hX
  have hX : Ok G X cL_session 5 RL 7 := hX
  have hXB : Ok G (bump X) cL_session 5 RL 7 := hX.bump hc hs
  unfold Lw_session
  show Sim G X 5 (MQX G (bump X) oP) σ 0 [(0, .ref (ga G 130 0)), (1, .int a1), (2, .int a2), (3, .ref (ga G 105 0))] [] _
  refine s_aload_n 3 (n := 1) hX (dec_of D_L_session (i := 0) rfl) rfl rfl rfl ?_
  refine s_iconst (v := 0) (n := 2) hX (dec_of D_L_session (i := 1) rfl) rfl (by decide) ?_
  refine s_aload_n 0 (n := 3) hX (dec_of D_L_session (i := 2) rfl) rfl rfl rfl ?_
  refine s_iload_n 1 (n := 4) hX (dec_of D_L_session (i := 3) rfl) rfl rfl rfl ?_
  refine s_iload_n 2 (n := 5) hX (dec_of D_L_session (i := 4) rfl) rfl rfl rfl ?_
  refine s_callX (n := 8) hX hc hs htab (⟨wd_1324, wd_1325, wd_1326, wd_83, wd_1327, by decide +kernel, by decide⟩ : LkV RL 20 RX9 yX9_session cX9_session 3 (some .int) 2) wd_1212 wd_1213 (by decide) (dec_of D_L_session (i := 5) rfl) rfl (by decide) (c_X9_session (l := _) hG (by rw [hXl]; exact hl0) σ a1 a2) rfl rfl (Nat.le_of_ble_eq_true rfl) (fun v => ?_) (fun v q => ?_) (fun v q => ?_)
  · refine s_pos rfl ?_
    refine s_i2l (n := 9) hXB (dec_of D_L_session (i := 6) rfl) rfl ?_
    refine s_last (n := 10) hXB (vk105 (by decide)) (by decide) (dec_of D_L_session (i := 7) rfl) rfl (fun s => ?_)
    refine s_goto (n := 21) hXB (dec_of D_L_session (i := 8) rfl) rfl ?_
    refine s_iconst (v := 0) (n := 22) hXB (dec_of D_L_session (i := 15) rfl) rfl (by decide) ?_
    exact s_iret hXB hR (dec_of D_L_session (i := 16) rfl) rfl
  · refine s_neg (show ¬ ((1 : Int32) = 0) by decide) ?_
    refine s_pos rfl ?_
    refine s_astore (lv' := [(0, _), (1, _), (2, _), (3, _), (4, _)]) [1, 2, 3, 4, 0] (n := 15) hXB (dec_of D_L_session (i := 9) rfl) rfl (by decide) rfl ?_
    refine s_iconst (v := 1) (n := 16) hXB (dec_of D_L_session (i := 10) rfl) rfl (by decide) ?_
    exact s_iret hXB hR (dec_of D_L_session (i := 11) rfl) rfl
  · refine s_neg (show ¬ ((2 : Int32) = 0) by decide) ?_
    refine s_neg (show ¬ ((2 : Int32) = 1) by decide) ?_
    refine s_astore (lv' := [(0, _), (1, _), (2, _), (3, _), (4, _)]) [1, 2, 3, 4, 0] (n := 19) hXB (dec_of D_L_session (i := 12) rfl) rfl (by decide) rfl ?_
    refine s_iconst (v := 2) (n := 20) hXB (dec_of D_L_session (i := 13) rfl) rfl (by decide) ?_
    exact s_iret hXB hR (dec_of D_L_session (i := 14) rfl) rfl

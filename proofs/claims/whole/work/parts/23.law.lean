def R_law : String := "RightsPoolLaw"
def lw_P (b : Addr) (xs : List Int32) (args : Array Value) (s : State) : Prop := args = #[.ref b] ∧ s.IntsAt b xs ∧ xs.length ≤ 3584 ∧ (Jvm.Cond.and given_1 narrow_1).before args s = true
def lw_Q (_ : Array Value) (s : State) (o : Outcome) (t : State) : Prop := o = .returned (some (.int 1)) ∧ Framed s o t [] 601024 7293034
def lw_Z (below : List Frame) (a : Array Value) (s : State) : State → Prop := fun t => ∃ o, t.status = .running ∧ Ended t below o ∧ lw_Q a s o t
/-- the law's own end, with 1 on the stack, nothing written that was there before, its room as the claim has it -/
theorem lw_ret {p : Program} {l : Launch} {e : Env} {s : State} {m : MethodId} {below : List Frame} {meth : Method} {c : Code} {b : Nat} (hx : p.tables.exec = Jvm.exec) (hb : c.code = code) (hr : meth.sig.returnType = ret) (hlocks : meth.locks = false) {pc : Nat} {H : Heap} {ls : Array Slot} (hdg : decode code pc = .ok (.ireturn, 1)) : W p l e room_1 s m #[Value.ref b] below meth c H [] 601024 7293034 (lw_Z below #[Value.ref b] s) (F0 m pc ls [.int 1]) := by
  intro T hT X
  obtain ⟨fs, hret, hrun, hended, hW, hframe⟩ := X.leave (v := some (.int 1)) (hlocks := hlocks) (fun h => by rw [hr] at h; cases h)
  have hmeth' : T.vm.method? m = some meth := X.method'
  refine ⟨T.setFrames fs, ?_, .returned (some (.int 1)), hrun, hended, rfl, ⟨_, rfl⟩, hW, hframe⟩
  jvm_step X.here [X.here.top, hx, hb, hdg, hmeth', hr, ret, narrow_b1]
  (try refine ⟨rfl, ?_⟩); (try refine ⟨rfl, ?_⟩)
  first | (intro acts; rw [hret _ acts rfl rfl rfl]) | rw [hret _ _ rfl rfl rfl]
  exact Steps.refl _
/-- what holds at the law's entry: the machine, the code, the tables' words (any of lw_tbl by 'hts w (by decide +kernel)'), the script of L ints xs at the cell b, what the Statement gives of the start (any of its parts by flat_of_before) -/
def lw_At (p : Program) (s : State) (m : MethodId) (meth : Method) (c : Code) (b L : Nat) (xs : Nat → Int32) : Prop :=
  p.tables.exec = Jvm.exec ∧ c.code = code ∧ meth.sig.returnType = ret ∧ c.maxLocals = 7 ∧ s.vm.findClass R_law = some m.cls ∧ (∀ w ∈ lw_tbl, w.before #[Value.ref b] s = true) ∧ va_X b L xs s s.heap ∧ b < s.heap.size ∧ meth.locks = false ∧ (Jvm.Cond.and given_1 narrow_1).before #[Value.ref b] s = true
/-! ===== the law's loop ===== -/
def ldX (xs : Nat → Int32) (L : Nat) (j : Int32) : Option Int32 := if inB j L = true then some (xs j.toNatClampNeg) else none
def LawX (X : CX) (b : Nat) : Prop := X.2.2.2.1 = room_1 ∧ X.2.2.2.2.2.2.1 = #[Value.ref b] ∧ X.2.2.2.2.2.2.2.2.1.sig.returnType = ret ∧ X.2.2.2.2.2.2.2.2.1.locks = false
def Scr (G : GW) (X : CX) (b L : Nat) (xs : Nat → Int32) : Prop := va_X b L xs (xs_ X) (xs_ X).heap ∧ b < (xs_ X).heap.size ∧ ¬ Fr G b ∧ (xs_ X).heap.size ≤ gz G
def LQ (X : CX) (b : Nat) : Int32 → State → Prop := fun v t => v = 1 → lw_Z X.2.2.2.2.2.2.2.1 #[Value.ref b] (xs_ X) t
section LawRows
variable {G : GW} {X : CX} {cc : ByteArray} {nL d : Nat} {own : String} {β : Type} {Q : β → State → Prop} {σ : ST} {pc n : Nat} {lv : List (Nat × Value)} {st : List Value} {b L : Nat} {xs : Nat → Int32} {P : Option β}
theorem s_sld {i : Int32} {K : Int32 → Option β} (hX : Ok G X cc nL own d) (hs : Scr G X b L xs) (hd : decode cc pc = .ok (.iaload, 1)) (hn : pc + 1 = n) (k : ∀ v, Sim G X nL Q σ n lv (.int v :: st) (K v)) : Sim G X nL Q σ pc lv (.int i :: .ref b :: st) (bd_ (ldX xs L i) K) := by
  subst hn; intro q hq H locs ls hl hP hS
  by_cases h : inB i L = true
  · simp only [bd_, ldX, if_pos h, Option.bind_some] at hq
    exact va_sld hX.1 hX.2.1 hs.1 hs.2.1 hs.2.2.1 hS (inB_in h) hd (k _ q hq H locs ls hl hP hS)
  · simp [bd_, ldX, h] at hq
theorem s_slen (hX : Ok G X cc nL own d) (hs : Scr G X b L xs) (hd : decode cc pc = .ok (.arraylength, 1)) (hn : pc + 1 = n) (k : Sim G X nL Q σ n lv (.int (nI L) :: st) P) : Sim G X nL Q σ pc lv (.ref b :: st) P := by
  subst hn; exact fun q hq H locs ls hl hP hS => va_slen hX.1 hX.2.1 hs.1 hs.2.1 hs.2.2.1 hS hd (k q hq H locs ls hl hP hS)
theorem s_wid (k : Sim G (bump X) nL Q σ pc lv st P) : Sim G X nL Q σ pc lv st P := fun q hq H locs ls hl hP hS => W.widen (Nat.le_add_right _ 1) (Nat.le_add_right _ 6) (k q hq H locs ls hl hP hS)
theorem s_bad {v : Int32} (hv : v ≠ 1) : Sim G X nL (LQ X b) σ pc lv st (some v) := fun q hq H locs ls hl hP hS T hT XX => ⟨_, Steps.refl _, fun h => absurd ((Option.some.inj hq).trans h) hv⟩
theorem s_fin (hX : Ok G X code nL own d) (hL : LawX X b) (hs : (xs_ X).heap.size ≤ gz G) (hc : X.2.2.2.2.2.2.2.2.2.2.1 ≤ 601024) (hc2 : X.2.2.2.2.2.2.2.2.2.2.2 ≤ 7293034) (hd : decode code pc = .ok (.ireturn, 1)) : Sim G X nL (LQ X b) σ pc lv [.int 1] (some 1) := by
  intro q hq H locs ls hl hP hS
  obtain ⟨p, l, e, R, s, m, args, below, meth, c, k1, k2⟩ := X
  obtain ⟨h1, h2, h3, h4⟩ := hL
  dsimp only at h1 h2
  subst h1; subst h2
  have key : W p l e room_1 s m #[Value.ref b] below meth c H locs k1 k2 (lw_Z below #[Value.ref b] s) (F0 m pc ls [.int 1]) :=
    va_forget (fun q hq => Nat.le_trans hs (hS.2.2 q hq)) (W.widen hc hc2 (lw_ret hX.1 hX.2.1 h3 h4 hd))
  intro T hT XX
  obtain ⟨t, a1, a2⟩ := key T hT XX
  exact ⟨t, a1, fun _ => a2⟩
end LawRows
theorem lk_RL_27 : LkV RL 27 RX9 yX9_feed cX9_feed 6 (some .int) 5 := ⟨wd_469, wd_470, wd_471, wd_83, wd_472, by decide +kernel, by decide⟩
theorem lk_RL_31 : LkV RL 31 RX10 yX10_feed cX10_feed 8 (some .int) 5 := ⟨wd_1501, wd_1502, wd_1503, wd_93, wd_1504, by decide +kernel, by decide⟩
def T_L_law0 : List (Nat × Instr × Nat) := [(288, .aload_n 1, 1), (289, .aload_n 0, 1), (290, .iload 4, 2), (292, .iconst 1, 1), (293, .iadd, 1), (294, .iaload, 1), (295, .aload_n 0, 1), (296, .iload 4, 2), (298, .iconst 2, 1), (299, .iadd, 1), (300, .iaload, 1), (301, .aload_n 0, 1), (302, .iload 4, 2), (304, .iconst 3, 1), (305, .iadd, 1), (306, .iaload, 1), (307, .aload_n 0, 1), (308, .iload 4, 2), (310, .iconst 4, 1), (311, .iadd, 1), (312, .iaload, 1), (313, .aload_n 0, 1), (314, .iload 4, 2), (316, .iconst 5, 1), (317, .iadd, 1), (318, .iaload, 1), (319, .invokevirtual 27, 3), (322, .aload_n 2, 1), (323, .aload_n 0, 1), (324, .iload 4, 2), (326, .iconst 1, 1), (327, .iadd, 1), (328, .iaload, 1), (329, .aload_n 0, 1), (330, .iload 4, 2), (332, .iconst 2, 1), (333, .iadd, 1), (334, .iaload, 1), (335, .aload_n 0, 1), (336, .iload 4, 2), (338, .iconst 3, 1), (339, .iadd, 1), (340, .iaload, 1), (341, .aload_n 0, 1), (342, .iload 4, 2), (344, .iconst 4, 1), (345, .iadd, 1), (346, .iaload, 1), (347, .aload_n 0, 1), (348, .iload 4, 2), (350, .iconst 5, 1), (351, .iadd, 1), (352, .iaload, 1), (353, .invokevirtual 31, 3), (356, .if_icmp .eq 2213, 3), (359, .iconst 0, 1), (360, .ireturn, 1)]
theorem D_L_law0 : dchk code T_L_law0 = true := by decide +kernel
def lawC0 (xs : Nat → Int32) (L : Nat) (rec : ST × Int32 → Option Int32) (σ : ST) (i : Int32) : Option Int32 :=
  bd_ (ldX xs L (i + 1)) (fun v1 => bd_ (ldX xs L (i + 2)) (fun v2 => bd_ (ldX xs L (i + 3)) (fun v3 => bd_ (ldX xs L (i + 4)) (fun v4 => bd_ (ldX xs L (i + 5)) (fun v5 => bd_ (Rp_feed (σ) v1 v2 v3 v4 v5) (fun q6 => bd_ (ldX xs L (i + 1)) (fun v7 => bd_ (ldX xs L (i + 2)) (fun v8 => bd_ (ldX xs L (i + 3)) (fun v9 => bd_ (ldX xs L (i + 4)) (fun v10 => bd_ (ldX xs L (i + 5)) (fun v11 => bd_ (Mo_feed q6.2 v7 v8 v9 v10 v11) (fun q12 => (if q6.1 = q12.1 then rec (q12.2, i + 7) else some 0)))))))))))))
set_option maxHeartbeats 4000000 in
set_option maxRecDepth 100000 in
theorem s_lawC0 {G : GW} (hG : Good G) {X : CX} {b L : Nat} {xs : Nat → Int32} (hX : Ok G X code 7 RL 14) (hsc : Scr G X b L xs) {l : Launch} (hXl : X.2.1 = l) (hl0 : l.stackTraces = false) (hc : X.2.2.2.2.2.2.2.2.2.2.1 + 1 ≤ X.2.2.2.1.cells) (hs : X.2.2.2.2.2.2.2.2.2.2.2 + 6 ≤ X.2.2.2.1.slots) {σ : ST} {i : Int32} {rec : ST × Int32 → Option Int32} (hit : ∀ σ1, Sim G (bump X) 7 (LQ X b) σ1 2569 [(0, .ref b), (1, .ref (ga G 130 0)), (2, .ref (ga G 131 0)), (3, .ref (ga G 105 0)), (4, .int i)] [] (rec (σ1, i + 7))) : Sim G X 7 (LQ X b) σ 288 [(0, .ref b), (1, .ref (ga G 130 0)), (2, .ref (ga G 131 0)), (3, .ref (ga G 105 0)), (4, .int i)] [] (lawC0 xs L rec σ i) := by
  unfold lawC0
  refine s_aload_n 1 (n := 289) hX (dec_of D_L_law0 (i := 0) rfl) rfl rfl rfl ?_
  refine s_aload_n 0 (n := 290) hX (dec_of D_L_law0 (i := 1) rfl) rfl rfl rfl ?_
  refine s_iload 4 (n := 292) hX (dec_of D_L_law0 (i := 2) rfl) rfl rfl ?_
  refine s_iconst (v := 1) (n := 293) hX (dec_of D_L_law0 (i := 3) rfl) rfl (by decide) ?_
  refine s_iadd (n := 294) hX (dec_of D_L_law0 (i := 4) rfl) rfl ?_
  refine s_sld (n := 295) hX hsc (dec_of D_L_law0 (i := 5) rfl) rfl (fun v1 => ?_)
  refine s_aload_n 0 (n := 296) hX (dec_of D_L_law0 (i := 6) rfl) rfl rfl rfl ?_
  refine s_iload 4 (n := 298) hX (dec_of D_L_law0 (i := 7) rfl) rfl rfl ?_
  refine s_iconst (v := 2) (n := 299) hX (dec_of D_L_law0 (i := 8) rfl) rfl (by decide) ?_
  refine s_iadd (n := 300) hX (dec_of D_L_law0 (i := 9) rfl) rfl ?_
  refine s_sld (n := 301) hX hsc (dec_of D_L_law0 (i := 10) rfl) rfl (fun v2 => ?_)
  refine s_aload_n 0 (n := 302) hX (dec_of D_L_law0 (i := 11) rfl) rfl rfl rfl ?_
  refine s_iload 4 (n := 304) hX (dec_of D_L_law0 (i := 12) rfl) rfl rfl ?_
  refine s_iconst (v := 3) (n := 305) hX (dec_of D_L_law0 (i := 13) rfl) rfl (by decide) ?_
  refine s_iadd (n := 306) hX (dec_of D_L_law0 (i := 14) rfl) rfl ?_
  refine s_sld (n := 307) hX hsc (dec_of D_L_law0 (i := 15) rfl) rfl (fun v3 => ?_)
  refine s_aload_n 0 (n := 308) hX (dec_of D_L_law0 (i := 16) rfl) rfl rfl rfl ?_
  refine s_iload 4 (n := 310) hX (dec_of D_L_law0 (i := 17) rfl) rfl rfl ?_
  refine s_iconst (v := 4) (n := 311) hX (dec_of D_L_law0 (i := 18) rfl) rfl (by decide) ?_
  refine s_iadd (n := 312) hX (dec_of D_L_law0 (i := 19) rfl) rfl ?_
  refine s_sld (n := 313) hX hsc (dec_of D_L_law0 (i := 20) rfl) rfl (fun v4 => ?_)
  refine s_aload_n 0 (n := 314) hX (dec_of D_L_law0 (i := 21) rfl) rfl rfl rfl ?_
  refine s_iload 4 (n := 316) hX (dec_of D_L_law0 (i := 22) rfl) rfl rfl ?_
  refine s_iconst (v := 5) (n := 317) hX (dec_of D_L_law0 (i := 23) rfl) rfl (by decide) ?_
  refine s_iadd (n := 318) hX (dec_of D_L_law0 (i := 24) rfl) rfl ?_
  refine s_sld (n := 319) hX hsc (dec_of D_L_law0 (i := 25) rfl) rfl (fun v5 => ?_)
  refine s_callVP (c := 9) (n := 322) hX cls9 (vk130 (by omega)) lk_RL_27 (dec_of D_L_law0 (i := 26) rfl) rfl (by decide) (c_X9_feed (l := _) hG _ _ _ _ _ _) rfl rfl (Nat.le_of_ble_eq_true rfl) (fun q6 => ?_)
  refine s_aload_n 2 (n := 323) hX (dec_of D_L_law0 (i := 27) rfl) rfl rfl rfl ?_
  refine s_aload_n 0 (n := 324) hX (dec_of D_L_law0 (i := 28) rfl) rfl rfl rfl ?_
  refine s_iload 4 (n := 326) hX (dec_of D_L_law0 (i := 29) rfl) rfl rfl ?_
  refine s_iconst (v := 1) (n := 327) hX (dec_of D_L_law0 (i := 30) rfl) rfl (by decide) ?_
  refine s_iadd (n := 328) hX (dec_of D_L_law0 (i := 31) rfl) rfl ?_
  refine s_sld (n := 329) hX hsc (dec_of D_L_law0 (i := 32) rfl) rfl (fun v7 => ?_)
  refine s_aload_n 0 (n := 330) hX (dec_of D_L_law0 (i := 33) rfl) rfl rfl rfl ?_
  refine s_iload 4 (n := 332) hX (dec_of D_L_law0 (i := 34) rfl) rfl rfl ?_
  refine s_iconst (v := 2) (n := 333) hX (dec_of D_L_law0 (i := 35) rfl) rfl (by decide) ?_
  refine s_iadd (n := 334) hX (dec_of D_L_law0 (i := 36) rfl) rfl ?_
  refine s_sld (n := 335) hX hsc (dec_of D_L_law0 (i := 37) rfl) rfl (fun v8 => ?_)
  refine s_aload_n 0 (n := 336) hX (dec_of D_L_law0 (i := 38) rfl) rfl rfl rfl ?_
  refine s_iload 4 (n := 338) hX (dec_of D_L_law0 (i := 39) rfl) rfl rfl ?_
  refine s_iconst (v := 3) (n := 339) hX (dec_of D_L_law0 (i := 40) rfl) rfl (by decide) ?_
  refine s_iadd (n := 340) hX (dec_of D_L_law0 (i := 41) rfl) rfl ?_
  refine s_sld (n := 341) hX hsc (dec_of D_L_law0 (i := 42) rfl) rfl (fun v9 => ?_)
  refine s_aload_n 0 (n := 342) hX (dec_of D_L_law0 (i := 43) rfl) rfl rfl rfl ?_
  refine s_iload 4 (n := 344) hX (dec_of D_L_law0 (i := 44) rfl) rfl rfl ?_
  refine s_iconst (v := 4) (n := 345) hX (dec_of D_L_law0 (i := 45) rfl) rfl (by decide) ?_
  refine s_iadd (n := 346) hX (dec_of D_L_law0 (i := 46) rfl) rfl ?_
  refine s_sld (n := 347) hX hsc (dec_of D_L_law0 (i := 47) rfl) rfl (fun v10 => ?_)
  refine s_aload_n 0 (n := 348) hX (dec_of D_L_law0 (i := 48) rfl) rfl rfl rfl ?_
  refine s_iload 4 (n := 350) hX (dec_of D_L_law0 (i := 49) rfl) rfl rfl ?_
  refine s_iconst (v := 5) (n := 351) hX (dec_of D_L_law0 (i := 50) rfl) rfl (by decide) ?_
  refine s_iadd (n := 352) hX (dec_of D_L_law0 (i := 51) rfl) rfl ?_
  refine s_sld (n := 353) hX hsc (dec_of D_L_law0 (i := 52) rfl) rfl (fun v11 => ?_)
  refine s_callVP (c := 10) (n := 356) hX cls10 (vk131 (by omega)) lk_RL_31 (dec_of D_L_law0 (i := 53) rfl) rfl (by decide) (c_X10_feed (l := _) hG _ _ _ _ _ _) rfl rfl (Nat.le_of_ble_eq_true rfl) (fun q12 => ?_)
  refine s_icmp_eq (tgt := 2569) (n := 359) hX (dec_of D_L_law0 (i := 54) rfl) rfl rfl ?_ ?_
  · refine s_wid ?_
    exact s_sub [0, 1, 2, 3, 4] rfl (hit q12.2)
  · exact s_bad (by decide)
theorem lk_RL_32 : LkV RL 32 RX9 yX9_text cX9_text 3 (some .int) 1 := ⟨wd_477, wd_478, wd_479, wd_83, wd_480, by decide +kernel, by decide⟩
theorem lk_RL_36 : LkV RL 36 RX10 yX10_text cX10_text 2 (some .int) 1 := ⟨wd_1505, wd_1506, wd_1507, wd_93, wd_1508, by decide +kernel, by decide⟩
def T_L_law1 : List (Nat × Instr × Nat) := [(361, .aload_n 1, 1), (362, .aload_n 0, 1), (363, .iload 4, 2), (365, .iconst 1, 1), (366, .iadd, 1), (367, .iaload, 1), (368, .invokevirtual 32, 3), (371, .aload_n 2, 1), (372, .aload_n 0, 1), (373, .iload 4, 2), (375, .iconst 1, 1), (376, .iadd, 1), (377, .iaload, 1), (378, .invokevirtual 36, 3), (381, .if_icmp .eq 2188, 3), (384, .iconst 0, 1), (385, .ireturn, 1)]
theorem D_L_law1 : dchk code T_L_law1 = true := by decide +kernel
def lawC1 (xs : Nat → Int32) (L : Nat) (rec : ST × Int32 → Option Int32) (σ : ST) (i : Int32) : Option Int32 :=
  bd_ (ldX xs L (i + 1)) (fun v1 => bd_ (Rp_text (σ) v1) (fun q2 => bd_ (ldX xs L (i + 1)) (fun v3 => bd_ (Mo_text q2.2 v3) (fun q4 => (if q2.1 = q4.1 then rec (q4.2, i + 7) else some 0)))))
set_option maxHeartbeats 4000000 in
set_option maxRecDepth 100000 in
theorem s_lawC1 {G : GW} (hG : Good G) {X : CX} {b L : Nat} {xs : Nat → Int32} (hX : Ok G X code 7 RL 14) (hsc : Scr G X b L xs) {l : Launch} (hXl : X.2.1 = l) (hl0 : l.stackTraces = false) (hc : X.2.2.2.2.2.2.2.2.2.2.1 + 1 ≤ X.2.2.2.1.cells) (hs : X.2.2.2.2.2.2.2.2.2.2.2 + 6 ≤ X.2.2.2.1.slots) {σ : ST} {i : Int32} {rec : ST × Int32 → Option Int32} (hit : ∀ σ1, Sim G (bump X) 7 (LQ X b) σ1 2569 [(0, .ref b), (1, .ref (ga G 130 0)), (2, .ref (ga G 131 0)), (3, .ref (ga G 105 0)), (4, .int i)] [] (rec (σ1, i + 7))) : Sim G X 7 (LQ X b) σ 361 [(0, .ref b), (1, .ref (ga G 130 0)), (2, .ref (ga G 131 0)), (3, .ref (ga G 105 0)), (4, .int i)] [] (lawC1 xs L rec σ i) := by
  unfold lawC1
  refine s_aload_n 1 (n := 362) hX (dec_of D_L_law1 (i := 0) rfl) rfl rfl rfl ?_
  refine s_aload_n 0 (n := 363) hX (dec_of D_L_law1 (i := 1) rfl) rfl rfl rfl ?_
  refine s_iload 4 (n := 365) hX (dec_of D_L_law1 (i := 2) rfl) rfl rfl ?_
  refine s_iconst (v := 1) (n := 366) hX (dec_of D_L_law1 (i := 3) rfl) rfl (by decide) ?_
  refine s_iadd (n := 367) hX (dec_of D_L_law1 (i := 4) rfl) rfl ?_
  refine s_sld (n := 368) hX hsc (dec_of D_L_law1 (i := 5) rfl) rfl (fun v1 => ?_)
  refine s_callVP (c := 9) (n := 371) hX cls9 (vk130 (by omega)) lk_RL_32 (dec_of D_L_law1 (i := 6) rfl) rfl (by decide) (c_X9_text (l := _) hG _ _) rfl rfl (Nat.le_of_ble_eq_true rfl) (fun q2 => ?_)
  refine s_aload_n 2 (n := 372) hX (dec_of D_L_law1 (i := 7) rfl) rfl rfl rfl ?_
  refine s_aload_n 0 (n := 373) hX (dec_of D_L_law1 (i := 8) rfl) rfl rfl rfl ?_
  refine s_iload 4 (n := 375) hX (dec_of D_L_law1 (i := 9) rfl) rfl rfl ?_
  refine s_iconst (v := 1) (n := 376) hX (dec_of D_L_law1 (i := 10) rfl) rfl (by decide) ?_
  refine s_iadd (n := 377) hX (dec_of D_L_law1 (i := 11) rfl) rfl ?_
  refine s_sld (n := 378) hX hsc (dec_of D_L_law1 (i := 12) rfl) rfl (fun v3 => ?_)
  refine s_callVP (c := 10) (n := 381) hX cls10 (vk131 (by omega)) lk_RL_36 (dec_of D_L_law1 (i := 13) rfl) rfl (by decide) (c_X10_text (l := _) hG _ _) rfl rfl (Nat.le_of_ble_eq_true rfl) (fun q4 => ?_)
  refine s_icmp_eq (tgt := 2569) (n := 384) hX (dec_of D_L_law1 (i := 14) rfl) rfl rfl ?_ ?_
  · refine s_wid ?_
    exact s_sub [0, 1, 2, 3, 4] rfl (hit q4.2)
  · exact s_bad (by decide)
theorem lk_RL_37 : LkV RL 37 RX9 yX9_fault cX9_fault 2 (some .int) 1 := ⟨wd_666, wd_667, wd_668, wd_83, wd_669, by decide +kernel, by decide⟩
theorem lk_RL_40 : LkV RL 40 RX10 yX10_fault cX10_fault 2 (some .int) 1 := ⟨wd_1595, wd_1596, wd_1597, wd_93, wd_1598, by decide +kernel, by decide⟩
def T_L_law2 : List (Nat × Instr × Nat) := [(386, .aload_n 1, 1), (387, .aload_n 0, 1), (388, .iload 4, 2), (390, .iconst 1, 1), (391, .iadd, 1), (392, .iaload, 1), (393, .invokevirtual 37, 3), (396, .aload_n 2, 1), (397, .aload_n 0, 1), (398, .iload 4, 2), (400, .iconst 1, 1), (401, .iadd, 1), (402, .iaload, 1), (403, .invokevirtual 40, 3), (406, .if_icmp .eq 2163, 3), (409, .iconst 0, 1), (410, .ireturn, 1)]
theorem D_L_law2 : dchk code T_L_law2 = true := by decide +kernel
def lawC2 (xs : Nat → Int32) (L : Nat) (rec : ST × Int32 → Option Int32) (σ : ST) (i : Int32) : Option Int32 :=
  bd_ (ldX xs L (i + 1)) (fun v1 => bd_ (Rp_fault (σ) v1) (fun q2 => bd_ (ldX xs L (i + 1)) (fun v3 => bd_ (Mo_fault (σ) v3) (fun q4 => (if q2 = q4.1 then rec (q4.2, i + 7) else some 0)))))
set_option maxHeartbeats 4000000 in
set_option maxRecDepth 100000 in
theorem s_lawC2 {G : GW} (hG : Good G) {X : CX} {b L : Nat} {xs : Nat → Int32} (hX : Ok G X code 7 RL 14) (hsc : Scr G X b L xs) {l : Launch} (hXl : X.2.1 = l) (hl0 : l.stackTraces = false) (hc : X.2.2.2.2.2.2.2.2.2.2.1 + 1 ≤ X.2.2.2.1.cells) (hs : X.2.2.2.2.2.2.2.2.2.2.2 + 6 ≤ X.2.2.2.1.slots) {σ : ST} {i : Int32} {rec : ST × Int32 → Option Int32} (hit : ∀ σ1, Sim G (bump X) 7 (LQ X b) σ1 2569 [(0, .ref b), (1, .ref (ga G 130 0)), (2, .ref (ga G 131 0)), (3, .ref (ga G 105 0)), (4, .int i)] [] (rec (σ1, i + 7))) : Sim G X 7 (LQ X b) σ 386 [(0, .ref b), (1, .ref (ga G 130 0)), (2, .ref (ga G 131 0)), (3, .ref (ga G 105 0)), (4, .int i)] [] (lawC2 xs L rec σ i) := by
  unfold lawC2
  refine s_aload_n 1 (n := 387) hX (dec_of D_L_law2 (i := 0) rfl) rfl rfl rfl ?_
  refine s_aload_n 0 (n := 388) hX (dec_of D_L_law2 (i := 1) rfl) rfl rfl rfl ?_
  refine s_iload 4 (n := 390) hX (dec_of D_L_law2 (i := 2) rfl) rfl rfl ?_
  refine s_iconst (v := 1) (n := 391) hX (dec_of D_L_law2 (i := 3) rfl) rfl (by decide) ?_
  refine s_iadd (n := 392) hX (dec_of D_L_law2 (i := 4) rfl) rfl ?_
  refine s_sld (n := 393) hX hsc (dec_of D_L_law2 (i := 5) rfl) rfl (fun v1 => ?_)
  refine s_callVI (c := 9) (n := 396) hX cls9 (vk130 (by omega)) lk_RL_37 (dec_of D_L_law2 (i := 6) rfl) rfl (by decide) (c_X9_fault (l := _) hG _ _) rfl rfl (Nat.le_of_ble_eq_true rfl) (fun q2 => ?_)
  refine s_aload_n 2 (n := 397) hX (dec_of D_L_law2 (i := 7) rfl) rfl rfl rfl ?_
  refine s_aload_n 0 (n := 398) hX (dec_of D_L_law2 (i := 8) rfl) rfl rfl rfl ?_
  refine s_iload 4 (n := 400) hX (dec_of D_L_law2 (i := 9) rfl) rfl rfl ?_
  refine s_iconst (v := 1) (n := 401) hX (dec_of D_L_law2 (i := 10) rfl) rfl (by decide) ?_
  refine s_iadd (n := 402) hX (dec_of D_L_law2 (i := 11) rfl) rfl ?_
  refine s_sld (n := 403) hX hsc (dec_of D_L_law2 (i := 12) rfl) rfl (fun v3 => ?_)
  refine s_callVP (c := 10) (n := 406) hX cls10 (vk131 (by omega)) lk_RL_40 (dec_of D_L_law2 (i := 13) rfl) rfl (by decide) (c_X10_fault (l := _) hG _ _) rfl rfl (Nat.le_of_ble_eq_true rfl) (fun q4 => ?_)
  refine s_icmp_eq (tgt := 2569) (n := 409) hX (dec_of D_L_law2 (i := 14) rfl) rfl rfl ?_ ?_
  · refine s_wid ?_
    exact s_sub [0, 1, 2, 3, 4] rfl (hit q4.2)
  · exact s_bad (by decide)
theorem lk_RL_46 : LkV RL 46 RX10 yX10_land cX10_land 5 (some .int) 2 := ⟨wd_1599, wd_1600, wd_1601, wd_93, wd_1602, by decide +kernel, by decide⟩
theorem lk_RL_47 : LkV RL 47 RX10 yX10_thrown cX10_thrown 1 (some .int) 0 := ⟨wd_1497, wd_1498, wd_1499, wd_93, wd_1500, by decide +kernel, by decide⟩
def T_L_law3 : List (Nat × Instr × Nat) := [(411, .aload_n 1, 1), (412, .aload_n 0, 1), (413, .iload 4, 2), (415, .iconst 1, 1), (416, .iadd, 1), (417, .iaload, 1), (418, .aload_n 0, 1), (419, .iload 4, 2), (421, .iconst 2, 1), (422, .iadd, 1), (423, .iaload, 1), (424, .aload_n 3, 1), (425, .invokestatic 41, 3), (428, .istore 5, 2), (430, .aload_n 2, 1), (431, .aload_n 0, 1), (432, .iload 4, 2), (434, .iconst 1, 1), (435, .iadd, 1), (436, .iaload, 1), (437, .aload_n 0, 1), (438, .iload 4, 2), (440, .iconst 2, 1), (441, .iadd, 1), (442, .iaload, 1), (443, .invokevirtual 46, 3), (446, .istore 6, 2), (448, .aload_n 2, 1), (449, .invokevirtual 47, 3), (452, .iload 5, 2), (454, .if_icmp .eq 5, 3), (457, .iconst 0, 1), (458, .ireturn, 1), (459, .iload 5, 2), (461, .ifCond .ne 15, 3), (464, .aload_n 3, 1), (465, .iconst 0, 1), (466, .laload, 1), (467, .iload 6, 2), (469, .i2l, 1), (470, .lcmp, 1), (471, .ifCond .eq 5, 3), (474, .iconst 0, 1), (475, .ireturn, 1), (476, .goto 2093, 3)]
theorem D_L_law3 : dchk code T_L_law3 = true := by decide +kernel
def lawC3 (xs : Nat → Int32) (L : Nat) (rec : ST × Int32 → Option Int32) (σ : ST) (i : Int32) : Option Int32 :=
  bd_ (ldX xs L (i + 1)) (fun v1 => bd_ (ldX xs L (i + 2)) (fun v2 => bd_ (Lw_land (σ) v1 v2) (fun q3 => bd_ (ldX xs L (i + 1)) (fun v4 => bd_ (ldX xs L (i + 2)) (fun v5 => bd_ (Mo_land q3.2 v4 v5) (fun q6 => bd_ (Mo_thrown q6.2) (fun q7 => (if q7 = q3.1 then (if q3.1 = 0 then bd_ (ldL q6.2 105 0 0) (fun v8 => (if (lg_cmp v8 (Int32.toInt64 q6.1)) = 0 then rec (q6.2, i + 7) else some 0)) else rec (q6.2, i + 7)) else some 0))))))))
set_option maxHeartbeats 4000000 in
set_option maxRecDepth 100000 in
theorem s_lawC3 {G : GW} (hG : Good G) {X : CX} {b L : Nat} {xs : Nat → Int32} (hX : Ok G X code 7 RL 14) (hsc : Scr G X b L xs) {l : Launch} (hXl : X.2.1 = l) (hl0 : l.stackTraces = false) (hc : X.2.2.2.2.2.2.2.2.2.2.1 + 1 ≤ X.2.2.2.1.cells) (hs : X.2.2.2.2.2.2.2.2.2.2.2 + 6 ≤ X.2.2.2.1.slots) {σ : ST} {i : Int32} {rec : ST × Int32 → Option Int32} (hit : ∀ σ1, Sim G (bump X) 7 (LQ X b) σ1 2569 [(0, .ref b), (1, .ref (ga G 130 0)), (2, .ref (ga G 131 0)), (3, .ref (ga G 105 0)), (4, .int i)] [] (rec (σ1, i + 7))) : Sim G X 7 (LQ X b) σ 411 [(0, .ref b), (1, .ref (ga G 130 0)), (2, .ref (ga G 131 0)), (3, .ref (ga G 105 0)), (4, .int i)] [] (lawC3 xs L rec σ i) := by
  unfold lawC3
  refine s_aload_n 1 (n := 412) hX (dec_of D_L_law3 (i := 0) rfl) rfl rfl rfl ?_
  refine s_aload_n 0 (n := 413) hX (dec_of D_L_law3 (i := 1) rfl) rfl rfl rfl ?_
  refine s_iload 4 (n := 415) hX (dec_of D_L_law3 (i := 2) rfl) rfl rfl ?_
  refine s_iconst (v := 1) (n := 416) hX (dec_of D_L_law3 (i := 3) rfl) rfl (by decide) ?_
  refine s_iadd (n := 417) hX (dec_of D_L_law3 (i := 4) rfl) rfl ?_
  refine s_sld (n := 418) hX hsc (dec_of D_L_law3 (i := 5) rfl) rfl (fun v1 => ?_)
  refine s_aload_n 0 (n := 419) hX (dec_of D_L_law3 (i := 6) rfl) rfl rfl rfl ?_
  refine s_iload 4 (n := 421) hX (dec_of D_L_law3 (i := 7) rfl) rfl rfl ?_
  refine s_iconst (v := 2) (n := 422) hX (dec_of D_L_law3 (i := 8) rfl) rfl (by decide) ?_
  refine s_iadd (n := 423) hX (dec_of D_L_law3 (i := 9) rfl) rfl ?_
  refine s_sld (n := 424) hX hsc (dec_of D_L_law3 (i := 10) rfl) rfl (fun v2 => ?_)
  refine s_aload_n 3 (n := 425) hX (dec_of D_L_law3 (i := 11) rfl) rfl rfl rfl ?_
  refine s_callH (n := 428) hX hc hs (⟨wd_1209, wd_1210, wd_82, wd_1211, by decide +kernel, by decide⟩ : LkH 41 yL_land cL_land 5 4) (dec_of D_L_law3 (i := 12) rfl) rfl (by decide) (c_L_land (l := _) hG (by rw [hXl]; exact hl0) _ _ _) rfl rfl (Nat.le_of_ble_eq_true rfl) (fun q3 => ?_)
  have hX := hX.bump hc hs
  refine s_istore (lv' := [(0, _), (1, _), (2, _), (3, _), (4, _), (5, _)]) [1, 2, 3, 4, 5, 0] (n := 430) hX (dec_of D_L_law3 (i := 13) rfl) rfl (by decide) rfl ?_
  refine s_aload_n 2 (n := 431) hX (dec_of D_L_law3 (i := 14) rfl) rfl rfl rfl ?_
  refine s_aload_n 0 (n := 432) hX (dec_of D_L_law3 (i := 15) rfl) rfl rfl rfl ?_
  refine s_iload 4 (n := 434) hX (dec_of D_L_law3 (i := 16) rfl) rfl rfl ?_
  refine s_iconst (v := 1) (n := 435) hX (dec_of D_L_law3 (i := 17) rfl) rfl (by decide) ?_
  refine s_iadd (n := 436) hX (dec_of D_L_law3 (i := 18) rfl) rfl ?_
  refine s_sld (n := 437) hX hsc (dec_of D_L_law3 (i := 19) rfl) rfl (fun v4 => ?_)
  refine s_aload_n 0 (n := 438) hX (dec_of D_L_law3 (i := 20) rfl) rfl rfl rfl ?_
  refine s_iload 4 (n := 440) hX (dec_of D_L_law3 (i := 21) rfl) rfl rfl ?_
  refine s_iconst (v := 2) (n := 441) hX (dec_of D_L_law3 (i := 22) rfl) rfl (by decide) ?_
  refine s_iadd (n := 442) hX (dec_of D_L_law3 (i := 23) rfl) rfl ?_
  refine s_sld (n := 443) hX hsc (dec_of D_L_law3 (i := 24) rfl) rfl (fun v5 => ?_)
  refine s_callVP (c := 10) (n := 446) hX cls10 (vk131 (by omega)) lk_RL_46 (dec_of D_L_law3 (i := 25) rfl) rfl (by decide) (c_X10_land (l := _) hG _ _ _) rfl rfl (Nat.le_of_ble_eq_true rfl) (fun q6 => ?_)
  refine s_istore (lv' := [(0, _), (1, _), (2, _), (3, _), (4, _), (5, _), (6, _)]) [1, 2, 3, 4, 5, 6, 0] (n := 448) hX (dec_of D_L_law3 (i := 26) rfl) rfl (by decide) rfl ?_
  refine s_aload_n 2 (n := 449) hX (dec_of D_L_law3 (i := 27) rfl) rfl rfl rfl ?_
  refine s_callVI (c := 10) (n := 452) hX cls10 (vk131 (by omega)) lk_RL_47 (dec_of D_L_law3 (i := 28) rfl) rfl (by decide) (c_X10_thrown (l := _) hG _) rfl rfl (Nat.le_of_ble_eq_true rfl) (fun q7 => ?_)
  refine s_iload 5 (n := 454) hX (dec_of D_L_law3 (i := 29) rfl) rfl rfl ?_
  refine s_icmp_eq (tgt := 459) (n := 457) hX (dec_of D_L_law3 (i := 30) rfl) rfl rfl ?_ ?_
  · refine s_iload 5 (n := 461) hX (dec_of D_L_law3 (i := 33) rfl) rfl rfl ?_
    refine s_if_ne (tgt := 476) (n := 464) hX (dec_of D_L_law3 (i := 34) rfl) rfl rfl ?_ ?_
    · refine s_goto (n := 2569) hX (dec_of D_L_law3 (i := 44) rfl) rfl ?_
      exact s_sub [0, 1, 2, 3, 4] rfl (hit q6.2)
    · refine s_aload_n 3 (n := 465) hX (dec_of D_L_law3 (i := 35) rfl) rfl rfl rfl ?_
      refine s_iconst (v := 0) (n := 466) hX (dec_of D_L_law3 (i := 36) rfl) rfl (by decide) ?_
      refine s_lald (n := 467) hX (vk105 (by omega)) (by decide) (dec_of D_L_law3 (i := 37) rfl) rfl (fun v8 => ?_)
      refine s_iload 6 (n := 469) hX (dec_of D_L_law3 (i := 38) rfl) rfl rfl ?_
      refine s_i2l (n := 470) hX (dec_of D_L_law3 (i := 39) rfl) rfl ?_
      refine s_lcmp (n := 471) hX (dec_of D_L_law3 (i := 40) rfl) rfl ?_
      refine s_if_eq (tgt := 476) (n := 474) hX (dec_of D_L_law3 (i := 41) rfl) rfl rfl ?_ ?_
      · refine s_goto (n := 2569) hX (dec_of D_L_law3 (i := 44) rfl) rfl ?_
        exact s_sub [0, 1, 2, 3, 4] rfl (hit q6.2)
      · exact s_bad (by decide)
  · exact s_bad (by decide)
theorem lk_RL_53 : LkV RL 53 RX10 yX10_player cX10_player 5 (some .int) 2 := ⟨wd_1618, wd_1619, wd_1620, wd_93, wd_1621, by decide +kernel, by decide⟩
def T_L_law4 : List (Nat × Instr × Nat) := [(479, .aload_n 1, 1), (480, .aload_n 0, 1), (481, .iload 4, 2), (483, .iconst 1, 1), (484, .iadd, 1), (485, .iaload, 1), (486, .aload_n 0, 1), (487, .iload 4, 2), (489, .iconst 2, 1), (490, .iadd, 1), (491, .iaload, 1), (492, .aload_n 3, 1), (493, .invokestatic 51, 3), (496, .istore 5, 2), (498, .aload_n 2, 1), (499, .aload_n 0, 1), (500, .iload 4, 2), (502, .iconst 1, 1), (503, .iadd, 1), (504, .iaload, 1), (505, .aload_n 0, 1), (506, .iload 4, 2), (508, .iconst 2, 1), (509, .iadd, 1), (510, .iaload, 1), (511, .invokevirtual 53, 3), (514, .istore 6, 2), (516, .aload_n 2, 1), (517, .invokevirtual 47, 3), (520, .iload 5, 2), (522, .if_icmp .eq 5, 3), (525, .iconst 0, 1), (526, .ireturn, 1), (527, .iload 5, 2), (529, .ifCond .ne 15, 3), (532, .aload_n 3, 1), (533, .iconst 0, 1), (534, .laload, 1), (535, .iload 6, 2), (537, .i2l, 1), (538, .lcmp, 1), (539, .ifCond .eq 5, 3), (542, .iconst 0, 1), (543, .ireturn, 1), (544, .goto 2025, 3)]
theorem D_L_law4 : dchk code T_L_law4 = true := by decide +kernel
def lawC4 (xs : Nat → Int32) (L : Nat) (rec : ST × Int32 → Option Int32) (σ : ST) (i : Int32) : Option Int32 :=
  bd_ (ldX xs L (i + 1)) (fun v1 => bd_ (ldX xs L (i + 2)) (fun v2 => bd_ (Lw_player (σ) v1 v2) (fun q3 => bd_ (ldX xs L (i + 1)) (fun v4 => bd_ (ldX xs L (i + 2)) (fun v5 => bd_ (Mo_player q3.2 v4 v5) (fun q6 => bd_ (Mo_thrown q6.2) (fun q7 => (if q7 = q3.1 then (if q3.1 = 0 then bd_ (ldL q6.2 105 0 0) (fun v8 => (if (lg_cmp v8 (Int32.toInt64 q6.1)) = 0 then rec (q6.2, i + 7) else some 0)) else rec (q6.2, i + 7)) else some 0))))))))
set_option maxHeartbeats 4000000 in
set_option maxRecDepth 100000 in
theorem s_lawC4 {G : GW} (hG : Good G) {X : CX} {b L : Nat} {xs : Nat → Int32} (hX : Ok G X code 7 RL 14) (hsc : Scr G X b L xs) {l : Launch} (hXl : X.2.1 = l) (hl0 : l.stackTraces = false) (hc : X.2.2.2.2.2.2.2.2.2.2.1 + 1 ≤ X.2.2.2.1.cells) (hs : X.2.2.2.2.2.2.2.2.2.2.2 + 6 ≤ X.2.2.2.1.slots) {σ : ST} {i : Int32} {rec : ST × Int32 → Option Int32} (hit : ∀ σ1, Sim G (bump X) 7 (LQ X b) σ1 2569 [(0, .ref b), (1, .ref (ga G 130 0)), (2, .ref (ga G 131 0)), (3, .ref (ga G 105 0)), (4, .int i)] [] (rec (σ1, i + 7))) : Sim G X 7 (LQ X b) σ 479 [(0, .ref b), (1, .ref (ga G 130 0)), (2, .ref (ga G 131 0)), (3, .ref (ga G 105 0)), (4, .int i)] [] (lawC4 xs L rec σ i) := by
  unfold lawC4
  refine s_aload_n 1 (n := 480) hX (dec_of D_L_law4 (i := 0) rfl) rfl rfl rfl ?_
  refine s_aload_n 0 (n := 481) hX (dec_of D_L_law4 (i := 1) rfl) rfl rfl rfl ?_
  refine s_iload 4 (n := 483) hX (dec_of D_L_law4 (i := 2) rfl) rfl rfl ?_
  refine s_iconst (v := 1) (n := 484) hX (dec_of D_L_law4 (i := 3) rfl) rfl (by decide) ?_
  refine s_iadd (n := 485) hX (dec_of D_L_law4 (i := 4) rfl) rfl ?_
  refine s_sld (n := 486) hX hsc (dec_of D_L_law4 (i := 5) rfl) rfl (fun v1 => ?_)
  refine s_aload_n 0 (n := 487) hX (dec_of D_L_law4 (i := 6) rfl) rfl rfl rfl ?_
  refine s_iload 4 (n := 489) hX (dec_of D_L_law4 (i := 7) rfl) rfl rfl ?_
  refine s_iconst (v := 2) (n := 490) hX (dec_of D_L_law4 (i := 8) rfl) rfl (by decide) ?_
  refine s_iadd (n := 491) hX (dec_of D_L_law4 (i := 9) rfl) rfl ?_
  refine s_sld (n := 492) hX hsc (dec_of D_L_law4 (i := 10) rfl) rfl (fun v2 => ?_)
  refine s_aload_n 3 (n := 493) hX (dec_of D_L_law4 (i := 11) rfl) rfl rfl rfl ?_
  refine s_callH (n := 496) hX hc hs (⟨wd_1304, wd_1305, wd_82, wd_1306, by decide +kernel, by decide⟩ : LkH 51 yL_player cL_player 5 4) (dec_of D_L_law4 (i := 12) rfl) rfl (by decide) (c_L_player (l := _) hG (by rw [hXl]; exact hl0) _ _ _) rfl rfl (Nat.le_of_ble_eq_true rfl) (fun q3 => ?_)
  have hX := hX.bump hc hs
  refine s_istore (lv' := [(0, _), (1, _), (2, _), (3, _), (4, _), (5, _)]) [1, 2, 3, 4, 5, 0] (n := 498) hX (dec_of D_L_law4 (i := 13) rfl) rfl (by decide) rfl ?_
  refine s_aload_n 2 (n := 499) hX (dec_of D_L_law4 (i := 14) rfl) rfl rfl rfl ?_
  refine s_aload_n 0 (n := 500) hX (dec_of D_L_law4 (i := 15) rfl) rfl rfl rfl ?_
  refine s_iload 4 (n := 502) hX (dec_of D_L_law4 (i := 16) rfl) rfl rfl ?_
  refine s_iconst (v := 1) (n := 503) hX (dec_of D_L_law4 (i := 17) rfl) rfl (by decide) ?_
  refine s_iadd (n := 504) hX (dec_of D_L_law4 (i := 18) rfl) rfl ?_
  refine s_sld (n := 505) hX hsc (dec_of D_L_law4 (i := 19) rfl) rfl (fun v4 => ?_)
  refine s_aload_n 0 (n := 506) hX (dec_of D_L_law4 (i := 20) rfl) rfl rfl rfl ?_
  refine s_iload 4 (n := 508) hX (dec_of D_L_law4 (i := 21) rfl) rfl rfl ?_
  refine s_iconst (v := 2) (n := 509) hX (dec_of D_L_law4 (i := 22) rfl) rfl (by decide) ?_
  refine s_iadd (n := 510) hX (dec_of D_L_law4 (i := 23) rfl) rfl ?_
  refine s_sld (n := 511) hX hsc (dec_of D_L_law4 (i := 24) rfl) rfl (fun v5 => ?_)
  refine s_callVP (c := 10) (n := 514) hX cls10 (vk131 (by omega)) lk_RL_53 (dec_of D_L_law4 (i := 25) rfl) rfl (by decide) (c_X10_player (l := _) hG _ _ _) rfl rfl (Nat.le_of_ble_eq_true rfl) (fun q6 => ?_)
  refine s_istore (lv' := [(0, _), (1, _), (2, _), (3, _), (4, _), (5, _), (6, _)]) [1, 2, 3, 4, 5, 6, 0] (n := 516) hX (dec_of D_L_law4 (i := 26) rfl) rfl (by decide) rfl ?_
  refine s_aload_n 2 (n := 517) hX (dec_of D_L_law4 (i := 27) rfl) rfl rfl rfl ?_
  refine s_callVI (c := 10) (n := 520) hX cls10 (vk131 (by omega)) lk_RL_47 (dec_of D_L_law4 (i := 28) rfl) rfl (by decide) (c_X10_thrown (l := _) hG _) rfl rfl (Nat.le_of_ble_eq_true rfl) (fun q7 => ?_)
  refine s_iload 5 (n := 522) hX (dec_of D_L_law4 (i := 29) rfl) rfl rfl ?_
  refine s_icmp_eq (tgt := 527) (n := 525) hX (dec_of D_L_law4 (i := 30) rfl) rfl rfl ?_ ?_
  · refine s_iload 5 (n := 529) hX (dec_of D_L_law4 (i := 33) rfl) rfl rfl ?_
    refine s_if_ne (tgt := 544) (n := 532) hX (dec_of D_L_law4 (i := 34) rfl) rfl rfl ?_ ?_
    · refine s_goto (n := 2569) hX (dec_of D_L_law4 (i := 44) rfl) rfl ?_
      exact s_sub [0, 1, 2, 3, 4] rfl (hit q6.2)
    · refine s_aload_n 3 (n := 533) hX (dec_of D_L_law4 (i := 35) rfl) rfl rfl rfl ?_
      refine s_iconst (v := 0) (n := 534) hX (dec_of D_L_law4 (i := 36) rfl) rfl (by decide) ?_
      refine s_lald (n := 535) hX (vk105 (by omega)) (by decide) (dec_of D_L_law4 (i := 37) rfl) rfl (fun v8 => ?_)
      refine s_iload 6 (n := 537) hX (dec_of D_L_law4 (i := 38) rfl) rfl rfl ?_
      refine s_i2l (n := 538) hX (dec_of D_L_law4 (i := 39) rfl) rfl ?_
      refine s_lcmp (n := 539) hX (dec_of D_L_law4 (i := 40) rfl) rfl ?_
      refine s_if_eq (tgt := 544) (n := 542) hX (dec_of D_L_law4 (i := 41) rfl) rfl rfl ?_ ?_
      · refine s_goto (n := 2569) hX (dec_of D_L_law4 (i := 44) rfl) rfl ?_
        exact s_sub [0, 1, 2, 3, 4] rfl (hit q6.2)
      · exact s_bad (by decide)
  · exact s_bad (by decide)
theorem lk_RL_56 : LkV RL 56 RX10 yX10_session cX10_session 6 (some .int) 2 := ⟨wd_1654, wd_1655, wd_1656, wd_93, wd_1657, by decide +kernel, by decide⟩
def T_L_law5 : List (Nat × Instr × Nat) := [(547, .aload_n 1, 1), (548, .aload_n 0, 1), (549, .iload 4, 2), (551, .iconst 1, 1), (552, .iadd, 1), (553, .iaload, 1), (554, .aload_n 0, 1), (555, .iload 4, 2), (557, .iconst 2, 1), (558, .iadd, 1), (559, .iaload, 1), (560, .aload_n 3, 1), (561, .invokestatic 54, 3), (564, .istore 5, 2), (566, .aload_n 2, 1), (567, .aload_n 0, 1), (568, .iload 4, 2), (570, .iconst 1, 1), (571, .iadd, 1), (572, .iaload, 1), (573, .aload_n 0, 1), (574, .iload 4, 2), (576, .iconst 2, 1), (577, .iadd, 1), (578, .iaload, 1), (579, .invokevirtual 56, 3), (582, .istore 6, 2), (584, .aload_n 2, 1), (585, .invokevirtual 47, 3), (588, .iload 5, 2), (590, .if_icmp .eq 5, 3), (593, .iconst 0, 1), (594, .ireturn, 1), (595, .iload 5, 2), (597, .ifCond .ne 15, 3), (600, .aload_n 3, 1), (601, .iconst 0, 1), (602, .laload, 1), (603, .iload 6, 2), (605, .i2l, 1), (606, .lcmp, 1), (607, .ifCond .eq 5, 3), (610, .iconst 0, 1), (611, .ireturn, 1), (612, .goto 1957, 3)]
theorem D_L_law5 : dchk code T_L_law5 = true := by decide +kernel
def lawC5 (xs : Nat → Int32) (L : Nat) (rec : ST × Int32 → Option Int32) (σ : ST) (i : Int32) : Option Int32 :=
  bd_ (ldX xs L (i + 1)) (fun v1 => bd_ (ldX xs L (i + 2)) (fun v2 => bd_ (Lw_session (σ) v1 v2) (fun q3 => bd_ (ldX xs L (i + 1)) (fun v4 => bd_ (ldX xs L (i + 2)) (fun v5 => bd_ (Mo_session q3.2 v4 v5) (fun q6 => bd_ (Mo_thrown q6.2) (fun q7 => (if q7 = q3.1 then (if q3.1 = 0 then bd_ (ldL q6.2 105 0 0) (fun v8 => (if (lg_cmp v8 (Int32.toInt64 q6.1)) = 0 then rec (q6.2, i + 7) else some 0)) else rec (q6.2, i + 7)) else some 0))))))))
set_option maxHeartbeats 4000000 in
set_option maxRecDepth 100000 in
theorem s_lawC5 {G : GW} (hG : Good G) {X : CX} {b L : Nat} {xs : Nat → Int32} (hX : Ok G X code 7 RL 14) (hsc : Scr G X b L xs) {l : Launch} (hXl : X.2.1 = l) (hl0 : l.stackTraces = false) (hc : X.2.2.2.2.2.2.2.2.2.2.1 + 1 ≤ X.2.2.2.1.cells) (hs : X.2.2.2.2.2.2.2.2.2.2.2 + 6 ≤ X.2.2.2.1.slots) {σ : ST} {i : Int32} {rec : ST × Int32 → Option Int32} (hit : ∀ σ1, Sim G (bump X) 7 (LQ X b) σ1 2569 [(0, .ref b), (1, .ref (ga G 130 0)), (2, .ref (ga G 131 0)), (3, .ref (ga G 105 0)), (4, .int i)] [] (rec (σ1, i + 7))) : Sim G X 7 (LQ X b) σ 547 [(0, .ref b), (1, .ref (ga G 130 0)), (2, .ref (ga G 131 0)), (3, .ref (ga G 105 0)), (4, .int i)] [] (lawC5 xs L rec σ i) := by
  unfold lawC5
  refine s_aload_n 1 (n := 548) hX (dec_of D_L_law5 (i := 0) rfl) rfl rfl rfl ?_
  refine s_aload_n 0 (n := 549) hX (dec_of D_L_law5 (i := 1) rfl) rfl rfl rfl ?_
  refine s_iload 4 (n := 551) hX (dec_of D_L_law5 (i := 2) rfl) rfl rfl ?_
  refine s_iconst (v := 1) (n := 552) hX (dec_of D_L_law5 (i := 3) rfl) rfl (by decide) ?_
  refine s_iadd (n := 553) hX (dec_of D_L_law5 (i := 4) rfl) rfl ?_
  refine s_sld (n := 554) hX hsc (dec_of D_L_law5 (i := 5) rfl) rfl (fun v1 => ?_)
  refine s_aload_n 0 (n := 555) hX (dec_of D_L_law5 (i := 6) rfl) rfl rfl rfl ?_
  refine s_iload 4 (n := 557) hX (dec_of D_L_law5 (i := 7) rfl) rfl rfl ?_
  refine s_iconst (v := 2) (n := 558) hX (dec_of D_L_law5 (i := 8) rfl) rfl (by decide) ?_
  refine s_iadd (n := 559) hX (dec_of D_L_law5 (i := 9) rfl) rfl ?_
  refine s_sld (n := 560) hX hsc (dec_of D_L_law5 (i := 10) rfl) rfl (fun v2 => ?_)
  refine s_aload_n 3 (n := 561) hX (dec_of D_L_law5 (i := 11) rfl) rfl rfl rfl ?_
  refine s_callH (n := 564) hX hc hs (⟨wd_1321, wd_1322, wd_82, wd_1323, by decide +kernel, by decide⟩ : LkH 54 yL_session cL_session 5 4) (dec_of D_L_law5 (i := 12) rfl) rfl (by decide) (c_L_session (l := _) hG (by rw [hXl]; exact hl0) _ _ _) rfl rfl (Nat.le_of_ble_eq_true rfl) (fun q3 => ?_)
  have hX := hX.bump hc hs
  refine s_istore (lv' := [(0, _), (1, _), (2, _), (3, _), (4, _), (5, _)]) [1, 2, 3, 4, 5, 0] (n := 566) hX (dec_of D_L_law5 (i := 13) rfl) rfl (by decide) rfl ?_
  refine s_aload_n 2 (n := 567) hX (dec_of D_L_law5 (i := 14) rfl) rfl rfl rfl ?_
  refine s_aload_n 0 (n := 568) hX (dec_of D_L_law5 (i := 15) rfl) rfl rfl rfl ?_
  refine s_iload 4 (n := 570) hX (dec_of D_L_law5 (i := 16) rfl) rfl rfl ?_
  refine s_iconst (v := 1) (n := 571) hX (dec_of D_L_law5 (i := 17) rfl) rfl (by decide) ?_
  refine s_iadd (n := 572) hX (dec_of D_L_law5 (i := 18) rfl) rfl ?_
  refine s_sld (n := 573) hX hsc (dec_of D_L_law5 (i := 19) rfl) rfl (fun v4 => ?_)
  refine s_aload_n 0 (n := 574) hX (dec_of D_L_law5 (i := 20) rfl) rfl rfl rfl ?_
  refine s_iload 4 (n := 576) hX (dec_of D_L_law5 (i := 21) rfl) rfl rfl ?_
  refine s_iconst (v := 2) (n := 577) hX (dec_of D_L_law5 (i := 22) rfl) rfl (by decide) ?_
  refine s_iadd (n := 578) hX (dec_of D_L_law5 (i := 23) rfl) rfl ?_
  refine s_sld (n := 579) hX hsc (dec_of D_L_law5 (i := 24) rfl) rfl (fun v5 => ?_)
  refine s_callVP (c := 10) (n := 582) hX cls10 (vk131 (by omega)) lk_RL_56 (dec_of D_L_law5 (i := 25) rfl) rfl (by decide) (c_X10_session (l := _) hG _ _ _) rfl rfl (Nat.le_of_ble_eq_true rfl) (fun q6 => ?_)
  refine s_istore (lv' := [(0, _), (1, _), (2, _), (3, _), (4, _), (5, _), (6, _)]) [1, 2, 3, 4, 5, 6, 0] (n := 584) hX (dec_of D_L_law5 (i := 26) rfl) rfl (by decide) rfl ?_
  refine s_aload_n 2 (n := 585) hX (dec_of D_L_law5 (i := 27) rfl) rfl rfl rfl ?_
  refine s_callVI (c := 10) (n := 588) hX cls10 (vk131 (by omega)) lk_RL_47 (dec_of D_L_law5 (i := 28) rfl) rfl (by decide) (c_X10_thrown (l := _) hG _) rfl rfl (Nat.le_of_ble_eq_true rfl) (fun q7 => ?_)
  refine s_iload 5 (n := 590) hX (dec_of D_L_law5 (i := 29) rfl) rfl rfl ?_
  refine s_icmp_eq (tgt := 595) (n := 593) hX (dec_of D_L_law5 (i := 30) rfl) rfl rfl ?_ ?_
  · refine s_iload 5 (n := 597) hX (dec_of D_L_law5 (i := 33) rfl) rfl rfl ?_
    refine s_if_ne (tgt := 612) (n := 600) hX (dec_of D_L_law5 (i := 34) rfl) rfl rfl ?_ ?_
    · refine s_goto (n := 2569) hX (dec_of D_L_law5 (i := 44) rfl) rfl ?_
      exact s_sub [0, 1, 2, 3, 4] rfl (hit q6.2)
    · refine s_aload_n 3 (n := 601) hX (dec_of D_L_law5 (i := 35) rfl) rfl rfl rfl ?_
      refine s_iconst (v := 0) (n := 602) hX (dec_of D_L_law5 (i := 36) rfl) rfl (by decide) ?_
      refine s_lald (n := 603) hX (vk105 (by omega)) (by decide) (dec_of D_L_law5 (i := 37) rfl) rfl (fun v8 => ?_)
      refine s_iload 6 (n := 605) hX (dec_of D_L_law5 (i := 38) rfl) rfl rfl ?_
      refine s_i2l (n := 606) hX (dec_of D_L_law5 (i := 39) rfl) rfl ?_
      refine s_lcmp (n := 607) hX (dec_of D_L_law5 (i := 40) rfl) rfl ?_
      refine s_if_eq (tgt := 612) (n := 610) hX (dec_of D_L_law5 (i := 41) rfl) rfl rfl ?_ ?_
      · refine s_goto (n := 2569) hX (dec_of D_L_law5 (i := 44) rfl) rfl ?_
        exact s_sub [0, 1, 2, 3, 4] rfl (hit q6.2)
      · exact s_bad (by decide)
  · exact s_bad (by decide)
theorem lk_RL_57 : LkV RL 57 RX9 yX9_of cX9_of 5 (some .int) 3 := ⟨wd_670, wd_671, wd_672, wd_83, wd_673, by decide +kernel, by decide⟩
theorem lk_RL_61 : LkV RL 61 RX10 yX10_of cX10_of 4 (some .int) 3 := ⟨wd_1674, wd_1675, wd_1676, wd_93, wd_1677, by decide +kernel, by decide⟩
def T_L_law6 : List (Nat × Instr × Nat) := [(615, .aload_n 1, 1), (616, .aload_n 0, 1), (617, .iload 4, 2), (619, .iconst 1, 1), (620, .iadd, 1), (621, .iaload, 1), (622, .aload_n 0, 1), (623, .iload 4, 2), (625, .iconst 2, 1), (626, .iadd, 1), (627, .iaload, 1), (628, .aload_n 0, 1), (629, .iload 4, 2), (631, .iconst 3, 1), (632, .iadd, 1), (633, .iaload, 1), (634, .invokevirtual 57, 3), (637, .aload_n 2, 1), (638, .aload_n 0, 1), (639, .iload 4, 2), (641, .iconst 1, 1), (642, .iadd, 1), (643, .iaload, 1), (644, .aload_n 0, 1), (645, .iload 4, 2), (647, .iconst 2, 1), (648, .iadd, 1), (649, .iaload, 1), (650, .aload_n 0, 1), (651, .iload 4, 2), (653, .iconst 3, 1), (654, .iadd, 1), (655, .iaload, 1), (656, .invokevirtual 61, 3), (659, .if_icmp .eq 1910, 3), (662, .iconst 0, 1), (663, .ireturn, 1)]
theorem D_L_law6 : dchk code T_L_law6 = true := by decide +kernel
def lawC6 (xs : Nat → Int32) (L : Nat) (rec : ST × Int32 → Option Int32) (σ : ST) (i : Int32) : Option Int32 :=
  bd_ (ldX xs L (i + 1)) (fun v1 => bd_ (ldX xs L (i + 2)) (fun v2 => bd_ (ldX xs L (i + 3)) (fun v3 => bd_ (Rp_of (σ) v1 v2 v3) (fun q4 => bd_ (ldX xs L (i + 1)) (fun v5 => bd_ (ldX xs L (i + 2)) (fun v6 => bd_ (ldX xs L (i + 3)) (fun v7 => bd_ (Mo_of (σ) v5 v6 v7) (fun q8 => (if q4 = q8.1 then rec (q8.2, i + 7) else some 0)))))))))
set_option maxHeartbeats 4000000 in
set_option maxRecDepth 100000 in
theorem s_lawC6 {G : GW} (hG : Good G) {X : CX} {b L : Nat} {xs : Nat → Int32} (hX : Ok G X code 7 RL 14) (hsc : Scr G X b L xs) {l : Launch} (hXl : X.2.1 = l) (hl0 : l.stackTraces = false) (hc : X.2.2.2.2.2.2.2.2.2.2.1 + 1 ≤ X.2.2.2.1.cells) (hs : X.2.2.2.2.2.2.2.2.2.2.2 + 6 ≤ X.2.2.2.1.slots) {σ : ST} {i : Int32} {rec : ST × Int32 → Option Int32} (hit : ∀ σ1, Sim G (bump X) 7 (LQ X b) σ1 2569 [(0, .ref b), (1, .ref (ga G 130 0)), (2, .ref (ga G 131 0)), (3, .ref (ga G 105 0)), (4, .int i)] [] (rec (σ1, i + 7))) : Sim G X 7 (LQ X b) σ 615 [(0, .ref b), (1, .ref (ga G 130 0)), (2, .ref (ga G 131 0)), (3, .ref (ga G 105 0)), (4, .int i)] [] (lawC6 xs L rec σ i) := by
  unfold lawC6
  refine s_aload_n 1 (n := 616) hX (dec_of D_L_law6 (i := 0) rfl) rfl rfl rfl ?_
  refine s_aload_n 0 (n := 617) hX (dec_of D_L_law6 (i := 1) rfl) rfl rfl rfl ?_
  refine s_iload 4 (n := 619) hX (dec_of D_L_law6 (i := 2) rfl) rfl rfl ?_
  refine s_iconst (v := 1) (n := 620) hX (dec_of D_L_law6 (i := 3) rfl) rfl (by decide) ?_
  refine s_iadd (n := 621) hX (dec_of D_L_law6 (i := 4) rfl) rfl ?_
  refine s_sld (n := 622) hX hsc (dec_of D_L_law6 (i := 5) rfl) rfl (fun v1 => ?_)
  refine s_aload_n 0 (n := 623) hX (dec_of D_L_law6 (i := 6) rfl) rfl rfl rfl ?_
  refine s_iload 4 (n := 625) hX (dec_of D_L_law6 (i := 7) rfl) rfl rfl ?_
  refine s_iconst (v := 2) (n := 626) hX (dec_of D_L_law6 (i := 8) rfl) rfl (by decide) ?_
  refine s_iadd (n := 627) hX (dec_of D_L_law6 (i := 9) rfl) rfl ?_
  refine s_sld (n := 628) hX hsc (dec_of D_L_law6 (i := 10) rfl) rfl (fun v2 => ?_)
  refine s_aload_n 0 (n := 629) hX (dec_of D_L_law6 (i := 11) rfl) rfl rfl rfl ?_
  refine s_iload 4 (n := 631) hX (dec_of D_L_law6 (i := 12) rfl) rfl rfl ?_
  refine s_iconst (v := 3) (n := 632) hX (dec_of D_L_law6 (i := 13) rfl) rfl (by decide) ?_
  refine s_iadd (n := 633) hX (dec_of D_L_law6 (i := 14) rfl) rfl ?_
  refine s_sld (n := 634) hX hsc (dec_of D_L_law6 (i := 15) rfl) rfl (fun v3 => ?_)
  refine s_callVI (c := 9) (n := 637) hX cls9 (vk130 (by omega)) lk_RL_57 (dec_of D_L_law6 (i := 16) rfl) rfl (by decide) (c_X9_of (l := _) hG _ _ _ _) rfl rfl (Nat.le_of_ble_eq_true rfl) (fun q4 => ?_)
  refine s_aload_n 2 (n := 638) hX (dec_of D_L_law6 (i := 17) rfl) rfl rfl rfl ?_
  refine s_aload_n 0 (n := 639) hX (dec_of D_L_law6 (i := 18) rfl) rfl rfl rfl ?_
  refine s_iload 4 (n := 641) hX (dec_of D_L_law6 (i := 19) rfl) rfl rfl ?_
  refine s_iconst (v := 1) (n := 642) hX (dec_of D_L_law6 (i := 20) rfl) rfl (by decide) ?_
  refine s_iadd (n := 643) hX (dec_of D_L_law6 (i := 21) rfl) rfl ?_
  refine s_sld (n := 644) hX hsc (dec_of D_L_law6 (i := 22) rfl) rfl (fun v5 => ?_)
  refine s_aload_n 0 (n := 645) hX (dec_of D_L_law6 (i := 23) rfl) rfl rfl rfl ?_
  refine s_iload 4 (n := 647) hX (dec_of D_L_law6 (i := 24) rfl) rfl rfl ?_
  refine s_iconst (v := 2) (n := 648) hX (dec_of D_L_law6 (i := 25) rfl) rfl (by decide) ?_
  refine s_iadd (n := 649) hX (dec_of D_L_law6 (i := 26) rfl) rfl ?_
  refine s_sld (n := 650) hX hsc (dec_of D_L_law6 (i := 27) rfl) rfl (fun v6 => ?_)
  refine s_aload_n 0 (n := 651) hX (dec_of D_L_law6 (i := 28) rfl) rfl rfl rfl ?_
  refine s_iload 4 (n := 653) hX (dec_of D_L_law6 (i := 29) rfl) rfl rfl ?_
  refine s_iconst (v := 3) (n := 654) hX (dec_of D_L_law6 (i := 30) rfl) rfl (by decide) ?_
  refine s_iadd (n := 655) hX (dec_of D_L_law6 (i := 31) rfl) rfl ?_
  refine s_sld (n := 656) hX hsc (dec_of D_L_law6 (i := 32) rfl) rfl (fun v7 => ?_)
  refine s_callVP (c := 10) (n := 659) hX cls10 (vk131 (by omega)) lk_RL_61 (dec_of D_L_law6 (i := 33) rfl) rfl (by decide) (c_X10_of (l := _) hG _ _ _ _) rfl rfl (Nat.le_of_ble_eq_true rfl) (fun q8 => ?_)
  refine s_icmp_eq (tgt := 2569) (n := 662) hX (dec_of D_L_law6 (i := 34) rfl) rfl rfl ?_ ?_
  · refine s_wid ?_
    exact s_sub [0, 1, 2, 3, 4] rfl (hit q8.2)
  · exact s_bad (by decide)
theorem lk_RL_62 : LkV RL 62 RX9 yX9_seat cX9_seat 3 (some .int) 2 := ⟨wd_681, wd_682, wd_683, wd_83, wd_684, by decide +kernel, by decide⟩
theorem lk_RL_65 : LkV RL 65 RX10 yX10_seat cX10_seat 3 (some .int) 2 := ⟨wd_1678, wd_1679, wd_1680, wd_93, wd_1681, by decide +kernel, by decide⟩
def T_L_law7 : List (Nat × Instr × Nat) := [(664, .aload_n 1, 1), (665, .aload_n 0, 1), (666, .iload 4, 2), (668, .iconst 1, 1), (669, .iadd, 1), (670, .iaload, 1), (671, .aload_n 0, 1), (672, .iload 4, 2), (674, .iconst 2, 1), (675, .iadd, 1), (676, .iaload, 1), (677, .invokevirtual 62, 3), (680, .aload_n 2, 1), (681, .aload_n 0, 1), (682, .iload 4, 2), (684, .iconst 1, 1), (685, .iadd, 1), (686, .iaload, 1), (687, .aload_n 0, 1), (688, .iload 4, 2), (690, .iconst 2, 1), (691, .iadd, 1), (692, .iaload, 1), (693, .invokevirtual 65, 3), (696, .if_icmp .eq 1873, 3), (699, .iconst 0, 1), (700, .ireturn, 1)]
theorem D_L_law7 : dchk code T_L_law7 = true := by decide +kernel
def lawC7 (xs : Nat → Int32) (L : Nat) (rec : ST × Int32 → Option Int32) (σ : ST) (i : Int32) : Option Int32 :=
  bd_ (ldX xs L (i + 1)) (fun v1 => bd_ (ldX xs L (i + 2)) (fun v2 => bd_ (Rp_seat (σ) v1 v2) (fun q3 => bd_ (ldX xs L (i + 1)) (fun v4 => bd_ (ldX xs L (i + 2)) (fun v5 => bd_ (Mo_seat (σ) v4 v5) (fun q6 => (if q3 = q6.1 then rec (q6.2, i + 7) else some 0)))))))
set_option maxHeartbeats 4000000 in
set_option maxRecDepth 100000 in
theorem s_lawC7 {G : GW} (hG : Good G) {X : CX} {b L : Nat} {xs : Nat → Int32} (hX : Ok G X code 7 RL 14) (hsc : Scr G X b L xs) {l : Launch} (hXl : X.2.1 = l) (hl0 : l.stackTraces = false) (hc : X.2.2.2.2.2.2.2.2.2.2.1 + 1 ≤ X.2.2.2.1.cells) (hs : X.2.2.2.2.2.2.2.2.2.2.2 + 6 ≤ X.2.2.2.1.slots) {σ : ST} {i : Int32} {rec : ST × Int32 → Option Int32} (hit : ∀ σ1, Sim G (bump X) 7 (LQ X b) σ1 2569 [(0, .ref b), (1, .ref (ga G 130 0)), (2, .ref (ga G 131 0)), (3, .ref (ga G 105 0)), (4, .int i)] [] (rec (σ1, i + 7))) : Sim G X 7 (LQ X b) σ 664 [(0, .ref b), (1, .ref (ga G 130 0)), (2, .ref (ga G 131 0)), (3, .ref (ga G 105 0)), (4, .int i)] [] (lawC7 xs L rec σ i) := by
  unfold lawC7
  refine s_aload_n 1 (n := 665) hX (dec_of D_L_law7 (i := 0) rfl) rfl rfl rfl ?_
  refine s_aload_n 0 (n := 666) hX (dec_of D_L_law7 (i := 1) rfl) rfl rfl rfl ?_
  refine s_iload 4 (n := 668) hX (dec_of D_L_law7 (i := 2) rfl) rfl rfl ?_
  refine s_iconst (v := 1) (n := 669) hX (dec_of D_L_law7 (i := 3) rfl) rfl (by decide) ?_
  refine s_iadd (n := 670) hX (dec_of D_L_law7 (i := 4) rfl) rfl ?_
  refine s_sld (n := 671) hX hsc (dec_of D_L_law7 (i := 5) rfl) rfl (fun v1 => ?_)
  refine s_aload_n 0 (n := 672) hX (dec_of D_L_law7 (i := 6) rfl) rfl rfl rfl ?_
  refine s_iload 4 (n := 674) hX (dec_of D_L_law7 (i := 7) rfl) rfl rfl ?_
  refine s_iconst (v := 2) (n := 675) hX (dec_of D_L_law7 (i := 8) rfl) rfl (by decide) ?_
  refine s_iadd (n := 676) hX (dec_of D_L_law7 (i := 9) rfl) rfl ?_
  refine s_sld (n := 677) hX hsc (dec_of D_L_law7 (i := 10) rfl) rfl (fun v2 => ?_)
  refine s_callVI (c := 9) (n := 680) hX cls9 (vk130 (by omega)) lk_RL_62 (dec_of D_L_law7 (i := 11) rfl) rfl (by decide) (c_X9_seat (l := _) hG _ _ _) rfl rfl (Nat.le_of_ble_eq_true rfl) (fun q3 => ?_)
  refine s_aload_n 2 (n := 681) hX (dec_of D_L_law7 (i := 12) rfl) rfl rfl rfl ?_
  refine s_aload_n 0 (n := 682) hX (dec_of D_L_law7 (i := 13) rfl) rfl rfl rfl ?_
  refine s_iload 4 (n := 684) hX (dec_of D_L_law7 (i := 14) rfl) rfl rfl ?_
  refine s_iconst (v := 1) (n := 685) hX (dec_of D_L_law7 (i := 15) rfl) rfl (by decide) ?_
  refine s_iadd (n := 686) hX (dec_of D_L_law7 (i := 16) rfl) rfl ?_
  refine s_sld (n := 687) hX hsc (dec_of D_L_law7 (i := 17) rfl) rfl (fun v4 => ?_)
  refine s_aload_n 0 (n := 688) hX (dec_of D_L_law7 (i := 18) rfl) rfl rfl rfl ?_
  refine s_iload 4 (n := 690) hX (dec_of D_L_law7 (i := 19) rfl) rfl rfl ?_
  refine s_iconst (v := 2) (n := 691) hX (dec_of D_L_law7 (i := 20) rfl) rfl (by decide) ?_
  refine s_iadd (n := 692) hX (dec_of D_L_law7 (i := 21) rfl) rfl ?_
  refine s_sld (n := 693) hX hsc (dec_of D_L_law7 (i := 22) rfl) rfl (fun v5 => ?_)
  refine s_callVP (c := 10) (n := 696) hX cls10 (vk131 (by omega)) lk_RL_65 (dec_of D_L_law7 (i := 23) rfl) rfl (by decide) (c_X10_seat (l := _) hG _ _ _) rfl rfl (Nat.le_of_ble_eq_true rfl) (fun q6 => ?_)
  refine s_icmp_eq (tgt := 2569) (n := 699) hX (dec_of D_L_law7 (i := 24) rfl) rfl rfl ?_ ?_
  · refine s_wid ?_
    exact s_sub [0, 1, 2, 3, 4] rfl (hit q6.2)
  · exact s_bad (by decide)
theorem lk_RL_66 : LkV RL 66 RX9 yX9_role cX9_role 3 (some .int) 2 := ⟨wd_689, wd_690, wd_691, wd_83, wd_692, by decide +kernel, by decide⟩
theorem lk_RL_69 : LkV RL 69 RX10 yX10_role cX10_role 3 (some .int) 2 := ⟨wd_1686, wd_1687, wd_1688, wd_93, wd_1689, by decide +kernel, by decide⟩
def T_L_law8 : List (Nat × Instr × Nat) := [(701, .aload_n 1, 1), (702, .aload_n 0, 1), (703, .iload 4, 2), (705, .iconst 1, 1), (706, .iadd, 1), (707, .iaload, 1), (708, .aload_n 0, 1), (709, .iload 4, 2), (711, .iconst 2, 1), (712, .iadd, 1), (713, .iaload, 1), (714, .invokevirtual 66, 3), (717, .aload_n 2, 1), (718, .aload_n 0, 1), (719, .iload 4, 2), (721, .iconst 1, 1), (722, .iadd, 1), (723, .iaload, 1), (724, .aload_n 0, 1), (725, .iload 4, 2), (727, .iconst 2, 1), (728, .iadd, 1), (729, .iaload, 1), (730, .invokevirtual 69, 3), (733, .if_icmp .eq 1836, 3), (736, .iconst 0, 1), (737, .ireturn, 1)]
theorem D_L_law8 : dchk code T_L_law8 = true := by decide +kernel
def lawC8 (xs : Nat → Int32) (L : Nat) (rec : ST × Int32 → Option Int32) (σ : ST) (i : Int32) : Option Int32 :=
  bd_ (ldX xs L (i + 1)) (fun v1 => bd_ (ldX xs L (i + 2)) (fun v2 => bd_ (Rp_role (σ) v1 v2) (fun q3 => bd_ (ldX xs L (i + 1)) (fun v4 => bd_ (ldX xs L (i + 2)) (fun v5 => bd_ (Mo_role (σ) v4 v5) (fun q6 => (if q3 = q6.1 then rec (q6.2, i + 7) else some 0)))))))
set_option maxHeartbeats 4000000 in
set_option maxRecDepth 100000 in
theorem s_lawC8 {G : GW} (hG : Good G) {X : CX} {b L : Nat} {xs : Nat → Int32} (hX : Ok G X code 7 RL 14) (hsc : Scr G X b L xs) {l : Launch} (hXl : X.2.1 = l) (hl0 : l.stackTraces = false) (hc : X.2.2.2.2.2.2.2.2.2.2.1 + 1 ≤ X.2.2.2.1.cells) (hs : X.2.2.2.2.2.2.2.2.2.2.2 + 6 ≤ X.2.2.2.1.slots) {σ : ST} {i : Int32} {rec : ST × Int32 → Option Int32} (hit : ∀ σ1, Sim G (bump X) 7 (LQ X b) σ1 2569 [(0, .ref b), (1, .ref (ga G 130 0)), (2, .ref (ga G 131 0)), (3, .ref (ga G 105 0)), (4, .int i)] [] (rec (σ1, i + 7))) : Sim G X 7 (LQ X b) σ 701 [(0, .ref b), (1, .ref (ga G 130 0)), (2, .ref (ga G 131 0)), (3, .ref (ga G 105 0)), (4, .int i)] [] (lawC8 xs L rec σ i) := by
  unfold lawC8
  refine s_aload_n 1 (n := 702) hX (dec_of D_L_law8 (i := 0) rfl) rfl rfl rfl ?_
  refine s_aload_n 0 (n := 703) hX (dec_of D_L_law8 (i := 1) rfl) rfl rfl rfl ?_
  refine s_iload 4 (n := 705) hX (dec_of D_L_law8 (i := 2) rfl) rfl rfl ?_
  refine s_iconst (v := 1) (n := 706) hX (dec_of D_L_law8 (i := 3) rfl) rfl (by decide) ?_
  refine s_iadd (n := 707) hX (dec_of D_L_law8 (i := 4) rfl) rfl ?_
  refine s_sld (n := 708) hX hsc (dec_of D_L_law8 (i := 5) rfl) rfl (fun v1 => ?_)
  refine s_aload_n 0 (n := 709) hX (dec_of D_L_law8 (i := 6) rfl) rfl rfl rfl ?_
  refine s_iload 4 (n := 711) hX (dec_of D_L_law8 (i := 7) rfl) rfl rfl ?_
  refine s_iconst (v := 2) (n := 712) hX (dec_of D_L_law8 (i := 8) rfl) rfl (by decide) ?_
  refine s_iadd (n := 713) hX (dec_of D_L_law8 (i := 9) rfl) rfl ?_
  refine s_sld (n := 714) hX hsc (dec_of D_L_law8 (i := 10) rfl) rfl (fun v2 => ?_)
  refine s_callVI (c := 9) (n := 717) hX cls9 (vk130 (by omega)) lk_RL_66 (dec_of D_L_law8 (i := 11) rfl) rfl (by decide) (c_X9_role (l := _) hG _ _ _) rfl rfl (Nat.le_of_ble_eq_true rfl) (fun q3 => ?_)
  refine s_aload_n 2 (n := 718) hX (dec_of D_L_law8 (i := 12) rfl) rfl rfl rfl ?_
  refine s_aload_n 0 (n := 719) hX (dec_of D_L_law8 (i := 13) rfl) rfl rfl rfl ?_
  refine s_iload 4 (n := 721) hX (dec_of D_L_law8 (i := 14) rfl) rfl rfl ?_
  refine s_iconst (v := 1) (n := 722) hX (dec_of D_L_law8 (i := 15) rfl) rfl (by decide) ?_
  refine s_iadd (n := 723) hX (dec_of D_L_law8 (i := 16) rfl) rfl ?_
  refine s_sld (n := 724) hX hsc (dec_of D_L_law8 (i := 17) rfl) rfl (fun v4 => ?_)
  refine s_aload_n 0 (n := 725) hX (dec_of D_L_law8 (i := 18) rfl) rfl rfl rfl ?_
  refine s_iload 4 (n := 727) hX (dec_of D_L_law8 (i := 19) rfl) rfl rfl ?_
  refine s_iconst (v := 2) (n := 728) hX (dec_of D_L_law8 (i := 20) rfl) rfl (by decide) ?_
  refine s_iadd (n := 729) hX (dec_of D_L_law8 (i := 21) rfl) rfl ?_
  refine s_sld (n := 730) hX hsc (dec_of D_L_law8 (i := 22) rfl) rfl (fun v5 => ?_)
  refine s_callVP (c := 10) (n := 733) hX cls10 (vk131 (by omega)) lk_RL_69 (dec_of D_L_law8 (i := 23) rfl) rfl (by decide) (c_X10_role (l := _) hG _ _ _) rfl rfl (Nat.le_of_ble_eq_true rfl) (fun q6 => ?_)
  refine s_icmp_eq (tgt := 2569) (n := 736) hX (dec_of D_L_law8 (i := 24) rfl) rfl rfl ?_ ?_
  · refine s_wid ?_
    exact s_sub [0, 1, 2, 3, 4] rfl (hit q6.2)
  · exact s_bad (by decide)
theorem lk_RL_70 : LkV RL 70 RX9 yX9_pays cX9_pays 4 (some .int) 3 := ⟨wd_742, wd_743, wd_744, wd_83, wd_745, by decide +kernel, by decide⟩
theorem lk_RL_73 : LkV RL 73 RX10 yX10_pays cX10_pays 4 (some .int) 3 := ⟨wd_1690, wd_1691, wd_1692, wd_93, wd_1693, by decide +kernel, by decide⟩
def T_L_law9 : List (Nat × Instr × Nat) := [(738, .aload_n 1, 1), (739, .aload_n 0, 1), (740, .iload 4, 2), (742, .iconst 1, 1), (743, .iadd, 1), (744, .iaload, 1), (745, .aload_n 0, 1), (746, .iload 4, 2), (748, .iconst 2, 1), (749, .iadd, 1), (750, .iaload, 1), (751, .aload_n 0, 1), (752, .iload 4, 2), (754, .iconst 3, 1), (755, .iadd, 1), (756, .iaload, 1), (757, .invokevirtual 70, 3), (760, .aload_n 2, 1), (761, .aload_n 0, 1), (762, .iload 4, 2), (764, .iconst 1, 1), (765, .iadd, 1), (766, .iaload, 1), (767, .aload_n 0, 1), (768, .iload 4, 2), (770, .iconst 2, 1), (771, .iadd, 1), (772, .iaload, 1), (773, .aload_n 0, 1), (774, .iload 4, 2), (776, .iconst 3, 1), (777, .iadd, 1), (778, .iaload, 1), (779, .invokevirtual 73, 3), (782, .if_icmp .eq 1787, 3), (785, .iconst 0, 1), (786, .ireturn, 1)]
theorem D_L_law9 : dchk code T_L_law9 = true := by decide +kernel
def lawC9 (xs : Nat → Int32) (L : Nat) (rec : ST × Int32 → Option Int32) (σ : ST) (i : Int32) : Option Int32 :=
  bd_ (ldX xs L (i + 1)) (fun v1 => bd_ (ldX xs L (i + 2)) (fun v2 => bd_ (ldX xs L (i + 3)) (fun v3 => bd_ (Rp_pays (σ) v1 v2 v3) (fun q4 => bd_ (ldX xs L (i + 1)) (fun v5 => bd_ (ldX xs L (i + 2)) (fun v6 => bd_ (ldX xs L (i + 3)) (fun v7 => bd_ (Mo_pays (σ) v5 v6 v7) (fun q8 => (if q4 = q8.1 then rec (q8.2, i + 7) else some 0)))))))))
set_option maxHeartbeats 4000000 in
set_option maxRecDepth 100000 in
theorem s_lawC9 {G : GW} (hG : Good G) {X : CX} {b L : Nat} {xs : Nat → Int32} (hX : Ok G X code 7 RL 14) (hsc : Scr G X b L xs) {l : Launch} (hXl : X.2.1 = l) (hl0 : l.stackTraces = false) (hc : X.2.2.2.2.2.2.2.2.2.2.1 + 1 ≤ X.2.2.2.1.cells) (hs : X.2.2.2.2.2.2.2.2.2.2.2 + 6 ≤ X.2.2.2.1.slots) {σ : ST} {i : Int32} {rec : ST × Int32 → Option Int32} (hit : ∀ σ1, Sim G (bump X) 7 (LQ X b) σ1 2569 [(0, .ref b), (1, .ref (ga G 130 0)), (2, .ref (ga G 131 0)), (3, .ref (ga G 105 0)), (4, .int i)] [] (rec (σ1, i + 7))) : Sim G X 7 (LQ X b) σ 738 [(0, .ref b), (1, .ref (ga G 130 0)), (2, .ref (ga G 131 0)), (3, .ref (ga G 105 0)), (4, .int i)] [] (lawC9 xs L rec σ i) := by
  unfold lawC9
  refine s_aload_n 1 (n := 739) hX (dec_of D_L_law9 (i := 0) rfl) rfl rfl rfl ?_
  refine s_aload_n 0 (n := 740) hX (dec_of D_L_law9 (i := 1) rfl) rfl rfl rfl ?_
  refine s_iload 4 (n := 742) hX (dec_of D_L_law9 (i := 2) rfl) rfl rfl ?_
  refine s_iconst (v := 1) (n := 743) hX (dec_of D_L_law9 (i := 3) rfl) rfl (by decide) ?_
  refine s_iadd (n := 744) hX (dec_of D_L_law9 (i := 4) rfl) rfl ?_
  refine s_sld (n := 745) hX hsc (dec_of D_L_law9 (i := 5) rfl) rfl (fun v1 => ?_)
  refine s_aload_n 0 (n := 746) hX (dec_of D_L_law9 (i := 6) rfl) rfl rfl rfl ?_
  refine s_iload 4 (n := 748) hX (dec_of D_L_law9 (i := 7) rfl) rfl rfl ?_
  refine s_iconst (v := 2) (n := 749) hX (dec_of D_L_law9 (i := 8) rfl) rfl (by decide) ?_
  refine s_iadd (n := 750) hX (dec_of D_L_law9 (i := 9) rfl) rfl ?_
  refine s_sld (n := 751) hX hsc (dec_of D_L_law9 (i := 10) rfl) rfl (fun v2 => ?_)
  refine s_aload_n 0 (n := 752) hX (dec_of D_L_law9 (i := 11) rfl) rfl rfl rfl ?_
  refine s_iload 4 (n := 754) hX (dec_of D_L_law9 (i := 12) rfl) rfl rfl ?_
  refine s_iconst (v := 3) (n := 755) hX (dec_of D_L_law9 (i := 13) rfl) rfl (by decide) ?_
  refine s_iadd (n := 756) hX (dec_of D_L_law9 (i := 14) rfl) rfl ?_
  refine s_sld (n := 757) hX hsc (dec_of D_L_law9 (i := 15) rfl) rfl (fun v3 => ?_)
  refine s_callVI (c := 9) (n := 760) hX cls9 (vk130 (by omega)) lk_RL_70 (dec_of D_L_law9 (i := 16) rfl) rfl (by decide) (c_X9_pays (l := _) hG _ _ _ _) rfl rfl (Nat.le_of_ble_eq_true rfl) (fun q4 => ?_)
  refine s_aload_n 2 (n := 761) hX (dec_of D_L_law9 (i := 17) rfl) rfl rfl rfl ?_
  refine s_aload_n 0 (n := 762) hX (dec_of D_L_law9 (i := 18) rfl) rfl rfl rfl ?_
  refine s_iload 4 (n := 764) hX (dec_of D_L_law9 (i := 19) rfl) rfl rfl ?_
  refine s_iconst (v := 1) (n := 765) hX (dec_of D_L_law9 (i := 20) rfl) rfl (by decide) ?_
  refine s_iadd (n := 766) hX (dec_of D_L_law9 (i := 21) rfl) rfl ?_
  refine s_sld (n := 767) hX hsc (dec_of D_L_law9 (i := 22) rfl) rfl (fun v5 => ?_)
  refine s_aload_n 0 (n := 768) hX (dec_of D_L_law9 (i := 23) rfl) rfl rfl rfl ?_
  refine s_iload 4 (n := 770) hX (dec_of D_L_law9 (i := 24) rfl) rfl rfl ?_
  refine s_iconst (v := 2) (n := 771) hX (dec_of D_L_law9 (i := 25) rfl) rfl (by decide) ?_
  refine s_iadd (n := 772) hX (dec_of D_L_law9 (i := 26) rfl) rfl ?_
  refine s_sld (n := 773) hX hsc (dec_of D_L_law9 (i := 27) rfl) rfl (fun v6 => ?_)
  refine s_aload_n 0 (n := 774) hX (dec_of D_L_law9 (i := 28) rfl) rfl rfl rfl ?_
  refine s_iload 4 (n := 776) hX (dec_of D_L_law9 (i := 29) rfl) rfl rfl ?_
  refine s_iconst (v := 3) (n := 777) hX (dec_of D_L_law9 (i := 30) rfl) rfl (by decide) ?_
  refine s_iadd (n := 778) hX (dec_of D_L_law9 (i := 31) rfl) rfl ?_
  refine s_sld (n := 779) hX hsc (dec_of D_L_law9 (i := 32) rfl) rfl (fun v7 => ?_)
  refine s_callVP (c := 10) (n := 782) hX cls10 (vk131 (by omega)) lk_RL_73 (dec_of D_L_law9 (i := 33) rfl) rfl (by decide) (c_X10_pays (l := _) hG _ _ _ _) rfl rfl (Nat.le_of_ble_eq_true rfl) (fun q8 => ?_)
  refine s_icmp_eq (tgt := 2569) (n := 785) hX (dec_of D_L_law9 (i := 34) rfl) rfl rfl ?_ ?_
  · refine s_wid ?_
    exact s_sub [0, 1, 2, 3, 4] rfl (hit q8.2)
  · exact s_bad (by decide)
theorem lk_RL_74 : LkV RL 74 RX9 yX9_paidBy cX9_paidBy 3 (some .int) 2 := ⟨wd_758, wd_759, wd_760, wd_83, wd_761, by decide +kernel, by decide⟩
theorem lk_RL_77 : LkV RL 77 RX10 yX10_paidBy cX10_paidBy 3 (some .int) 2 := ⟨wd_1697, wd_1698, wd_1699, wd_93, wd_1700, by decide +kernel, by decide⟩
def T_L_law10 : List (Nat × Instr × Nat) := [(787, .aload_n 1, 1), (788, .aload_n 0, 1), (789, .iload 4, 2), (791, .iconst 1, 1), (792, .iadd, 1), (793, .iaload, 1), (794, .aload_n 0, 1), (795, .iload 4, 2), (797, .iconst 2, 1), (798, .iadd, 1), (799, .iaload, 1), (800, .invokevirtual 74, 3), (803, .aload_n 2, 1), (804, .aload_n 0, 1), (805, .iload 4, 2), (807, .iconst 1, 1), (808, .iadd, 1), (809, .iaload, 1), (810, .aload_n 0, 1), (811, .iload 4, 2), (813, .iconst 2, 1), (814, .iadd, 1), (815, .iaload, 1), (816, .invokevirtual 77, 3), (819, .if_icmp .eq 1750, 3), (822, .iconst 0, 1), (823, .ireturn, 1)]
theorem D_L_law10 : dchk code T_L_law10 = true := by decide +kernel
def lawC10 (xs : Nat → Int32) (L : Nat) (rec : ST × Int32 → Option Int32) (σ : ST) (i : Int32) : Option Int32 :=
  bd_ (ldX xs L (i + 1)) (fun v1 => bd_ (ldX xs L (i + 2)) (fun v2 => bd_ (Rp_paidBy (σ) v1 v2) (fun q3 => bd_ (ldX xs L (i + 1)) (fun v4 => bd_ (ldX xs L (i + 2)) (fun v5 => bd_ (Mo_paidBy (σ) v4 v5) (fun q6 => (if q3 = q6.1 then rec (q6.2, i + 7) else some 0)))))))
set_option maxHeartbeats 4000000 in
set_option maxRecDepth 100000 in
theorem s_lawC10 {G : GW} (hG : Good G) {X : CX} {b L : Nat} {xs : Nat → Int32} (hX : Ok G X code 7 RL 14) (hsc : Scr G X b L xs) {l : Launch} (hXl : X.2.1 = l) (hl0 : l.stackTraces = false) (hc : X.2.2.2.2.2.2.2.2.2.2.1 + 1 ≤ X.2.2.2.1.cells) (hs : X.2.2.2.2.2.2.2.2.2.2.2 + 6 ≤ X.2.2.2.1.slots) {σ : ST} {i : Int32} {rec : ST × Int32 → Option Int32} (hit : ∀ σ1, Sim G (bump X) 7 (LQ X b) σ1 2569 [(0, .ref b), (1, .ref (ga G 130 0)), (2, .ref (ga G 131 0)), (3, .ref (ga G 105 0)), (4, .int i)] [] (rec (σ1, i + 7))) : Sim G X 7 (LQ X b) σ 787 [(0, .ref b), (1, .ref (ga G 130 0)), (2, .ref (ga G 131 0)), (3, .ref (ga G 105 0)), (4, .int i)] [] (lawC10 xs L rec σ i) := by
  unfold lawC10
  refine s_aload_n 1 (n := 788) hX (dec_of D_L_law10 (i := 0) rfl) rfl rfl rfl ?_
  refine s_aload_n 0 (n := 789) hX (dec_of D_L_law10 (i := 1) rfl) rfl rfl rfl ?_
  refine s_iload 4 (n := 791) hX (dec_of D_L_law10 (i := 2) rfl) rfl rfl ?_
  refine s_iconst (v := 1) (n := 792) hX (dec_of D_L_law10 (i := 3) rfl) rfl (by decide) ?_
  refine s_iadd (n := 793) hX (dec_of D_L_law10 (i := 4) rfl) rfl ?_
  refine s_sld (n := 794) hX hsc (dec_of D_L_law10 (i := 5) rfl) rfl (fun v1 => ?_)
  refine s_aload_n 0 (n := 795) hX (dec_of D_L_law10 (i := 6) rfl) rfl rfl rfl ?_
  refine s_iload 4 (n := 797) hX (dec_of D_L_law10 (i := 7) rfl) rfl rfl ?_
  refine s_iconst (v := 2) (n := 798) hX (dec_of D_L_law10 (i := 8) rfl) rfl (by decide) ?_
  refine s_iadd (n := 799) hX (dec_of D_L_law10 (i := 9) rfl) rfl ?_
  refine s_sld (n := 800) hX hsc (dec_of D_L_law10 (i := 10) rfl) rfl (fun v2 => ?_)
  refine s_callVI (c := 9) (n := 803) hX cls9 (vk130 (by omega)) lk_RL_74 (dec_of D_L_law10 (i := 11) rfl) rfl (by decide) (c_X9_paidBy (l := _) hG _ _ _) rfl rfl (Nat.le_of_ble_eq_true rfl) (fun q3 => ?_)
  refine s_aload_n 2 (n := 804) hX (dec_of D_L_law10 (i := 12) rfl) rfl rfl rfl ?_
  refine s_aload_n 0 (n := 805) hX (dec_of D_L_law10 (i := 13) rfl) rfl rfl rfl ?_
  refine s_iload 4 (n := 807) hX (dec_of D_L_law10 (i := 14) rfl) rfl rfl ?_
  refine s_iconst (v := 1) (n := 808) hX (dec_of D_L_law10 (i := 15) rfl) rfl (by decide) ?_
  refine s_iadd (n := 809) hX (dec_of D_L_law10 (i := 16) rfl) rfl ?_
  refine s_sld (n := 810) hX hsc (dec_of D_L_law10 (i := 17) rfl) rfl (fun v4 => ?_)
  refine s_aload_n 0 (n := 811) hX (dec_of D_L_law10 (i := 18) rfl) rfl rfl rfl ?_
  refine s_iload 4 (n := 813) hX (dec_of D_L_law10 (i := 19) rfl) rfl rfl ?_
  refine s_iconst (v := 2) (n := 814) hX (dec_of D_L_law10 (i := 20) rfl) rfl (by decide) ?_
  refine s_iadd (n := 815) hX (dec_of D_L_law10 (i := 21) rfl) rfl ?_
  refine s_sld (n := 816) hX hsc (dec_of D_L_law10 (i := 22) rfl) rfl (fun v5 => ?_)
  refine s_callVP (c := 10) (n := 819) hX cls10 (vk131 (by omega)) lk_RL_77 (dec_of D_L_law10 (i := 23) rfl) rfl (by decide) (c_X10_paidBy (l := _) hG _ _ _) rfl rfl (Nat.le_of_ble_eq_true rfl) (fun q6 => ?_)
  refine s_icmp_eq (tgt := 2569) (n := 822) hX (dec_of D_L_law10 (i := 24) rfl) rfl rfl ?_ ?_
  · refine s_wid ?_
    exact s_sub [0, 1, 2, 3, 4] rfl (hit q6.2)
  · exact s_bad (by decide)
theorem lk_RL_78 : LkV RL 78 RX9 yX9_answer cX9_answer 3 (some .int) 2 := ⟨wd_767, wd_768, wd_769, wd_83, wd_770, by decide +kernel, by decide⟩
theorem lk_RL_81 : LkV RL 81 RX10 yX10_answer cX10_answer 3 (some .int) 2 := ⟨wd_1701, wd_1702, wd_1703, wd_93, wd_1704, by decide +kernel, by decide⟩
def T_L_law11 : List (Nat × Instr × Nat) := [(824, .aload_n 1, 1), (825, .aload_n 0, 1), (826, .iload 4, 2), (828, .iconst 1, 1), (829, .iadd, 1), (830, .iaload, 1), (831, .aload_n 0, 1), (832, .iload 4, 2), (834, .iconst 2, 1), (835, .iadd, 1), (836, .iaload, 1), (837, .invokevirtual 78, 3), (840, .aload_n 2, 1), (841, .aload_n 0, 1), (842, .iload 4, 2), (844, .iconst 1, 1), (845, .iadd, 1), (846, .iaload, 1), (847, .aload_n 0, 1), (848, .iload 4, 2), (850, .iconst 2, 1), (851, .iadd, 1), (852, .iaload, 1), (853, .invokevirtual 81, 3), (856, .if_icmp .eq 1713, 3), (859, .iconst 0, 1), (860, .ireturn, 1)]
theorem D_L_law11 : dchk code T_L_law11 = true := by decide +kernel
def lawC11 (xs : Nat → Int32) (L : Nat) (rec : ST × Int32 → Option Int32) (σ : ST) (i : Int32) : Option Int32 :=
  bd_ (ldX xs L (i + 1)) (fun v1 => bd_ (ldX xs L (i + 2)) (fun v2 => bd_ (Rp_answer (σ) v1 v2) (fun q3 => bd_ (ldX xs L (i + 1)) (fun v4 => bd_ (ldX xs L (i + 2)) (fun v5 => bd_ (Mo_answer (σ) v4 v5) (fun q6 => (if q3 = q6.1 then rec (q6.2, i + 7) else some 0)))))))
set_option maxHeartbeats 4000000 in
set_option maxRecDepth 100000 in
theorem s_lawC11 {G : GW} (hG : Good G) {X : CX} {b L : Nat} {xs : Nat → Int32} (hX : Ok G X code 7 RL 14) (hsc : Scr G X b L xs) {l : Launch} (hXl : X.2.1 = l) (hl0 : l.stackTraces = false) (hc : X.2.2.2.2.2.2.2.2.2.2.1 + 1 ≤ X.2.2.2.1.cells) (hs : X.2.2.2.2.2.2.2.2.2.2.2 + 6 ≤ X.2.2.2.1.slots) {σ : ST} {i : Int32} {rec : ST × Int32 → Option Int32} (hit : ∀ σ1, Sim G (bump X) 7 (LQ X b) σ1 2569 [(0, .ref b), (1, .ref (ga G 130 0)), (2, .ref (ga G 131 0)), (3, .ref (ga G 105 0)), (4, .int i)] [] (rec (σ1, i + 7))) : Sim G X 7 (LQ X b) σ 824 [(0, .ref b), (1, .ref (ga G 130 0)), (2, .ref (ga G 131 0)), (3, .ref (ga G 105 0)), (4, .int i)] [] (lawC11 xs L rec σ i) := by
  unfold lawC11
  refine s_aload_n 1 (n := 825) hX (dec_of D_L_law11 (i := 0) rfl) rfl rfl rfl ?_
  refine s_aload_n 0 (n := 826) hX (dec_of D_L_law11 (i := 1) rfl) rfl rfl rfl ?_
  refine s_iload 4 (n := 828) hX (dec_of D_L_law11 (i := 2) rfl) rfl rfl ?_
  refine s_iconst (v := 1) (n := 829) hX (dec_of D_L_law11 (i := 3) rfl) rfl (by decide) ?_
  refine s_iadd (n := 830) hX (dec_of D_L_law11 (i := 4) rfl) rfl ?_
  refine s_sld (n := 831) hX hsc (dec_of D_L_law11 (i := 5) rfl) rfl (fun v1 => ?_)
  refine s_aload_n 0 (n := 832) hX (dec_of D_L_law11 (i := 6) rfl) rfl rfl rfl ?_
  refine s_iload 4 (n := 834) hX (dec_of D_L_law11 (i := 7) rfl) rfl rfl ?_
  refine s_iconst (v := 2) (n := 835) hX (dec_of D_L_law11 (i := 8) rfl) rfl (by decide) ?_
  refine s_iadd (n := 836) hX (dec_of D_L_law11 (i := 9) rfl) rfl ?_
  refine s_sld (n := 837) hX hsc (dec_of D_L_law11 (i := 10) rfl) rfl (fun v2 => ?_)
  refine s_callVI (c := 9) (n := 840) hX cls9 (vk130 (by omega)) lk_RL_78 (dec_of D_L_law11 (i := 11) rfl) rfl (by decide) (c_X9_answer (l := _) hG _ _ _) rfl rfl (Nat.le_of_ble_eq_true rfl) (fun q3 => ?_)
  refine s_aload_n 2 (n := 841) hX (dec_of D_L_law11 (i := 12) rfl) rfl rfl rfl ?_
  refine s_aload_n 0 (n := 842) hX (dec_of D_L_law11 (i := 13) rfl) rfl rfl rfl ?_
  refine s_iload 4 (n := 844) hX (dec_of D_L_law11 (i := 14) rfl) rfl rfl ?_
  refine s_iconst (v := 1) (n := 845) hX (dec_of D_L_law11 (i := 15) rfl) rfl (by decide) ?_
  refine s_iadd (n := 846) hX (dec_of D_L_law11 (i := 16) rfl) rfl ?_
  refine s_sld (n := 847) hX hsc (dec_of D_L_law11 (i := 17) rfl) rfl (fun v4 => ?_)
  refine s_aload_n 0 (n := 848) hX (dec_of D_L_law11 (i := 18) rfl) rfl rfl rfl ?_
  refine s_iload 4 (n := 850) hX (dec_of D_L_law11 (i := 19) rfl) rfl rfl ?_
  refine s_iconst (v := 2) (n := 851) hX (dec_of D_L_law11 (i := 20) rfl) rfl (by decide) ?_
  refine s_iadd (n := 852) hX (dec_of D_L_law11 (i := 21) rfl) rfl ?_
  refine s_sld (n := 853) hX hsc (dec_of D_L_law11 (i := 22) rfl) rfl (fun v5 => ?_)
  refine s_callVP (c := 10) (n := 856) hX cls10 (vk131 (by omega)) lk_RL_81 (dec_of D_L_law11 (i := 23) rfl) rfl (by decide) (c_X10_answer (l := _) hG _ _ _) rfl rfl (Nat.le_of_ble_eq_true rfl) (fun q6 => ?_)
  refine s_icmp_eq (tgt := 2569) (n := 859) hX (dec_of D_L_law11 (i := 24) rfl) rfl rfl ?_ ?_
  · refine s_wid ?_
    exact s_sub [0, 1, 2, 3, 4] rfl (hit q6.2)
  · exact s_bad (by decide)
theorem lk_RL_82 : LkV RL 82 RX9 yX9_ring cX9_ring 2 (some .int) 1 := ⟨wd_788, wd_789, wd_790, wd_83, wd_791, by decide +kernel, by decide⟩
theorem lk_RL_85 : LkV RL 85 RX10 yX10_ring cX10_ring 2 (some .int) 1 := ⟨wd_1709, wd_1710, wd_1711, wd_93, wd_1712, by decide +kernel, by decide⟩
def T_L_law12 : List (Nat × Instr × Nat) := [(861, .aload_n 1, 1), (862, .aload_n 0, 1), (863, .iload 4, 2), (865, .iconst 1, 1), (866, .iadd, 1), (867, .iaload, 1), (868, .invokevirtual 82, 3), (871, .aload_n 2, 1), (872, .aload_n 0, 1), (873, .iload 4, 2), (875, .iconst 1, 1), (876, .iadd, 1), (877, .iaload, 1), (878, .invokevirtual 85, 3), (881, .if_icmp .eq 1688, 3), (884, .iconst 0, 1), (885, .ireturn, 1)]
theorem D_L_law12 : dchk code T_L_law12 = true := by decide +kernel
def lawC12 (xs : Nat → Int32) (L : Nat) (rec : ST × Int32 → Option Int32) (σ : ST) (i : Int32) : Option Int32 :=
  bd_ (ldX xs L (i + 1)) (fun v1 => bd_ (Rp_ring (σ) v1) (fun q2 => bd_ (ldX xs L (i + 1)) (fun v3 => bd_ (Mo_ring (σ) v3) (fun q4 => (if q2 = q4.1 then rec (q4.2, i + 7) else some 0)))))
set_option maxHeartbeats 4000000 in
set_option maxRecDepth 100000 in
theorem s_lawC12 {G : GW} (hG : Good G) {X : CX} {b L : Nat} {xs : Nat → Int32} (hX : Ok G X code 7 RL 14) (hsc : Scr G X b L xs) {l : Launch} (hXl : X.2.1 = l) (hl0 : l.stackTraces = false) (hc : X.2.2.2.2.2.2.2.2.2.2.1 + 1 ≤ X.2.2.2.1.cells) (hs : X.2.2.2.2.2.2.2.2.2.2.2 + 6 ≤ X.2.2.2.1.slots) {σ : ST} {i : Int32} {rec : ST × Int32 → Option Int32} (hit : ∀ σ1, Sim G (bump X) 7 (LQ X b) σ1 2569 [(0, .ref b), (1, .ref (ga G 130 0)), (2, .ref (ga G 131 0)), (3, .ref (ga G 105 0)), (4, .int i)] [] (rec (σ1, i + 7))) : Sim G X 7 (LQ X b) σ 861 [(0, .ref b), (1, .ref (ga G 130 0)), (2, .ref (ga G 131 0)), (3, .ref (ga G 105 0)), (4, .int i)] [] (lawC12 xs L rec σ i) := by
  unfold lawC12
  refine s_aload_n 1 (n := 862) hX (dec_of D_L_law12 (i := 0) rfl) rfl rfl rfl ?_
  refine s_aload_n 0 (n := 863) hX (dec_of D_L_law12 (i := 1) rfl) rfl rfl rfl ?_
  refine s_iload 4 (n := 865) hX (dec_of D_L_law12 (i := 2) rfl) rfl rfl ?_
  refine s_iconst (v := 1) (n := 866) hX (dec_of D_L_law12 (i := 3) rfl) rfl (by decide) ?_
  refine s_iadd (n := 867) hX (dec_of D_L_law12 (i := 4) rfl) rfl ?_
  refine s_sld (n := 868) hX hsc (dec_of D_L_law12 (i := 5) rfl) rfl (fun v1 => ?_)
  refine s_callVI (c := 9) (n := 871) hX cls9 (vk130 (by omega)) lk_RL_82 (dec_of D_L_law12 (i := 6) rfl) rfl (by decide) (c_X9_ring (l := _) hG _ _) rfl rfl (Nat.le_of_ble_eq_true rfl) (fun q2 => ?_)
  refine s_aload_n 2 (n := 872) hX (dec_of D_L_law12 (i := 7) rfl) rfl rfl rfl ?_
  refine s_aload_n 0 (n := 873) hX (dec_of D_L_law12 (i := 8) rfl) rfl rfl rfl ?_
  refine s_iload 4 (n := 875) hX (dec_of D_L_law12 (i := 9) rfl) rfl rfl ?_
  refine s_iconst (v := 1) (n := 876) hX (dec_of D_L_law12 (i := 10) rfl) rfl (by decide) ?_
  refine s_iadd (n := 877) hX (dec_of D_L_law12 (i := 11) rfl) rfl ?_
  refine s_sld (n := 878) hX hsc (dec_of D_L_law12 (i := 12) rfl) rfl (fun v3 => ?_)
  refine s_callVP (c := 10) (n := 881) hX cls10 (vk131 (by omega)) lk_RL_85 (dec_of D_L_law12 (i := 13) rfl) rfl (by decide) (c_X10_ring (l := _) hG _ _) rfl rfl (Nat.le_of_ble_eq_true rfl) (fun q4 => ?_)
  refine s_icmp_eq (tgt := 2569) (n := 884) hX (dec_of D_L_law12 (i := 14) rfl) rfl rfl ?_ ?_
  · refine s_wid ?_
    exact s_sub [0, 1, 2, 3, 4] rfl (hit q4.2)
  · exact s_bad (by decide)
theorem lk_RL_86 : LkV RL 86 RX9 yX9_rings cX9_rings 3 (some .int) 0 := ⟨wd_797, wd_798, wd_799, wd_83, wd_800, by decide +kernel, by decide⟩
theorem lk_RL_89 : LkV RL 89 RX10 yX10_rings cX10_rings 3 (some .int) 0 := ⟨wd_1717, wd_1718, wd_1719, wd_93, wd_1720, by decide +kernel, by decide⟩
def T_L_law13 : List (Nat × Instr × Nat) := [(886, .aload_n 1, 1), (887, .invokevirtual 86, 3), (890, .aload_n 2, 1), (891, .invokevirtual 89, 3), (894, .if_icmp .eq 1675, 3), (897, .iconst 0, 1), (898, .ireturn, 1)]
theorem D_L_law13 : dchk code T_L_law13 = true := by decide +kernel
def lawC13 (xs : Nat → Int32) (L : Nat) (rec : ST × Int32 → Option Int32) (σ : ST) (i : Int32) : Option Int32 :=
  bd_ (Rp_rings (σ)) (fun q1 => bd_ (Mo_rings (σ)) (fun q2 => (if q1 = q2.1 then rec (q2.2, i + 7) else some 0)))
set_option maxHeartbeats 4000000 in
set_option maxRecDepth 100000 in
theorem s_lawC13 {G : GW} (hG : Good G) {X : CX} {b L : Nat} {xs : Nat → Int32} (hX : Ok G X code 7 RL 14) (hsc : Scr G X b L xs) {l : Launch} (hXl : X.2.1 = l) (hl0 : l.stackTraces = false) (hc : X.2.2.2.2.2.2.2.2.2.2.1 + 1 ≤ X.2.2.2.1.cells) (hs : X.2.2.2.2.2.2.2.2.2.2.2 + 6 ≤ X.2.2.2.1.slots) {σ : ST} {i : Int32} {rec : ST × Int32 → Option Int32} (hit : ∀ σ1, Sim G (bump X) 7 (LQ X b) σ1 2569 [(0, .ref b), (1, .ref (ga G 130 0)), (2, .ref (ga G 131 0)), (3, .ref (ga G 105 0)), (4, .int i)] [] (rec (σ1, i + 7))) : Sim G X 7 (LQ X b) σ 886 [(0, .ref b), (1, .ref (ga G 130 0)), (2, .ref (ga G 131 0)), (3, .ref (ga G 105 0)), (4, .int i)] [] (lawC13 xs L rec σ i) := by
  unfold lawC13
  refine s_aload_n 1 (n := 887) hX (dec_of D_L_law13 (i := 0) rfl) rfl rfl rfl ?_
  refine s_callVI (c := 9) (n := 890) hX cls9 (vk130 (by omega)) lk_RL_86 (dec_of D_L_law13 (i := 1) rfl) rfl (by decide) (c_X9_rings (l := _) hG _) rfl rfl (Nat.le_of_ble_eq_true rfl) (fun q1 => ?_)
  refine s_aload_n 2 (n := 891) hX (dec_of D_L_law13 (i := 2) rfl) rfl rfl rfl ?_
  refine s_callVP (c := 10) (n := 894) hX cls10 (vk131 (by omega)) lk_RL_89 (dec_of D_L_law13 (i := 3) rfl) rfl (by decide) (c_X10_rings (l := _) hG _) rfl rfl (Nat.le_of_ble_eq_true rfl) (fun q2 => ?_)
  refine s_icmp_eq (tgt := 2569) (n := 897) hX (dec_of D_L_law13 (i := 4) rfl) rfl rfl ?_ ?_
  · refine s_wid ?_
    exact s_sub [0, 1, 2, 3, 4] rfl (hit q2.2)
  · exact s_bad (by decide)
theorem lk_RL_90 : LkV RL 90 RX9 yX9_play cX9_play 4 (some .int) 3 := ⟨wd_859, wd_860, wd_861, wd_83, wd_862, by decide +kernel, by decide⟩
theorem lk_RL_93 : LkV RL 93 RX10 yX10_play cX10_play 8 (some .int) 3 := ⟨wd_1725, wd_1726, wd_1727, wd_93, wd_1728, by decide +kernel, by decide⟩
def T_L_law14 : List (Nat × Instr × Nat) := [(899, .aload_n 1, 1), (900, .aload_n 0, 1), (901, .iload 4, 2), (903, .iconst 1, 1), (904, .iadd, 1), (905, .iaload, 1), (906, .aload_n 0, 1), (907, .iload 4, 2), (909, .iconst 2, 1), (910, .iadd, 1), (911, .iaload, 1), (912, .aload_n 0, 1), (913, .iload 4, 2), (915, .iconst 3, 1), (916, .iadd, 1), (917, .iaload, 1), (918, .invokevirtual 90, 3), (921, .aload_n 2, 1), (922, .aload_n 0, 1), (923, .iload 4, 2), (925, .iconst 1, 1), (926, .iadd, 1), (927, .iaload, 1), (928, .aload_n 0, 1), (929, .iload 4, 2), (931, .iconst 2, 1), (932, .iadd, 1), (933, .iaload, 1), (934, .aload_n 0, 1), (935, .iload 4, 2), (937, .iconst 3, 1), (938, .iadd, 1), (939, .iaload, 1), (940, .invokevirtual 93, 3), (943, .if_icmp .eq 1626, 3), (946, .iconst 0, 1), (947, .ireturn, 1)]
theorem D_L_law14 : dchk code T_L_law14 = true := by decide +kernel
def lawC14 (xs : Nat → Int32) (L : Nat) (rec : ST × Int32 → Option Int32) (σ : ST) (i : Int32) : Option Int32 :=
  bd_ (ldX xs L (i + 1)) (fun v1 => bd_ (ldX xs L (i + 2)) (fun v2 => bd_ (ldX xs L (i + 3)) (fun v3 => bd_ (Rp_play (σ) v1 v2 v3) (fun q4 => bd_ (ldX xs L (i + 1)) (fun v5 => bd_ (ldX xs L (i + 2)) (fun v6 => bd_ (ldX xs L (i + 3)) (fun v7 => bd_ (Mo_play q4.2 v5 v6 v7) (fun q8 => (if q4.1 = q8.1 then rec (q8.2, i + 7) else some 0)))))))))
set_option maxHeartbeats 4000000 in
set_option maxRecDepth 100000 in
theorem s_lawC14 {G : GW} (hG : Good G) {X : CX} {b L : Nat} {xs : Nat → Int32} (hX : Ok G X code 7 RL 14) (hsc : Scr G X b L xs) {l : Launch} (hXl : X.2.1 = l) (hl0 : l.stackTraces = false) (hc : X.2.2.2.2.2.2.2.2.2.2.1 + 1 ≤ X.2.2.2.1.cells) (hs : X.2.2.2.2.2.2.2.2.2.2.2 + 6 ≤ X.2.2.2.1.slots) {σ : ST} {i : Int32} {rec : ST × Int32 → Option Int32} (hit : ∀ σ1, Sim G (bump X) 7 (LQ X b) σ1 2569 [(0, .ref b), (1, .ref (ga G 130 0)), (2, .ref (ga G 131 0)), (3, .ref (ga G 105 0)), (4, .int i)] [] (rec (σ1, i + 7))) : Sim G X 7 (LQ X b) σ 899 [(0, .ref b), (1, .ref (ga G 130 0)), (2, .ref (ga G 131 0)), (3, .ref (ga G 105 0)), (4, .int i)] [] (lawC14 xs L rec σ i) := by
  unfold lawC14
  refine s_aload_n 1 (n := 900) hX (dec_of D_L_law14 (i := 0) rfl) rfl rfl rfl ?_
  refine s_aload_n 0 (n := 901) hX (dec_of D_L_law14 (i := 1) rfl) rfl rfl rfl ?_
  refine s_iload 4 (n := 903) hX (dec_of D_L_law14 (i := 2) rfl) rfl rfl ?_
  refine s_iconst (v := 1) (n := 904) hX (dec_of D_L_law14 (i := 3) rfl) rfl (by decide) ?_
  refine s_iadd (n := 905) hX (dec_of D_L_law14 (i := 4) rfl) rfl ?_
  refine s_sld (n := 906) hX hsc (dec_of D_L_law14 (i := 5) rfl) rfl (fun v1 => ?_)
  refine s_aload_n 0 (n := 907) hX (dec_of D_L_law14 (i := 6) rfl) rfl rfl rfl ?_
  refine s_iload 4 (n := 909) hX (dec_of D_L_law14 (i := 7) rfl) rfl rfl ?_
  refine s_iconst (v := 2) (n := 910) hX (dec_of D_L_law14 (i := 8) rfl) rfl (by decide) ?_
  refine s_iadd (n := 911) hX (dec_of D_L_law14 (i := 9) rfl) rfl ?_
  refine s_sld (n := 912) hX hsc (dec_of D_L_law14 (i := 10) rfl) rfl (fun v2 => ?_)
  refine s_aload_n 0 (n := 913) hX (dec_of D_L_law14 (i := 11) rfl) rfl rfl rfl ?_
  refine s_iload 4 (n := 915) hX (dec_of D_L_law14 (i := 12) rfl) rfl rfl ?_
  refine s_iconst (v := 3) (n := 916) hX (dec_of D_L_law14 (i := 13) rfl) rfl (by decide) ?_
  refine s_iadd (n := 917) hX (dec_of D_L_law14 (i := 14) rfl) rfl ?_
  refine s_sld (n := 918) hX hsc (dec_of D_L_law14 (i := 15) rfl) rfl (fun v3 => ?_)
  refine s_callVP (c := 9) (n := 921) hX cls9 (vk130 (by omega)) lk_RL_90 (dec_of D_L_law14 (i := 16) rfl) rfl (by decide) (c_X9_play (l := _) hG _ _ _ _) rfl rfl (Nat.le_of_ble_eq_true rfl) (fun q4 => ?_)
  refine s_aload_n 2 (n := 922) hX (dec_of D_L_law14 (i := 17) rfl) rfl rfl rfl ?_
  refine s_aload_n 0 (n := 923) hX (dec_of D_L_law14 (i := 18) rfl) rfl rfl rfl ?_
  refine s_iload 4 (n := 925) hX (dec_of D_L_law14 (i := 19) rfl) rfl rfl ?_
  refine s_iconst (v := 1) (n := 926) hX (dec_of D_L_law14 (i := 20) rfl) rfl (by decide) ?_
  refine s_iadd (n := 927) hX (dec_of D_L_law14 (i := 21) rfl) rfl ?_
  refine s_sld (n := 928) hX hsc (dec_of D_L_law14 (i := 22) rfl) rfl (fun v5 => ?_)
  refine s_aload_n 0 (n := 929) hX (dec_of D_L_law14 (i := 23) rfl) rfl rfl rfl ?_
  refine s_iload 4 (n := 931) hX (dec_of D_L_law14 (i := 24) rfl) rfl rfl ?_
  refine s_iconst (v := 2) (n := 932) hX (dec_of D_L_law14 (i := 25) rfl) rfl (by decide) ?_
  refine s_iadd (n := 933) hX (dec_of D_L_law14 (i := 26) rfl) rfl ?_
  refine s_sld (n := 934) hX hsc (dec_of D_L_law14 (i := 27) rfl) rfl (fun v6 => ?_)
  refine s_aload_n 0 (n := 935) hX (dec_of D_L_law14 (i := 28) rfl) rfl rfl rfl ?_
  refine s_iload 4 (n := 937) hX (dec_of D_L_law14 (i := 29) rfl) rfl rfl ?_
  refine s_iconst (v := 3) (n := 938) hX (dec_of D_L_law14 (i := 30) rfl) rfl (by decide) ?_
  refine s_iadd (n := 939) hX (dec_of D_L_law14 (i := 31) rfl) rfl ?_
  refine s_sld (n := 940) hX hsc (dec_of D_L_law14 (i := 32) rfl) rfl (fun v7 => ?_)
  refine s_callVP (c := 10) (n := 943) hX cls10 (vk131 (by omega)) lk_RL_93 (dec_of D_L_law14 (i := 33) rfl) rfl (by decide) (c_X10_play (l := _) hG _ _ _ _) rfl rfl (Nat.le_of_ble_eq_true rfl) (fun q8 => ?_)
  refine s_icmp_eq (tgt := 2569) (n := 946) hX (dec_of D_L_law14 (i := 34) rfl) rfl rfl ?_ ?_
  · refine s_wid ?_
    exact s_sub [0, 1, 2, 3, 4] rfl (hit q8.2)
  · exact s_bad (by decide)
theorem lk_RL_94 : LkV RL 94 RX9 yX9_year cX9_year 1 (some .int) 0 := ⟨wd_894, wd_895, wd_896, wd_83, wd_897, by decide +kernel, by decide⟩
theorem lk_RL_97 : LkV RL 97 RX10 yX10_year cX10_year 5 (some .int) 0 := ⟨wd_1770, wd_1771, wd_1772, wd_93, wd_1773, by decide +kernel, by decide⟩
def T_L_law15 : List (Nat × Instr × Nat) := [(948, .aload_n 1, 1), (949, .invokevirtual 94, 3), (952, .aload_n 2, 1), (953, .invokevirtual 97, 3), (956, .if_icmp .eq 1613, 3), (959, .iconst 0, 1), (960, .ireturn, 1)]
theorem D_L_law15 : dchk code T_L_law15 = true := by decide +kernel
def lawC15 (xs : Nat → Int32) (L : Nat) (rec : ST × Int32 → Option Int32) (σ : ST) (i : Int32) : Option Int32 :=
  bd_ (Rp_year (σ)) (fun q1 => bd_ (Mo_year q1.2) (fun q2 => (if q1.1 = q2.1 then rec (q2.2, i + 7) else some 0)))
set_option maxHeartbeats 4000000 in
set_option maxRecDepth 100000 in
theorem s_lawC15 {G : GW} (hG : Good G) {X : CX} {b L : Nat} {xs : Nat → Int32} (hX : Ok G X code 7 RL 14) (hsc : Scr G X b L xs) {l : Launch} (hXl : X.2.1 = l) (hl0 : l.stackTraces = false) (hc : X.2.2.2.2.2.2.2.2.2.2.1 + 1 ≤ X.2.2.2.1.cells) (hs : X.2.2.2.2.2.2.2.2.2.2.2 + 6 ≤ X.2.2.2.1.slots) {σ : ST} {i : Int32} {rec : ST × Int32 → Option Int32} (hit : ∀ σ1, Sim G (bump X) 7 (LQ X b) σ1 2569 [(0, .ref b), (1, .ref (ga G 130 0)), (2, .ref (ga G 131 0)), (3, .ref (ga G 105 0)), (4, .int i)] [] (rec (σ1, i + 7))) : Sim G X 7 (LQ X b) σ 948 [(0, .ref b), (1, .ref (ga G 130 0)), (2, .ref (ga G 131 0)), (3, .ref (ga G 105 0)), (4, .int i)] [] (lawC15 xs L rec σ i) := by
  unfold lawC15
  refine s_aload_n 1 (n := 949) hX (dec_of D_L_law15 (i := 0) rfl) rfl rfl rfl ?_
  refine s_callVP (c := 9) (n := 952) hX cls9 (vk130 (by omega)) lk_RL_94 (dec_of D_L_law15 (i := 1) rfl) rfl (by decide) (c_X9_year (l := _) hG _) rfl rfl (Nat.le_of_ble_eq_true rfl) (fun q1 => ?_)
  refine s_aload_n 2 (n := 953) hX (dec_of D_L_law15 (i := 2) rfl) rfl rfl rfl ?_
  refine s_callVP (c := 10) (n := 956) hX cls10 (vk131 (by omega)) lk_RL_97 (dec_of D_L_law15 (i := 3) rfl) rfl (by decide) (c_X10_year (l := _) hG _) rfl rfl (Nat.le_of_ble_eq_true rfl) (fun q2 => ?_)
  refine s_icmp_eq (tgt := 2569) (n := 959) hX (dec_of D_L_law15 (i := 4) rfl) rfl rfl ?_ ?_
  · refine s_wid ?_
    exact s_sub [0, 1, 2, 3, 4] rfl (hit q2.2)
  · exact s_bad (by decide)
theorem lk_RL_98 : LkV RL 98 RX9 yX9_claim cX9_claim 4 (some .int) 2 := ⟨wd_906, wd_907, wd_908, wd_83, wd_909, by decide +kernel, by decide⟩
theorem lk_RL_101 : LkV RL 101 RX10 yX10_claim cX10_claim 9 (some .int) 2 := ⟨wd_1781, wd_1782, wd_1783, wd_93, wd_1784, by decide +kernel, by decide⟩
def T_L_law16 : List (Nat × Instr × Nat) := [(961, .aload_n 1, 1), (962, .aload_n 0, 1), (963, .iload 4, 2), (965, .iconst 1, 1), (966, .iadd, 1), (967, .iaload, 1), (968, .aload_n 0, 1), (969, .iload 4, 2), (971, .iconst 2, 1), (972, .iadd, 1), (973, .iaload, 1), (974, .invokevirtual 98, 3), (977, .aload_n 2, 1), (978, .aload_n 0, 1), (979, .iload 4, 2), (981, .iconst 1, 1), (982, .iadd, 1), (983, .iaload, 1), (984, .aload_n 0, 1), (985, .iload 4, 2), (987, .iconst 2, 1), (988, .iadd, 1), (989, .iaload, 1), (990, .invokevirtual 101, 3), (993, .if_icmp .eq 1576, 3), (996, .iconst 0, 1), (997, .ireturn, 1)]
theorem D_L_law16 : dchk code T_L_law16 = true := by decide +kernel
def lawC16 (xs : Nat → Int32) (L : Nat) (rec : ST × Int32 → Option Int32) (σ : ST) (i : Int32) : Option Int32 :=
  bd_ (ldX xs L (i + 1)) (fun v1 => bd_ (ldX xs L (i + 2)) (fun v2 => bd_ (Rp_claim (σ) v1 v2) (fun q3 => bd_ (ldX xs L (i + 1)) (fun v4 => bd_ (ldX xs L (i + 2)) (fun v5 => bd_ (Mo_claim q3.2 v4 v5) (fun q6 => (if q3.1 = q6.1 then rec (q6.2, i + 7) else some 0)))))))
set_option maxHeartbeats 4000000 in
set_option maxRecDepth 100000 in
theorem s_lawC16 {G : GW} (hG : Good G) {X : CX} {b L : Nat} {xs : Nat → Int32} (hX : Ok G X code 7 RL 14) (hsc : Scr G X b L xs) {l : Launch} (hXl : X.2.1 = l) (hl0 : l.stackTraces = false) (hc : X.2.2.2.2.2.2.2.2.2.2.1 + 1 ≤ X.2.2.2.1.cells) (hs : X.2.2.2.2.2.2.2.2.2.2.2 + 6 ≤ X.2.2.2.1.slots) {σ : ST} {i : Int32} {rec : ST × Int32 → Option Int32} (hit : ∀ σ1, Sim G (bump X) 7 (LQ X b) σ1 2569 [(0, .ref b), (1, .ref (ga G 130 0)), (2, .ref (ga G 131 0)), (3, .ref (ga G 105 0)), (4, .int i)] [] (rec (σ1, i + 7))) : Sim G X 7 (LQ X b) σ 961 [(0, .ref b), (1, .ref (ga G 130 0)), (2, .ref (ga G 131 0)), (3, .ref (ga G 105 0)), (4, .int i)] [] (lawC16 xs L rec σ i) := by
  unfold lawC16
  refine s_aload_n 1 (n := 962) hX (dec_of D_L_law16 (i := 0) rfl) rfl rfl rfl ?_
  refine s_aload_n 0 (n := 963) hX (dec_of D_L_law16 (i := 1) rfl) rfl rfl rfl ?_
  refine s_iload 4 (n := 965) hX (dec_of D_L_law16 (i := 2) rfl) rfl rfl ?_
  refine s_iconst (v := 1) (n := 966) hX (dec_of D_L_law16 (i := 3) rfl) rfl (by decide) ?_
  refine s_iadd (n := 967) hX (dec_of D_L_law16 (i := 4) rfl) rfl ?_
  refine s_sld (n := 968) hX hsc (dec_of D_L_law16 (i := 5) rfl) rfl (fun v1 => ?_)
  refine s_aload_n 0 (n := 969) hX (dec_of D_L_law16 (i := 6) rfl) rfl rfl rfl ?_
  refine s_iload 4 (n := 971) hX (dec_of D_L_law16 (i := 7) rfl) rfl rfl ?_
  refine s_iconst (v := 2) (n := 972) hX (dec_of D_L_law16 (i := 8) rfl) rfl (by decide) ?_
  refine s_iadd (n := 973) hX (dec_of D_L_law16 (i := 9) rfl) rfl ?_
  refine s_sld (n := 974) hX hsc (dec_of D_L_law16 (i := 10) rfl) rfl (fun v2 => ?_)
  refine s_callVP (c := 9) (n := 977) hX cls9 (vk130 (by omega)) lk_RL_98 (dec_of D_L_law16 (i := 11) rfl) rfl (by decide) (c_X9_claim (l := _) hG _ _ _) rfl rfl (Nat.le_of_ble_eq_true rfl) (fun q3 => ?_)
  refine s_aload_n 2 (n := 978) hX (dec_of D_L_law16 (i := 12) rfl) rfl rfl rfl ?_
  refine s_aload_n 0 (n := 979) hX (dec_of D_L_law16 (i := 13) rfl) rfl rfl rfl ?_
  refine s_iload 4 (n := 981) hX (dec_of D_L_law16 (i := 14) rfl) rfl rfl ?_
  refine s_iconst (v := 1) (n := 982) hX (dec_of D_L_law16 (i := 15) rfl) rfl (by decide) ?_
  refine s_iadd (n := 983) hX (dec_of D_L_law16 (i := 16) rfl) rfl ?_
  refine s_sld (n := 984) hX hsc (dec_of D_L_law16 (i := 17) rfl) rfl (fun v4 => ?_)
  refine s_aload_n 0 (n := 985) hX (dec_of D_L_law16 (i := 18) rfl) rfl rfl rfl ?_
  refine s_iload 4 (n := 987) hX (dec_of D_L_law16 (i := 19) rfl) rfl rfl ?_
  refine s_iconst (v := 2) (n := 988) hX (dec_of D_L_law16 (i := 20) rfl) rfl (by decide) ?_
  refine s_iadd (n := 989) hX (dec_of D_L_law16 (i := 21) rfl) rfl ?_
  refine s_sld (n := 990) hX hsc (dec_of D_L_law16 (i := 22) rfl) rfl (fun v5 => ?_)
  refine s_callVP (c := 10) (n := 993) hX cls10 (vk131 (by omega)) lk_RL_101 (dec_of D_L_law16 (i := 23) rfl) rfl (by decide) (c_X10_claim (l := _) hG _ _ _) rfl rfl (Nat.le_of_ble_eq_true rfl) (fun q6 => ?_)
  refine s_icmp_eq (tgt := 2569) (n := 996) hX (dec_of D_L_law16 (i := 24) rfl) rfl rfl ?_ ?_
  · refine s_wid ?_
    exact s_sub [0, 1, 2, 3, 4] rfl (hit q6.2)
  · exact s_bad (by decide)
theorem lk_RL_102 : LkV RL 102 RX9 yX9_part cX9_part 3 (some .int) 1 := ⟨wd_935, wd_936, wd_937, wd_83, wd_938, by decide +kernel, by decide⟩
theorem lk_RL_105 : LkV RL 105 RX10 yX10_part cX10_part 3 (some .int) 1 := ⟨wd_1801, wd_1802, wd_1803, wd_93, wd_1804, by decide +kernel, by decide⟩
def T_L_law17 : List (Nat × Instr × Nat) := [(998, .aload_n 1, 1), (999, .aload_n 0, 1), (1000, .iload 4, 2), (1002, .iconst 1, 1), (1003, .iadd, 1), (1004, .iaload, 1), (1005, .invokevirtual 102, 3), (1008, .aload_n 2, 1), (1009, .aload_n 0, 1), (1010, .iload 4, 2), (1012, .iconst 1, 1), (1013, .iadd, 1), (1014, .iaload, 1), (1015, .invokevirtual 105, 3), (1018, .if_icmp .eq 1551, 3), (1021, .iconst 0, 1), (1022, .ireturn, 1)]
theorem D_L_law17 : dchk code T_L_law17 = true := by decide +kernel
def lawC17 (xs : Nat → Int32) (L : Nat) (rec : ST × Int32 → Option Int32) (σ : ST) (i : Int32) : Option Int32 :=
  bd_ (ldX xs L (i + 1)) (fun v1 => bd_ (Rp_part (σ) v1) (fun q2 => bd_ (ldX xs L (i + 1)) (fun v3 => bd_ (Mo_part q2.2 v3) (fun q4 => (if q2.1 = q4.1 then rec (q4.2, i + 7) else some 0)))))
set_option maxHeartbeats 4000000 in
set_option maxRecDepth 100000 in
theorem s_lawC17 {G : GW} (hG : Good G) {X : CX} {b L : Nat} {xs : Nat → Int32} (hX : Ok G X code 7 RL 14) (hsc : Scr G X b L xs) {l : Launch} (hXl : X.2.1 = l) (hl0 : l.stackTraces = false) (hc : X.2.2.2.2.2.2.2.2.2.2.1 + 1 ≤ X.2.2.2.1.cells) (hs : X.2.2.2.2.2.2.2.2.2.2.2 + 6 ≤ X.2.2.2.1.slots) {σ : ST} {i : Int32} {rec : ST × Int32 → Option Int32} (hit : ∀ σ1, Sim G (bump X) 7 (LQ X b) σ1 2569 [(0, .ref b), (1, .ref (ga G 130 0)), (2, .ref (ga G 131 0)), (3, .ref (ga G 105 0)), (4, .int i)] [] (rec (σ1, i + 7))) : Sim G X 7 (LQ X b) σ 998 [(0, .ref b), (1, .ref (ga G 130 0)), (2, .ref (ga G 131 0)), (3, .ref (ga G 105 0)), (4, .int i)] [] (lawC17 xs L rec σ i) := by
  unfold lawC17
  refine s_aload_n 1 (n := 999) hX (dec_of D_L_law17 (i := 0) rfl) rfl rfl rfl ?_
  refine s_aload_n 0 (n := 1000) hX (dec_of D_L_law17 (i := 1) rfl) rfl rfl rfl ?_
  refine s_iload 4 (n := 1002) hX (dec_of D_L_law17 (i := 2) rfl) rfl rfl ?_
  refine s_iconst (v := 1) (n := 1003) hX (dec_of D_L_law17 (i := 3) rfl) rfl (by decide) ?_
  refine s_iadd (n := 1004) hX (dec_of D_L_law17 (i := 4) rfl) rfl ?_
  refine s_sld (n := 1005) hX hsc (dec_of D_L_law17 (i := 5) rfl) rfl (fun v1 => ?_)
  refine s_callVP (c := 9) (n := 1008) hX cls9 (vk130 (by omega)) lk_RL_102 (dec_of D_L_law17 (i := 6) rfl) rfl (by decide) (c_X9_part (l := _) hG _ _) rfl rfl (Nat.le_of_ble_eq_true rfl) (fun q2 => ?_)
  refine s_aload_n 2 (n := 1009) hX (dec_of D_L_law17 (i := 7) rfl) rfl rfl rfl ?_
  refine s_aload_n 0 (n := 1010) hX (dec_of D_L_law17 (i := 8) rfl) rfl rfl rfl ?_
  refine s_iload 4 (n := 1012) hX (dec_of D_L_law17 (i := 9) rfl) rfl rfl ?_
  refine s_iconst (v := 1) (n := 1013) hX (dec_of D_L_law17 (i := 10) rfl) rfl (by decide) ?_
  refine s_iadd (n := 1014) hX (dec_of D_L_law17 (i := 11) rfl) rfl ?_
  refine s_sld (n := 1015) hX hsc (dec_of D_L_law17 (i := 12) rfl) rfl (fun v3 => ?_)
  refine s_callVP (c := 10) (n := 1018) hX cls10 (vk131 (by omega)) lk_RL_105 (dec_of D_L_law17 (i := 13) rfl) rfl (by decide) (c_X10_part (l := _) hG _ _) rfl rfl (Nat.le_of_ble_eq_true rfl) (fun q4 => ?_)
  refine s_icmp_eq (tgt := 2569) (n := 1021) hX (dec_of D_L_law17 (i := 14) rfl) rfl rfl ?_ ?_
  · refine s_wid ?_
    exact s_sub [0, 1, 2, 3, 4] rfl (hit q4.2)
  · exact s_bad (by decide)
theorem lk_RL_106 : LkV RL 106 RX9 yX9_terms cX9_terms 4 (some .boolean) 3 := ⟨wd_970, wd_971, wd_972, wd_83, wd_973, by decide +kernel, by decide⟩
theorem lk_RL_110 : LkV RL 110 RX10 yX10_terms cX10_terms 4 (some .boolean) 3 := ⟨wd_1825, wd_1826, wd_1827, wd_93, wd_1828, by decide +kernel, by decide⟩
def T_L_law18 : List (Nat × Instr × Nat) := [(1023, .aload_n 1, 1), (1024, .aload_n 0, 1), (1025, .iload 4, 2), (1027, .iconst 1, 1), (1028, .iadd, 1), (1029, .iaload, 1), (1030, .aload_n 0, 1), (1031, .iload 4, 2), (1033, .iconst 2, 1), (1034, .iadd, 1), (1035, .iaload, 1), (1036, .aload_n 0, 1), (1037, .iload 4, 2), (1039, .iconst 3, 1), (1040, .iadd, 1), (1041, .iaload, 1), (1042, .invokevirtual 106, 3), (1045, .aload_n 2, 1), (1046, .aload_n 0, 1), (1047, .iload 4, 2), (1049, .iconst 1, 1), (1050, .iadd, 1), (1051, .iaload, 1), (1052, .aload_n 0, 1), (1053, .iload 4, 2), (1055, .iconst 2, 1), (1056, .iadd, 1), (1057, .iaload, 1), (1058, .aload_n 0, 1), (1059, .iload 4, 2), (1061, .iconst 3, 1), (1062, .iadd, 1), (1063, .iaload, 1), (1064, .invokevirtual 110, 3), (1067, .if_icmp .eq 1502, 3), (1070, .iconst 0, 1), (1071, .ireturn, 1)]
theorem D_L_law18 : dchk code T_L_law18 = true := by decide +kernel
def lawC18 (xs : Nat → Int32) (L : Nat) (rec : ST × Int32 → Option Int32) (σ : ST) (i : Int32) : Option Int32 :=
  bd_ (ldX xs L (i + 1)) (fun v1 => bd_ (ldX xs L (i + 2)) (fun v2 => bd_ (ldX xs L (i + 3)) (fun v3 => bd_ (Rp_terms (σ) v1 v2 v3) (fun q4 => bd_ (ldX xs L (i + 1)) (fun v5 => bd_ (ldX xs L (i + 2)) (fun v6 => bd_ (ldX xs L (i + 3)) (fun v7 => bd_ (Mo_terms q4.2 v5 v6 v7) (fun q8 => (if q4.1 = q8.1 then rec (q8.2, i + 7) else some 0)))))))))
set_option maxHeartbeats 4000000 in
set_option maxRecDepth 100000 in
theorem s_lawC18 {G : GW} (hG : Good G) {X : CX} {b L : Nat} {xs : Nat → Int32} (hX : Ok G X code 7 RL 14) (hsc : Scr G X b L xs) {l : Launch} (hXl : X.2.1 = l) (hl0 : l.stackTraces = false) (hc : X.2.2.2.2.2.2.2.2.2.2.1 + 1 ≤ X.2.2.2.1.cells) (hs : X.2.2.2.2.2.2.2.2.2.2.2 + 6 ≤ X.2.2.2.1.slots) {σ : ST} {i : Int32} {rec : ST × Int32 → Option Int32} (hit : ∀ σ1, Sim G (bump X) 7 (LQ X b) σ1 2569 [(0, .ref b), (1, .ref (ga G 130 0)), (2, .ref (ga G 131 0)), (3, .ref (ga G 105 0)), (4, .int i)] [] (rec (σ1, i + 7))) : Sim G X 7 (LQ X b) σ 1023 [(0, .ref b), (1, .ref (ga G 130 0)), (2, .ref (ga G 131 0)), (3, .ref (ga G 105 0)), (4, .int i)] [] (lawC18 xs L rec σ i) := by
  unfold lawC18
  refine s_aload_n 1 (n := 1024) hX (dec_of D_L_law18 (i := 0) rfl) rfl rfl rfl ?_
  refine s_aload_n 0 (n := 1025) hX (dec_of D_L_law18 (i := 1) rfl) rfl rfl rfl ?_
  refine s_iload 4 (n := 1027) hX (dec_of D_L_law18 (i := 2) rfl) rfl rfl ?_
  refine s_iconst (v := 1) (n := 1028) hX (dec_of D_L_law18 (i := 3) rfl) rfl (by decide) ?_
  refine s_iadd (n := 1029) hX (dec_of D_L_law18 (i := 4) rfl) rfl ?_
  refine s_sld (n := 1030) hX hsc (dec_of D_L_law18 (i := 5) rfl) rfl (fun v1 => ?_)
  refine s_aload_n 0 (n := 1031) hX (dec_of D_L_law18 (i := 6) rfl) rfl rfl rfl ?_
  refine s_iload 4 (n := 1033) hX (dec_of D_L_law18 (i := 7) rfl) rfl rfl ?_
  refine s_iconst (v := 2) (n := 1034) hX (dec_of D_L_law18 (i := 8) rfl) rfl (by decide) ?_
  refine s_iadd (n := 1035) hX (dec_of D_L_law18 (i := 9) rfl) rfl ?_
  refine s_sld (n := 1036) hX hsc (dec_of D_L_law18 (i := 10) rfl) rfl (fun v2 => ?_)
  refine s_aload_n 0 (n := 1037) hX (dec_of D_L_law18 (i := 11) rfl) rfl rfl rfl ?_
  refine s_iload 4 (n := 1039) hX (dec_of D_L_law18 (i := 12) rfl) rfl rfl ?_
  refine s_iconst (v := 3) (n := 1040) hX (dec_of D_L_law18 (i := 13) rfl) rfl (by decide) ?_
  refine s_iadd (n := 1041) hX (dec_of D_L_law18 (i := 14) rfl) rfl ?_
  refine s_sld (n := 1042) hX hsc (dec_of D_L_law18 (i := 15) rfl) rfl (fun v3 => ?_)
  refine s_callVP (c := 9) (n := 1045) hX cls9 (vk130 (by omega)) lk_RL_106 (dec_of D_L_law18 (i := 16) rfl) rfl (by decide) (c_X9_terms (l := _) hG _ _ _ _) rfl rfl (Nat.le_of_ble_eq_true rfl) (fun q4 => ?_)
  refine s_aload_n 2 (n := 1046) hX (dec_of D_L_law18 (i := 17) rfl) rfl rfl rfl ?_
  refine s_aload_n 0 (n := 1047) hX (dec_of D_L_law18 (i := 18) rfl) rfl rfl rfl ?_
  refine s_iload 4 (n := 1049) hX (dec_of D_L_law18 (i := 19) rfl) rfl rfl ?_
  refine s_iconst (v := 1) (n := 1050) hX (dec_of D_L_law18 (i := 20) rfl) rfl (by decide) ?_
  refine s_iadd (n := 1051) hX (dec_of D_L_law18 (i := 21) rfl) rfl ?_
  refine s_sld (n := 1052) hX hsc (dec_of D_L_law18 (i := 22) rfl) rfl (fun v5 => ?_)
  refine s_aload_n 0 (n := 1053) hX (dec_of D_L_law18 (i := 23) rfl) rfl rfl rfl ?_
  refine s_iload 4 (n := 1055) hX (dec_of D_L_law18 (i := 24) rfl) rfl rfl ?_
  refine s_iconst (v := 2) (n := 1056) hX (dec_of D_L_law18 (i := 25) rfl) rfl (by decide) ?_
  refine s_iadd (n := 1057) hX (dec_of D_L_law18 (i := 26) rfl) rfl ?_
  refine s_sld (n := 1058) hX hsc (dec_of D_L_law18 (i := 27) rfl) rfl (fun v6 => ?_)
  refine s_aload_n 0 (n := 1059) hX (dec_of D_L_law18 (i := 28) rfl) rfl rfl rfl ?_
  refine s_iload 4 (n := 1061) hX (dec_of D_L_law18 (i := 29) rfl) rfl rfl ?_
  refine s_iconst (v := 3) (n := 1062) hX (dec_of D_L_law18 (i := 30) rfl) rfl (by decide) ?_
  refine s_iadd (n := 1063) hX (dec_of D_L_law18 (i := 31) rfl) rfl ?_
  refine s_sld (n := 1064) hX hsc (dec_of D_L_law18 (i := 32) rfl) rfl (fun v7 => ?_)
  refine s_callVP (c := 10) (n := 1067) hX cls10 (vk131 (by omega)) lk_RL_110 (dec_of D_L_law18 (i := 33) rfl) rfl (by decide) (c_X10_terms (l := _) hG _ _ _ _) rfl rfl (Nat.le_of_ble_eq_true rfl) (fun q8 => ?_)
  refine s_icmp_eq (tgt := 2569) (n := 1070) hX (dec_of D_L_law18 (i := 34) rfl) rfl rfl ?_ ?_
  · refine s_wid ?_
    exact s_sub [0, 1, 2, 3, 4] rfl (hit q8.2)
  · exact s_bad (by decide)
theorem lk_RL_111 : LkV RL 111 RX9 yX9_partAll cX9_partAll 4 (some .int) 0 := ⟨wd_966, wd_967, wd_968, wd_83, wd_969, by decide +kernel, by decide⟩
theorem lk_RL_114 : LkV RL 114 RX10 yX10_partAll cX10_partAll 4 (some .int) 0 := ⟨wd_1821, wd_1822, wd_1823, wd_93, wd_1824, by decide +kernel, by decide⟩
def T_L_law19 : List (Nat × Instr × Nat) := [(1072, .aload_n 1, 1), (1073, .invokevirtual 111, 3), (1076, .aload_n 2, 1), (1077, .invokevirtual 114, 3), (1080, .if_icmp .eq 1489, 3), (1083, .iconst 0, 1), (1084, .ireturn, 1)]
theorem D_L_law19 : dchk code T_L_law19 = true := by decide +kernel
def lawC19 (xs : Nat → Int32) (L : Nat) (rec : ST × Int32 → Option Int32) (σ : ST) (i : Int32) : Option Int32 :=
  bd_ (Rp_partAll (σ)) (fun q1 => bd_ (Mo_partAll q1.2) (fun q2 => (if q1.1 = q2.1 then rec (q2.2, i + 7) else some 0)))
set_option maxHeartbeats 4000000 in
set_option maxRecDepth 100000 in
theorem s_lawC19 {G : GW} (hG : Good G) {X : CX} {b L : Nat} {xs : Nat → Int32} (hX : Ok G X code 7 RL 14) (hsc : Scr G X b L xs) {l : Launch} (hXl : X.2.1 = l) (hl0 : l.stackTraces = false) (hc : X.2.2.2.2.2.2.2.2.2.2.1 + 1 ≤ X.2.2.2.1.cells) (hs : X.2.2.2.2.2.2.2.2.2.2.2 + 6 ≤ X.2.2.2.1.slots) {σ : ST} {i : Int32} {rec : ST × Int32 → Option Int32} (hit : ∀ σ1, Sim G (bump X) 7 (LQ X b) σ1 2569 [(0, .ref b), (1, .ref (ga G 130 0)), (2, .ref (ga G 131 0)), (3, .ref (ga G 105 0)), (4, .int i)] [] (rec (σ1, i + 7))) : Sim G X 7 (LQ X b) σ 1072 [(0, .ref b), (1, .ref (ga G 130 0)), (2, .ref (ga G 131 0)), (3, .ref (ga G 105 0)), (4, .int i)] [] (lawC19 xs L rec σ i) := by
  unfold lawC19
  refine s_aload_n 1 (n := 1073) hX (dec_of D_L_law19 (i := 0) rfl) rfl rfl rfl ?_
  refine s_callVP (c := 9) (n := 1076) hX cls9 (vk130 (by omega)) lk_RL_111 (dec_of D_L_law19 (i := 1) rfl) rfl (by decide) (c_X9_partAll (l := _) hG _) rfl rfl (Nat.le_of_ble_eq_true rfl) (fun q1 => ?_)
  refine s_aload_n 2 (n := 1077) hX (dec_of D_L_law19 (i := 2) rfl) rfl rfl rfl ?_
  refine s_callVP (c := 10) (n := 1080) hX cls10 (vk131 (by omega)) lk_RL_114 (dec_of D_L_law19 (i := 3) rfl) rfl (by decide) (c_X10_partAll (l := _) hG _) rfl rfl (Nat.le_of_ble_eq_true rfl) (fun q2 => ?_)
  refine s_icmp_eq (tgt := 2569) (n := 1083) hX (dec_of D_L_law19 (i := 4) rfl) rfl rfl ?_ ?_
  · refine s_wid ?_
    exact s_sub [0, 1, 2, 3, 4] rfl (hit q2.2)
  · exact s_bad (by decide)
theorem lk_RL_115 : LkV RL 115 RX9 yX9_move cX9_move 3 (some .boolean) 2 := ⟨wd_978, wd_979, wd_980, wd_83, wd_981, by decide +kernel, by decide⟩
theorem lk_RL_119 : LkV RL 119 RX10 yX10_move cX10_move 3 (some .boolean) 2 := ⟨wd_1832, wd_1833, wd_1834, wd_93, wd_1835, by decide +kernel, by decide⟩
def T_L_law20 : List (Nat × Instr × Nat) := [(1085, .aload_n 1, 1), (1086, .aload_n 0, 1), (1087, .iload 4, 2), (1089, .iconst 1, 1), (1090, .iadd, 1), (1091, .iaload, 1), (1092, .aload_n 0, 1), (1093, .iload 4, 2), (1095, .iconst 2, 1), (1096, .iadd, 1), (1097, .iaload, 1), (1098, .invokevirtual 115, 3), (1101, .aload_n 2, 1), (1102, .aload_n 0, 1), (1103, .iload 4, 2), (1105, .iconst 1, 1), (1106, .iadd, 1), (1107, .iaload, 1), (1108, .aload_n 0, 1), (1109, .iload 4, 2), (1111, .iconst 2, 1), (1112, .iadd, 1), (1113, .iaload, 1), (1114, .invokevirtual 119, 3), (1117, .if_icmp .eq 1452, 3), (1120, .iconst 0, 1), (1121, .ireturn, 1)]
theorem D_L_law20 : dchk code T_L_law20 = true := by decide +kernel
def lawC20 (xs : Nat → Int32) (L : Nat) (rec : ST × Int32 → Option Int32) (σ : ST) (i : Int32) : Option Int32 :=
  bd_ (ldX xs L (i + 1)) (fun v1 => bd_ (ldX xs L (i + 2)) (fun v2 => bd_ (Rp_move (σ) v1 v2) (fun q3 => bd_ (ldX xs L (i + 1)) (fun v4 => bd_ (ldX xs L (i + 2)) (fun v5 => bd_ (Mo_move q3.2 v4 v5) (fun q6 => (if q3.1 = q6.1 then rec (q6.2, i + 7) else some 0)))))))
set_option maxHeartbeats 4000000 in
set_option maxRecDepth 100000 in
theorem s_lawC20 {G : GW} (hG : Good G) {X : CX} {b L : Nat} {xs : Nat → Int32} (hX : Ok G X code 7 RL 14) (hsc : Scr G X b L xs) {l : Launch} (hXl : X.2.1 = l) (hl0 : l.stackTraces = false) (hc : X.2.2.2.2.2.2.2.2.2.2.1 + 1 ≤ X.2.2.2.1.cells) (hs : X.2.2.2.2.2.2.2.2.2.2.2 + 6 ≤ X.2.2.2.1.slots) {σ : ST} {i : Int32} {rec : ST × Int32 → Option Int32} (hit : ∀ σ1, Sim G (bump X) 7 (LQ X b) σ1 2569 [(0, .ref b), (1, .ref (ga G 130 0)), (2, .ref (ga G 131 0)), (3, .ref (ga G 105 0)), (4, .int i)] [] (rec (σ1, i + 7))) : Sim G X 7 (LQ X b) σ 1085 [(0, .ref b), (1, .ref (ga G 130 0)), (2, .ref (ga G 131 0)), (3, .ref (ga G 105 0)), (4, .int i)] [] (lawC20 xs L rec σ i) := by
  unfold lawC20
  refine s_aload_n 1 (n := 1086) hX (dec_of D_L_law20 (i := 0) rfl) rfl rfl rfl ?_
  refine s_aload_n 0 (n := 1087) hX (dec_of D_L_law20 (i := 1) rfl) rfl rfl rfl ?_
  refine s_iload 4 (n := 1089) hX (dec_of D_L_law20 (i := 2) rfl) rfl rfl ?_
  refine s_iconst (v := 1) (n := 1090) hX (dec_of D_L_law20 (i := 3) rfl) rfl (by decide) ?_
  refine s_iadd (n := 1091) hX (dec_of D_L_law20 (i := 4) rfl) rfl ?_
  refine s_sld (n := 1092) hX hsc (dec_of D_L_law20 (i := 5) rfl) rfl (fun v1 => ?_)
  refine s_aload_n 0 (n := 1093) hX (dec_of D_L_law20 (i := 6) rfl) rfl rfl rfl ?_
  refine s_iload 4 (n := 1095) hX (dec_of D_L_law20 (i := 7) rfl) rfl rfl ?_
  refine s_iconst (v := 2) (n := 1096) hX (dec_of D_L_law20 (i := 8) rfl) rfl (by decide) ?_
  refine s_iadd (n := 1097) hX (dec_of D_L_law20 (i := 9) rfl) rfl ?_
  refine s_sld (n := 1098) hX hsc (dec_of D_L_law20 (i := 10) rfl) rfl (fun v2 => ?_)
  refine s_callVP (c := 9) (n := 1101) hX cls9 (vk130 (by omega)) lk_RL_115 (dec_of D_L_law20 (i := 11) rfl) rfl (by decide) (c_X9_move (l := _) hG _ _ _) rfl rfl (Nat.le_of_ble_eq_true rfl) (fun q3 => ?_)
  refine s_aload_n 2 (n := 1102) hX (dec_of D_L_law20 (i := 12) rfl) rfl rfl rfl ?_
  refine s_aload_n 0 (n := 1103) hX (dec_of D_L_law20 (i := 13) rfl) rfl rfl rfl ?_
  refine s_iload 4 (n := 1105) hX (dec_of D_L_law20 (i := 14) rfl) rfl rfl ?_
  refine s_iconst (v := 1) (n := 1106) hX (dec_of D_L_law20 (i := 15) rfl) rfl (by decide) ?_
  refine s_iadd (n := 1107) hX (dec_of D_L_law20 (i := 16) rfl) rfl ?_
  refine s_sld (n := 1108) hX hsc (dec_of D_L_law20 (i := 17) rfl) rfl (fun v4 => ?_)
  refine s_aload_n 0 (n := 1109) hX (dec_of D_L_law20 (i := 18) rfl) rfl rfl rfl ?_
  refine s_iload 4 (n := 1111) hX (dec_of D_L_law20 (i := 19) rfl) rfl rfl ?_
  refine s_iconst (v := 2) (n := 1112) hX (dec_of D_L_law20 (i := 20) rfl) rfl (by decide) ?_
  refine s_iadd (n := 1113) hX (dec_of D_L_law20 (i := 21) rfl) rfl ?_
  refine s_sld (n := 1114) hX hsc (dec_of D_L_law20 (i := 22) rfl) rfl (fun v5 => ?_)
  refine s_callVP (c := 10) (n := 1117) hX cls10 (vk131 (by omega)) lk_RL_119 (dec_of D_L_law20 (i := 23) rfl) rfl (by decide) (c_X10_move (l := _) hG _ _ _) rfl rfl (Nat.le_of_ble_eq_true rfl) (fun q6 => ?_)
  refine s_icmp_eq (tgt := 2569) (n := 1120) hX (dec_of D_L_law20 (i := 24) rfl) rfl rfl ?_ ?_
  · refine s_wid ?_
    exact s_sub [0, 1, 2, 3, 4] rfl (hit q6.2)
  · exact s_bad (by decide)
theorem lk_RL_120 : LkV RL 120 RX9 yX9_giveBack cX9_giveBack 5 (some .int) 2 := ⟨wd_982, wd_983, wd_984, wd_83, wd_985, by decide +kernel, by decide⟩
theorem lk_RL_123 : LkV RL 123 RX10 yX10_giveBack cX10_giveBack 4 (some .int) 2 := ⟨wd_1836, wd_1837, wd_1838, wd_93, wd_1839, by decide +kernel, by decide⟩
def T_L_law21 : List (Nat × Instr × Nat) := [(1122, .aload_n 1, 1), (1123, .aload_n 0, 1), (1124, .iload 4, 2), (1126, .iconst 1, 1), (1127, .iadd, 1), (1128, .iaload, 1), (1129, .aload_n 0, 1), (1130, .iload 4, 2), (1132, .iconst 2, 1), (1133, .iadd, 1), (1134, .iaload, 1), (1135, .invokevirtual 120, 3), (1138, .aload_n 2, 1), (1139, .aload_n 0, 1), (1140, .iload 4, 2), (1142, .iconst 1, 1), (1143, .iadd, 1), (1144, .iaload, 1), (1145, .aload_n 0, 1), (1146, .iload 4, 2), (1148, .iconst 2, 1), (1149, .iadd, 1), (1150, .iaload, 1), (1151, .invokevirtual 123, 3), (1154, .if_icmp .eq 1415, 3), (1157, .iconst 0, 1), (1158, .ireturn, 1)]
theorem D_L_law21 : dchk code T_L_law21 = true := by decide +kernel
def lawC21 (xs : Nat → Int32) (L : Nat) (rec : ST × Int32 → Option Int32) (σ : ST) (i : Int32) : Option Int32 :=
  bd_ (ldX xs L (i + 1)) (fun v1 => bd_ (ldX xs L (i + 2)) (fun v2 => bd_ (Rp_giveBack (σ) v1 v2) (fun q3 => bd_ (ldX xs L (i + 1)) (fun v4 => bd_ (ldX xs L (i + 2)) (fun v5 => bd_ (Mo_giveBack q3.2 v4 v5) (fun q6 => (if q3.1 = q6.1 then rec (q6.2, i + 7) else some 0)))))))
set_option maxHeartbeats 4000000 in
set_option maxRecDepth 100000 in
theorem s_lawC21 {G : GW} (hG : Good G) {X : CX} {b L : Nat} {xs : Nat → Int32} (hX : Ok G X code 7 RL 14) (hsc : Scr G X b L xs) {l : Launch} (hXl : X.2.1 = l) (hl0 : l.stackTraces = false) (hc : X.2.2.2.2.2.2.2.2.2.2.1 + 1 ≤ X.2.2.2.1.cells) (hs : X.2.2.2.2.2.2.2.2.2.2.2 + 6 ≤ X.2.2.2.1.slots) {σ : ST} {i : Int32} {rec : ST × Int32 → Option Int32} (hit : ∀ σ1, Sim G (bump X) 7 (LQ X b) σ1 2569 [(0, .ref b), (1, .ref (ga G 130 0)), (2, .ref (ga G 131 0)), (3, .ref (ga G 105 0)), (4, .int i)] [] (rec (σ1, i + 7))) : Sim G X 7 (LQ X b) σ 1122 [(0, .ref b), (1, .ref (ga G 130 0)), (2, .ref (ga G 131 0)), (3, .ref (ga G 105 0)), (4, .int i)] [] (lawC21 xs L rec σ i) := by
  unfold lawC21
  refine s_aload_n 1 (n := 1123) hX (dec_of D_L_law21 (i := 0) rfl) rfl rfl rfl ?_
  refine s_aload_n 0 (n := 1124) hX (dec_of D_L_law21 (i := 1) rfl) rfl rfl rfl ?_
  refine s_iload 4 (n := 1126) hX (dec_of D_L_law21 (i := 2) rfl) rfl rfl ?_
  refine s_iconst (v := 1) (n := 1127) hX (dec_of D_L_law21 (i := 3) rfl) rfl (by decide) ?_
  refine s_iadd (n := 1128) hX (dec_of D_L_law21 (i := 4) rfl) rfl ?_
  refine s_sld (n := 1129) hX hsc (dec_of D_L_law21 (i := 5) rfl) rfl (fun v1 => ?_)
  refine s_aload_n 0 (n := 1130) hX (dec_of D_L_law21 (i := 6) rfl) rfl rfl rfl ?_
  refine s_iload 4 (n := 1132) hX (dec_of D_L_law21 (i := 7) rfl) rfl rfl ?_
  refine s_iconst (v := 2) (n := 1133) hX (dec_of D_L_law21 (i := 8) rfl) rfl (by decide) ?_
  refine s_iadd (n := 1134) hX (dec_of D_L_law21 (i := 9) rfl) rfl ?_
  refine s_sld (n := 1135) hX hsc (dec_of D_L_law21 (i := 10) rfl) rfl (fun v2 => ?_)
  refine s_callVP (c := 9) (n := 1138) hX cls9 (vk130 (by omega)) lk_RL_120 (dec_of D_L_law21 (i := 11) rfl) rfl (by decide) (c_X9_giveBack (l := _) hG _ _ _) rfl rfl (Nat.le_of_ble_eq_true rfl) (fun q3 => ?_)
  refine s_aload_n 2 (n := 1139) hX (dec_of D_L_law21 (i := 12) rfl) rfl rfl rfl ?_
  refine s_aload_n 0 (n := 1140) hX (dec_of D_L_law21 (i := 13) rfl) rfl rfl rfl ?_
  refine s_iload 4 (n := 1142) hX (dec_of D_L_law21 (i := 14) rfl) rfl rfl ?_
  refine s_iconst (v := 1) (n := 1143) hX (dec_of D_L_law21 (i := 15) rfl) rfl (by decide) ?_
  refine s_iadd (n := 1144) hX (dec_of D_L_law21 (i := 16) rfl) rfl ?_
  refine s_sld (n := 1145) hX hsc (dec_of D_L_law21 (i := 17) rfl) rfl (fun v4 => ?_)
  refine s_aload_n 0 (n := 1146) hX (dec_of D_L_law21 (i := 18) rfl) rfl rfl rfl ?_
  refine s_iload 4 (n := 1148) hX (dec_of D_L_law21 (i := 19) rfl) rfl rfl ?_
  refine s_iconst (v := 2) (n := 1149) hX (dec_of D_L_law21 (i := 20) rfl) rfl (by decide) ?_
  refine s_iadd (n := 1150) hX (dec_of D_L_law21 (i := 21) rfl) rfl ?_
  refine s_sld (n := 1151) hX hsc (dec_of D_L_law21 (i := 22) rfl) rfl (fun v5 => ?_)
  refine s_callVP (c := 10) (n := 1154) hX cls10 (vk131 (by omega)) lk_RL_123 (dec_of D_L_law21 (i := 23) rfl) rfl (by decide) (c_X10_giveBack (l := _) hG _ _ _) rfl rfl (Nat.le_of_ble_eq_true rfl) (fun q6 => ?_)
  refine s_icmp_eq (tgt := 2569) (n := 1157) hX (dec_of D_L_law21 (i := 24) rfl) rfl rfl ?_ ?_
  · refine s_wid ?_
    exact s_sub [0, 1, 2, 3, 4] rfl (hit q6.2)
  · exact s_bad (by decide)
theorem lk_RL_124 : LkV RL 124 RX9 yX9_undo cX9_undo 1 (some .int) 0 := ⟨wd_986, wd_987, wd_988, wd_83, wd_989, by decide +kernel, by decide⟩
theorem lk_RL_127 : LkV RL 127 RX10 yX10_undo cX10_undo 2 (some .int) 0 := ⟨wd_1721, wd_1722, wd_1723, wd_93, wd_1724, by decide +kernel, by decide⟩
def T_L_law22 : List (Nat × Instr × Nat) := [(1159, .aload_n 1, 1), (1160, .invokevirtual 124, 3), (1163, .aload_n 2, 1), (1164, .invokevirtual 127, 3), (1167, .if_icmp .eq 1402, 3), (1170, .iconst 0, 1), (1171, .ireturn, 1)]
theorem D_L_law22 : dchk code T_L_law22 = true := by decide +kernel
def lawC22 (xs : Nat → Int32) (L : Nat) (rec : ST × Int32 → Option Int32) (σ : ST) (i : Int32) : Option Int32 :=
  bd_ (Rp_undo (σ)) (fun q1 => bd_ (Mo_undo q1.2) (fun q2 => (if q1.1 = q2.1 then rec (q2.2, i + 7) else some 0)))
set_option maxHeartbeats 4000000 in
set_option maxRecDepth 100000 in
theorem s_lawC22 {G : GW} (hG : Good G) {X : CX} {b L : Nat} {xs : Nat → Int32} (hX : Ok G X code 7 RL 14) (hsc : Scr G X b L xs) {l : Launch} (hXl : X.2.1 = l) (hl0 : l.stackTraces = false) (hc : X.2.2.2.2.2.2.2.2.2.2.1 + 1 ≤ X.2.2.2.1.cells) (hs : X.2.2.2.2.2.2.2.2.2.2.2 + 6 ≤ X.2.2.2.1.slots) {σ : ST} {i : Int32} {rec : ST × Int32 → Option Int32} (hit : ∀ σ1, Sim G (bump X) 7 (LQ X b) σ1 2569 [(0, .ref b), (1, .ref (ga G 130 0)), (2, .ref (ga G 131 0)), (3, .ref (ga G 105 0)), (4, .int i)] [] (rec (σ1, i + 7))) : Sim G X 7 (LQ X b) σ 1159 [(0, .ref b), (1, .ref (ga G 130 0)), (2, .ref (ga G 131 0)), (3, .ref (ga G 105 0)), (4, .int i)] [] (lawC22 xs L rec σ i) := by
  unfold lawC22
  refine s_aload_n 1 (n := 1160) hX (dec_of D_L_law22 (i := 0) rfl) rfl rfl rfl ?_
  refine s_callVP (c := 9) (n := 1163) hX cls9 (vk130 (by omega)) lk_RL_124 (dec_of D_L_law22 (i := 1) rfl) rfl (by decide) (c_X9_undo (l := _) hG _) rfl rfl (Nat.le_of_ble_eq_true rfl) (fun q1 => ?_)
  refine s_aload_n 2 (n := 1164) hX (dec_of D_L_law22 (i := 2) rfl) rfl rfl rfl ?_
  refine s_callVP (c := 10) (n := 1167) hX cls10 (vk131 (by omega)) lk_RL_127 (dec_of D_L_law22 (i := 3) rfl) rfl (by decide) (c_X10_undo (l := _) hG _) rfl rfl (Nat.le_of_ble_eq_true rfl) (fun q2 => ?_)
  refine s_icmp_eq (tgt := 2569) (n := 1170) hX (dec_of D_L_law22 (i := 4) rfl) rfl rfl ?_ ?_
  · refine s_wid ?_
    exact s_sub [0, 1, 2, 3, 4] rfl (hit q2.2)
  · exact s_bad (by decide)
theorem lk_RL_128 : LkV RL 128 RX9 yX9_paid cX9_paid 4 (some .int) 3 := ⟨wd_994, wd_995, wd_996, wd_83, wd_997, by decide +kernel, by decide⟩
theorem lk_RL_131 : LkV RL 131 RX10 yX10_paid cX10_paid 4 (some .int) 3 := ⟨wd_1840, wd_1841, wd_1842, wd_93, wd_1843, by decide +kernel, by decide⟩
def T_L_law23 : List (Nat × Instr × Nat) := [(1172, .aload_n 1, 1), (1173, .aload_n 0, 1), (1174, .iload 4, 2), (1176, .iconst 1, 1), (1177, .iadd, 1), (1178, .iaload, 1), (1179, .aload_n 0, 1), (1180, .iload 4, 2), (1182, .iconst 2, 1), (1183, .iadd, 1), (1184, .iaload, 1), (1185, .aload_n 0, 1), (1186, .iload 4, 2), (1188, .iconst 3, 1), (1189, .iadd, 1), (1190, .iaload, 1), (1191, .invokevirtual 128, 3), (1194, .aload_n 2, 1), (1195, .aload_n 0, 1), (1196, .iload 4, 2), (1198, .iconst 1, 1), (1199, .iadd, 1), (1200, .iaload, 1), (1201, .aload_n 0, 1), (1202, .iload 4, 2), (1204, .iconst 2, 1), (1205, .iadd, 1), (1206, .iaload, 1), (1207, .aload_n 0, 1), (1208, .iload 4, 2), (1210, .iconst 3, 1), (1211, .iadd, 1), (1212, .iaload, 1), (1213, .invokevirtual 131, 3), (1216, .if_icmp .eq 1353, 3), (1219, .iconst 0, 1), (1220, .ireturn, 1)]
theorem D_L_law23 : dchk code T_L_law23 = true := by decide +kernel
def lawC23 (xs : Nat → Int32) (L : Nat) (rec : ST × Int32 → Option Int32) (σ : ST) (i : Int32) : Option Int32 :=
  bd_ (ldX xs L (i + 1)) (fun v1 => bd_ (ldX xs L (i + 2)) (fun v2 => bd_ (ldX xs L (i + 3)) (fun v3 => bd_ (Rp_paid (σ) v1 v2 v3) (fun q4 => bd_ (ldX xs L (i + 1)) (fun v5 => bd_ (ldX xs L (i + 2)) (fun v6 => bd_ (ldX xs L (i + 3)) (fun v7 => bd_ (Mo_paid (σ) v5 v6 v7) (fun q8 => (if q4 = q8.1 then rec (q8.2, i + 7) else some 0)))))))))
set_option maxHeartbeats 4000000 in
set_option maxRecDepth 100000 in
theorem s_lawC23 {G : GW} (hG : Good G) {X : CX} {b L : Nat} {xs : Nat → Int32} (hX : Ok G X code 7 RL 14) (hsc : Scr G X b L xs) {l : Launch} (hXl : X.2.1 = l) (hl0 : l.stackTraces = false) (hc : X.2.2.2.2.2.2.2.2.2.2.1 + 1 ≤ X.2.2.2.1.cells) (hs : X.2.2.2.2.2.2.2.2.2.2.2 + 6 ≤ X.2.2.2.1.slots) {σ : ST} {i : Int32} {rec : ST × Int32 → Option Int32} (hit : ∀ σ1, Sim G (bump X) 7 (LQ X b) σ1 2569 [(0, .ref b), (1, .ref (ga G 130 0)), (2, .ref (ga G 131 0)), (3, .ref (ga G 105 0)), (4, .int i)] [] (rec (σ1, i + 7))) : Sim G X 7 (LQ X b) σ 1172 [(0, .ref b), (1, .ref (ga G 130 0)), (2, .ref (ga G 131 0)), (3, .ref (ga G 105 0)), (4, .int i)] [] (lawC23 xs L rec σ i) := by
  unfold lawC23
  refine s_aload_n 1 (n := 1173) hX (dec_of D_L_law23 (i := 0) rfl) rfl rfl rfl ?_
  refine s_aload_n 0 (n := 1174) hX (dec_of D_L_law23 (i := 1) rfl) rfl rfl rfl ?_
  refine s_iload 4 (n := 1176) hX (dec_of D_L_law23 (i := 2) rfl) rfl rfl ?_
  refine s_iconst (v := 1) (n := 1177) hX (dec_of D_L_law23 (i := 3) rfl) rfl (by decide) ?_
  refine s_iadd (n := 1178) hX (dec_of D_L_law23 (i := 4) rfl) rfl ?_
  refine s_sld (n := 1179) hX hsc (dec_of D_L_law23 (i := 5) rfl) rfl (fun v1 => ?_)
  refine s_aload_n 0 (n := 1180) hX (dec_of D_L_law23 (i := 6) rfl) rfl rfl rfl ?_
  refine s_iload 4 (n := 1182) hX (dec_of D_L_law23 (i := 7) rfl) rfl rfl ?_
  refine s_iconst (v := 2) (n := 1183) hX (dec_of D_L_law23 (i := 8) rfl) rfl (by decide) ?_
  refine s_iadd (n := 1184) hX (dec_of D_L_law23 (i := 9) rfl) rfl ?_
  refine s_sld (n := 1185) hX hsc (dec_of D_L_law23 (i := 10) rfl) rfl (fun v2 => ?_)
  refine s_aload_n 0 (n := 1186) hX (dec_of D_L_law23 (i := 11) rfl) rfl rfl rfl ?_
  refine s_iload 4 (n := 1188) hX (dec_of D_L_law23 (i := 12) rfl) rfl rfl ?_
  refine s_iconst (v := 3) (n := 1189) hX (dec_of D_L_law23 (i := 13) rfl) rfl (by decide) ?_
  refine s_iadd (n := 1190) hX (dec_of D_L_law23 (i := 14) rfl) rfl ?_
  refine s_sld (n := 1191) hX hsc (dec_of D_L_law23 (i := 15) rfl) rfl (fun v3 => ?_)
  refine s_callVI (c := 9) (n := 1194) hX cls9 (vk130 (by omega)) lk_RL_128 (dec_of D_L_law23 (i := 16) rfl) rfl (by decide) (c_X9_paid (l := _) hG _ _ _ _) rfl rfl (Nat.le_of_ble_eq_true rfl) (fun q4 => ?_)
  refine s_aload_n 2 (n := 1195) hX (dec_of D_L_law23 (i := 17) rfl) rfl rfl rfl ?_
  refine s_aload_n 0 (n := 1196) hX (dec_of D_L_law23 (i := 18) rfl) rfl rfl rfl ?_
  refine s_iload 4 (n := 1198) hX (dec_of D_L_law23 (i := 19) rfl) rfl rfl ?_
  refine s_iconst (v := 1) (n := 1199) hX (dec_of D_L_law23 (i := 20) rfl) rfl (by decide) ?_
  refine s_iadd (n := 1200) hX (dec_of D_L_law23 (i := 21) rfl) rfl ?_
  refine s_sld (n := 1201) hX hsc (dec_of D_L_law23 (i := 22) rfl) rfl (fun v5 => ?_)
  refine s_aload_n 0 (n := 1202) hX (dec_of D_L_law23 (i := 23) rfl) rfl rfl rfl ?_
  refine s_iload 4 (n := 1204) hX (dec_of D_L_law23 (i := 24) rfl) rfl rfl ?_
  refine s_iconst (v := 2) (n := 1205) hX (dec_of D_L_law23 (i := 25) rfl) rfl (by decide) ?_
  refine s_iadd (n := 1206) hX (dec_of D_L_law23 (i := 26) rfl) rfl ?_
  refine s_sld (n := 1207) hX hsc (dec_of D_L_law23 (i := 27) rfl) rfl (fun v6 => ?_)
  refine s_aload_n 0 (n := 1208) hX (dec_of D_L_law23 (i := 28) rfl) rfl rfl rfl ?_
  refine s_iload 4 (n := 1210) hX (dec_of D_L_law23 (i := 29) rfl) rfl rfl ?_
  refine s_iconst (v := 3) (n := 1211) hX (dec_of D_L_law23 (i := 30) rfl) rfl (by decide) ?_
  refine s_iadd (n := 1212) hX (dec_of D_L_law23 (i := 31) rfl) rfl ?_
  refine s_sld (n := 1213) hX hsc (dec_of D_L_law23 (i := 32) rfl) rfl (fun v7 => ?_)
  refine s_callVP (c := 10) (n := 1216) hX cls10 (vk131 (by omega)) lk_RL_131 (dec_of D_L_law23 (i := 33) rfl) rfl (by decide) (c_X10_paid (l := _) hG _ _ _ _) rfl rfl (Nat.le_of_ble_eq_true rfl) (fun q8 => ?_)
  refine s_icmp_eq (tgt := 2569) (n := 1219) hX (dec_of D_L_law23 (i := 34) rfl) rfl rfl ?_ ?_
  · refine s_wid ?_
    exact s_sub [0, 1, 2, 3, 4] rfl (hit q8.2)
  · exact s_bad (by decide)
theorem lk_RL_132 : LkV RL 132 RX9 yX9_kept cX9_kept 6 (some .int) 4 := ⟨wd_999, wd_1000, wd_1001, wd_83, wd_1002, by decide +kernel, by decide⟩
theorem lk_RL_136 : LkV RL 136 RX10 yX10_kept cX10_kept 5 (some .int) 4 := ⟨wd_1844, wd_1845, wd_1846, wd_93, wd_1847, by decide +kernel, by decide⟩
def T_L_law24 : List (Nat × Instr × Nat) := [(1221, .aload_n 1, 1), (1222, .aload_n 0, 1), (1223, .iload 4, 2), (1225, .iconst 1, 1), (1226, .iadd, 1), (1227, .iaload, 1), (1228, .aload_n 0, 1), (1229, .iload 4, 2), (1231, .iconst 2, 1), (1232, .iadd, 1), (1233, .iaload, 1), (1234, .aload_n 0, 1), (1235, .iload 4, 2), (1237, .iconst 3, 1), (1238, .iadd, 1), (1239, .iaload, 1), (1240, .aload_n 0, 1), (1241, .iload 4, 2), (1243, .iconst 4, 1), (1244, .iadd, 1), (1245, .iaload, 1), (1246, .invokevirtual 132, 3), (1249, .aload_n 2, 1), (1250, .aload_n 0, 1), (1251, .iload 4, 2), (1253, .iconst 1, 1), (1254, .iadd, 1), (1255, .iaload, 1), (1256, .aload_n 0, 1), (1257, .iload 4, 2), (1259, .iconst 2, 1), (1260, .iadd, 1), (1261, .iaload, 1), (1262, .aload_n 0, 1), (1263, .iload 4, 2), (1265, .iconst 3, 1), (1266, .iadd, 1), (1267, .iaload, 1), (1268, .aload_n 0, 1), (1269, .iload 4, 2), (1271, .iconst 4, 1), (1272, .iadd, 1), (1273, .iaload, 1), (1274, .invokevirtual 136, 3), (1277, .if_icmp .eq 1292, 3), (1280, .iconst 0, 1), (1281, .ireturn, 1)]
theorem D_L_law24 : dchk code T_L_law24 = true := by decide +kernel
def lawC24 (xs : Nat → Int32) (L : Nat) (rec : ST × Int32 → Option Int32) (σ : ST) (i : Int32) : Option Int32 :=
  bd_ (ldX xs L (i + 1)) (fun v1 => bd_ (ldX xs L (i + 2)) (fun v2 => bd_ (ldX xs L (i + 3)) (fun v3 => bd_ (ldX xs L (i + 4)) (fun v4 => bd_ (Rp_kept (σ) v1 v2 v3 v4) (fun q5 => bd_ (ldX xs L (i + 1)) (fun v6 => bd_ (ldX xs L (i + 2)) (fun v7 => bd_ (ldX xs L (i + 3)) (fun v8 => bd_ (ldX xs L (i + 4)) (fun v9 => bd_ (Mo_kept (σ) v6 v7 v8 v9) (fun q10 => (if q5 = q10.1 then rec (q10.2, i + 7) else some 0)))))))))))
set_option maxHeartbeats 4000000 in
set_option maxRecDepth 100000 in
theorem s_lawC24 {G : GW} (hG : Good G) {X : CX} {b L : Nat} {xs : Nat → Int32} (hX : Ok G X code 7 RL 14) (hsc : Scr G X b L xs) {l : Launch} (hXl : X.2.1 = l) (hl0 : l.stackTraces = false) (hc : X.2.2.2.2.2.2.2.2.2.2.1 + 1 ≤ X.2.2.2.1.cells) (hs : X.2.2.2.2.2.2.2.2.2.2.2 + 6 ≤ X.2.2.2.1.slots) {σ : ST} {i : Int32} {rec : ST × Int32 → Option Int32} (hit : ∀ σ1, Sim G (bump X) 7 (LQ X b) σ1 2569 [(0, .ref b), (1, .ref (ga G 130 0)), (2, .ref (ga G 131 0)), (3, .ref (ga G 105 0)), (4, .int i)] [] (rec (σ1, i + 7))) : Sim G X 7 (LQ X b) σ 1221 [(0, .ref b), (1, .ref (ga G 130 0)), (2, .ref (ga G 131 0)), (3, .ref (ga G 105 0)), (4, .int i)] [] (lawC24 xs L rec σ i) := by
  unfold lawC24
  refine s_aload_n 1 (n := 1222) hX (dec_of D_L_law24 (i := 0) rfl) rfl rfl rfl ?_
  refine s_aload_n 0 (n := 1223) hX (dec_of D_L_law24 (i := 1) rfl) rfl rfl rfl ?_
  refine s_iload 4 (n := 1225) hX (dec_of D_L_law24 (i := 2) rfl) rfl rfl ?_
  refine s_iconst (v := 1) (n := 1226) hX (dec_of D_L_law24 (i := 3) rfl) rfl (by decide) ?_
  refine s_iadd (n := 1227) hX (dec_of D_L_law24 (i := 4) rfl) rfl ?_
  refine s_sld (n := 1228) hX hsc (dec_of D_L_law24 (i := 5) rfl) rfl (fun v1 => ?_)
  refine s_aload_n 0 (n := 1229) hX (dec_of D_L_law24 (i := 6) rfl) rfl rfl rfl ?_
  refine s_iload 4 (n := 1231) hX (dec_of D_L_law24 (i := 7) rfl) rfl rfl ?_
  refine s_iconst (v := 2) (n := 1232) hX (dec_of D_L_law24 (i := 8) rfl) rfl (by decide) ?_
  refine s_iadd (n := 1233) hX (dec_of D_L_law24 (i := 9) rfl) rfl ?_
  refine s_sld (n := 1234) hX hsc (dec_of D_L_law24 (i := 10) rfl) rfl (fun v2 => ?_)
  refine s_aload_n 0 (n := 1235) hX (dec_of D_L_law24 (i := 11) rfl) rfl rfl rfl ?_
  refine s_iload 4 (n := 1237) hX (dec_of D_L_law24 (i := 12) rfl) rfl rfl ?_
  refine s_iconst (v := 3) (n := 1238) hX (dec_of D_L_law24 (i := 13) rfl) rfl (by decide) ?_
  refine s_iadd (n := 1239) hX (dec_of D_L_law24 (i := 14) rfl) rfl ?_
  refine s_sld (n := 1240) hX hsc (dec_of D_L_law24 (i := 15) rfl) rfl (fun v3 => ?_)
  refine s_aload_n 0 (n := 1241) hX (dec_of D_L_law24 (i := 16) rfl) rfl rfl rfl ?_
  refine s_iload 4 (n := 1243) hX (dec_of D_L_law24 (i := 17) rfl) rfl rfl ?_
  refine s_iconst (v := 4) (n := 1244) hX (dec_of D_L_law24 (i := 18) rfl) rfl (by decide) ?_
  refine s_iadd (n := 1245) hX (dec_of D_L_law24 (i := 19) rfl) rfl ?_
  refine s_sld (n := 1246) hX hsc (dec_of D_L_law24 (i := 20) rfl) rfl (fun v4 => ?_)
  refine s_callVI (c := 9) (n := 1249) hX cls9 (vk130 (by omega)) lk_RL_132 (dec_of D_L_law24 (i := 21) rfl) rfl (by decide) (c_X9_kept (l := _) hG _ _ _ _ _) rfl rfl (Nat.le_of_ble_eq_true rfl) (fun q5 => ?_)
  refine s_aload_n 2 (n := 1250) hX (dec_of D_L_law24 (i := 22) rfl) rfl rfl rfl ?_
  refine s_aload_n 0 (n := 1251) hX (dec_of D_L_law24 (i := 23) rfl) rfl rfl rfl ?_
  refine s_iload 4 (n := 1253) hX (dec_of D_L_law24 (i := 24) rfl) rfl rfl ?_
  refine s_iconst (v := 1) (n := 1254) hX (dec_of D_L_law24 (i := 25) rfl) rfl (by decide) ?_
  refine s_iadd (n := 1255) hX (dec_of D_L_law24 (i := 26) rfl) rfl ?_
  refine s_sld (n := 1256) hX hsc (dec_of D_L_law24 (i := 27) rfl) rfl (fun v6 => ?_)
  refine s_aload_n 0 (n := 1257) hX (dec_of D_L_law24 (i := 28) rfl) rfl rfl rfl ?_
  refine s_iload 4 (n := 1259) hX (dec_of D_L_law24 (i := 29) rfl) rfl rfl ?_
  refine s_iconst (v := 2) (n := 1260) hX (dec_of D_L_law24 (i := 30) rfl) rfl (by decide) ?_
  refine s_iadd (n := 1261) hX (dec_of D_L_law24 (i := 31) rfl) rfl ?_
  refine s_sld (n := 1262) hX hsc (dec_of D_L_law24 (i := 32) rfl) rfl (fun v7 => ?_)
  refine s_aload_n 0 (n := 1263) hX (dec_of D_L_law24 (i := 33) rfl) rfl rfl rfl ?_
  refine s_iload 4 (n := 1265) hX (dec_of D_L_law24 (i := 34) rfl) rfl rfl ?_
  refine s_iconst (v := 3) (n := 1266) hX (dec_of D_L_law24 (i := 35) rfl) rfl (by decide) ?_
  refine s_iadd (n := 1267) hX (dec_of D_L_law24 (i := 36) rfl) rfl ?_
  refine s_sld (n := 1268) hX hsc (dec_of D_L_law24 (i := 37) rfl) rfl (fun v8 => ?_)
  refine s_aload_n 0 (n := 1269) hX (dec_of D_L_law24 (i := 38) rfl) rfl rfl rfl ?_
  refine s_iload 4 (n := 1271) hX (dec_of D_L_law24 (i := 39) rfl) rfl rfl ?_
  refine s_iconst (v := 4) (n := 1272) hX (dec_of D_L_law24 (i := 40) rfl) rfl (by decide) ?_
  refine s_iadd (n := 1273) hX (dec_of D_L_law24 (i := 41) rfl) rfl ?_
  refine s_sld (n := 1274) hX hsc (dec_of D_L_law24 (i := 42) rfl) rfl (fun v9 => ?_)
  refine s_callVP (c := 10) (n := 1277) hX cls10 (vk131 (by omega)) lk_RL_136 (dec_of D_L_law24 (i := 43) rfl) rfl (by decide) (c_X10_kept (l := _) hG _ _ _ _ _) rfl rfl (Nat.le_of_ble_eq_true rfl) (fun q10 => ?_)
  refine s_icmp_eq (tgt := 2569) (n := 1280) hX (dec_of D_L_law24 (i := 44) rfl) rfl rfl ?_ ?_
  · refine s_wid ?_
    exact s_sub [0, 1, 2, 3, 4] rfl (hit q10.2)
  · exact s_bad (by decide)
theorem lk_RL_137 : LkV RL 137 RX9 yX9_lapsed cX9_lapsed 4 (some .int) 3 := ⟨wd_1005, wd_1006, wd_1007, wd_83, wd_1008, by decide +kernel, by decide⟩
theorem lk_RL_140 : LkV RL 140 RX10 yX10_lapsed cX10_lapsed 4 (some .int) 3 := ⟨wd_1848, wd_1849, wd_1850, wd_93, wd_1851, by decide +kernel, by decide⟩
def T_L_law25 : List (Nat × Instr × Nat) := [(1282, .aload_n 1, 1), (1283, .aload_n 0, 1), (1284, .iload 4, 2), (1286, .iconst 1, 1), (1287, .iadd, 1), (1288, .iaload, 1), (1289, .aload_n 0, 1), (1290, .iload 4, 2), (1292, .iconst 2, 1), (1293, .iadd, 1), (1294, .iaload, 1), (1295, .aload_n 0, 1), (1296, .iload 4, 2), (1298, .iconst 3, 1), (1299, .iadd, 1), (1300, .iaload, 1), (1301, .invokevirtual 137, 3), (1304, .aload_n 2, 1), (1305, .aload_n 0, 1), (1306, .iload 4, 2), (1308, .iconst 1, 1), (1309, .iadd, 1), (1310, .iaload, 1), (1311, .aload_n 0, 1), (1312, .iload 4, 2), (1314, .iconst 2, 1), (1315, .iadd, 1), (1316, .iaload, 1), (1317, .aload_n 0, 1), (1318, .iload 4, 2), (1320, .iconst 3, 1), (1321, .iadd, 1), (1322, .iaload, 1), (1323, .invokevirtual 140, 3), (1326, .if_icmp .eq 1243, 3), (1329, .iconst 0, 1), (1330, .ireturn, 1)]
theorem D_L_law25 : dchk code T_L_law25 = true := by decide +kernel
def lawC25 (xs : Nat → Int32) (L : Nat) (rec : ST × Int32 → Option Int32) (σ : ST) (i : Int32) : Option Int32 :=
  bd_ (ldX xs L (i + 1)) (fun v1 => bd_ (ldX xs L (i + 2)) (fun v2 => bd_ (ldX xs L (i + 3)) (fun v3 => bd_ (Rp_lapsed (σ) v1 v2 v3) (fun q4 => bd_ (ldX xs L (i + 1)) (fun v5 => bd_ (ldX xs L (i + 2)) (fun v6 => bd_ (ldX xs L (i + 3)) (fun v7 => bd_ (Mo_lapsed (σ) v5 v6 v7) (fun q8 => (if q4 = q8.1 then rec (q8.2, i + 7) else some 0)))))))))
set_option maxHeartbeats 4000000 in
set_option maxRecDepth 100000 in
theorem s_lawC25 {G : GW} (hG : Good G) {X : CX} {b L : Nat} {xs : Nat → Int32} (hX : Ok G X code 7 RL 14) (hsc : Scr G X b L xs) {l : Launch} (hXl : X.2.1 = l) (hl0 : l.stackTraces = false) (hc : X.2.2.2.2.2.2.2.2.2.2.1 + 1 ≤ X.2.2.2.1.cells) (hs : X.2.2.2.2.2.2.2.2.2.2.2 + 6 ≤ X.2.2.2.1.slots) {σ : ST} {i : Int32} {rec : ST × Int32 → Option Int32} (hit : ∀ σ1, Sim G (bump X) 7 (LQ X b) σ1 2569 [(0, .ref b), (1, .ref (ga G 130 0)), (2, .ref (ga G 131 0)), (3, .ref (ga G 105 0)), (4, .int i)] [] (rec (σ1, i + 7))) : Sim G X 7 (LQ X b) σ 1282 [(0, .ref b), (1, .ref (ga G 130 0)), (2, .ref (ga G 131 0)), (3, .ref (ga G 105 0)), (4, .int i)] [] (lawC25 xs L rec σ i) := by
  unfold lawC25
  refine s_aload_n 1 (n := 1283) hX (dec_of D_L_law25 (i := 0) rfl) rfl rfl rfl ?_
  refine s_aload_n 0 (n := 1284) hX (dec_of D_L_law25 (i := 1) rfl) rfl rfl rfl ?_
  refine s_iload 4 (n := 1286) hX (dec_of D_L_law25 (i := 2) rfl) rfl rfl ?_
  refine s_iconst (v := 1) (n := 1287) hX (dec_of D_L_law25 (i := 3) rfl) rfl (by decide) ?_
  refine s_iadd (n := 1288) hX (dec_of D_L_law25 (i := 4) rfl) rfl ?_
  refine s_sld (n := 1289) hX hsc (dec_of D_L_law25 (i := 5) rfl) rfl (fun v1 => ?_)
  refine s_aload_n 0 (n := 1290) hX (dec_of D_L_law25 (i := 6) rfl) rfl rfl rfl ?_
  refine s_iload 4 (n := 1292) hX (dec_of D_L_law25 (i := 7) rfl) rfl rfl ?_
  refine s_iconst (v := 2) (n := 1293) hX (dec_of D_L_law25 (i := 8) rfl) rfl (by decide) ?_
  refine s_iadd (n := 1294) hX (dec_of D_L_law25 (i := 9) rfl) rfl ?_
  refine s_sld (n := 1295) hX hsc (dec_of D_L_law25 (i := 10) rfl) rfl (fun v2 => ?_)
  refine s_aload_n 0 (n := 1296) hX (dec_of D_L_law25 (i := 11) rfl) rfl rfl rfl ?_
  refine s_iload 4 (n := 1298) hX (dec_of D_L_law25 (i := 12) rfl) rfl rfl ?_
  refine s_iconst (v := 3) (n := 1299) hX (dec_of D_L_law25 (i := 13) rfl) rfl (by decide) ?_
  refine s_iadd (n := 1300) hX (dec_of D_L_law25 (i := 14) rfl) rfl ?_
  refine s_sld (n := 1301) hX hsc (dec_of D_L_law25 (i := 15) rfl) rfl (fun v3 => ?_)
  refine s_callVI (c := 9) (n := 1304) hX cls9 (vk130 (by omega)) lk_RL_137 (dec_of D_L_law25 (i := 16) rfl) rfl (by decide) (c_X9_lapsed (l := _) hG _ _ _ _) rfl rfl (Nat.le_of_ble_eq_true rfl) (fun q4 => ?_)
  refine s_aload_n 2 (n := 1305) hX (dec_of D_L_law25 (i := 17) rfl) rfl rfl rfl ?_
  refine s_aload_n 0 (n := 1306) hX (dec_of D_L_law25 (i := 18) rfl) rfl rfl rfl ?_
  refine s_iload 4 (n := 1308) hX (dec_of D_L_law25 (i := 19) rfl) rfl rfl ?_
  refine s_iconst (v := 1) (n := 1309) hX (dec_of D_L_law25 (i := 20) rfl) rfl (by decide) ?_
  refine s_iadd (n := 1310) hX (dec_of D_L_law25 (i := 21) rfl) rfl ?_
  refine s_sld (n := 1311) hX hsc (dec_of D_L_law25 (i := 22) rfl) rfl (fun v5 => ?_)
  refine s_aload_n 0 (n := 1312) hX (dec_of D_L_law25 (i := 23) rfl) rfl rfl rfl ?_
  refine s_iload 4 (n := 1314) hX (dec_of D_L_law25 (i := 24) rfl) rfl rfl ?_
  refine s_iconst (v := 2) (n := 1315) hX (dec_of D_L_law25 (i := 25) rfl) rfl (by decide) ?_
  refine s_iadd (n := 1316) hX (dec_of D_L_law25 (i := 26) rfl) rfl ?_
  refine s_sld (n := 1317) hX hsc (dec_of D_L_law25 (i := 27) rfl) rfl (fun v6 => ?_)
  refine s_aload_n 0 (n := 1318) hX (dec_of D_L_law25 (i := 28) rfl) rfl rfl rfl ?_
  refine s_iload 4 (n := 1320) hX (dec_of D_L_law25 (i := 29) rfl) rfl rfl ?_
  refine s_iconst (v := 3) (n := 1321) hX (dec_of D_L_law25 (i := 30) rfl) rfl (by decide) ?_
  refine s_iadd (n := 1322) hX (dec_of D_L_law25 (i := 31) rfl) rfl ?_
  refine s_sld (n := 1323) hX hsc (dec_of D_L_law25 (i := 32) rfl) rfl (fun v7 => ?_)
  refine s_callVP (c := 10) (n := 1326) hX cls10 (vk131 (by omega)) lk_RL_140 (dec_of D_L_law25 (i := 33) rfl) rfl (by decide) (c_X10_lapsed (l := _) hG _ _ _ _) rfl rfl (Nat.le_of_ble_eq_true rfl) (fun q8 => ?_)
  refine s_icmp_eq (tgt := 2569) (n := 1329) hX (dec_of D_L_law25 (i := 34) rfl) rfl rfl ?_ ?_
  · refine s_wid ?_
    exact s_sub [0, 1, 2, 3, 4] rfl (hit q8.2)
  · exact s_bad (by decide)
theorem lk_RL_141 : LkV RL 141 RX9 yX9_lapses cX9_lapses 3 (some .int) 2 := ⟨wd_1009, wd_1010, wd_1011, wd_83, wd_1012, by decide +kernel, by decide⟩
theorem lk_RL_144 : LkV RL 144 RX10 yX10_lapses cX10_lapses 3 (some .int) 2 := ⟨wd_1852, wd_1853, wd_1854, wd_93, wd_1855, by decide +kernel, by decide⟩
def T_L_law26 : List (Nat × Instr × Nat) := [(1331, .aload_n 1, 1), (1332, .aload_n 0, 1), (1333, .iload 4, 2), (1335, .iconst 1, 1), (1336, .iadd, 1), (1337, .iaload, 1), (1338, .aload_n 0, 1), (1339, .iload 4, 2), (1341, .iconst 2, 1), (1342, .iadd, 1), (1343, .iaload, 1), (1344, .invokevirtual 141, 3), (1347, .aload_n 2, 1), (1348, .aload_n 0, 1), (1349, .iload 4, 2), (1351, .iconst 1, 1), (1352, .iadd, 1), (1353, .iaload, 1), (1354, .aload_n 0, 1), (1355, .iload 4, 2), (1357, .iconst 2, 1), (1358, .iadd, 1), (1359, .iaload, 1), (1360, .invokevirtual 144, 3), (1363, .if_icmp .eq 1206, 3), (1366, .iconst 0, 1), (1367, .ireturn, 1)]
theorem D_L_law26 : dchk code T_L_law26 = true := by decide +kernel
def lawC26 (xs : Nat → Int32) (L : Nat) (rec : ST × Int32 → Option Int32) (σ : ST) (i : Int32) : Option Int32 :=
  bd_ (ldX xs L (i + 1)) (fun v1 => bd_ (ldX xs L (i + 2)) (fun v2 => bd_ (Rp_lapses (σ) v1 v2) (fun q3 => bd_ (ldX xs L (i + 1)) (fun v4 => bd_ (ldX xs L (i + 2)) (fun v5 => bd_ (Mo_lapses (σ) v4 v5) (fun q6 => (if q3 = q6.1 then rec (q6.2, i + 7) else some 0)))))))
set_option maxHeartbeats 4000000 in
set_option maxRecDepth 100000 in
theorem s_lawC26 {G : GW} (hG : Good G) {X : CX} {b L : Nat} {xs : Nat → Int32} (hX : Ok G X code 7 RL 14) (hsc : Scr G X b L xs) {l : Launch} (hXl : X.2.1 = l) (hl0 : l.stackTraces = false) (hc : X.2.2.2.2.2.2.2.2.2.2.1 + 1 ≤ X.2.2.2.1.cells) (hs : X.2.2.2.2.2.2.2.2.2.2.2 + 6 ≤ X.2.2.2.1.slots) {σ : ST} {i : Int32} {rec : ST × Int32 → Option Int32} (hit : ∀ σ1, Sim G (bump X) 7 (LQ X b) σ1 2569 [(0, .ref b), (1, .ref (ga G 130 0)), (2, .ref (ga G 131 0)), (3, .ref (ga G 105 0)), (4, .int i)] [] (rec (σ1, i + 7))) : Sim G X 7 (LQ X b) σ 1331 [(0, .ref b), (1, .ref (ga G 130 0)), (2, .ref (ga G 131 0)), (3, .ref (ga G 105 0)), (4, .int i)] [] (lawC26 xs L rec σ i) := by
  unfold lawC26
  refine s_aload_n 1 (n := 1332) hX (dec_of D_L_law26 (i := 0) rfl) rfl rfl rfl ?_
  refine s_aload_n 0 (n := 1333) hX (dec_of D_L_law26 (i := 1) rfl) rfl rfl rfl ?_
  refine s_iload 4 (n := 1335) hX (dec_of D_L_law26 (i := 2) rfl) rfl rfl ?_
  refine s_iconst (v := 1) (n := 1336) hX (dec_of D_L_law26 (i := 3) rfl) rfl (by decide) ?_
  refine s_iadd (n := 1337) hX (dec_of D_L_law26 (i := 4) rfl) rfl ?_
  refine s_sld (n := 1338) hX hsc (dec_of D_L_law26 (i := 5) rfl) rfl (fun v1 => ?_)
  refine s_aload_n 0 (n := 1339) hX (dec_of D_L_law26 (i := 6) rfl) rfl rfl rfl ?_
  refine s_iload 4 (n := 1341) hX (dec_of D_L_law26 (i := 7) rfl) rfl rfl ?_
  refine s_iconst (v := 2) (n := 1342) hX (dec_of D_L_law26 (i := 8) rfl) rfl (by decide) ?_
  refine s_iadd (n := 1343) hX (dec_of D_L_law26 (i := 9) rfl) rfl ?_
  refine s_sld (n := 1344) hX hsc (dec_of D_L_law26 (i := 10) rfl) rfl (fun v2 => ?_)
  refine s_callVI (c := 9) (n := 1347) hX cls9 (vk130 (by omega)) lk_RL_141 (dec_of D_L_law26 (i := 11) rfl) rfl (by decide) (c_X9_lapses (l := _) hG _ _ _) rfl rfl (Nat.le_of_ble_eq_true rfl) (fun q3 => ?_)
  refine s_aload_n 2 (n := 1348) hX (dec_of D_L_law26 (i := 12) rfl) rfl rfl rfl ?_
  refine s_aload_n 0 (n := 1349) hX (dec_of D_L_law26 (i := 13) rfl) rfl rfl rfl ?_
  refine s_iload 4 (n := 1351) hX (dec_of D_L_law26 (i := 14) rfl) rfl rfl ?_
  refine s_iconst (v := 1) (n := 1352) hX (dec_of D_L_law26 (i := 15) rfl) rfl (by decide) ?_
  refine s_iadd (n := 1353) hX (dec_of D_L_law26 (i := 16) rfl) rfl ?_
  refine s_sld (n := 1354) hX hsc (dec_of D_L_law26 (i := 17) rfl) rfl (fun v4 => ?_)
  refine s_aload_n 0 (n := 1355) hX (dec_of D_L_law26 (i := 18) rfl) rfl rfl rfl ?_
  refine s_iload 4 (n := 1357) hX (dec_of D_L_law26 (i := 19) rfl) rfl rfl ?_
  refine s_iconst (v := 2) (n := 1358) hX (dec_of D_L_law26 (i := 20) rfl) rfl (by decide) ?_
  refine s_iadd (n := 1359) hX (dec_of D_L_law26 (i := 21) rfl) rfl ?_
  refine s_sld (n := 1360) hX hsc (dec_of D_L_law26 (i := 22) rfl) rfl (fun v5 => ?_)
  refine s_callVP (c := 10) (n := 1363) hX cls10 (vk131 (by omega)) lk_RL_144 (dec_of D_L_law26 (i := 23) rfl) rfl (by decide) (c_X10_lapses (l := _) hG _ _ _) rfl rfl (Nat.le_of_ble_eq_true rfl) (fun q6 => ?_)
  refine s_icmp_eq (tgt := 2569) (n := 1366) hX (dec_of D_L_law26 (i := 24) rfl) rfl rfl ?_ ?_
  · refine s_wid ?_
    exact s_sub [0, 1, 2, 3, 4] rfl (hit q6.2)
  · exact s_bad (by decide)
theorem lk_RL_145 : LkV RL 145 RX9 yX9_share cX9_share 5 (some .int) 4 := ⟨wd_1112, wd_1113, wd_1114, wd_83, wd_1115, by decide +kernel, by decide⟩
theorem lk_RL_148 : LkV RL 148 RX10 yX10_share cX10_share 5 (some .int) 4 := ⟨wd_1865, wd_1866, wd_1867, wd_93, wd_1868, by decide +kernel, by decide⟩
def T_L_law27 : List (Nat × Instr × Nat) := [(1368, .aload_n 1, 1), (1369, .aload_n 0, 1), (1370, .iload 4, 2), (1372, .iconst 1, 1), (1373, .iadd, 1), (1374, .iaload, 1), (1375, .aload_n 0, 1), (1376, .iload 4, 2), (1378, .iconst 2, 1), (1379, .iadd, 1), (1380, .iaload, 1), (1381, .aload_n 0, 1), (1382, .iload 4, 2), (1384, .iconst 3, 1), (1385, .iadd, 1), (1386, .iaload, 1), (1387, .aload_n 0, 1), (1388, .iload 4, 2), (1390, .iconst 4, 1), (1391, .iadd, 1), (1392, .iaload, 1), (1393, .invokevirtual 145, 3), (1396, .aload_n 2, 1), (1397, .aload_n 0, 1), (1398, .iload 4, 2), (1400, .iconst 1, 1), (1401, .iadd, 1), (1402, .iaload, 1), (1403, .aload_n 0, 1), (1404, .iload 4, 2), (1406, .iconst 2, 1), (1407, .iadd, 1), (1408, .iaload, 1), (1409, .aload_n 0, 1), (1410, .iload 4, 2), (1412, .iconst 3, 1), (1413, .iadd, 1), (1414, .iaload, 1), (1415, .aload_n 0, 1), (1416, .iload 4, 2), (1418, .iconst 4, 1), (1419, .iadd, 1), (1420, .iaload, 1), (1421, .invokevirtual 148, 3), (1424, .if_icmp .eq 1145, 3), (1427, .iconst 0, 1), (1428, .ireturn, 1)]
theorem D_L_law27 : dchk code T_L_law27 = true := by decide +kernel
def lawC27 (xs : Nat → Int32) (L : Nat) (rec : ST × Int32 → Option Int32) (σ : ST) (i : Int32) : Option Int32 :=
  bd_ (ldX xs L (i + 1)) (fun v1 => bd_ (ldX xs L (i + 2)) (fun v2 => bd_ (ldX xs L (i + 3)) (fun v3 => bd_ (ldX xs L (i + 4)) (fun v4 => bd_ (Rp_share (σ) v1 v2 v3 v4) (fun q5 => bd_ (ldX xs L (i + 1)) (fun v6 => bd_ (ldX xs L (i + 2)) (fun v7 => bd_ (ldX xs L (i + 3)) (fun v8 => bd_ (ldX xs L (i + 4)) (fun v9 => bd_ (Mo_share q5.2 v6 v7 v8 v9) (fun q10 => (if q5.1 = q10.1 then rec (q10.2, i + 7) else some 0)))))))))))
set_option maxHeartbeats 4000000 in
set_option maxRecDepth 100000 in
theorem s_lawC27 {G : GW} (hG : Good G) {X : CX} {b L : Nat} {xs : Nat → Int32} (hX : Ok G X code 7 RL 14) (hsc : Scr G X b L xs) {l : Launch} (hXl : X.2.1 = l) (hl0 : l.stackTraces = false) (hc : X.2.2.2.2.2.2.2.2.2.2.1 + 1 ≤ X.2.2.2.1.cells) (hs : X.2.2.2.2.2.2.2.2.2.2.2 + 6 ≤ X.2.2.2.1.slots) {σ : ST} {i : Int32} {rec : ST × Int32 → Option Int32} (hit : ∀ σ1, Sim G (bump X) 7 (LQ X b) σ1 2569 [(0, .ref b), (1, .ref (ga G 130 0)), (2, .ref (ga G 131 0)), (3, .ref (ga G 105 0)), (4, .int i)] [] (rec (σ1, i + 7))) : Sim G X 7 (LQ X b) σ 1368 [(0, .ref b), (1, .ref (ga G 130 0)), (2, .ref (ga G 131 0)), (3, .ref (ga G 105 0)), (4, .int i)] [] (lawC27 xs L rec σ i) := by
  unfold lawC27
  refine s_aload_n 1 (n := 1369) hX (dec_of D_L_law27 (i := 0) rfl) rfl rfl rfl ?_
  refine s_aload_n 0 (n := 1370) hX (dec_of D_L_law27 (i := 1) rfl) rfl rfl rfl ?_
  refine s_iload 4 (n := 1372) hX (dec_of D_L_law27 (i := 2) rfl) rfl rfl ?_
  refine s_iconst (v := 1) (n := 1373) hX (dec_of D_L_law27 (i := 3) rfl) rfl (by decide) ?_
  refine s_iadd (n := 1374) hX (dec_of D_L_law27 (i := 4) rfl) rfl ?_
  refine s_sld (n := 1375) hX hsc (dec_of D_L_law27 (i := 5) rfl) rfl (fun v1 => ?_)
  refine s_aload_n 0 (n := 1376) hX (dec_of D_L_law27 (i := 6) rfl) rfl rfl rfl ?_
  refine s_iload 4 (n := 1378) hX (dec_of D_L_law27 (i := 7) rfl) rfl rfl ?_
  refine s_iconst (v := 2) (n := 1379) hX (dec_of D_L_law27 (i := 8) rfl) rfl (by decide) ?_
  refine s_iadd (n := 1380) hX (dec_of D_L_law27 (i := 9) rfl) rfl ?_
  refine s_sld (n := 1381) hX hsc (dec_of D_L_law27 (i := 10) rfl) rfl (fun v2 => ?_)
  refine s_aload_n 0 (n := 1382) hX (dec_of D_L_law27 (i := 11) rfl) rfl rfl rfl ?_
  refine s_iload 4 (n := 1384) hX (dec_of D_L_law27 (i := 12) rfl) rfl rfl ?_
  refine s_iconst (v := 3) (n := 1385) hX (dec_of D_L_law27 (i := 13) rfl) rfl (by decide) ?_
  refine s_iadd (n := 1386) hX (dec_of D_L_law27 (i := 14) rfl) rfl ?_
  refine s_sld (n := 1387) hX hsc (dec_of D_L_law27 (i := 15) rfl) rfl (fun v3 => ?_)
  refine s_aload_n 0 (n := 1388) hX (dec_of D_L_law27 (i := 16) rfl) rfl rfl rfl ?_
  refine s_iload 4 (n := 1390) hX (dec_of D_L_law27 (i := 17) rfl) rfl rfl ?_
  refine s_iconst (v := 4) (n := 1391) hX (dec_of D_L_law27 (i := 18) rfl) rfl (by decide) ?_
  refine s_iadd (n := 1392) hX (dec_of D_L_law27 (i := 19) rfl) rfl ?_
  refine s_sld (n := 1393) hX hsc (dec_of D_L_law27 (i := 20) rfl) rfl (fun v4 => ?_)
  refine s_callVP (c := 9) (n := 1396) hX cls9 (vk130 (by omega)) lk_RL_145 (dec_of D_L_law27 (i := 21) rfl) rfl (by decide) (c_X9_share (l := _) hG _ _ _ _ _) rfl rfl (Nat.le_of_ble_eq_true rfl) (fun q5 => ?_)
  refine s_aload_n 2 (n := 1397) hX (dec_of D_L_law27 (i := 22) rfl) rfl rfl rfl ?_
  refine s_aload_n 0 (n := 1398) hX (dec_of D_L_law27 (i := 23) rfl) rfl rfl rfl ?_
  refine s_iload 4 (n := 1400) hX (dec_of D_L_law27 (i := 24) rfl) rfl rfl ?_
  refine s_iconst (v := 1) (n := 1401) hX (dec_of D_L_law27 (i := 25) rfl) rfl (by decide) ?_
  refine s_iadd (n := 1402) hX (dec_of D_L_law27 (i := 26) rfl) rfl ?_
  refine s_sld (n := 1403) hX hsc (dec_of D_L_law27 (i := 27) rfl) rfl (fun v6 => ?_)
  refine s_aload_n 0 (n := 1404) hX (dec_of D_L_law27 (i := 28) rfl) rfl rfl rfl ?_
  refine s_iload 4 (n := 1406) hX (dec_of D_L_law27 (i := 29) rfl) rfl rfl ?_
  refine s_iconst (v := 2) (n := 1407) hX (dec_of D_L_law27 (i := 30) rfl) rfl (by decide) ?_
  refine s_iadd (n := 1408) hX (dec_of D_L_law27 (i := 31) rfl) rfl ?_
  refine s_sld (n := 1409) hX hsc (dec_of D_L_law27 (i := 32) rfl) rfl (fun v7 => ?_)
  refine s_aload_n 0 (n := 1410) hX (dec_of D_L_law27 (i := 33) rfl) rfl rfl rfl ?_
  refine s_iload 4 (n := 1412) hX (dec_of D_L_law27 (i := 34) rfl) rfl rfl ?_
  refine s_iconst (v := 3) (n := 1413) hX (dec_of D_L_law27 (i := 35) rfl) rfl (by decide) ?_
  refine s_iadd (n := 1414) hX (dec_of D_L_law27 (i := 36) rfl) rfl ?_
  refine s_sld (n := 1415) hX hsc (dec_of D_L_law27 (i := 37) rfl) rfl (fun v8 => ?_)
  refine s_aload_n 0 (n := 1416) hX (dec_of D_L_law27 (i := 38) rfl) rfl rfl rfl ?_
  refine s_iload 4 (n := 1418) hX (dec_of D_L_law27 (i := 39) rfl) rfl rfl ?_
  refine s_iconst (v := 4) (n := 1419) hX (dec_of D_L_law27 (i := 40) rfl) rfl (by decide) ?_
  refine s_iadd (n := 1420) hX (dec_of D_L_law27 (i := 41) rfl) rfl ?_
  refine s_sld (n := 1421) hX hsc (dec_of D_L_law27 (i := 42) rfl) rfl (fun v9 => ?_)
  refine s_callVP (c := 10) (n := 1424) hX cls10 (vk131 (by omega)) lk_RL_148 (dec_of D_L_law27 (i := 43) rfl) rfl (by decide) (c_X10_share (l := _) hG _ _ _ _ _) rfl rfl (Nat.le_of_ble_eq_true rfl) (fun q10 => ?_)
  refine s_icmp_eq (tgt := 2569) (n := 1427) hX (dec_of D_L_law27 (i := 44) rfl) rfl rfl ?_ ?_
  · refine s_wid ?_
    exact s_sub [0, 1, 2, 3, 4] rfl (hit q10.2)
  · exact s_bad (by decide)
theorem lk_RL_149 : LkV RL 149 RX9 yX9_wouldPlay cX9_wouldPlay 5 (some .int) 4 := ⟨wd_1125, wd_1126, wd_1127, wd_83, wd_1128, by decide +kernel, by decide⟩
theorem lk_RL_152 : LkV RL 152 RX10 yX10_wouldPlay cX10_wouldPlay 6 (some .int) 4 := ⟨wd_1869, wd_1870, wd_1871, wd_93, wd_1872, by decide +kernel, by decide⟩
def T_L_law28 : List (Nat × Instr × Nat) := [(1429, .aload_n 1, 1), (1430, .aload_n 0, 1), (1431, .iload 4, 2), (1433, .iconst 1, 1), (1434, .iadd, 1), (1435, .iaload, 1), (1436, .aload_n 0, 1), (1437, .iload 4, 2), (1439, .iconst 2, 1), (1440, .iadd, 1), (1441, .iaload, 1), (1442, .aload_n 0, 1), (1443, .iload 4, 2), (1445, .iconst 3, 1), (1446, .iadd, 1), (1447, .iaload, 1), (1448, .aload_n 0, 1), (1449, .iload 4, 2), (1451, .iconst 4, 1), (1452, .iadd, 1), (1453, .iaload, 1), (1454, .invokevirtual 149, 3), (1457, .aload_n 2, 1), (1458, .aload_n 0, 1), (1459, .iload 4, 2), (1461, .iconst 1, 1), (1462, .iadd, 1), (1463, .iaload, 1), (1464, .aload_n 0, 1), (1465, .iload 4, 2), (1467, .iconst 2, 1), (1468, .iadd, 1), (1469, .iaload, 1), (1470, .aload_n 0, 1), (1471, .iload 4, 2), (1473, .iconst 3, 1), (1474, .iadd, 1), (1475, .iaload, 1), (1476, .aload_n 0, 1), (1477, .iload 4, 2), (1479, .iconst 4, 1), (1480, .iadd, 1), (1481, .iaload, 1), (1482, .invokevirtual 152, 3), (1485, .if_icmp .eq 1084, 3), (1488, .iconst 0, 1), (1489, .ireturn, 1)]
theorem D_L_law28 : dchk code T_L_law28 = true := by decide +kernel
def lawC28 (xs : Nat → Int32) (L : Nat) (rec : ST × Int32 → Option Int32) (σ : ST) (i : Int32) : Option Int32 :=
  bd_ (ldX xs L (i + 1)) (fun v1 => bd_ (ldX xs L (i + 2)) (fun v2 => bd_ (ldX xs L (i + 3)) (fun v3 => bd_ (ldX xs L (i + 4)) (fun v4 => bd_ (Rp_wouldPlay (σ) v1 v2 v3 v4) (fun q5 => bd_ (ldX xs L (i + 1)) (fun v6 => bd_ (ldX xs L (i + 2)) (fun v7 => bd_ (ldX xs L (i + 3)) (fun v8 => bd_ (ldX xs L (i + 4)) (fun v9 => bd_ (Mo_wouldPlay q5.2 v6 v7 v8 v9) (fun q10 => (if q5.1 = q10.1 then rec (q10.2, i + 7) else some 0)))))))))))
set_option maxHeartbeats 4000000 in
set_option maxRecDepth 100000 in
theorem s_lawC28 {G : GW} (hG : Good G) {X : CX} {b L : Nat} {xs : Nat → Int32} (hX : Ok G X code 7 RL 14) (hsc : Scr G X b L xs) {l : Launch} (hXl : X.2.1 = l) (hl0 : l.stackTraces = false) (hc : X.2.2.2.2.2.2.2.2.2.2.1 + 1 ≤ X.2.2.2.1.cells) (hs : X.2.2.2.2.2.2.2.2.2.2.2 + 6 ≤ X.2.2.2.1.slots) {σ : ST} {i : Int32} {rec : ST × Int32 → Option Int32} (hit : ∀ σ1, Sim G (bump X) 7 (LQ X b) σ1 2569 [(0, .ref b), (1, .ref (ga G 130 0)), (2, .ref (ga G 131 0)), (3, .ref (ga G 105 0)), (4, .int i)] [] (rec (σ1, i + 7))) : Sim G X 7 (LQ X b) σ 1429 [(0, .ref b), (1, .ref (ga G 130 0)), (2, .ref (ga G 131 0)), (3, .ref (ga G 105 0)), (4, .int i)] [] (lawC28 xs L rec σ i) := by
  unfold lawC28
  refine s_aload_n 1 (n := 1430) hX (dec_of D_L_law28 (i := 0) rfl) rfl rfl rfl ?_
  refine s_aload_n 0 (n := 1431) hX (dec_of D_L_law28 (i := 1) rfl) rfl rfl rfl ?_
  refine s_iload 4 (n := 1433) hX (dec_of D_L_law28 (i := 2) rfl) rfl rfl ?_
  refine s_iconst (v := 1) (n := 1434) hX (dec_of D_L_law28 (i := 3) rfl) rfl (by decide) ?_
  refine s_iadd (n := 1435) hX (dec_of D_L_law28 (i := 4) rfl) rfl ?_
  refine s_sld (n := 1436) hX hsc (dec_of D_L_law28 (i := 5) rfl) rfl (fun v1 => ?_)
  refine s_aload_n 0 (n := 1437) hX (dec_of D_L_law28 (i := 6) rfl) rfl rfl rfl ?_
  refine s_iload 4 (n := 1439) hX (dec_of D_L_law28 (i := 7) rfl) rfl rfl ?_
  refine s_iconst (v := 2) (n := 1440) hX (dec_of D_L_law28 (i := 8) rfl) rfl (by decide) ?_
  refine s_iadd (n := 1441) hX (dec_of D_L_law28 (i := 9) rfl) rfl ?_
  refine s_sld (n := 1442) hX hsc (dec_of D_L_law28 (i := 10) rfl) rfl (fun v2 => ?_)
  refine s_aload_n 0 (n := 1443) hX (dec_of D_L_law28 (i := 11) rfl) rfl rfl rfl ?_
  refine s_iload 4 (n := 1445) hX (dec_of D_L_law28 (i := 12) rfl) rfl rfl ?_
  refine s_iconst (v := 3) (n := 1446) hX (dec_of D_L_law28 (i := 13) rfl) rfl (by decide) ?_
  refine s_iadd (n := 1447) hX (dec_of D_L_law28 (i := 14) rfl) rfl ?_
  refine s_sld (n := 1448) hX hsc (dec_of D_L_law28 (i := 15) rfl) rfl (fun v3 => ?_)
  refine s_aload_n 0 (n := 1449) hX (dec_of D_L_law28 (i := 16) rfl) rfl rfl rfl ?_
  refine s_iload 4 (n := 1451) hX (dec_of D_L_law28 (i := 17) rfl) rfl rfl ?_
  refine s_iconst (v := 4) (n := 1452) hX (dec_of D_L_law28 (i := 18) rfl) rfl (by decide) ?_
  refine s_iadd (n := 1453) hX (dec_of D_L_law28 (i := 19) rfl) rfl ?_
  refine s_sld (n := 1454) hX hsc (dec_of D_L_law28 (i := 20) rfl) rfl (fun v4 => ?_)
  refine s_callVP (c := 9) (n := 1457) hX cls9 (vk130 (by omega)) lk_RL_149 (dec_of D_L_law28 (i := 21) rfl) rfl (by decide) (c_X9_wouldPlay (l := _) hG _ _ _ _ _) rfl rfl (Nat.le_of_ble_eq_true rfl) (fun q5 => ?_)
  refine s_aload_n 2 (n := 1458) hX (dec_of D_L_law28 (i := 22) rfl) rfl rfl rfl ?_
  refine s_aload_n 0 (n := 1459) hX (dec_of D_L_law28 (i := 23) rfl) rfl rfl rfl ?_
  refine s_iload 4 (n := 1461) hX (dec_of D_L_law28 (i := 24) rfl) rfl rfl ?_
  refine s_iconst (v := 1) (n := 1462) hX (dec_of D_L_law28 (i := 25) rfl) rfl (by decide) ?_
  refine s_iadd (n := 1463) hX (dec_of D_L_law28 (i := 26) rfl) rfl ?_
  refine s_sld (n := 1464) hX hsc (dec_of D_L_law28 (i := 27) rfl) rfl (fun v6 => ?_)
  refine s_aload_n 0 (n := 1465) hX (dec_of D_L_law28 (i := 28) rfl) rfl rfl rfl ?_
  refine s_iload 4 (n := 1467) hX (dec_of D_L_law28 (i := 29) rfl) rfl rfl ?_
  refine s_iconst (v := 2) (n := 1468) hX (dec_of D_L_law28 (i := 30) rfl) rfl (by decide) ?_
  refine s_iadd (n := 1469) hX (dec_of D_L_law28 (i := 31) rfl) rfl ?_
  refine s_sld (n := 1470) hX hsc (dec_of D_L_law28 (i := 32) rfl) rfl (fun v7 => ?_)
  refine s_aload_n 0 (n := 1471) hX (dec_of D_L_law28 (i := 33) rfl) rfl rfl rfl ?_
  refine s_iload 4 (n := 1473) hX (dec_of D_L_law28 (i := 34) rfl) rfl rfl ?_
  refine s_iconst (v := 3) (n := 1474) hX (dec_of D_L_law28 (i := 35) rfl) rfl (by decide) ?_
  refine s_iadd (n := 1475) hX (dec_of D_L_law28 (i := 36) rfl) rfl ?_
  refine s_sld (n := 1476) hX hsc (dec_of D_L_law28 (i := 37) rfl) rfl (fun v8 => ?_)
  refine s_aload_n 0 (n := 1477) hX (dec_of D_L_law28 (i := 38) rfl) rfl rfl rfl ?_
  refine s_iload 4 (n := 1479) hX (dec_of D_L_law28 (i := 39) rfl) rfl rfl ?_
  refine s_iconst (v := 4) (n := 1480) hX (dec_of D_L_law28 (i := 40) rfl) rfl (by decide) ?_
  refine s_iadd (n := 1481) hX (dec_of D_L_law28 (i := 41) rfl) rfl ?_
  refine s_sld (n := 1482) hX hsc (dec_of D_L_law28 (i := 42) rfl) rfl (fun v9 => ?_)
  refine s_callVP (c := 10) (n := 1485) hX cls10 (vk131 (by omega)) lk_RL_152 (dec_of D_L_law28 (i := 43) rfl) rfl (by decide) (c_X10_wouldPlay (l := _) hG _ _ _ _ _) rfl rfl (Nat.le_of_ble_eq_true rfl) (fun q10 => ?_)
  refine s_icmp_eq (tgt := 2569) (n := 1488) hX (dec_of D_L_law28 (i := 44) rfl) rfl rfl ?_ ?_
  · refine s_wid ?_
    exact s_sub [0, 1, 2, 3, 4] rfl (hit q10.2)
  · exact s_bad (by decide)
theorem lk_RL_153 : LkV RL 153 RX9 yX9_wouldClaim cX9_wouldClaim 4 (some .int) 2 := ⟨wd_1129, wd_1130, wd_1131, wd_83, wd_1132, by decide +kernel, by decide⟩
theorem lk_RL_156 : LkV RL 156 RX10 yX10_wouldClaim cX10_wouldClaim 4 (some .int) 2 := ⟨wd_1873, wd_1874, wd_1875, wd_93, wd_1876, by decide +kernel, by decide⟩
def T_L_law29 : List (Nat × Instr × Nat) := [(1490, .aload_n 1, 1), (1491, .aload_n 0, 1), (1492, .iload 4, 2), (1494, .iconst 1, 1), (1495, .iadd, 1), (1496, .iaload, 1), (1497, .aload_n 0, 1), (1498, .iload 4, 2), (1500, .iconst 2, 1), (1501, .iadd, 1), (1502, .iaload, 1), (1503, .invokevirtual 153, 3), (1506, .aload_n 2, 1), (1507, .aload_n 0, 1), (1508, .iload 4, 2), (1510, .iconst 1, 1), (1511, .iadd, 1), (1512, .iaload, 1), (1513, .aload_n 0, 1), (1514, .iload 4, 2), (1516, .iconst 2, 1), (1517, .iadd, 1), (1518, .iaload, 1), (1519, .invokevirtual 156, 3), (1522, .if_icmp .eq 1047, 3), (1525, .iconst 0, 1), (1526, .ireturn, 1)]
theorem D_L_law29 : dchk code T_L_law29 = true := by decide +kernel
def lawC29 (xs : Nat → Int32) (L : Nat) (rec : ST × Int32 → Option Int32) (σ : ST) (i : Int32) : Option Int32 :=
  bd_ (ldX xs L (i + 1)) (fun v1 => bd_ (ldX xs L (i + 2)) (fun v2 => bd_ (Rp_wouldClaim (σ) v1 v2) (fun q3 => bd_ (ldX xs L (i + 1)) (fun v4 => bd_ (ldX xs L (i + 2)) (fun v5 => bd_ (Mo_wouldClaim (σ) v4 v5) (fun q6 => (if q3 = q6.1 then rec (q6.2, i + 7) else some 0)))))))
set_option maxHeartbeats 4000000 in
set_option maxRecDepth 100000 in
theorem s_lawC29 {G : GW} (hG : Good G) {X : CX} {b L : Nat} {xs : Nat → Int32} (hX : Ok G X code 7 RL 14) (hsc : Scr G X b L xs) {l : Launch} (hXl : X.2.1 = l) (hl0 : l.stackTraces = false) (hc : X.2.2.2.2.2.2.2.2.2.2.1 + 1 ≤ X.2.2.2.1.cells) (hs : X.2.2.2.2.2.2.2.2.2.2.2 + 6 ≤ X.2.2.2.1.slots) {σ : ST} {i : Int32} {rec : ST × Int32 → Option Int32} (hit : ∀ σ1, Sim G (bump X) 7 (LQ X b) σ1 2569 [(0, .ref b), (1, .ref (ga G 130 0)), (2, .ref (ga G 131 0)), (3, .ref (ga G 105 0)), (4, .int i)] [] (rec (σ1, i + 7))) : Sim G X 7 (LQ X b) σ 1490 [(0, .ref b), (1, .ref (ga G 130 0)), (2, .ref (ga G 131 0)), (3, .ref (ga G 105 0)), (4, .int i)] [] (lawC29 xs L rec σ i) := by
  unfold lawC29
  refine s_aload_n 1 (n := 1491) hX (dec_of D_L_law29 (i := 0) rfl) rfl rfl rfl ?_
  refine s_aload_n 0 (n := 1492) hX (dec_of D_L_law29 (i := 1) rfl) rfl rfl rfl ?_
  refine s_iload 4 (n := 1494) hX (dec_of D_L_law29 (i := 2) rfl) rfl rfl ?_
  refine s_iconst (v := 1) (n := 1495) hX (dec_of D_L_law29 (i := 3) rfl) rfl (by decide) ?_
  refine s_iadd (n := 1496) hX (dec_of D_L_law29 (i := 4) rfl) rfl ?_
  refine s_sld (n := 1497) hX hsc (dec_of D_L_law29 (i := 5) rfl) rfl (fun v1 => ?_)
  refine s_aload_n 0 (n := 1498) hX (dec_of D_L_law29 (i := 6) rfl) rfl rfl rfl ?_
  refine s_iload 4 (n := 1500) hX (dec_of D_L_law29 (i := 7) rfl) rfl rfl ?_
  refine s_iconst (v := 2) (n := 1501) hX (dec_of D_L_law29 (i := 8) rfl) rfl (by decide) ?_
  refine s_iadd (n := 1502) hX (dec_of D_L_law29 (i := 9) rfl) rfl ?_
  refine s_sld (n := 1503) hX hsc (dec_of D_L_law29 (i := 10) rfl) rfl (fun v2 => ?_)
  refine s_callVI (c := 9) (n := 1506) hX cls9 (vk130 (by omega)) lk_RL_153 (dec_of D_L_law29 (i := 11) rfl) rfl (by decide) (c_X9_wouldClaim (l := _) hG _ _ _) rfl rfl (Nat.le_of_ble_eq_true rfl) (fun q3 => ?_)
  refine s_aload_n 2 (n := 1507) hX (dec_of D_L_law29 (i := 12) rfl) rfl rfl rfl ?_
  refine s_aload_n 0 (n := 1508) hX (dec_of D_L_law29 (i := 13) rfl) rfl rfl rfl ?_
  refine s_iload 4 (n := 1510) hX (dec_of D_L_law29 (i := 14) rfl) rfl rfl ?_
  refine s_iconst (v := 1) (n := 1511) hX (dec_of D_L_law29 (i := 15) rfl) rfl (by decide) ?_
  refine s_iadd (n := 1512) hX (dec_of D_L_law29 (i := 16) rfl) rfl ?_
  refine s_sld (n := 1513) hX hsc (dec_of D_L_law29 (i := 17) rfl) rfl (fun v4 => ?_)
  refine s_aload_n 0 (n := 1514) hX (dec_of D_L_law29 (i := 18) rfl) rfl rfl rfl ?_
  refine s_iload 4 (n := 1516) hX (dec_of D_L_law29 (i := 19) rfl) rfl rfl ?_
  refine s_iconst (v := 2) (n := 1517) hX (dec_of D_L_law29 (i := 20) rfl) rfl (by decide) ?_
  refine s_iadd (n := 1518) hX (dec_of D_L_law29 (i := 21) rfl) rfl ?_
  refine s_sld (n := 1519) hX hsc (dec_of D_L_law29 (i := 22) rfl) rfl (fun v5 => ?_)
  refine s_callVP (c := 10) (n := 1522) hX cls10 (vk131 (by omega)) lk_RL_156 (dec_of D_L_law29 (i := 23) rfl) rfl (by decide) (c_X10_wouldClaim (l := _) hG _ _ _) rfl rfl (Nat.le_of_ble_eq_true rfl) (fun q6 => ?_)
  refine s_icmp_eq (tgt := 2569) (n := 1525) hX (dec_of D_L_law29 (i := 24) rfl) rfl rfl ?_ ?_
  · refine s_wid ?_
    exact s_sub [0, 1, 2, 3, 4] rfl (hit q6.2)
  · exact s_bad (by decide)
theorem lk_RL_157 : LkV RL 157 RX9 yX9_bestClaim cX9_bestClaim 6 (some .int) 2 := ⟨wd_1138, wd_1139, wd_1140, wd_83, wd_1141, by decide +kernel, by decide⟩
theorem lk_RL_160 : LkV RL 160 RX10 yX10_bestClaim cX10_bestClaim 7 (some .int) 2 := ⟨wd_1877, wd_1878, wd_1879, wd_93, wd_1880, by decide +kernel, by decide⟩
def T_L_law30 : List (Nat × Instr × Nat) := [(1527, .aload_n 1, 1), (1528, .aload_n 0, 1), (1529, .iload 4, 2), (1531, .iconst 1, 1), (1532, .iadd, 1), (1533, .iaload, 1), (1534, .aload_n 0, 1), (1535, .iload 4, 2), (1537, .iconst 2, 1), (1538, .iadd, 1), (1539, .iaload, 1), (1540, .invokevirtual 157, 3), (1543, .aload_n 2, 1), (1544, .aload_n 0, 1), (1545, .iload 4, 2), (1547, .iconst 1, 1), (1548, .iadd, 1), (1549, .iaload, 1), (1550, .aload_n 0, 1), (1551, .iload 4, 2), (1553, .iconst 2, 1), (1554, .iadd, 1), (1555, .iaload, 1), (1556, .invokevirtual 160, 3), (1559, .if_icmp .eq 1010, 3), (1562, .iconst 0, 1), (1563, .ireturn, 1)]
theorem D_L_law30 : dchk code T_L_law30 = true := by decide +kernel
def lawC30 (xs : Nat → Int32) (L : Nat) (rec : ST × Int32 → Option Int32) (σ : ST) (i : Int32) : Option Int32 :=
  bd_ (ldX xs L (i + 1)) (fun v1 => bd_ (ldX xs L (i + 2)) (fun v2 => bd_ (Rp_bestClaim (σ) v1 v2) (fun q3 => bd_ (ldX xs L (i + 1)) (fun v4 => bd_ (ldX xs L (i + 2)) (fun v5 => bd_ (Mo_bestClaim (σ) v4 v5) (fun q6 => (if q3 = q6.1 then rec (q6.2, i + 7) else some 0)))))))
set_option maxHeartbeats 4000000 in
set_option maxRecDepth 100000 in
theorem s_lawC30 {G : GW} (hG : Good G) {X : CX} {b L : Nat} {xs : Nat → Int32} (hX : Ok G X code 7 RL 14) (hsc : Scr G X b L xs) {l : Launch} (hXl : X.2.1 = l) (hl0 : l.stackTraces = false) (hc : X.2.2.2.2.2.2.2.2.2.2.1 + 1 ≤ X.2.2.2.1.cells) (hs : X.2.2.2.2.2.2.2.2.2.2.2 + 6 ≤ X.2.2.2.1.slots) {σ : ST} {i : Int32} {rec : ST × Int32 → Option Int32} (hit : ∀ σ1, Sim G (bump X) 7 (LQ X b) σ1 2569 [(0, .ref b), (1, .ref (ga G 130 0)), (2, .ref (ga G 131 0)), (3, .ref (ga G 105 0)), (4, .int i)] [] (rec (σ1, i + 7))) : Sim G X 7 (LQ X b) σ 1527 [(0, .ref b), (1, .ref (ga G 130 0)), (2, .ref (ga G 131 0)), (3, .ref (ga G 105 0)), (4, .int i)] [] (lawC30 xs L rec σ i) := by
  unfold lawC30
  refine s_aload_n 1 (n := 1528) hX (dec_of D_L_law30 (i := 0) rfl) rfl rfl rfl ?_
  refine s_aload_n 0 (n := 1529) hX (dec_of D_L_law30 (i := 1) rfl) rfl rfl rfl ?_
  refine s_iload 4 (n := 1531) hX (dec_of D_L_law30 (i := 2) rfl) rfl rfl ?_
  refine s_iconst (v := 1) (n := 1532) hX (dec_of D_L_law30 (i := 3) rfl) rfl (by decide) ?_
  refine s_iadd (n := 1533) hX (dec_of D_L_law30 (i := 4) rfl) rfl ?_
  refine s_sld (n := 1534) hX hsc (dec_of D_L_law30 (i := 5) rfl) rfl (fun v1 => ?_)
  refine s_aload_n 0 (n := 1535) hX (dec_of D_L_law30 (i := 6) rfl) rfl rfl rfl ?_
  refine s_iload 4 (n := 1537) hX (dec_of D_L_law30 (i := 7) rfl) rfl rfl ?_
  refine s_iconst (v := 2) (n := 1538) hX (dec_of D_L_law30 (i := 8) rfl) rfl (by decide) ?_
  refine s_iadd (n := 1539) hX (dec_of D_L_law30 (i := 9) rfl) rfl ?_
  refine s_sld (n := 1540) hX hsc (dec_of D_L_law30 (i := 10) rfl) rfl (fun v2 => ?_)
  refine s_callVI (c := 9) (n := 1543) hX cls9 (vk130 (by omega)) lk_RL_157 (dec_of D_L_law30 (i := 11) rfl) rfl (by decide) (c_X9_bestClaim (l := _) hG _ _ _) rfl rfl (Nat.le_of_ble_eq_true rfl) (fun q3 => ?_)
  refine s_aload_n 2 (n := 1544) hX (dec_of D_L_law30 (i := 12) rfl) rfl rfl rfl ?_
  refine s_aload_n 0 (n := 1545) hX (dec_of D_L_law30 (i := 13) rfl) rfl rfl rfl ?_
  refine s_iload 4 (n := 1547) hX (dec_of D_L_law30 (i := 14) rfl) rfl rfl ?_
  refine s_iconst (v := 1) (n := 1548) hX (dec_of D_L_law30 (i := 15) rfl) rfl (by decide) ?_
  refine s_iadd (n := 1549) hX (dec_of D_L_law30 (i := 16) rfl) rfl ?_
  refine s_sld (n := 1550) hX hsc (dec_of D_L_law30 (i := 17) rfl) rfl (fun v4 => ?_)
  refine s_aload_n 0 (n := 1551) hX (dec_of D_L_law30 (i := 18) rfl) rfl rfl rfl ?_
  refine s_iload 4 (n := 1553) hX (dec_of D_L_law30 (i := 19) rfl) rfl rfl ?_
  refine s_iconst (v := 2) (n := 1554) hX (dec_of D_L_law30 (i := 20) rfl) rfl (by decide) ?_
  refine s_iadd (n := 1555) hX (dec_of D_L_law30 (i := 21) rfl) rfl ?_
  refine s_sld (n := 1556) hX hsc (dec_of D_L_law30 (i := 22) rfl) rfl (fun v5 => ?_)
  refine s_callVP (c := 10) (n := 1559) hX cls10 (vk131 (by omega)) lk_RL_160 (dec_of D_L_law30 (i := 23) rfl) rfl (by decide) (c_X10_bestClaim (l := _) hG _ _ _) rfl rfl (Nat.le_of_ble_eq_true rfl) (fun q6 => ?_)
  refine s_icmp_eq (tgt := 2569) (n := 1562) hX (dec_of D_L_law30 (i := 24) rfl) rfl rfl ?_ ?_
  · refine s_wid ?_
    exact s_sub [0, 1, 2, 3, 4] rfl (hit q6.2)
  · exact s_bad (by decide)
theorem lk_RL_161 : LkV RL 161 RX9 yX9_claimant cX9_claimant 6 (some .int) 2 := ⟨wd_1142, wd_1143, wd_1144, wd_83, wd_1145, by decide +kernel, by decide⟩
theorem lk_RL_164 : LkV RL 164 RX10 yX10_claimant cX10_claimant 7 (some .int) 2 := ⟨wd_1881, wd_1882, wd_1883, wd_93, wd_1884, by decide +kernel, by decide⟩
def T_L_law31 : List (Nat × Instr × Nat) := [(1564, .aload_n 1, 1), (1565, .aload_n 0, 1), (1566, .iload 4, 2), (1568, .iconst 1, 1), (1569, .iadd, 1), (1570, .iaload, 1), (1571, .aload_n 0, 1), (1572, .iload 4, 2), (1574, .iconst 2, 1), (1575, .iadd, 1), (1576, .iaload, 1), (1577, .invokevirtual 161, 3), (1580, .aload_n 2, 1), (1581, .aload_n 0, 1), (1582, .iload 4, 2), (1584, .iconst 1, 1), (1585, .iadd, 1), (1586, .iaload, 1), (1587, .aload_n 0, 1), (1588, .iload 4, 2), (1590, .iconst 2, 1), (1591, .iadd, 1), (1592, .iaload, 1), (1593, .invokevirtual 164, 3), (1596, .if_icmp .eq 973, 3), (1599, .iconst 0, 1), (1600, .ireturn, 1)]
theorem D_L_law31 : dchk code T_L_law31 = true := by decide +kernel
def lawC31 (xs : Nat → Int32) (L : Nat) (rec : ST × Int32 → Option Int32) (σ : ST) (i : Int32) : Option Int32 :=
  bd_ (ldX xs L (i + 1)) (fun v1 => bd_ (ldX xs L (i + 2)) (fun v2 => bd_ (Rp_claimant (σ) v1 v2) (fun q3 => bd_ (ldX xs L (i + 1)) (fun v4 => bd_ (ldX xs L (i + 2)) (fun v5 => bd_ (Mo_claimant (σ) v4 v5) (fun q6 => (if q3 = q6.1 then rec (q6.2, i + 7) else some 0)))))))
set_option maxHeartbeats 4000000 in
set_option maxRecDepth 100000 in
theorem s_lawC31 {G : GW} (hG : Good G) {X : CX} {b L : Nat} {xs : Nat → Int32} (hX : Ok G X code 7 RL 14) (hsc : Scr G X b L xs) {l : Launch} (hXl : X.2.1 = l) (hl0 : l.stackTraces = false) (hc : X.2.2.2.2.2.2.2.2.2.2.1 + 1 ≤ X.2.2.2.1.cells) (hs : X.2.2.2.2.2.2.2.2.2.2.2 + 6 ≤ X.2.2.2.1.slots) {σ : ST} {i : Int32} {rec : ST × Int32 → Option Int32} (hit : ∀ σ1, Sim G (bump X) 7 (LQ X b) σ1 2569 [(0, .ref b), (1, .ref (ga G 130 0)), (2, .ref (ga G 131 0)), (3, .ref (ga G 105 0)), (4, .int i)] [] (rec (σ1, i + 7))) : Sim G X 7 (LQ X b) σ 1564 [(0, .ref b), (1, .ref (ga G 130 0)), (2, .ref (ga G 131 0)), (3, .ref (ga G 105 0)), (4, .int i)] [] (lawC31 xs L rec σ i) := by
  unfold lawC31
  refine s_aload_n 1 (n := 1565) hX (dec_of D_L_law31 (i := 0) rfl) rfl rfl rfl ?_
  refine s_aload_n 0 (n := 1566) hX (dec_of D_L_law31 (i := 1) rfl) rfl rfl rfl ?_
  refine s_iload 4 (n := 1568) hX (dec_of D_L_law31 (i := 2) rfl) rfl rfl ?_
  refine s_iconst (v := 1) (n := 1569) hX (dec_of D_L_law31 (i := 3) rfl) rfl (by decide) ?_
  refine s_iadd (n := 1570) hX (dec_of D_L_law31 (i := 4) rfl) rfl ?_
  refine s_sld (n := 1571) hX hsc (dec_of D_L_law31 (i := 5) rfl) rfl (fun v1 => ?_)
  refine s_aload_n 0 (n := 1572) hX (dec_of D_L_law31 (i := 6) rfl) rfl rfl rfl ?_
  refine s_iload 4 (n := 1574) hX (dec_of D_L_law31 (i := 7) rfl) rfl rfl ?_
  refine s_iconst (v := 2) (n := 1575) hX (dec_of D_L_law31 (i := 8) rfl) rfl (by decide) ?_
  refine s_iadd (n := 1576) hX (dec_of D_L_law31 (i := 9) rfl) rfl ?_
  refine s_sld (n := 1577) hX hsc (dec_of D_L_law31 (i := 10) rfl) rfl (fun v2 => ?_)
  refine s_callVI (c := 9) (n := 1580) hX cls9 (vk130 (by omega)) lk_RL_161 (dec_of D_L_law31 (i := 11) rfl) rfl (by decide) (c_X9_claimant (l := _) hG _ _ _) rfl rfl (Nat.le_of_ble_eq_true rfl) (fun q3 => ?_)
  refine s_aload_n 2 (n := 1581) hX (dec_of D_L_law31 (i := 12) rfl) rfl rfl rfl ?_
  refine s_aload_n 0 (n := 1582) hX (dec_of D_L_law31 (i := 13) rfl) rfl rfl rfl ?_
  refine s_iload 4 (n := 1584) hX (dec_of D_L_law31 (i := 14) rfl) rfl rfl ?_
  refine s_iconst (v := 1) (n := 1585) hX (dec_of D_L_law31 (i := 15) rfl) rfl (by decide) ?_
  refine s_iadd (n := 1586) hX (dec_of D_L_law31 (i := 16) rfl) rfl ?_
  refine s_sld (n := 1587) hX hsc (dec_of D_L_law31 (i := 17) rfl) rfl (fun v4 => ?_)
  refine s_aload_n 0 (n := 1588) hX (dec_of D_L_law31 (i := 18) rfl) rfl rfl rfl ?_
  refine s_iload 4 (n := 1590) hX (dec_of D_L_law31 (i := 19) rfl) rfl rfl ?_
  refine s_iconst (v := 2) (n := 1591) hX (dec_of D_L_law31 (i := 20) rfl) rfl (by decide) ?_
  refine s_iadd (n := 1592) hX (dec_of D_L_law31 (i := 21) rfl) rfl ?_
  refine s_sld (n := 1593) hX hsc (dec_of D_L_law31 (i := 22) rfl) rfl (fun v5 => ?_)
  refine s_callVP (c := 10) (n := 1596) hX cls10 (vk131 (by omega)) lk_RL_164 (dec_of D_L_law31 (i := 23) rfl) rfl (by decide) (c_X10_claimant (l := _) hG _ _ _) rfl rfl (Nat.le_of_ble_eq_true rfl) (fun q6 => ?_)
  refine s_icmp_eq (tgt := 2569) (n := 1599) hX (dec_of D_L_law31 (i := 24) rfl) rfl rfl ?_ ?_
  · refine s_wid ?_
    exact s_sub [0, 1, 2, 3, 4] rfl (hit q6.2)
  · exact s_bad (by decide)
theorem lk_RL_165 : LkV RL 165 RX9 yX9_wouldPart cX9_wouldPart 4 (some .int) 2 := ⟨wd_1146, wd_1147, wd_1148, wd_83, wd_1149, by decide +kernel, by decide⟩
theorem lk_RL_168 : LkV RL 168 RX10 yX10_wouldPart cX10_wouldPart 4 (some .int) 2 := ⟨wd_1885, wd_1886, wd_1887, wd_93, wd_1888, by decide +kernel, by decide⟩
def T_L_law32 : List (Nat × Instr × Nat) := [(1601, .aload_n 1, 1), (1602, .aload_n 0, 1), (1603, .iload 4, 2), (1605, .iconst 1, 1), (1606, .iadd, 1), (1607, .iaload, 1), (1608, .aload_n 0, 1), (1609, .iload 4, 2), (1611, .iconst 2, 1), (1612, .iadd, 1), (1613, .iaload, 1), (1614, .invokevirtual 165, 3), (1617, .aload_n 2, 1), (1618, .aload_n 0, 1), (1619, .iload 4, 2), (1621, .iconst 1, 1), (1622, .iadd, 1), (1623, .iaload, 1), (1624, .aload_n 0, 1), (1625, .iload 4, 2), (1627, .iconst 2, 1), (1628, .iadd, 1), (1629, .iaload, 1), (1630, .invokevirtual 168, 3), (1633, .if_icmp .eq 936, 3), (1636, .iconst 0, 1), (1637, .ireturn, 1)]
theorem D_L_law32 : dchk code T_L_law32 = true := by decide +kernel
def lawC32 (xs : Nat → Int32) (L : Nat) (rec : ST × Int32 → Option Int32) (σ : ST) (i : Int32) : Option Int32 :=
  bd_ (ldX xs L (i + 1)) (fun v1 => bd_ (ldX xs L (i + 2)) (fun v2 => bd_ (Rp_wouldPart (σ) v1 v2) (fun q3 => bd_ (ldX xs L (i + 1)) (fun v4 => bd_ (ldX xs L (i + 2)) (fun v5 => bd_ (Mo_wouldPart q3.2 v4 v5) (fun q6 => (if q3.1 = q6.1 then rec (q6.2, i + 7) else some 0)))))))
set_option maxHeartbeats 4000000 in
set_option maxRecDepth 100000 in
theorem s_lawC32 {G : GW} (hG : Good G) {X : CX} {b L : Nat} {xs : Nat → Int32} (hX : Ok G X code 7 RL 14) (hsc : Scr G X b L xs) {l : Launch} (hXl : X.2.1 = l) (hl0 : l.stackTraces = false) (hc : X.2.2.2.2.2.2.2.2.2.2.1 + 1 ≤ X.2.2.2.1.cells) (hs : X.2.2.2.2.2.2.2.2.2.2.2 + 6 ≤ X.2.2.2.1.slots) {σ : ST} {i : Int32} {rec : ST × Int32 → Option Int32} (hit : ∀ σ1, Sim G (bump X) 7 (LQ X b) σ1 2569 [(0, .ref b), (1, .ref (ga G 130 0)), (2, .ref (ga G 131 0)), (3, .ref (ga G 105 0)), (4, .int i)] [] (rec (σ1, i + 7))) : Sim G X 7 (LQ X b) σ 1601 [(0, .ref b), (1, .ref (ga G 130 0)), (2, .ref (ga G 131 0)), (3, .ref (ga G 105 0)), (4, .int i)] [] (lawC32 xs L rec σ i) := by
  unfold lawC32
  refine s_aload_n 1 (n := 1602) hX (dec_of D_L_law32 (i := 0) rfl) rfl rfl rfl ?_
  refine s_aload_n 0 (n := 1603) hX (dec_of D_L_law32 (i := 1) rfl) rfl rfl rfl ?_
  refine s_iload 4 (n := 1605) hX (dec_of D_L_law32 (i := 2) rfl) rfl rfl ?_
  refine s_iconst (v := 1) (n := 1606) hX (dec_of D_L_law32 (i := 3) rfl) rfl (by decide) ?_
  refine s_iadd (n := 1607) hX (dec_of D_L_law32 (i := 4) rfl) rfl ?_
  refine s_sld (n := 1608) hX hsc (dec_of D_L_law32 (i := 5) rfl) rfl (fun v1 => ?_)
  refine s_aload_n 0 (n := 1609) hX (dec_of D_L_law32 (i := 6) rfl) rfl rfl rfl ?_
  refine s_iload 4 (n := 1611) hX (dec_of D_L_law32 (i := 7) rfl) rfl rfl ?_
  refine s_iconst (v := 2) (n := 1612) hX (dec_of D_L_law32 (i := 8) rfl) rfl (by decide) ?_
  refine s_iadd (n := 1613) hX (dec_of D_L_law32 (i := 9) rfl) rfl ?_
  refine s_sld (n := 1614) hX hsc (dec_of D_L_law32 (i := 10) rfl) rfl (fun v2 => ?_)
  refine s_callVP (c := 9) (n := 1617) hX cls9 (vk130 (by omega)) lk_RL_165 (dec_of D_L_law32 (i := 11) rfl) rfl (by decide) (c_X9_wouldPart (l := _) hG _ _ _) rfl rfl (Nat.le_of_ble_eq_true rfl) (fun q3 => ?_)
  refine s_aload_n 2 (n := 1618) hX (dec_of D_L_law32 (i := 12) rfl) rfl rfl rfl ?_
  refine s_aload_n 0 (n := 1619) hX (dec_of D_L_law32 (i := 13) rfl) rfl rfl rfl ?_
  refine s_iload 4 (n := 1621) hX (dec_of D_L_law32 (i := 14) rfl) rfl rfl ?_
  refine s_iconst (v := 1) (n := 1622) hX (dec_of D_L_law32 (i := 15) rfl) rfl (by decide) ?_
  refine s_iadd (n := 1623) hX (dec_of D_L_law32 (i := 16) rfl) rfl ?_
  refine s_sld (n := 1624) hX hsc (dec_of D_L_law32 (i := 17) rfl) rfl (fun v4 => ?_)
  refine s_aload_n 0 (n := 1625) hX (dec_of D_L_law32 (i := 18) rfl) rfl rfl rfl ?_
  refine s_iload 4 (n := 1627) hX (dec_of D_L_law32 (i := 19) rfl) rfl rfl ?_
  refine s_iconst (v := 2) (n := 1628) hX (dec_of D_L_law32 (i := 20) rfl) rfl (by decide) ?_
  refine s_iadd (n := 1629) hX (dec_of D_L_law32 (i := 21) rfl) rfl ?_
  refine s_sld (n := 1630) hX hsc (dec_of D_L_law32 (i := 22) rfl) rfl (fun v5 => ?_)
  refine s_callVP (c := 10) (n := 1633) hX cls10 (vk131 (by omega)) lk_RL_168 (dec_of D_L_law32 (i := 23) rfl) rfl (by decide) (c_X10_wouldPart (l := _) hG _ _ _) rfl rfl (Nat.le_of_ble_eq_true rfl) (fun q6 => ?_)
  refine s_icmp_eq (tgt := 2569) (n := 1636) hX (dec_of D_L_law32 (i := 24) rfl) rfl rfl ?_ ?_
  · refine s_wid ?_
    exact s_sub [0, 1, 2, 3, 4] rfl (hit q6.2)
  · exact s_bad (by decide)
theorem lk_RL_169 : LkV RL 169 RX9 yX9_gain cX9_gain 8 (some .int) 6 := ⟨wd_1150, wd_1151, wd_1152, wd_83, wd_1153, by decide +kernel, by decide⟩
theorem lk_RL_173 : LkV RL 173 RX10 yX10_gain cX10_gain 10 (some .int) 6 := ⟨wd_1889, wd_1890, wd_1891, wd_93, wd_1892, by decide +kernel, by decide⟩
def T_L_law33 : List (Nat × Instr × Nat) := [(1638, .aload_n 1, 1), (1639, .aload_n 0, 1), (1640, .iload 4, 2), (1642, .iconst 1, 1), (1643, .iadd, 1), (1644, .iaload, 1), (1645, .aload_n 0, 1), (1646, .iload 4, 2), (1648, .iconst 2, 1), (1649, .iadd, 1), (1650, .iaload, 1), (1651, .aload_n 0, 1), (1652, .iload 4, 2), (1654, .iconst 3, 1), (1655, .iadd, 1), (1656, .iaload, 1), (1657, .aload_n 0, 1), (1658, .iload 4, 2), (1660, .iconst 4, 1), (1661, .iadd, 1), (1662, .iaload, 1), (1663, .aload_n 0, 1), (1664, .iload 4, 2), (1666, .iconst 5, 1), (1667, .iadd, 1), (1668, .iaload, 1), (1669, .aload_n 0, 1), (1670, .iload 4, 2), (1672, .bipush 6, 2), (1674, .iadd, 1), (1675, .iaload, 1), (1676, .invokevirtual 169, 3), (1679, .aload_n 2, 1), (1680, .aload_n 0, 1), (1681, .iload 4, 2), (1683, .iconst 1, 1), (1684, .iadd, 1), (1685, .iaload, 1), (1686, .aload_n 0, 1), (1687, .iload 4, 2), (1689, .iconst 2, 1), (1690, .iadd, 1), (1691, .iaload, 1), (1692, .aload_n 0, 1), (1693, .iload 4, 2), (1695, .iconst 3, 1), (1696, .iadd, 1), (1697, .iaload, 1), (1698, .aload_n 0, 1), (1699, .iload 4, 2), (1701, .iconst 4, 1), (1702, .iadd, 1), (1703, .iaload, 1), (1704, .aload_n 0, 1), (1705, .iload 4, 2), (1707, .iconst 5, 1), (1708, .iadd, 1), (1709, .iaload, 1), (1710, .aload_n 0, 1), (1711, .iload 4, 2), (1713, .bipush 6, 2), (1715, .iadd, 1), (1716, .iaload, 1), (1717, .invokevirtual 173, 3), (1720, .if_icmp .eq 849, 3), (1723, .iconst 0, 1), (1724, .ireturn, 1)]
theorem D_L_law33 : dchk code T_L_law33 = true := by decide +kernel
def lawC33 (xs : Nat → Int32) (L : Nat) (rec : ST × Int32 → Option Int32) (σ : ST) (i : Int32) : Option Int32 :=
  bd_ (ldX xs L (i + 1)) (fun v1 => bd_ (ldX xs L (i + 2)) (fun v2 => bd_ (ldX xs L (i + 3)) (fun v3 => bd_ (ldX xs L (i + 4)) (fun v4 => bd_ (ldX xs L (i + 5)) (fun v5 => bd_ (ldX xs L (i + 6)) (fun v6 => bd_ (Rp_gain (σ) v1 v2 v3 v4 v5 v6) (fun q7 => bd_ (ldX xs L (i + 1)) (fun v8 => bd_ (ldX xs L (i + 2)) (fun v9 => bd_ (ldX xs L (i + 3)) (fun v10 => bd_ (ldX xs L (i + 4)) (fun v11 => bd_ (ldX xs L (i + 5)) (fun v12 => bd_ (ldX xs L (i + 6)) (fun v13 => bd_ (Mo_gain q7.2 v8 v9 v10 v11 v12 v13) (fun q14 => (if q7.1 = q14.1 then rec (q14.2, i + 7) else some 0)))))))))))))))
set_option maxHeartbeats 4000000 in
set_option maxRecDepth 100000 in
theorem s_lawC33 {G : GW} (hG : Good G) {X : CX} {b L : Nat} {xs : Nat → Int32} (hX : Ok G X code 7 RL 14) (hsc : Scr G X b L xs) {l : Launch} (hXl : X.2.1 = l) (hl0 : l.stackTraces = false) (hc : X.2.2.2.2.2.2.2.2.2.2.1 + 1 ≤ X.2.2.2.1.cells) (hs : X.2.2.2.2.2.2.2.2.2.2.2 + 6 ≤ X.2.2.2.1.slots) {σ : ST} {i : Int32} {rec : ST × Int32 → Option Int32} (hit : ∀ σ1, Sim G (bump X) 7 (LQ X b) σ1 2569 [(0, .ref b), (1, .ref (ga G 130 0)), (2, .ref (ga G 131 0)), (3, .ref (ga G 105 0)), (4, .int i)] [] (rec (σ1, i + 7))) : Sim G X 7 (LQ X b) σ 1638 [(0, .ref b), (1, .ref (ga G 130 0)), (2, .ref (ga G 131 0)), (3, .ref (ga G 105 0)), (4, .int i)] [] (lawC33 xs L rec σ i) := by
  unfold lawC33
  refine s_aload_n 1 (n := 1639) hX (dec_of D_L_law33 (i := 0) rfl) rfl rfl rfl ?_
  refine s_aload_n 0 (n := 1640) hX (dec_of D_L_law33 (i := 1) rfl) rfl rfl rfl ?_
  refine s_iload 4 (n := 1642) hX (dec_of D_L_law33 (i := 2) rfl) rfl rfl ?_
  refine s_iconst (v := 1) (n := 1643) hX (dec_of D_L_law33 (i := 3) rfl) rfl (by decide) ?_
  refine s_iadd (n := 1644) hX (dec_of D_L_law33 (i := 4) rfl) rfl ?_
  refine s_sld (n := 1645) hX hsc (dec_of D_L_law33 (i := 5) rfl) rfl (fun v1 => ?_)
  refine s_aload_n 0 (n := 1646) hX (dec_of D_L_law33 (i := 6) rfl) rfl rfl rfl ?_
  refine s_iload 4 (n := 1648) hX (dec_of D_L_law33 (i := 7) rfl) rfl rfl ?_
  refine s_iconst (v := 2) (n := 1649) hX (dec_of D_L_law33 (i := 8) rfl) rfl (by decide) ?_
  refine s_iadd (n := 1650) hX (dec_of D_L_law33 (i := 9) rfl) rfl ?_
  refine s_sld (n := 1651) hX hsc (dec_of D_L_law33 (i := 10) rfl) rfl (fun v2 => ?_)
  refine s_aload_n 0 (n := 1652) hX (dec_of D_L_law33 (i := 11) rfl) rfl rfl rfl ?_
  refine s_iload 4 (n := 1654) hX (dec_of D_L_law33 (i := 12) rfl) rfl rfl ?_
  refine s_iconst (v := 3) (n := 1655) hX (dec_of D_L_law33 (i := 13) rfl) rfl (by decide) ?_
  refine s_iadd (n := 1656) hX (dec_of D_L_law33 (i := 14) rfl) rfl ?_
  refine s_sld (n := 1657) hX hsc (dec_of D_L_law33 (i := 15) rfl) rfl (fun v3 => ?_)
  refine s_aload_n 0 (n := 1658) hX (dec_of D_L_law33 (i := 16) rfl) rfl rfl rfl ?_
  refine s_iload 4 (n := 1660) hX (dec_of D_L_law33 (i := 17) rfl) rfl rfl ?_
  refine s_iconst (v := 4) (n := 1661) hX (dec_of D_L_law33 (i := 18) rfl) rfl (by decide) ?_
  refine s_iadd (n := 1662) hX (dec_of D_L_law33 (i := 19) rfl) rfl ?_
  refine s_sld (n := 1663) hX hsc (dec_of D_L_law33 (i := 20) rfl) rfl (fun v4 => ?_)
  refine s_aload_n 0 (n := 1664) hX (dec_of D_L_law33 (i := 21) rfl) rfl rfl rfl ?_
  refine s_iload 4 (n := 1666) hX (dec_of D_L_law33 (i := 22) rfl) rfl rfl ?_
  refine s_iconst (v := 5) (n := 1667) hX (dec_of D_L_law33 (i := 23) rfl) rfl (by decide) ?_
  refine s_iadd (n := 1668) hX (dec_of D_L_law33 (i := 24) rfl) rfl ?_
  refine s_sld (n := 1669) hX hsc (dec_of D_L_law33 (i := 25) rfl) rfl (fun v5 => ?_)
  refine s_aload_n 0 (n := 1670) hX (dec_of D_L_law33 (i := 26) rfl) rfl rfl rfl ?_
  refine s_iload 4 (n := 1672) hX (dec_of D_L_law33 (i := 27) rfl) rfl rfl ?_
  refine s_bipush (v := 6) (n := 1674) hX (dec_of D_L_law33 (i := 28) rfl) rfl (by decide) ?_
  refine s_iadd (n := 1675) hX (dec_of D_L_law33 (i := 29) rfl) rfl ?_
  refine s_sld (n := 1676) hX hsc (dec_of D_L_law33 (i := 30) rfl) rfl (fun v6 => ?_)
  refine s_callVP (c := 9) (n := 1679) hX cls9 (vk130 (by omega)) lk_RL_169 (dec_of D_L_law33 (i := 31) rfl) rfl (by decide) (c_X9_gain (l := _) hG _ _ _ _ _ _ _) rfl rfl (Nat.le_of_ble_eq_true rfl) (fun q7 => ?_)
  refine s_aload_n 2 (n := 1680) hX (dec_of D_L_law33 (i := 32) rfl) rfl rfl rfl ?_
  refine s_aload_n 0 (n := 1681) hX (dec_of D_L_law33 (i := 33) rfl) rfl rfl rfl ?_
  refine s_iload 4 (n := 1683) hX (dec_of D_L_law33 (i := 34) rfl) rfl rfl ?_
  refine s_iconst (v := 1) (n := 1684) hX (dec_of D_L_law33 (i := 35) rfl) rfl (by decide) ?_
  refine s_iadd (n := 1685) hX (dec_of D_L_law33 (i := 36) rfl) rfl ?_
  refine s_sld (n := 1686) hX hsc (dec_of D_L_law33 (i := 37) rfl) rfl (fun v8 => ?_)
  refine s_aload_n 0 (n := 1687) hX (dec_of D_L_law33 (i := 38) rfl) rfl rfl rfl ?_
  refine s_iload 4 (n := 1689) hX (dec_of D_L_law33 (i := 39) rfl) rfl rfl ?_
  refine s_iconst (v := 2) (n := 1690) hX (dec_of D_L_law33 (i := 40) rfl) rfl (by decide) ?_
  refine s_iadd (n := 1691) hX (dec_of D_L_law33 (i := 41) rfl) rfl ?_
  refine s_sld (n := 1692) hX hsc (dec_of D_L_law33 (i := 42) rfl) rfl (fun v9 => ?_)
  refine s_aload_n 0 (n := 1693) hX (dec_of D_L_law33 (i := 43) rfl) rfl rfl rfl ?_
  refine s_iload 4 (n := 1695) hX (dec_of D_L_law33 (i := 44) rfl) rfl rfl ?_
  refine s_iconst (v := 3) (n := 1696) hX (dec_of D_L_law33 (i := 45) rfl) rfl (by decide) ?_
  refine s_iadd (n := 1697) hX (dec_of D_L_law33 (i := 46) rfl) rfl ?_
  refine s_sld (n := 1698) hX hsc (dec_of D_L_law33 (i := 47) rfl) rfl (fun v10 => ?_)
  refine s_aload_n 0 (n := 1699) hX (dec_of D_L_law33 (i := 48) rfl) rfl rfl rfl ?_
  refine s_iload 4 (n := 1701) hX (dec_of D_L_law33 (i := 49) rfl) rfl rfl ?_
  refine s_iconst (v := 4) (n := 1702) hX (dec_of D_L_law33 (i := 50) rfl) rfl (by decide) ?_
  refine s_iadd (n := 1703) hX (dec_of D_L_law33 (i := 51) rfl) rfl ?_
  refine s_sld (n := 1704) hX hsc (dec_of D_L_law33 (i := 52) rfl) rfl (fun v11 => ?_)
  refine s_aload_n 0 (n := 1705) hX (dec_of D_L_law33 (i := 53) rfl) rfl rfl rfl ?_
  refine s_iload 4 (n := 1707) hX (dec_of D_L_law33 (i := 54) rfl) rfl rfl ?_
  refine s_iconst (v := 5) (n := 1708) hX (dec_of D_L_law33 (i := 55) rfl) rfl (by decide) ?_
  refine s_iadd (n := 1709) hX (dec_of D_L_law33 (i := 56) rfl) rfl ?_
  refine s_sld (n := 1710) hX hsc (dec_of D_L_law33 (i := 57) rfl) rfl (fun v12 => ?_)
  refine s_aload_n 0 (n := 1711) hX (dec_of D_L_law33 (i := 58) rfl) rfl rfl rfl ?_
  refine s_iload 4 (n := 1713) hX (dec_of D_L_law33 (i := 59) rfl) rfl rfl ?_
  refine s_bipush (v := 6) (n := 1715) hX (dec_of D_L_law33 (i := 60) rfl) rfl (by decide) ?_
  refine s_iadd (n := 1716) hX (dec_of D_L_law33 (i := 61) rfl) rfl ?_
  refine s_sld (n := 1717) hX hsc (dec_of D_L_law33 (i := 62) rfl) rfl (fun v13 => ?_)
  refine s_callVP (c := 10) (n := 1720) hX cls10 (vk131 (by omega)) lk_RL_173 (dec_of D_L_law33 (i := 63) rfl) rfl (by decide) (c_X10_gain (l := _) hG _ _ _ _ _ _ _) rfl rfl (Nat.le_of_ble_eq_true rfl) (fun q14 => ?_)
  refine s_icmp_eq (tgt := 2569) (n := 1723) hX (dec_of D_L_law33 (i := 64) rfl) rfl rfl ?_ ?_
  · refine s_wid ?_
    exact s_sub [0, 1, 2, 3, 4] rfl (hit q14.2)
  · exact s_bad (by decide)
theorem lk_RL_174 : LkV RL 174 RX9 yX9_pairs cX9_pairs 7 (some .int) 4 := ⟨wd_805, wd_806, wd_807, wd_83, wd_808, by decide +kernel, by decide⟩
theorem lk_RL_177 : LkV RL 177 RX10 yX10_pairs cX10_pairs 8 (some .int) 4 := ⟨wd_1906, wd_1907, wd_1908, wd_93, wd_1909, by decide +kernel, by decide⟩
def T_L_law34 : List (Nat × Instr × Nat) := [(1725, .aload_n 1, 1), (1726, .aload_n 0, 1), (1727, .iload 4, 2), (1729, .iconst 1, 1), (1730, .iadd, 1), (1731, .iaload, 1), (1732, .aload_n 0, 1), (1733, .iload 4, 2), (1735, .iconst 2, 1), (1736, .iadd, 1), (1737, .iaload, 1), (1738, .aload_n 0, 1), (1739, .iload 4, 2), (1741, .iconst 3, 1), (1742, .iadd, 1), (1743, .iaload, 1), (1744, .aload_n 0, 1), (1745, .iload 4, 2), (1747, .iconst 4, 1), (1748, .iadd, 1), (1749, .iaload, 1), (1750, .invokevirtual 174, 3), (1753, .aload_n 2, 1), (1754, .aload_n 0, 1), (1755, .iload 4, 2), (1757, .iconst 1, 1), (1758, .iadd, 1), (1759, .iaload, 1), (1760, .aload_n 0, 1), (1761, .iload 4, 2), (1763, .iconst 2, 1), (1764, .iadd, 1), (1765, .iaload, 1), (1766, .aload_n 0, 1), (1767, .iload 4, 2), (1769, .iconst 3, 1), (1770, .iadd, 1), (1771, .iaload, 1), (1772, .aload_n 0, 1), (1773, .iload 4, 2), (1775, .iconst 4, 1), (1776, .iadd, 1), (1777, .iaload, 1), (1778, .invokevirtual 177, 3), (1781, .if_icmp .eq 788, 3), (1784, .iconst 0, 1), (1785, .ireturn, 1)]
theorem D_L_law34 : dchk code T_L_law34 = true := by decide +kernel
def lawC34 (xs : Nat → Int32) (L : Nat) (rec : ST × Int32 → Option Int32) (σ : ST) (i : Int32) : Option Int32 :=
  bd_ (ldX xs L (i + 1)) (fun v1 => bd_ (ldX xs L (i + 2)) (fun v2 => bd_ (ldX xs L (i + 3)) (fun v3 => bd_ (ldX xs L (i + 4)) (fun v4 => bd_ (Rp_pairs (σ) v1 v2 v3 v4) (fun q5 => bd_ (ldX xs L (i + 1)) (fun v6 => bd_ (ldX xs L (i + 2)) (fun v7 => bd_ (ldX xs L (i + 3)) (fun v8 => bd_ (ldX xs L (i + 4)) (fun v9 => bd_ (Mo_pairs q5.2 v6 v7 v8 v9) (fun q10 => (if q5.1 = q10.1 then rec (q10.2, i + 7) else some 0)))))))))))
set_option maxHeartbeats 4000000 in
set_option maxRecDepth 100000 in
theorem s_lawC34 {G : GW} (hG : Good G) {X : CX} {b L : Nat} {xs : Nat → Int32} (hX : Ok G X code 7 RL 14) (hsc : Scr G X b L xs) {l : Launch} (hXl : X.2.1 = l) (hl0 : l.stackTraces = false) (hc : X.2.2.2.2.2.2.2.2.2.2.1 + 1 ≤ X.2.2.2.1.cells) (hs : X.2.2.2.2.2.2.2.2.2.2.2 + 6 ≤ X.2.2.2.1.slots) {σ : ST} {i : Int32} {rec : ST × Int32 → Option Int32} (hit : ∀ σ1, Sim G (bump X) 7 (LQ X b) σ1 2569 [(0, .ref b), (1, .ref (ga G 130 0)), (2, .ref (ga G 131 0)), (3, .ref (ga G 105 0)), (4, .int i)] [] (rec (σ1, i + 7))) : Sim G X 7 (LQ X b) σ 1725 [(0, .ref b), (1, .ref (ga G 130 0)), (2, .ref (ga G 131 0)), (3, .ref (ga G 105 0)), (4, .int i)] [] (lawC34 xs L rec σ i) := by
  unfold lawC34
  refine s_aload_n 1 (n := 1726) hX (dec_of D_L_law34 (i := 0) rfl) rfl rfl rfl ?_
  refine s_aload_n 0 (n := 1727) hX (dec_of D_L_law34 (i := 1) rfl) rfl rfl rfl ?_
  refine s_iload 4 (n := 1729) hX (dec_of D_L_law34 (i := 2) rfl) rfl rfl ?_
  refine s_iconst (v := 1) (n := 1730) hX (dec_of D_L_law34 (i := 3) rfl) rfl (by decide) ?_
  refine s_iadd (n := 1731) hX (dec_of D_L_law34 (i := 4) rfl) rfl ?_
  refine s_sld (n := 1732) hX hsc (dec_of D_L_law34 (i := 5) rfl) rfl (fun v1 => ?_)
  refine s_aload_n 0 (n := 1733) hX (dec_of D_L_law34 (i := 6) rfl) rfl rfl rfl ?_
  refine s_iload 4 (n := 1735) hX (dec_of D_L_law34 (i := 7) rfl) rfl rfl ?_
  refine s_iconst (v := 2) (n := 1736) hX (dec_of D_L_law34 (i := 8) rfl) rfl (by decide) ?_
  refine s_iadd (n := 1737) hX (dec_of D_L_law34 (i := 9) rfl) rfl ?_
  refine s_sld (n := 1738) hX hsc (dec_of D_L_law34 (i := 10) rfl) rfl (fun v2 => ?_)
  refine s_aload_n 0 (n := 1739) hX (dec_of D_L_law34 (i := 11) rfl) rfl rfl rfl ?_
  refine s_iload 4 (n := 1741) hX (dec_of D_L_law34 (i := 12) rfl) rfl rfl ?_
  refine s_iconst (v := 3) (n := 1742) hX (dec_of D_L_law34 (i := 13) rfl) rfl (by decide) ?_
  refine s_iadd (n := 1743) hX (dec_of D_L_law34 (i := 14) rfl) rfl ?_
  refine s_sld (n := 1744) hX hsc (dec_of D_L_law34 (i := 15) rfl) rfl (fun v3 => ?_)
  refine s_aload_n 0 (n := 1745) hX (dec_of D_L_law34 (i := 16) rfl) rfl rfl rfl ?_
  refine s_iload 4 (n := 1747) hX (dec_of D_L_law34 (i := 17) rfl) rfl rfl ?_
  refine s_iconst (v := 4) (n := 1748) hX (dec_of D_L_law34 (i := 18) rfl) rfl (by decide) ?_
  refine s_iadd (n := 1749) hX (dec_of D_L_law34 (i := 19) rfl) rfl ?_
  refine s_sld (n := 1750) hX hsc (dec_of D_L_law34 (i := 20) rfl) rfl (fun v4 => ?_)
  refine s_callVP (c := 9) (n := 1753) hX cls9 (vk130 (by omega)) lk_RL_174 (dec_of D_L_law34 (i := 21) rfl) rfl (by decide) (c_X9_pairs (l := _) hG _ _ _ _ _) rfl rfl (Nat.le_of_ble_eq_true rfl) (fun q5 => ?_)
  refine s_aload_n 2 (n := 1754) hX (dec_of D_L_law34 (i := 22) rfl) rfl rfl rfl ?_
  refine s_aload_n 0 (n := 1755) hX (dec_of D_L_law34 (i := 23) rfl) rfl rfl rfl ?_
  refine s_iload 4 (n := 1757) hX (dec_of D_L_law34 (i := 24) rfl) rfl rfl ?_
  refine s_iconst (v := 1) (n := 1758) hX (dec_of D_L_law34 (i := 25) rfl) rfl (by decide) ?_
  refine s_iadd (n := 1759) hX (dec_of D_L_law34 (i := 26) rfl) rfl ?_
  refine s_sld (n := 1760) hX hsc (dec_of D_L_law34 (i := 27) rfl) rfl (fun v6 => ?_)
  refine s_aload_n 0 (n := 1761) hX (dec_of D_L_law34 (i := 28) rfl) rfl rfl rfl ?_
  refine s_iload 4 (n := 1763) hX (dec_of D_L_law34 (i := 29) rfl) rfl rfl ?_
  refine s_iconst (v := 2) (n := 1764) hX (dec_of D_L_law34 (i := 30) rfl) rfl (by decide) ?_
  refine s_iadd (n := 1765) hX (dec_of D_L_law34 (i := 31) rfl) rfl ?_
  refine s_sld (n := 1766) hX hsc (dec_of D_L_law34 (i := 32) rfl) rfl (fun v7 => ?_)
  refine s_aload_n 0 (n := 1767) hX (dec_of D_L_law34 (i := 33) rfl) rfl rfl rfl ?_
  refine s_iload 4 (n := 1769) hX (dec_of D_L_law34 (i := 34) rfl) rfl rfl ?_
  refine s_iconst (v := 3) (n := 1770) hX (dec_of D_L_law34 (i := 35) rfl) rfl (by decide) ?_
  refine s_iadd (n := 1771) hX (dec_of D_L_law34 (i := 36) rfl) rfl ?_
  refine s_sld (n := 1772) hX hsc (dec_of D_L_law34 (i := 37) rfl) rfl (fun v8 => ?_)
  refine s_aload_n 0 (n := 1773) hX (dec_of D_L_law34 (i := 38) rfl) rfl rfl rfl ?_
  refine s_iload 4 (n := 1775) hX (dec_of D_L_law34 (i := 39) rfl) rfl rfl ?_
  refine s_iconst (v := 4) (n := 1776) hX (dec_of D_L_law34 (i := 40) rfl) rfl (by decide) ?_
  refine s_iadd (n := 1777) hX (dec_of D_L_law34 (i := 41) rfl) rfl ?_
  refine s_sld (n := 1778) hX hsc (dec_of D_L_law34 (i := 42) rfl) rfl (fun v9 => ?_)
  refine s_callVP (c := 10) (n := 1781) hX cls10 (vk131 (by omega)) lk_RL_177 (dec_of D_L_law34 (i := 43) rfl) rfl (by decide) (c_X10_pairs (l := _) hG _ _ _ _ _) rfl rfl (Nat.le_of_ble_eq_true rfl) (fun q10 => ?_)
  refine s_icmp_eq (tgt := 2569) (n := 1784) hX (dec_of D_L_law34 (i := 44) rfl) rfl rfl ?_ ?_
  · refine s_wid ?_
    exact s_sub [0, 1, 2, 3, 4] rfl (hit q10.2)
  · exact s_bad (by decide)
theorem lk_RL_178 : LkV RL 178 RX9 yX9_most cX9_most 5 (some .int) 2 := ⟨wd_1033, wd_1034, wd_1035, wd_83, wd_1036, by decide +kernel, by decide⟩
theorem lk_RL_181 : LkV RL 181 RX10 yX10_most cX10_most 5 (some .int) 2 := ⟨wd_1910, wd_1911, wd_1912, wd_93, wd_1913, by decide +kernel, by decide⟩
def T_L_law35 : List (Nat × Instr × Nat) := [(1786, .aload_n 1, 1), (1787, .aload_n 0, 1), (1788, .iload 4, 2), (1790, .iconst 1, 1), (1791, .iadd, 1), (1792, .iaload, 1), (1793, .aload_n 0, 1), (1794, .iload 4, 2), (1796, .iconst 2, 1), (1797, .iadd, 1), (1798, .iaload, 1), (1799, .invokevirtual 178, 3), (1802, .aload_n 2, 1), (1803, .aload_n 0, 1), (1804, .iload 4, 2), (1806, .iconst 1, 1), (1807, .iadd, 1), (1808, .iaload, 1), (1809, .aload_n 0, 1), (1810, .iload 4, 2), (1812, .iconst 2, 1), (1813, .iadd, 1), (1814, .iaload, 1), (1815, .invokevirtual 181, 3), (1818, .if_icmp .eq 751, 3), (1821, .iconst 0, 1), (1822, .ireturn, 1)]
theorem D_L_law35 : dchk code T_L_law35 = true := by decide +kernel
def lawC35 (xs : Nat → Int32) (L : Nat) (rec : ST × Int32 → Option Int32) (σ : ST) (i : Int32) : Option Int32 :=
  bd_ (ldX xs L (i + 1)) (fun v1 => bd_ (ldX xs L (i + 2)) (fun v2 => bd_ (Rp_most (σ) v1 v2) (fun q3 => bd_ (ldX xs L (i + 1)) (fun v4 => bd_ (ldX xs L (i + 2)) (fun v5 => bd_ (Mo_most (σ) v4 v5) (fun q6 => (if q3 = q6.1 then rec (q6.2, i + 7) else some 0)))))))
set_option maxHeartbeats 4000000 in
set_option maxRecDepth 100000 in
theorem s_lawC35 {G : GW} (hG : Good G) {X : CX} {b L : Nat} {xs : Nat → Int32} (hX : Ok G X code 7 RL 14) (hsc : Scr G X b L xs) {l : Launch} (hXl : X.2.1 = l) (hl0 : l.stackTraces = false) (hc : X.2.2.2.2.2.2.2.2.2.2.1 + 1 ≤ X.2.2.2.1.cells) (hs : X.2.2.2.2.2.2.2.2.2.2.2 + 6 ≤ X.2.2.2.1.slots) {σ : ST} {i : Int32} {rec : ST × Int32 → Option Int32} (hit : ∀ σ1, Sim G (bump X) 7 (LQ X b) σ1 2569 [(0, .ref b), (1, .ref (ga G 130 0)), (2, .ref (ga G 131 0)), (3, .ref (ga G 105 0)), (4, .int i)] [] (rec (σ1, i + 7))) : Sim G X 7 (LQ X b) σ 1786 [(0, .ref b), (1, .ref (ga G 130 0)), (2, .ref (ga G 131 0)), (3, .ref (ga G 105 0)), (4, .int i)] [] (lawC35 xs L rec σ i) := by
  unfold lawC35
  refine s_aload_n 1 (n := 1787) hX (dec_of D_L_law35 (i := 0) rfl) rfl rfl rfl ?_
  refine s_aload_n 0 (n := 1788) hX (dec_of D_L_law35 (i := 1) rfl) rfl rfl rfl ?_
  refine s_iload 4 (n := 1790) hX (dec_of D_L_law35 (i := 2) rfl) rfl rfl ?_
  refine s_iconst (v := 1) (n := 1791) hX (dec_of D_L_law35 (i := 3) rfl) rfl (by decide) ?_
  refine s_iadd (n := 1792) hX (dec_of D_L_law35 (i := 4) rfl) rfl ?_
  refine s_sld (n := 1793) hX hsc (dec_of D_L_law35 (i := 5) rfl) rfl (fun v1 => ?_)
  refine s_aload_n 0 (n := 1794) hX (dec_of D_L_law35 (i := 6) rfl) rfl rfl rfl ?_
  refine s_iload 4 (n := 1796) hX (dec_of D_L_law35 (i := 7) rfl) rfl rfl ?_
  refine s_iconst (v := 2) (n := 1797) hX (dec_of D_L_law35 (i := 8) rfl) rfl (by decide) ?_
  refine s_iadd (n := 1798) hX (dec_of D_L_law35 (i := 9) rfl) rfl ?_
  refine s_sld (n := 1799) hX hsc (dec_of D_L_law35 (i := 10) rfl) rfl (fun v2 => ?_)
  refine s_callVI (c := 9) (n := 1802) hX cls9 (vk130 (by omega)) lk_RL_178 (dec_of D_L_law35 (i := 11) rfl) rfl (by decide) (c_X9_most (l := _) hG _ _ _) rfl rfl (Nat.le_of_ble_eq_true rfl) (fun q3 => ?_)
  refine s_aload_n 2 (n := 1803) hX (dec_of D_L_law35 (i := 12) rfl) rfl rfl rfl ?_
  refine s_aload_n 0 (n := 1804) hX (dec_of D_L_law35 (i := 13) rfl) rfl rfl rfl ?_
  refine s_iload 4 (n := 1806) hX (dec_of D_L_law35 (i := 14) rfl) rfl rfl ?_
  refine s_iconst (v := 1) (n := 1807) hX (dec_of D_L_law35 (i := 15) rfl) rfl (by decide) ?_
  refine s_iadd (n := 1808) hX (dec_of D_L_law35 (i := 16) rfl) rfl ?_
  refine s_sld (n := 1809) hX hsc (dec_of D_L_law35 (i := 17) rfl) rfl (fun v4 => ?_)
  refine s_aload_n 0 (n := 1810) hX (dec_of D_L_law35 (i := 18) rfl) rfl rfl rfl ?_
  refine s_iload 4 (n := 1812) hX (dec_of D_L_law35 (i := 19) rfl) rfl rfl ?_
  refine s_iconst (v := 2) (n := 1813) hX (dec_of D_L_law35 (i := 20) rfl) rfl (by decide) ?_
  refine s_iadd (n := 1814) hX (dec_of D_L_law35 (i := 21) rfl) rfl ?_
  refine s_sld (n := 1815) hX hsc (dec_of D_L_law35 (i := 22) rfl) rfl (fun v5 => ?_)
  refine s_callVP (c := 10) (n := 1818) hX cls10 (vk131 (by omega)) lk_RL_181 (dec_of D_L_law35 (i := 23) rfl) rfl (by decide) (c_X10_most (l := _) hG _ _ _) rfl rfl (Nat.le_of_ble_eq_true rfl) (fun q6 => ?_)
  refine s_icmp_eq (tgt := 2569) (n := 1821) hX (dec_of D_L_law35 (i := 24) rfl) rfl rfl ?_ ?_
  · refine s_wid ?_
    exact s_sub [0, 1, 2, 3, 4] rfl (hit q6.2)
  · exact s_bad (by decide)
theorem lk_RL_182 : LkV RL 182 RX9 yX9_ranked cX9_ranked 3 (some .int) 1 := ⟨wd_1041, wd_1042, wd_1043, wd_83, wd_1044, by decide +kernel, by decide⟩
theorem lk_RL_185 : LkV RL 185 RX10 yX10_ranked cX10_ranked 5 (some .int) 1 := ⟨wd_1918, wd_1919, wd_1920, wd_93, wd_1921, by decide +kernel, by decide⟩
def T_L_law36 : List (Nat × Instr × Nat) := [(1823, .aload_n 1, 1), (1824, .aload_n 0, 1), (1825, .iload 4, 2), (1827, .iconst 1, 1), (1828, .iadd, 1), (1829, .iaload, 1), (1830, .invokevirtual 182, 3), (1833, .aload_n 2, 1), (1834, .aload_n 0, 1), (1835, .iload 4, 2), (1837, .iconst 1, 1), (1838, .iadd, 1), (1839, .iaload, 1), (1840, .invokevirtual 185, 3), (1843, .if_icmp .eq 726, 3), (1846, .iconst 0, 1), (1847, .ireturn, 1)]
theorem D_L_law36 : dchk code T_L_law36 = true := by decide +kernel
def lawC36 (xs : Nat → Int32) (L : Nat) (rec : ST × Int32 → Option Int32) (σ : ST) (i : Int32) : Option Int32 :=
  bd_ (ldX xs L (i + 1)) (fun v1 => bd_ (Rp_ranked (σ) v1) (fun q2 => bd_ (ldX xs L (i + 1)) (fun v3 => bd_ (Mo_ranked (σ) v3) (fun q4 => (if q2 = q4.1 then rec (q4.2, i + 7) else some 0)))))
set_option maxHeartbeats 4000000 in
set_option maxRecDepth 100000 in
theorem s_lawC36 {G : GW} (hG : Good G) {X : CX} {b L : Nat} {xs : Nat → Int32} (hX : Ok G X code 7 RL 14) (hsc : Scr G X b L xs) {l : Launch} (hXl : X.2.1 = l) (hl0 : l.stackTraces = false) (hc : X.2.2.2.2.2.2.2.2.2.2.1 + 1 ≤ X.2.2.2.1.cells) (hs : X.2.2.2.2.2.2.2.2.2.2.2 + 6 ≤ X.2.2.2.1.slots) {σ : ST} {i : Int32} {rec : ST × Int32 → Option Int32} (hit : ∀ σ1, Sim G (bump X) 7 (LQ X b) σ1 2569 [(0, .ref b), (1, .ref (ga G 130 0)), (2, .ref (ga G 131 0)), (3, .ref (ga G 105 0)), (4, .int i)] [] (rec (σ1, i + 7))) : Sim G X 7 (LQ X b) σ 1823 [(0, .ref b), (1, .ref (ga G 130 0)), (2, .ref (ga G 131 0)), (3, .ref (ga G 105 0)), (4, .int i)] [] (lawC36 xs L rec σ i) := by
  unfold lawC36
  refine s_aload_n 1 (n := 1824) hX (dec_of D_L_law36 (i := 0) rfl) rfl rfl rfl ?_
  refine s_aload_n 0 (n := 1825) hX (dec_of D_L_law36 (i := 1) rfl) rfl rfl rfl ?_
  refine s_iload 4 (n := 1827) hX (dec_of D_L_law36 (i := 2) rfl) rfl rfl ?_
  refine s_iconst (v := 1) (n := 1828) hX (dec_of D_L_law36 (i := 3) rfl) rfl (by decide) ?_
  refine s_iadd (n := 1829) hX (dec_of D_L_law36 (i := 4) rfl) rfl ?_
  refine s_sld (n := 1830) hX hsc (dec_of D_L_law36 (i := 5) rfl) rfl (fun v1 => ?_)
  refine s_callVI (c := 9) (n := 1833) hX cls9 (vk130 (by omega)) lk_RL_182 (dec_of D_L_law36 (i := 6) rfl) rfl (by decide) (c_X9_ranked (l := _) hG _ _) rfl rfl (Nat.le_of_ble_eq_true rfl) (fun q2 => ?_)
  refine s_aload_n 2 (n := 1834) hX (dec_of D_L_law36 (i := 7) rfl) rfl rfl rfl ?_
  refine s_aload_n 0 (n := 1835) hX (dec_of D_L_law36 (i := 8) rfl) rfl rfl rfl ?_
  refine s_iload 4 (n := 1837) hX (dec_of D_L_law36 (i := 9) rfl) rfl rfl ?_
  refine s_iconst (v := 1) (n := 1838) hX (dec_of D_L_law36 (i := 10) rfl) rfl (by decide) ?_
  refine s_iadd (n := 1839) hX (dec_of D_L_law36 (i := 11) rfl) rfl ?_
  refine s_sld (n := 1840) hX hsc (dec_of D_L_law36 (i := 12) rfl) rfl (fun v3 => ?_)
  refine s_callVP (c := 10) (n := 1843) hX cls10 (vk131 (by omega)) lk_RL_185 (dec_of D_L_law36 (i := 13) rfl) rfl (by decide) (c_X10_ranked (l := _) hG _ _) rfl rfl (Nat.le_of_ble_eq_true rfl) (fun q4 => ?_)
  refine s_icmp_eq (tgt := 2569) (n := 1846) hX (dec_of D_L_law36 (i := 14) rfl) rfl rfl ?_ ?_
  · refine s_wid ?_
    exact s_sub [0, 1, 2, 3, 4] rfl (hit q4.2)
  · exact s_bad (by decide)
theorem lk_RL_186 : LkV RL 186 RX9 yX9_across cX9_across 5 (some .int) 3 := ⟨wd_1057, wd_1058, wd_1059, wd_83, wd_1060, by decide +kernel, by decide⟩
theorem lk_RL_190 : LkV RL 190 RX10 yX10_across cX10_across 4 (some .int) 3 := ⟨wd_1922, wd_1923, wd_1924, wd_93, wd_1925, by decide +kernel, by decide⟩
def T_L_law37 : List (Nat × Instr × Nat) := [(1848, .aload_n 1, 1), (1849, .aload_n 0, 1), (1850, .iload 4, 2), (1852, .iconst 1, 1), (1853, .iadd, 1), (1854, .iaload, 1), (1855, .aload_n 0, 1), (1856, .iload 4, 2), (1858, .iconst 2, 1), (1859, .iadd, 1), (1860, .iaload, 1), (1861, .aload_n 0, 1), (1862, .iload 4, 2), (1864, .iconst 3, 1), (1865, .iadd, 1), (1866, .iaload, 1), (1867, .ifCond .eq 7, 3), (1870, .iconst 1, 1), (1871, .goto 4, 3), (1874, .iconst 0, 1), (1875, .invokevirtual 186, 3), (1878, .aload_n 2, 1), (1879, .aload_n 0, 1), (1880, .iload 4, 2), (1882, .iconst 1, 1), (1883, .iadd, 1), (1884, .iaload, 1), (1885, .aload_n 0, 1), (1886, .iload 4, 2), (1888, .iconst 2, 1), (1889, .iadd, 1), (1890, .iaload, 1), (1891, .aload_n 0, 1), (1892, .iload 4, 2), (1894, .iconst 3, 1), (1895, .iadd, 1), (1896, .iaload, 1), (1897, .ifCond .eq 7, 3), (1900, .iconst 1, 1), (1901, .goto 4, 3), (1904, .iconst 0, 1), (1905, .invokevirtual 190, 3), (1908, .if_icmp .eq 661, 3), (1911, .iconst 0, 1), (1912, .ireturn, 1)]
theorem D_L_law37 : dchk code T_L_law37 = true := by decide +kernel
def lawC37 (xs : Nat → Int32) (L : Nat) (rec : ST × Int32 → Option Int32) (σ : ST) (i : Int32) : Option Int32 :=
  bd_ (ldX xs L (i + 1)) (fun v1 => bd_ (ldX xs L (i + 2)) (fun v2 => bd_ (ldX xs L (i + 3)) (fun v3 => (if v3 = 0 then bd_ (Rp_across (σ) v1 v2 0) (fun q4 => bd_ (ldX xs L (i + 1)) (fun v5 => bd_ (ldX xs L (i + 2)) (fun v6 => bd_ (ldX xs L (i + 3)) (fun v7 => (if v7 = 0 then bd_ (Mo_across (σ) v5 v6 0) (fun q8 => (if q4 = q8.1 then rec (q8.2, i + 7) else some 0)) else bd_ (Mo_across (σ) v5 v6 1) (fun q9 => (if q4 = q9.1 then rec (q9.2, i + 7) else some 0))))))) else bd_ (Rp_across (σ) v1 v2 1) (fun q10 => bd_ (ldX xs L (i + 1)) (fun v11 => bd_ (ldX xs L (i + 2)) (fun v12 => bd_ (ldX xs L (i + 3)) (fun v13 => (if v13 = 0 then bd_ (Mo_across (σ) v11 v12 0) (fun q14 => (if q10 = q14.1 then rec (q14.2, i + 7) else some 0)) else bd_ (Mo_across (σ) v11 v12 1) (fun q15 => (if q10 = q15.1 then rec (q15.2, i + 7) else some 0)))))))))))
set_option maxHeartbeats 4000000 in
set_option maxRecDepth 100000 in
theorem s_lawC37 {G : GW} (hG : Good G) {X : CX} {b L : Nat} {xs : Nat → Int32} (hX : Ok G X code 7 RL 14) (hsc : Scr G X b L xs) {l : Launch} (hXl : X.2.1 = l) (hl0 : l.stackTraces = false) (hc : X.2.2.2.2.2.2.2.2.2.2.1 + 1 ≤ X.2.2.2.1.cells) (hs : X.2.2.2.2.2.2.2.2.2.2.2 + 6 ≤ X.2.2.2.1.slots) {σ : ST} {i : Int32} {rec : ST × Int32 → Option Int32} (hit : ∀ σ1, Sim G (bump X) 7 (LQ X b) σ1 2569 [(0, .ref b), (1, .ref (ga G 130 0)), (2, .ref (ga G 131 0)), (3, .ref (ga G 105 0)), (4, .int i)] [] (rec (σ1, i + 7))) : Sim G X 7 (LQ X b) σ 1848 [(0, .ref b), (1, .ref (ga G 130 0)), (2, .ref (ga G 131 0)), (3, .ref (ga G 105 0)), (4, .int i)] [] (lawC37 xs L rec σ i) := by
  unfold lawC37
  refine s_aload_n 1 (n := 1849) hX (dec_of D_L_law37 (i := 0) rfl) rfl rfl rfl ?_
  refine s_aload_n 0 (n := 1850) hX (dec_of D_L_law37 (i := 1) rfl) rfl rfl rfl ?_
  refine s_iload 4 (n := 1852) hX (dec_of D_L_law37 (i := 2) rfl) rfl rfl ?_
  refine s_iconst (v := 1) (n := 1853) hX (dec_of D_L_law37 (i := 3) rfl) rfl (by decide) ?_
  refine s_iadd (n := 1854) hX (dec_of D_L_law37 (i := 4) rfl) rfl ?_
  refine s_sld (n := 1855) hX hsc (dec_of D_L_law37 (i := 5) rfl) rfl (fun v1 => ?_)
  refine s_aload_n 0 (n := 1856) hX (dec_of D_L_law37 (i := 6) rfl) rfl rfl rfl ?_
  refine s_iload 4 (n := 1858) hX (dec_of D_L_law37 (i := 7) rfl) rfl rfl ?_
  refine s_iconst (v := 2) (n := 1859) hX (dec_of D_L_law37 (i := 8) rfl) rfl (by decide) ?_
  refine s_iadd (n := 1860) hX (dec_of D_L_law37 (i := 9) rfl) rfl ?_
  refine s_sld (n := 1861) hX hsc (dec_of D_L_law37 (i := 10) rfl) rfl (fun v2 => ?_)
  refine s_aload_n 0 (n := 1862) hX (dec_of D_L_law37 (i := 11) rfl) rfl rfl rfl ?_
  refine s_iload 4 (n := 1864) hX (dec_of D_L_law37 (i := 12) rfl) rfl rfl ?_
  refine s_iconst (v := 3) (n := 1865) hX (dec_of D_L_law37 (i := 13) rfl) rfl (by decide) ?_
  refine s_iadd (n := 1866) hX (dec_of D_L_law37 (i := 14) rfl) rfl ?_
  refine s_sld (n := 1867) hX hsc (dec_of D_L_law37 (i := 15) rfl) rfl (fun v3 => ?_)
  refine s_if_eq (tgt := 1874) (n := 1870) hX (dec_of D_L_law37 (i := 16) rfl) rfl rfl ?_ ?_
  · refine s_iconst (v := 0) (n := 1875) hX (dec_of D_L_law37 (i := 19) rfl) rfl (by decide) ?_
    refine s_callVI (c := 9) (n := 1878) hX cls9 (vk130 (by omega)) lk_RL_186 (dec_of D_L_law37 (i := 20) rfl) rfl (by decide) (c_X9_across (l := _) hG _ _ _ _) rfl rfl (Nat.le_of_ble_eq_true rfl) (fun q4 => ?_)
    refine s_aload_n 2 (n := 1879) hX (dec_of D_L_law37 (i := 21) rfl) rfl rfl rfl ?_
    refine s_aload_n 0 (n := 1880) hX (dec_of D_L_law37 (i := 22) rfl) rfl rfl rfl ?_
    refine s_iload 4 (n := 1882) hX (dec_of D_L_law37 (i := 23) rfl) rfl rfl ?_
    refine s_iconst (v := 1) (n := 1883) hX (dec_of D_L_law37 (i := 24) rfl) rfl (by decide) ?_
    refine s_iadd (n := 1884) hX (dec_of D_L_law37 (i := 25) rfl) rfl ?_
    refine s_sld (n := 1885) hX hsc (dec_of D_L_law37 (i := 26) rfl) rfl (fun v5 => ?_)
    refine s_aload_n 0 (n := 1886) hX (dec_of D_L_law37 (i := 27) rfl) rfl rfl rfl ?_
    refine s_iload 4 (n := 1888) hX (dec_of D_L_law37 (i := 28) rfl) rfl rfl ?_
    refine s_iconst (v := 2) (n := 1889) hX (dec_of D_L_law37 (i := 29) rfl) rfl (by decide) ?_
    refine s_iadd (n := 1890) hX (dec_of D_L_law37 (i := 30) rfl) rfl ?_
    refine s_sld (n := 1891) hX hsc (dec_of D_L_law37 (i := 31) rfl) rfl (fun v6 => ?_)
    refine s_aload_n 0 (n := 1892) hX (dec_of D_L_law37 (i := 32) rfl) rfl rfl rfl ?_
    refine s_iload 4 (n := 1894) hX (dec_of D_L_law37 (i := 33) rfl) rfl rfl ?_
    refine s_iconst (v := 3) (n := 1895) hX (dec_of D_L_law37 (i := 34) rfl) rfl (by decide) ?_
    refine s_iadd (n := 1896) hX (dec_of D_L_law37 (i := 35) rfl) rfl ?_
    refine s_sld (n := 1897) hX hsc (dec_of D_L_law37 (i := 36) rfl) rfl (fun v7 => ?_)
    refine s_if_eq (tgt := 1904) (n := 1900) hX (dec_of D_L_law37 (i := 37) rfl) rfl rfl ?_ ?_
    · refine s_iconst (v := 0) (n := 1905) hX (dec_of D_L_law37 (i := 40) rfl) rfl (by decide) ?_
      refine s_callVP (c := 10) (n := 1908) hX cls10 (vk131 (by omega)) lk_RL_190 (dec_of D_L_law37 (i := 41) rfl) rfl (by decide) (c_X10_across (l := _) hG _ _ _ _) rfl rfl (Nat.le_of_ble_eq_true rfl) (fun q8 => ?_)
      refine s_icmp_eq (tgt := 2569) (n := 1911) hX (dec_of D_L_law37 (i := 42) rfl) rfl rfl ?_ ?_
      · refine s_wid ?_
        exact s_sub [0, 1, 2, 3, 4] rfl (hit q8.2)
      · exact s_bad (by decide)
    · refine s_iconst (v := 1) (n := 1901) hX (dec_of D_L_law37 (i := 38) rfl) rfl (by decide) ?_
      refine s_goto (n := 1905) hX (dec_of D_L_law37 (i := 39) rfl) rfl ?_
      refine s_callVP (c := 10) (n := 1908) hX cls10 (vk131 (by omega)) lk_RL_190 (dec_of D_L_law37 (i := 41) rfl) rfl (by decide) (c_X10_across (l := _) hG _ _ _ _) rfl rfl (Nat.le_of_ble_eq_true rfl) (fun q9 => ?_)
      refine s_icmp_eq (tgt := 2569) (n := 1911) hX (dec_of D_L_law37 (i := 42) rfl) rfl rfl ?_ ?_
      · refine s_wid ?_
        exact s_sub [0, 1, 2, 3, 4] rfl (hit q9.2)
      · exact s_bad (by decide)
  · refine s_iconst (v := 1) (n := 1871) hX (dec_of D_L_law37 (i := 17) rfl) rfl (by decide) ?_
    refine s_goto (n := 1875) hX (dec_of D_L_law37 (i := 18) rfl) rfl ?_
    refine s_callVI (c := 9) (n := 1878) hX cls9 (vk130 (by omega)) lk_RL_186 (dec_of D_L_law37 (i := 20) rfl) rfl (by decide) (c_X9_across (l := _) hG _ _ _ _) rfl rfl (Nat.le_of_ble_eq_true rfl) (fun q10 => ?_)
    refine s_aload_n 2 (n := 1879) hX (dec_of D_L_law37 (i := 21) rfl) rfl rfl rfl ?_
    refine s_aload_n 0 (n := 1880) hX (dec_of D_L_law37 (i := 22) rfl) rfl rfl rfl ?_
    refine s_iload 4 (n := 1882) hX (dec_of D_L_law37 (i := 23) rfl) rfl rfl ?_
    refine s_iconst (v := 1) (n := 1883) hX (dec_of D_L_law37 (i := 24) rfl) rfl (by decide) ?_
    refine s_iadd (n := 1884) hX (dec_of D_L_law37 (i := 25) rfl) rfl ?_
    refine s_sld (n := 1885) hX hsc (dec_of D_L_law37 (i := 26) rfl) rfl (fun v11 => ?_)
    refine s_aload_n 0 (n := 1886) hX (dec_of D_L_law37 (i := 27) rfl) rfl rfl rfl ?_
    refine s_iload 4 (n := 1888) hX (dec_of D_L_law37 (i := 28) rfl) rfl rfl ?_
    refine s_iconst (v := 2) (n := 1889) hX (dec_of D_L_law37 (i := 29) rfl) rfl (by decide) ?_
    refine s_iadd (n := 1890) hX (dec_of D_L_law37 (i := 30) rfl) rfl ?_
    refine s_sld (n := 1891) hX hsc (dec_of D_L_law37 (i := 31) rfl) rfl (fun v12 => ?_)
    refine s_aload_n 0 (n := 1892) hX (dec_of D_L_law37 (i := 32) rfl) rfl rfl rfl ?_
    refine s_iload 4 (n := 1894) hX (dec_of D_L_law37 (i := 33) rfl) rfl rfl ?_
    refine s_iconst (v := 3) (n := 1895) hX (dec_of D_L_law37 (i := 34) rfl) rfl (by decide) ?_
    refine s_iadd (n := 1896) hX (dec_of D_L_law37 (i := 35) rfl) rfl ?_
    refine s_sld (n := 1897) hX hsc (dec_of D_L_law37 (i := 36) rfl) rfl (fun v13 => ?_)
    refine s_if_eq (tgt := 1904) (n := 1900) hX (dec_of D_L_law37 (i := 37) rfl) rfl rfl ?_ ?_
    · refine s_iconst (v := 0) (n := 1905) hX (dec_of D_L_law37 (i := 40) rfl) rfl (by decide) ?_
      refine s_callVP (c := 10) (n := 1908) hX cls10 (vk131 (by omega)) lk_RL_190 (dec_of D_L_law37 (i := 41) rfl) rfl (by decide) (c_X10_across (l := _) hG _ _ _ _) rfl rfl (Nat.le_of_ble_eq_true rfl) (fun q14 => ?_)
      refine s_icmp_eq (tgt := 2569) (n := 1911) hX (dec_of D_L_law37 (i := 42) rfl) rfl rfl ?_ ?_
      · refine s_wid ?_
        exact s_sub [0, 1, 2, 3, 4] rfl (hit q14.2)
      · exact s_bad (by decide)
    · refine s_iconst (v := 1) (n := 1901) hX (dec_of D_L_law37 (i := 38) rfl) rfl (by decide) ?_
      refine s_goto (n := 1905) hX (dec_of D_L_law37 (i := 39) rfl) rfl ?_
      refine s_callVP (c := 10) (n := 1908) hX cls10 (vk131 (by omega)) lk_RL_190 (dec_of D_L_law37 (i := 41) rfl) rfl (by decide) (c_X10_across (l := _) hG _ _ _ _) rfl rfl (Nat.le_of_ble_eq_true rfl) (fun q15 => ?_)
      refine s_icmp_eq (tgt := 2569) (n := 1911) hX (dec_of D_L_law37 (i := 42) rfl) rfl rfl ?_ ?_
      · refine s_wid ?_
        exact s_sub [0, 1, 2, 3, 4] rfl (hit q15.2)
      · exact s_bad (by decide)
theorem lk_RL_191 : LkV RL 191 RX9 yX9_idle cX9_idle 3 (some .int) 0 := ⟨wd_710, wd_711, wd_712, wd_83, wd_713, by decide +kernel, by decide⟩
theorem lk_RL_194 : LkV RL 194 RX10 yX10_idle cX10_idle 5 (some .int) 0 := ⟨wd_1942, wd_1943, wd_1944, wd_93, wd_1945, by decide +kernel, by decide⟩
def T_L_law38 : List (Nat × Instr × Nat) := [(1913, .aload_n 1, 1), (1914, .invokevirtual 191, 3), (1917, .aload_n 2, 1), (1918, .invokevirtual 194, 3), (1921, .if_icmp .eq 648, 3), (1924, .iconst 0, 1), (1925, .ireturn, 1)]
theorem D_L_law38 : dchk code T_L_law38 = true := by decide +kernel
def lawC38 (xs : Nat → Int32) (L : Nat) (rec : ST × Int32 → Option Int32) (σ : ST) (i : Int32) : Option Int32 :=
  bd_ (Rp_idle (σ)) (fun q1 => bd_ (Mo_idle (σ)) (fun q2 => (if q1 = q2.1 then rec (q2.2, i + 7) else some 0)))
set_option maxHeartbeats 4000000 in
set_option maxRecDepth 100000 in
theorem s_lawC38 {G : GW} (hG : Good G) {X : CX} {b L : Nat} {xs : Nat → Int32} (hX : Ok G X code 7 RL 14) (hsc : Scr G X b L xs) {l : Launch} (hXl : X.2.1 = l) (hl0 : l.stackTraces = false) (hc : X.2.2.2.2.2.2.2.2.2.2.1 + 1 ≤ X.2.2.2.1.cells) (hs : X.2.2.2.2.2.2.2.2.2.2.2 + 6 ≤ X.2.2.2.1.slots) {σ : ST} {i : Int32} {rec : ST × Int32 → Option Int32} (hit : ∀ σ1, Sim G (bump X) 7 (LQ X b) σ1 2569 [(0, .ref b), (1, .ref (ga G 130 0)), (2, .ref (ga G 131 0)), (3, .ref (ga G 105 0)), (4, .int i)] [] (rec (σ1, i + 7))) : Sim G X 7 (LQ X b) σ 1913 [(0, .ref b), (1, .ref (ga G 130 0)), (2, .ref (ga G 131 0)), (3, .ref (ga G 105 0)), (4, .int i)] [] (lawC38 xs L rec σ i) := by
  unfold lawC38
  refine s_aload_n 1 (n := 1914) hX (dec_of D_L_law38 (i := 0) rfl) rfl rfl rfl ?_
  refine s_callVI (c := 9) (n := 1917) hX cls9 (vk130 (by omega)) lk_RL_191 (dec_of D_L_law38 (i := 1) rfl) rfl (by decide) (c_X9_idle (l := _) hG _) rfl rfl (Nat.le_of_ble_eq_true rfl) (fun q1 => ?_)
  refine s_aload_n 2 (n := 1918) hX (dec_of D_L_law38 (i := 2) rfl) rfl rfl rfl ?_
  refine s_callVP (c := 10) (n := 1921) hX cls10 (vk131 (by omega)) lk_RL_194 (dec_of D_L_law38 (i := 3) rfl) rfl (by decide) (c_X10_idle (l := _) hG _) rfl rfl (Nat.le_of_ble_eq_true rfl) (fun q2 => ?_)
  refine s_icmp_eq (tgt := 2569) (n := 1924) hX (dec_of D_L_law38 (i := 4) rfl) rfl rfl ?_ ?_
  · refine s_wid ?_
    exact s_sub [0, 1, 2, 3, 4] rfl (hit q2.2)
  · exact s_bad (by decide)
theorem lk_RL_195 : LkV RL 195 RX9 yX9_nextLapse cX9_nextLapse 3 (some .int) 1 := ⟨wd_1020, wd_1021, wd_1022, wd_83, wd_1023, by decide +kernel, by decide⟩
theorem lk_RL_198 : LkV RL 198 RX10 yX10_nextLapse cX10_nextLapse 3 (some .int) 1 := ⟨wd_1861, wd_1862, wd_1863, wd_93, wd_1864, by decide +kernel, by decide⟩
def T_L_law39 : List (Nat × Instr × Nat) := [(1926, .aload_n 1, 1), (1927, .aload_n 0, 1), (1928, .iload 4, 2), (1930, .iconst 1, 1), (1931, .iadd, 1), (1932, .iaload, 1), (1933, .invokevirtual 195, 3), (1936, .aload_n 2, 1), (1937, .aload_n 0, 1), (1938, .iload 4, 2), (1940, .iconst 1, 1), (1941, .iadd, 1), (1942, .iaload, 1), (1943, .invokevirtual 198, 3), (1946, .if_icmp .eq 623, 3), (1949, .iconst 0, 1), (1950, .ireturn, 1)]
theorem D_L_law39 : dchk code T_L_law39 = true := by decide +kernel
def lawC39 (xs : Nat → Int32) (L : Nat) (rec : ST × Int32 → Option Int32) (σ : ST) (i : Int32) : Option Int32 :=
  bd_ (ldX xs L (i + 1)) (fun v1 => bd_ (Rp_nextLapse (σ) v1) (fun q2 => bd_ (ldX xs L (i + 1)) (fun v3 => bd_ (Mo_nextLapse (σ) v3) (fun q4 => (if q2 = q4.1 then rec (q4.2, i + 7) else some 0)))))
set_option maxHeartbeats 4000000 in
set_option maxRecDepth 100000 in
theorem s_lawC39 {G : GW} (hG : Good G) {X : CX} {b L : Nat} {xs : Nat → Int32} (hX : Ok G X code 7 RL 14) (hsc : Scr G X b L xs) {l : Launch} (hXl : X.2.1 = l) (hl0 : l.stackTraces = false) (hc : X.2.2.2.2.2.2.2.2.2.2.1 + 1 ≤ X.2.2.2.1.cells) (hs : X.2.2.2.2.2.2.2.2.2.2.2 + 6 ≤ X.2.2.2.1.slots) {σ : ST} {i : Int32} {rec : ST × Int32 → Option Int32} (hit : ∀ σ1, Sim G (bump X) 7 (LQ X b) σ1 2569 [(0, .ref b), (1, .ref (ga G 130 0)), (2, .ref (ga G 131 0)), (3, .ref (ga G 105 0)), (4, .int i)] [] (rec (σ1, i + 7))) : Sim G X 7 (LQ X b) σ 1926 [(0, .ref b), (1, .ref (ga G 130 0)), (2, .ref (ga G 131 0)), (3, .ref (ga G 105 0)), (4, .int i)] [] (lawC39 xs L rec σ i) := by
  unfold lawC39
  refine s_aload_n 1 (n := 1927) hX (dec_of D_L_law39 (i := 0) rfl) rfl rfl rfl ?_
  refine s_aload_n 0 (n := 1928) hX (dec_of D_L_law39 (i := 1) rfl) rfl rfl rfl ?_
  refine s_iload 4 (n := 1930) hX (dec_of D_L_law39 (i := 2) rfl) rfl rfl ?_
  refine s_iconst (v := 1) (n := 1931) hX (dec_of D_L_law39 (i := 3) rfl) rfl (by decide) ?_
  refine s_iadd (n := 1932) hX (dec_of D_L_law39 (i := 4) rfl) rfl ?_
  refine s_sld (n := 1933) hX hsc (dec_of D_L_law39 (i := 5) rfl) rfl (fun v1 => ?_)
  refine s_callVI (c := 9) (n := 1936) hX cls9 (vk130 (by omega)) lk_RL_195 (dec_of D_L_law39 (i := 6) rfl) rfl (by decide) (c_X9_nextLapse (l := _) hG _ _) rfl rfl (Nat.le_of_ble_eq_true rfl) (fun q2 => ?_)
  refine s_aload_n 2 (n := 1937) hX (dec_of D_L_law39 (i := 7) rfl) rfl rfl rfl ?_
  refine s_aload_n 0 (n := 1938) hX (dec_of D_L_law39 (i := 8) rfl) rfl rfl rfl ?_
  refine s_iload 4 (n := 1940) hX (dec_of D_L_law39 (i := 9) rfl) rfl rfl ?_
  refine s_iconst (v := 1) (n := 1941) hX (dec_of D_L_law39 (i := 10) rfl) rfl (by decide) ?_
  refine s_iadd (n := 1942) hX (dec_of D_L_law39 (i := 11) rfl) rfl ?_
  refine s_sld (n := 1943) hX hsc (dec_of D_L_law39 (i := 12) rfl) rfl (fun v3 => ?_)
  refine s_callVP (c := 10) (n := 1946) hX cls10 (vk131 (by omega)) lk_RL_198 (dec_of D_L_law39 (i := 13) rfl) rfl (by decide) (c_X10_nextLapse (l := _) hG _ _) rfl rfl (Nat.le_of_ble_eq_true rfl) (fun q4 => ?_)
  refine s_icmp_eq (tgt := 2569) (n := 1949) hX (dec_of D_L_law39 (i := 14) rfl) rfl rfl ?_ ?_
  · refine s_wid ?_
    exact s_sub [0, 1, 2, 3, 4] rfl (hit q4.2)
  · exact s_bad (by decide)
theorem lk_RL_199 : LkV RL 199 RX9 yX9_bestLand cX9_bestLand 8 (some .int) 4 := ⟨wd_1158, wd_1159, wd_1160, wd_83, wd_1161, by decide +kernel, by decide⟩
theorem lk_RL_202 : LkV RL 202 RX10 yX10_bestLand cX10_bestLand 9 (some .int) 4 := ⟨wd_1946, wd_1947, wd_1948, wd_93, wd_1949, by decide +kernel, by decide⟩
def T_L_law40 : List (Nat × Instr × Nat) := [(1951, .aload_n 1, 1), (1952, .aload_n 0, 1), (1953, .iload 4, 2), (1955, .iconst 1, 1), (1956, .iadd, 1), (1957, .iaload, 1), (1958, .aload_n 0, 1), (1959, .iload 4, 2), (1961, .iconst 2, 1), (1962, .iadd, 1), (1963, .iaload, 1), (1964, .aload_n 0, 1), (1965, .iload 4, 2), (1967, .iconst 3, 1), (1968, .iadd, 1), (1969, .iaload, 1), (1970, .aload_n 0, 1), (1971, .iload 4, 2), (1973, .iconst 4, 1), (1974, .iadd, 1), (1975, .iaload, 1), (1976, .invokevirtual 199, 3), (1979, .aload_n 2, 1), (1980, .aload_n 0, 1), (1981, .iload 4, 2), (1983, .iconst 1, 1), (1984, .iadd, 1), (1985, .iaload, 1), (1986, .aload_n 0, 1), (1987, .iload 4, 2), (1989, .iconst 2, 1), (1990, .iadd, 1), (1991, .iaload, 1), (1992, .aload_n 0, 1), (1993, .iload 4, 2), (1995, .iconst 3, 1), (1996, .iadd, 1), (1997, .iaload, 1), (1998, .aload_n 0, 1), (1999, .iload 4, 2), (2001, .iconst 4, 1), (2002, .iadd, 1), (2003, .iaload, 1), (2004, .invokevirtual 202, 3), (2007, .if_icmp .eq 562, 3), (2010, .iconst 0, 1), (2011, .ireturn, 1)]
theorem D_L_law40 : dchk code T_L_law40 = true := by decide +kernel
def lawC40 (xs : Nat → Int32) (L : Nat) (rec : ST × Int32 → Option Int32) (σ : ST) (i : Int32) : Option Int32 :=
  bd_ (ldX xs L (i + 1)) (fun v1 => bd_ (ldX xs L (i + 2)) (fun v2 => bd_ (ldX xs L (i + 3)) (fun v3 => bd_ (ldX xs L (i + 4)) (fun v4 => bd_ (Rp_bestLand (σ) v1 v2 v3 v4) (fun q5 => bd_ (ldX xs L (i + 1)) (fun v6 => bd_ (ldX xs L (i + 2)) (fun v7 => bd_ (ldX xs L (i + 3)) (fun v8 => bd_ (ldX xs L (i + 4)) (fun v9 => bd_ (Mo_bestLand q5.2 v6 v7 v8 v9) (fun q10 => (if q5.1 = q10.1 then rec (q10.2, i + 7) else some 0)))))))))))
set_option maxHeartbeats 4000000 in
set_option maxRecDepth 100000 in
theorem s_lawC40 {G : GW} (hG : Good G) {X : CX} {b L : Nat} {xs : Nat → Int32} (hX : Ok G X code 7 RL 14) (hsc : Scr G X b L xs) {l : Launch} (hXl : X.2.1 = l) (hl0 : l.stackTraces = false) (hc : X.2.2.2.2.2.2.2.2.2.2.1 + 1 ≤ X.2.2.2.1.cells) (hs : X.2.2.2.2.2.2.2.2.2.2.2 + 6 ≤ X.2.2.2.1.slots) {σ : ST} {i : Int32} {rec : ST × Int32 → Option Int32} (hit : ∀ σ1, Sim G (bump X) 7 (LQ X b) σ1 2569 [(0, .ref b), (1, .ref (ga G 130 0)), (2, .ref (ga G 131 0)), (3, .ref (ga G 105 0)), (4, .int i)] [] (rec (σ1, i + 7))) : Sim G X 7 (LQ X b) σ 1951 [(0, .ref b), (1, .ref (ga G 130 0)), (2, .ref (ga G 131 0)), (3, .ref (ga G 105 0)), (4, .int i)] [] (lawC40 xs L rec σ i) := by
  unfold lawC40
  refine s_aload_n 1 (n := 1952) hX (dec_of D_L_law40 (i := 0) rfl) rfl rfl rfl ?_
  refine s_aload_n 0 (n := 1953) hX (dec_of D_L_law40 (i := 1) rfl) rfl rfl rfl ?_
  refine s_iload 4 (n := 1955) hX (dec_of D_L_law40 (i := 2) rfl) rfl rfl ?_
  refine s_iconst (v := 1) (n := 1956) hX (dec_of D_L_law40 (i := 3) rfl) rfl (by decide) ?_
  refine s_iadd (n := 1957) hX (dec_of D_L_law40 (i := 4) rfl) rfl ?_
  refine s_sld (n := 1958) hX hsc (dec_of D_L_law40 (i := 5) rfl) rfl (fun v1 => ?_)
  refine s_aload_n 0 (n := 1959) hX (dec_of D_L_law40 (i := 6) rfl) rfl rfl rfl ?_
  refine s_iload 4 (n := 1961) hX (dec_of D_L_law40 (i := 7) rfl) rfl rfl ?_
  refine s_iconst (v := 2) (n := 1962) hX (dec_of D_L_law40 (i := 8) rfl) rfl (by decide) ?_
  refine s_iadd (n := 1963) hX (dec_of D_L_law40 (i := 9) rfl) rfl ?_
  refine s_sld (n := 1964) hX hsc (dec_of D_L_law40 (i := 10) rfl) rfl (fun v2 => ?_)
  refine s_aload_n 0 (n := 1965) hX (dec_of D_L_law40 (i := 11) rfl) rfl rfl rfl ?_
  refine s_iload 4 (n := 1967) hX (dec_of D_L_law40 (i := 12) rfl) rfl rfl ?_
  refine s_iconst (v := 3) (n := 1968) hX (dec_of D_L_law40 (i := 13) rfl) rfl (by decide) ?_
  refine s_iadd (n := 1969) hX (dec_of D_L_law40 (i := 14) rfl) rfl ?_
  refine s_sld (n := 1970) hX hsc (dec_of D_L_law40 (i := 15) rfl) rfl (fun v3 => ?_)
  refine s_aload_n 0 (n := 1971) hX (dec_of D_L_law40 (i := 16) rfl) rfl rfl rfl ?_
  refine s_iload 4 (n := 1973) hX (dec_of D_L_law40 (i := 17) rfl) rfl rfl ?_
  refine s_iconst (v := 4) (n := 1974) hX (dec_of D_L_law40 (i := 18) rfl) rfl (by decide) ?_
  refine s_iadd (n := 1975) hX (dec_of D_L_law40 (i := 19) rfl) rfl ?_
  refine s_sld (n := 1976) hX hsc (dec_of D_L_law40 (i := 20) rfl) rfl (fun v4 => ?_)
  refine s_callVP (c := 9) (n := 1979) hX cls9 (vk130 (by omega)) lk_RL_199 (dec_of D_L_law40 (i := 21) rfl) rfl (by decide) (c_X9_bestLand (l := _) hG _ _ _ _ _) rfl rfl (Nat.le_of_ble_eq_true rfl) (fun q5 => ?_)
  refine s_aload_n 2 (n := 1980) hX (dec_of D_L_law40 (i := 22) rfl) rfl rfl rfl ?_
  refine s_aload_n 0 (n := 1981) hX (dec_of D_L_law40 (i := 23) rfl) rfl rfl rfl ?_
  refine s_iload 4 (n := 1983) hX (dec_of D_L_law40 (i := 24) rfl) rfl rfl ?_
  refine s_iconst (v := 1) (n := 1984) hX (dec_of D_L_law40 (i := 25) rfl) rfl (by decide) ?_
  refine s_iadd (n := 1985) hX (dec_of D_L_law40 (i := 26) rfl) rfl ?_
  refine s_sld (n := 1986) hX hsc (dec_of D_L_law40 (i := 27) rfl) rfl (fun v6 => ?_)
  refine s_aload_n 0 (n := 1987) hX (dec_of D_L_law40 (i := 28) rfl) rfl rfl rfl ?_
  refine s_iload 4 (n := 1989) hX (dec_of D_L_law40 (i := 29) rfl) rfl rfl ?_
  refine s_iconst (v := 2) (n := 1990) hX (dec_of D_L_law40 (i := 30) rfl) rfl (by decide) ?_
  refine s_iadd (n := 1991) hX (dec_of D_L_law40 (i := 31) rfl) rfl ?_
  refine s_sld (n := 1992) hX hsc (dec_of D_L_law40 (i := 32) rfl) rfl (fun v7 => ?_)
  refine s_aload_n 0 (n := 1993) hX (dec_of D_L_law40 (i := 33) rfl) rfl rfl rfl ?_
  refine s_iload 4 (n := 1995) hX (dec_of D_L_law40 (i := 34) rfl) rfl rfl ?_
  refine s_iconst (v := 3) (n := 1996) hX (dec_of D_L_law40 (i := 35) rfl) rfl (by decide) ?_
  refine s_iadd (n := 1997) hX (dec_of D_L_law40 (i := 36) rfl) rfl ?_
  refine s_sld (n := 1998) hX hsc (dec_of D_L_law40 (i := 37) rfl) rfl (fun v8 => ?_)
  refine s_aload_n 0 (n := 1999) hX (dec_of D_L_law40 (i := 38) rfl) rfl rfl rfl ?_
  refine s_iload 4 (n := 2001) hX (dec_of D_L_law40 (i := 39) rfl) rfl rfl ?_
  refine s_iconst (v := 4) (n := 2002) hX (dec_of D_L_law40 (i := 40) rfl) rfl (by decide) ?_
  refine s_iadd (n := 2003) hX (dec_of D_L_law40 (i := 41) rfl) rfl ?_
  refine s_sld (n := 2004) hX hsc (dec_of D_L_law40 (i := 42) rfl) rfl (fun v9 => ?_)
  refine s_callVP (c := 10) (n := 2007) hX cls10 (vk131 (by omega)) lk_RL_202 (dec_of D_L_law40 (i := 43) rfl) rfl (by decide) (c_X10_bestLand (l := _) hG _ _ _ _ _) rfl rfl (Nat.le_of_ble_eq_true rfl) (fun q10 => ?_)
  refine s_icmp_eq (tgt := 2569) (n := 2010) hX (dec_of D_L_law40 (i := 44) rfl) rfl rfl ?_ ?_
  · refine s_wid ?_
    exact s_sub [0, 1, 2, 3, 4] rfl (hit q10.2)
  · exact s_bad (by decide)
theorem lk_RL_203 : LkV RL 203 RX9 yX9_net cX9_net 2 (some .int) 1 := ⟨wd_1066, wd_1067, wd_1068, wd_83, wd_1069, by decide +kernel, by decide⟩
theorem lk_RL_206 : LkV RL 206 RX10 yX10_net cX10_net 2 (some .int) 1 := ⟨wd_1930, wd_1931, wd_1932, wd_93, wd_1933, by decide +kernel, by decide⟩
def T_L_law41 : List (Nat × Instr × Nat) := [(2012, .aload_n 1, 1), (2013, .aload_n 0, 1), (2014, .iload 4, 2), (2016, .iconst 1, 1), (2017, .iadd, 1), (2018, .iaload, 1), (2019, .invokevirtual 203, 3), (2022, .aload_n 2, 1), (2023, .aload_n 0, 1), (2024, .iload 4, 2), (2026, .iconst 1, 1), (2027, .iadd, 1), (2028, .iaload, 1), (2029, .invokevirtual 206, 3), (2032, .if_icmp .eq 537, 3), (2035, .iconst 0, 1), (2036, .ireturn, 1)]
theorem D_L_law41 : dchk code T_L_law41 = true := by decide +kernel
def lawC41 (xs : Nat → Int32) (L : Nat) (rec : ST × Int32 → Option Int32) (σ : ST) (i : Int32) : Option Int32 :=
  bd_ (ldX xs L (i + 1)) (fun v1 => bd_ (Rp_net (σ) v1) (fun q2 => bd_ (ldX xs L (i + 1)) (fun v3 => bd_ (Mo_net (σ) v3) (fun q4 => (if q2 = q4.1 then rec (q4.2, i + 7) else some 0)))))
set_option maxHeartbeats 4000000 in
set_option maxRecDepth 100000 in
theorem s_lawC41 {G : GW} (hG : Good G) {X : CX} {b L : Nat} {xs : Nat → Int32} (hX : Ok G X code 7 RL 14) (hsc : Scr G X b L xs) {l : Launch} (hXl : X.2.1 = l) (hl0 : l.stackTraces = false) (hc : X.2.2.2.2.2.2.2.2.2.2.1 + 1 ≤ X.2.2.2.1.cells) (hs : X.2.2.2.2.2.2.2.2.2.2.2 + 6 ≤ X.2.2.2.1.slots) {σ : ST} {i : Int32} {rec : ST × Int32 → Option Int32} (hit : ∀ σ1, Sim G (bump X) 7 (LQ X b) σ1 2569 [(0, .ref b), (1, .ref (ga G 130 0)), (2, .ref (ga G 131 0)), (3, .ref (ga G 105 0)), (4, .int i)] [] (rec (σ1, i + 7))) : Sim G X 7 (LQ X b) σ 2012 [(0, .ref b), (1, .ref (ga G 130 0)), (2, .ref (ga G 131 0)), (3, .ref (ga G 105 0)), (4, .int i)] [] (lawC41 xs L rec σ i) := by
  unfold lawC41
  refine s_aload_n 1 (n := 2013) hX (dec_of D_L_law41 (i := 0) rfl) rfl rfl rfl ?_
  refine s_aload_n 0 (n := 2014) hX (dec_of D_L_law41 (i := 1) rfl) rfl rfl rfl ?_
  refine s_iload 4 (n := 2016) hX (dec_of D_L_law41 (i := 2) rfl) rfl rfl ?_
  refine s_iconst (v := 1) (n := 2017) hX (dec_of D_L_law41 (i := 3) rfl) rfl (by decide) ?_
  refine s_iadd (n := 2018) hX (dec_of D_L_law41 (i := 4) rfl) rfl ?_
  refine s_sld (n := 2019) hX hsc (dec_of D_L_law41 (i := 5) rfl) rfl (fun v1 => ?_)
  refine s_callVI (c := 9) (n := 2022) hX cls9 (vk130 (by omega)) lk_RL_203 (dec_of D_L_law41 (i := 6) rfl) rfl (by decide) (c_X9_net (l := _) hG _ _) rfl rfl (Nat.le_of_ble_eq_true rfl) (fun q2 => ?_)
  refine s_aload_n 2 (n := 2023) hX (dec_of D_L_law41 (i := 7) rfl) rfl rfl rfl ?_
  refine s_aload_n 0 (n := 2024) hX (dec_of D_L_law41 (i := 8) rfl) rfl rfl rfl ?_
  refine s_iload 4 (n := 2026) hX (dec_of D_L_law41 (i := 9) rfl) rfl rfl ?_
  refine s_iconst (v := 1) (n := 2027) hX (dec_of D_L_law41 (i := 10) rfl) rfl (by decide) ?_
  refine s_iadd (n := 2028) hX (dec_of D_L_law41 (i := 11) rfl) rfl ?_
  refine s_sld (n := 2029) hX hsc (dec_of D_L_law41 (i := 12) rfl) rfl (fun v3 => ?_)
  refine s_callVP (c := 10) (n := 2032) hX cls10 (vk131 (by omega)) lk_RL_206 (dec_of D_L_law41 (i := 13) rfl) rfl (by decide) (c_X10_net (l := _) hG _ _) rfl rfl (Nat.le_of_ble_eq_true rfl) (fun q4 => ?_)
  refine s_icmp_eq (tgt := 2569) (n := 2035) hX (dec_of D_L_law41 (i := 14) rfl) rfl rfl ?_ ?_
  · refine s_wid ?_
    exact s_sub [0, 1, 2, 3, 4] rfl (hit q4.2)
  · exact s_bad (by decide)
theorem lk_RL_207 : LkV RL 207 RX9 yX9_extreme cX9_extreme 5 (some .int) 1 := ⟨wd_1075, wd_1076, wd_1077, wd_83, wd_1078, by decide +kernel, by decide⟩
theorem lk_RL_210 : LkV RL 210 RX10 yX10_extreme cX10_extreme 4 (some .int) 1 := ⟨wd_1938, wd_1939, wd_1940, wd_93, wd_1941, by decide +kernel, by decide⟩
def T_L_law42 : List (Nat × Instr × Nat) := [(2037, .aload_n 1, 1), (2038, .aload_n 0, 1), (2039, .iload 4, 2), (2041, .iconst 1, 1), (2042, .iadd, 1), (2043, .iaload, 1), (2044, .invokevirtual 207, 3), (2047, .aload_n 2, 1), (2048, .aload_n 0, 1), (2049, .iload 4, 2), (2051, .iconst 1, 1), (2052, .iadd, 1), (2053, .iaload, 1), (2054, .invokevirtual 210, 3), (2057, .if_icmp .eq 512, 3), (2060, .iconst 0, 1), (2061, .ireturn, 1)]
theorem D_L_law42 : dchk code T_L_law42 = true := by decide +kernel
def lawC42 (xs : Nat → Int32) (L : Nat) (rec : ST × Int32 → Option Int32) (σ : ST) (i : Int32) : Option Int32 :=
  bd_ (ldX xs L (i + 1)) (fun v1 => bd_ (Rp_extreme (σ) v1) (fun q2 => bd_ (ldX xs L (i + 1)) (fun v3 => bd_ (Mo_extreme (σ) v3) (fun q4 => (if q2 = q4.1 then rec (q4.2, i + 7) else some 0)))))
set_option maxHeartbeats 4000000 in
set_option maxRecDepth 100000 in
theorem s_lawC42 {G : GW} (hG : Good G) {X : CX} {b L : Nat} {xs : Nat → Int32} (hX : Ok G X code 7 RL 14) (hsc : Scr G X b L xs) {l : Launch} (hXl : X.2.1 = l) (hl0 : l.stackTraces = false) (hc : X.2.2.2.2.2.2.2.2.2.2.1 + 1 ≤ X.2.2.2.1.cells) (hs : X.2.2.2.2.2.2.2.2.2.2.2 + 6 ≤ X.2.2.2.1.slots) {σ : ST} {i : Int32} {rec : ST × Int32 → Option Int32} (hit : ∀ σ1, Sim G (bump X) 7 (LQ X b) σ1 2569 [(0, .ref b), (1, .ref (ga G 130 0)), (2, .ref (ga G 131 0)), (3, .ref (ga G 105 0)), (4, .int i)] [] (rec (σ1, i + 7))) : Sim G X 7 (LQ X b) σ 2037 [(0, .ref b), (1, .ref (ga G 130 0)), (2, .ref (ga G 131 0)), (3, .ref (ga G 105 0)), (4, .int i)] [] (lawC42 xs L rec σ i) := by
  unfold lawC42
  refine s_aload_n 1 (n := 2038) hX (dec_of D_L_law42 (i := 0) rfl) rfl rfl rfl ?_
  refine s_aload_n 0 (n := 2039) hX (dec_of D_L_law42 (i := 1) rfl) rfl rfl rfl ?_
  refine s_iload 4 (n := 2041) hX (dec_of D_L_law42 (i := 2) rfl) rfl rfl ?_
  refine s_iconst (v := 1) (n := 2042) hX (dec_of D_L_law42 (i := 3) rfl) rfl (by decide) ?_
  refine s_iadd (n := 2043) hX (dec_of D_L_law42 (i := 4) rfl) rfl ?_
  refine s_sld (n := 2044) hX hsc (dec_of D_L_law42 (i := 5) rfl) rfl (fun v1 => ?_)
  refine s_callVI (c := 9) (n := 2047) hX cls9 (vk130 (by omega)) lk_RL_207 (dec_of D_L_law42 (i := 6) rfl) rfl (by decide) (c_X9_extreme (l := _) hG _ _) rfl rfl (Nat.le_of_ble_eq_true rfl) (fun q2 => ?_)
  refine s_aload_n 2 (n := 2048) hX (dec_of D_L_law42 (i := 7) rfl) rfl rfl rfl ?_
  refine s_aload_n 0 (n := 2049) hX (dec_of D_L_law42 (i := 8) rfl) rfl rfl rfl ?_
  refine s_iload 4 (n := 2051) hX (dec_of D_L_law42 (i := 9) rfl) rfl rfl ?_
  refine s_iconst (v := 1) (n := 2052) hX (dec_of D_L_law42 (i := 10) rfl) rfl (by decide) ?_
  refine s_iadd (n := 2053) hX (dec_of D_L_law42 (i := 11) rfl) rfl ?_
  refine s_sld (n := 2054) hX hsc (dec_of D_L_law42 (i := 12) rfl) rfl (fun v3 => ?_)
  refine s_callVP (c := 10) (n := 2057) hX cls10 (vk131 (by omega)) lk_RL_210 (dec_of D_L_law42 (i := 13) rfl) rfl (by decide) (c_X10_extreme (l := _) hG _ _) rfl rfl (Nat.le_of_ble_eq_true rfl) (fun q4 => ?_)
  refine s_icmp_eq (tgt := 2569) (n := 2060) hX (dec_of D_L_law42 (i := 14) rfl) rfl rfl ?_ ?_
  · refine s_wid ?_
    exact s_sub [0, 1, 2, 3, 4] rfl (hit q4.2)
  · exact s_bad (by decide)
theorem lk_RL_211 : LkV RL 211 RX9 yX9_round cX9_round 3 (some .int) 2 := ⟨wd_1162, wd_1163, wd_1164, wd_83, wd_1165, by decide +kernel, by decide⟩
theorem lk_RL_214 : LkV RL 214 RX10 yX10_round cX10_round 5 (some .int) 2 := ⟨wd_1950, wd_1951, wd_1952, wd_93, wd_1953, by decide +kernel, by decide⟩
def T_L_law43 : List (Nat × Instr × Nat) := [(2062, .aload_n 1, 1), (2063, .aload_n 0, 1), (2064, .iload 4, 2), (2066, .iconst 1, 1), (2067, .iadd, 1), (2068, .iaload, 1), (2069, .aload_n 0, 1), (2070, .iload 4, 2), (2072, .iconst 2, 1), (2073, .iadd, 1), (2074, .iaload, 1), (2075, .invokevirtual 211, 3), (2078, .aload_n 2, 1), (2079, .aload_n 0, 1), (2080, .iload 4, 2), (2082, .iconst 1, 1), (2083, .iadd, 1), (2084, .iaload, 1), (2085, .aload_n 0, 1), (2086, .iload 4, 2), (2088, .iconst 2, 1), (2089, .iadd, 1), (2090, .iaload, 1), (2091, .invokevirtual 214, 3), (2094, .if_icmp .eq 475, 3), (2097, .iconst 0, 1), (2098, .ireturn, 1)]
theorem D_L_law43 : dchk code T_L_law43 = true := by decide +kernel
def lawC43 (xs : Nat → Int32) (L : Nat) (rec : ST × Int32 → Option Int32) (σ : ST) (i : Int32) : Option Int32 :=
  bd_ (ldX xs L (i + 1)) (fun v1 => bd_ (ldX xs L (i + 2)) (fun v2 => bd_ (Rp_round (σ) v1 v2) (fun q3 => bd_ (ldX xs L (i + 1)) (fun v4 => bd_ (ldX xs L (i + 2)) (fun v5 => bd_ (Mo_round q3.2 v4 v5) (fun q6 => (if q3.1 = q6.1 then rec (q6.2, i + 7) else some 0)))))))
set_option maxHeartbeats 4000000 in
set_option maxRecDepth 100000 in
theorem s_lawC43 {G : GW} (hG : Good G) {X : CX} {b L : Nat} {xs : Nat → Int32} (hX : Ok G X code 7 RL 14) (hsc : Scr G X b L xs) {l : Launch} (hXl : X.2.1 = l) (hl0 : l.stackTraces = false) (hc : X.2.2.2.2.2.2.2.2.2.2.1 + 1 ≤ X.2.2.2.1.cells) (hs : X.2.2.2.2.2.2.2.2.2.2.2 + 6 ≤ X.2.2.2.1.slots) {σ : ST} {i : Int32} {rec : ST × Int32 → Option Int32} (hit : ∀ σ1, Sim G (bump X) 7 (LQ X b) σ1 2569 [(0, .ref b), (1, .ref (ga G 130 0)), (2, .ref (ga G 131 0)), (3, .ref (ga G 105 0)), (4, .int i)] [] (rec (σ1, i + 7))) : Sim G X 7 (LQ X b) σ 2062 [(0, .ref b), (1, .ref (ga G 130 0)), (2, .ref (ga G 131 0)), (3, .ref (ga G 105 0)), (4, .int i)] [] (lawC43 xs L rec σ i) := by
  unfold lawC43
  refine s_aload_n 1 (n := 2063) hX (dec_of D_L_law43 (i := 0) rfl) rfl rfl rfl ?_
  refine s_aload_n 0 (n := 2064) hX (dec_of D_L_law43 (i := 1) rfl) rfl rfl rfl ?_
  refine s_iload 4 (n := 2066) hX (dec_of D_L_law43 (i := 2) rfl) rfl rfl ?_
  refine s_iconst (v := 1) (n := 2067) hX (dec_of D_L_law43 (i := 3) rfl) rfl (by decide) ?_
  refine s_iadd (n := 2068) hX (dec_of D_L_law43 (i := 4) rfl) rfl ?_
  refine s_sld (n := 2069) hX hsc (dec_of D_L_law43 (i := 5) rfl) rfl (fun v1 => ?_)
  refine s_aload_n 0 (n := 2070) hX (dec_of D_L_law43 (i := 6) rfl) rfl rfl rfl ?_
  refine s_iload 4 (n := 2072) hX (dec_of D_L_law43 (i := 7) rfl) rfl rfl ?_
  refine s_iconst (v := 2) (n := 2073) hX (dec_of D_L_law43 (i := 8) rfl) rfl (by decide) ?_
  refine s_iadd (n := 2074) hX (dec_of D_L_law43 (i := 9) rfl) rfl ?_
  refine s_sld (n := 2075) hX hsc (dec_of D_L_law43 (i := 10) rfl) rfl (fun v2 => ?_)
  refine s_callVP (c := 9) (n := 2078) hX cls9 (vk130 (by omega)) lk_RL_211 (dec_of D_L_law43 (i := 11) rfl) rfl (by decide) (c_X9_round (l := _) hG _ _ _) rfl rfl (Nat.le_of_ble_eq_true rfl) (fun q3 => ?_)
  refine s_aload_n 2 (n := 2079) hX (dec_of D_L_law43 (i := 12) rfl) rfl rfl rfl ?_
  refine s_aload_n 0 (n := 2080) hX (dec_of D_L_law43 (i := 13) rfl) rfl rfl rfl ?_
  refine s_iload 4 (n := 2082) hX (dec_of D_L_law43 (i := 14) rfl) rfl rfl ?_
  refine s_iconst (v := 1) (n := 2083) hX (dec_of D_L_law43 (i := 15) rfl) rfl (by decide) ?_
  refine s_iadd (n := 2084) hX (dec_of D_L_law43 (i := 16) rfl) rfl ?_
  refine s_sld (n := 2085) hX hsc (dec_of D_L_law43 (i := 17) rfl) rfl (fun v4 => ?_)
  refine s_aload_n 0 (n := 2086) hX (dec_of D_L_law43 (i := 18) rfl) rfl rfl rfl ?_
  refine s_iload 4 (n := 2088) hX (dec_of D_L_law43 (i := 19) rfl) rfl rfl ?_
  refine s_iconst (v := 2) (n := 2089) hX (dec_of D_L_law43 (i := 20) rfl) rfl (by decide) ?_
  refine s_iadd (n := 2090) hX (dec_of D_L_law43 (i := 21) rfl) rfl ?_
  refine s_sld (n := 2091) hX hsc (dec_of D_L_law43 (i := 22) rfl) rfl (fun v5 => ?_)
  refine s_callVP (c := 10) (n := 2094) hX cls10 (vk131 (by omega)) lk_RL_214 (dec_of D_L_law43 (i := 23) rfl) rfl (by decide) (c_X10_round (l := _) hG _ _ _) rfl rfl (Nat.le_of_ble_eq_true rfl) (fun q6 => ?_)
  refine s_icmp_eq (tgt := 2569) (n := 2097) hX (dec_of D_L_law43 (i := 24) rfl) rfl rfl ?_ ?_
  · refine s_wid ?_
    exact s_sub [0, 1, 2, 3, 4] rfl (hit q6.2)
  · exact s_bad (by decide)
theorem lk_RL_215 : LkV RL 215 RX9 yX9_bestTerms cX9_bestTerms 9 (some .int) 2 := ⟨wd_1179, wd_1180, wd_1181, wd_83, wd_1182, by decide +kernel, by decide⟩
theorem lk_RL_218 : LkV RL 218 RX10 yX10_bestTerms cX10_bestTerms 7 (some .int) 2 := ⟨wd_1958, wd_1959, wd_1960, wd_93, wd_1961, by decide +kernel, by decide⟩
def T_L_law44 : List (Nat × Instr × Nat) := [(2099, .aload_n 1, 1), (2100, .aload_n 0, 1), (2101, .iload 4, 2), (2103, .iconst 1, 1), (2104, .iadd, 1), (2105, .iaload, 1), (2106, .aload_n 0, 1), (2107, .iload 4, 2), (2109, .iconst 2, 1), (2110, .iadd, 1), (2111, .iaload, 1), (2112, .invokevirtual 215, 3), (2115, .aload_n 2, 1), (2116, .aload_n 0, 1), (2117, .iload 4, 2), (2119, .iconst 1, 1), (2120, .iadd, 1), (2121, .iaload, 1), (2122, .aload_n 0, 1), (2123, .iload 4, 2), (2125, .iconst 2, 1), (2126, .iadd, 1), (2127, .iaload, 1), (2128, .invokevirtual 218, 3), (2131, .if_icmp .eq 438, 3), (2134, .iconst 0, 1), (2135, .ireturn, 1)]
theorem D_L_law44 : dchk code T_L_law44 = true := by decide +kernel
def lawC44 (xs : Nat → Int32) (L : Nat) (rec : ST × Int32 → Option Int32) (σ : ST) (i : Int32) : Option Int32 :=
  bd_ (ldX xs L (i + 1)) (fun v1 => bd_ (ldX xs L (i + 2)) (fun v2 => bd_ (Rp_bestTerms (σ) v1 v2) (fun q3 => bd_ (ldX xs L (i + 1)) (fun v4 => bd_ (ldX xs L (i + 2)) (fun v5 => bd_ (Mo_bestTerms q3.2 v4 v5) (fun q6 => (if q3.1 = q6.1 then rec (q6.2, i + 7) else some 0)))))))
set_option maxHeartbeats 4000000 in
set_option maxRecDepth 100000 in
theorem s_lawC44 {G : GW} (hG : Good G) {X : CX} {b L : Nat} {xs : Nat → Int32} (hX : Ok G X code 7 RL 14) (hsc : Scr G X b L xs) {l : Launch} (hXl : X.2.1 = l) (hl0 : l.stackTraces = false) (hc : X.2.2.2.2.2.2.2.2.2.2.1 + 1 ≤ X.2.2.2.1.cells) (hs : X.2.2.2.2.2.2.2.2.2.2.2 + 6 ≤ X.2.2.2.1.slots) {σ : ST} {i : Int32} {rec : ST × Int32 → Option Int32} (hit : ∀ σ1, Sim G (bump X) 7 (LQ X b) σ1 2569 [(0, .ref b), (1, .ref (ga G 130 0)), (2, .ref (ga G 131 0)), (3, .ref (ga G 105 0)), (4, .int i)] [] (rec (σ1, i + 7))) : Sim G X 7 (LQ X b) σ 2099 [(0, .ref b), (1, .ref (ga G 130 0)), (2, .ref (ga G 131 0)), (3, .ref (ga G 105 0)), (4, .int i)] [] (lawC44 xs L rec σ i) := by
  unfold lawC44
  refine s_aload_n 1 (n := 2100) hX (dec_of D_L_law44 (i := 0) rfl) rfl rfl rfl ?_
  refine s_aload_n 0 (n := 2101) hX (dec_of D_L_law44 (i := 1) rfl) rfl rfl rfl ?_
  refine s_iload 4 (n := 2103) hX (dec_of D_L_law44 (i := 2) rfl) rfl rfl ?_
  refine s_iconst (v := 1) (n := 2104) hX (dec_of D_L_law44 (i := 3) rfl) rfl (by decide) ?_
  refine s_iadd (n := 2105) hX (dec_of D_L_law44 (i := 4) rfl) rfl ?_
  refine s_sld (n := 2106) hX hsc (dec_of D_L_law44 (i := 5) rfl) rfl (fun v1 => ?_)
  refine s_aload_n 0 (n := 2107) hX (dec_of D_L_law44 (i := 6) rfl) rfl rfl rfl ?_
  refine s_iload 4 (n := 2109) hX (dec_of D_L_law44 (i := 7) rfl) rfl rfl ?_
  refine s_iconst (v := 2) (n := 2110) hX (dec_of D_L_law44 (i := 8) rfl) rfl (by decide) ?_
  refine s_iadd (n := 2111) hX (dec_of D_L_law44 (i := 9) rfl) rfl ?_
  refine s_sld (n := 2112) hX hsc (dec_of D_L_law44 (i := 10) rfl) rfl (fun v2 => ?_)
  refine s_callVP (c := 9) (n := 2115) hX cls9 (vk130 (by omega)) lk_RL_215 (dec_of D_L_law44 (i := 11) rfl) rfl (by decide) (c_X9_bestTerms (l := _) hG _ _ _) rfl rfl (Nat.le_of_ble_eq_true rfl) (fun q3 => ?_)
  refine s_aload_n 2 (n := 2116) hX (dec_of D_L_law44 (i := 12) rfl) rfl rfl rfl ?_
  refine s_aload_n 0 (n := 2117) hX (dec_of D_L_law44 (i := 13) rfl) rfl rfl rfl ?_
  refine s_iload 4 (n := 2119) hX (dec_of D_L_law44 (i := 14) rfl) rfl rfl ?_
  refine s_iconst (v := 1) (n := 2120) hX (dec_of D_L_law44 (i := 15) rfl) rfl (by decide) ?_
  refine s_iadd (n := 2121) hX (dec_of D_L_law44 (i := 16) rfl) rfl ?_
  refine s_sld (n := 2122) hX hsc (dec_of D_L_law44 (i := 17) rfl) rfl (fun v4 => ?_)
  refine s_aload_n 0 (n := 2123) hX (dec_of D_L_law44 (i := 18) rfl) rfl rfl rfl ?_
  refine s_iload 4 (n := 2125) hX (dec_of D_L_law44 (i := 19) rfl) rfl rfl ?_
  refine s_iconst (v := 2) (n := 2126) hX (dec_of D_L_law44 (i := 20) rfl) rfl (by decide) ?_
  refine s_iadd (n := 2127) hX (dec_of D_L_law44 (i := 21) rfl) rfl ?_
  refine s_sld (n := 2128) hX hsc (dec_of D_L_law44 (i := 22) rfl) rfl (fun v5 => ?_)
  refine s_callVP (c := 10) (n := 2131) hX cls10 (vk131 (by omega)) lk_RL_218 (dec_of D_L_law44 (i := 23) rfl) rfl (by decide) (c_X10_bestTerms (l := _) hG _ _ _) rfl rfl (Nat.le_of_ble_eq_true rfl) (fun q6 => ?_)
  refine s_icmp_eq (tgt := 2569) (n := 2134) hX (dec_of D_L_law44 (i := 24) rfl) rfl rfl ?_ ?_
  · refine s_wid ?_
    exact s_sub [0, 1, 2, 3, 4] rfl (hit q6.2)
  · exact s_bad (by decide)
theorem lk_RL_219 : LkV RL 219 RX9 yX9_unknown cX9_unknown 2 (some .int) 1 := ⟨wd_1183, wd_1184, wd_1185, wd_83, wd_1186, by decide +kernel, by decide⟩
theorem lk_RL_222 : LkV RL 222 RX10 yX10_unknown cX10_unknown 6 (some .int) 1 := ⟨wd_1962, wd_1963, wd_1964, wd_93, wd_1965, by decide +kernel, by decide⟩
def T_L_law45 : List (Nat × Instr × Nat) := [(2136, .aload_n 1, 1), (2137, .aload_n 0, 1), (2138, .iload 4, 2), (2140, .iconst 1, 1), (2141, .iadd, 1), (2142, .iaload, 1), (2143, .invokevirtual 219, 3), (2146, .aload_n 2, 1), (2147, .aload_n 0, 1), (2148, .iload 4, 2), (2150, .iconst 1, 1), (2151, .iadd, 1), (2152, .iaload, 1), (2153, .invokevirtual 222, 3), (2156, .if_icmp .eq 413, 3), (2159, .iconst 0, 1), (2160, .ireturn, 1)]
theorem D_L_law45 : dchk code T_L_law45 = true := by decide +kernel
def lawC45 (xs : Nat → Int32) (L : Nat) (rec : ST × Int32 → Option Int32) (σ : ST) (i : Int32) : Option Int32 :=
  bd_ (ldX xs L (i + 1)) (fun v1 => bd_ (Rp_unknown (σ) v1) (fun q2 => bd_ (ldX xs L (i + 1)) (fun v3 => bd_ (Mo_unknown q2.2 v3) (fun q4 => (if q2.1 = q4.1 then rec (q4.2, i + 7) else some 0)))))
set_option maxHeartbeats 4000000 in
set_option maxRecDepth 100000 in
theorem s_lawC45 {G : GW} (hG : Good G) {X : CX} {b L : Nat} {xs : Nat → Int32} (hX : Ok G X code 7 RL 14) (hsc : Scr G X b L xs) {l : Launch} (hXl : X.2.1 = l) (hl0 : l.stackTraces = false) (hc : X.2.2.2.2.2.2.2.2.2.2.1 + 1 ≤ X.2.2.2.1.cells) (hs : X.2.2.2.2.2.2.2.2.2.2.2 + 6 ≤ X.2.2.2.1.slots) {σ : ST} {i : Int32} {rec : ST × Int32 → Option Int32} (hit : ∀ σ1, Sim G (bump X) 7 (LQ X b) σ1 2569 [(0, .ref b), (1, .ref (ga G 130 0)), (2, .ref (ga G 131 0)), (3, .ref (ga G 105 0)), (4, .int i)] [] (rec (σ1, i + 7))) : Sim G X 7 (LQ X b) σ 2136 [(0, .ref b), (1, .ref (ga G 130 0)), (2, .ref (ga G 131 0)), (3, .ref (ga G 105 0)), (4, .int i)] [] (lawC45 xs L rec σ i) := by
  unfold lawC45
  refine s_aload_n 1 (n := 2137) hX (dec_of D_L_law45 (i := 0) rfl) rfl rfl rfl ?_
  refine s_aload_n 0 (n := 2138) hX (dec_of D_L_law45 (i := 1) rfl) rfl rfl rfl ?_
  refine s_iload 4 (n := 2140) hX (dec_of D_L_law45 (i := 2) rfl) rfl rfl ?_
  refine s_iconst (v := 1) (n := 2141) hX (dec_of D_L_law45 (i := 3) rfl) rfl (by decide) ?_
  refine s_iadd (n := 2142) hX (dec_of D_L_law45 (i := 4) rfl) rfl ?_
  refine s_sld (n := 2143) hX hsc (dec_of D_L_law45 (i := 5) rfl) rfl (fun v1 => ?_)
  refine s_callVP (c := 9) (n := 2146) hX cls9 (vk130 (by omega)) lk_RL_219 (dec_of D_L_law45 (i := 6) rfl) rfl (by decide) (c_X9_unknown (l := _) hG _ _) rfl rfl (Nat.le_of_ble_eq_true rfl) (fun q2 => ?_)
  refine s_aload_n 2 (n := 2147) hX (dec_of D_L_law45 (i := 7) rfl) rfl rfl rfl ?_
  refine s_aload_n 0 (n := 2148) hX (dec_of D_L_law45 (i := 8) rfl) rfl rfl rfl ?_
  refine s_iload 4 (n := 2150) hX (dec_of D_L_law45 (i := 9) rfl) rfl rfl ?_
  refine s_iconst (v := 1) (n := 2151) hX (dec_of D_L_law45 (i := 10) rfl) rfl (by decide) ?_
  refine s_iadd (n := 2152) hX (dec_of D_L_law45 (i := 11) rfl) rfl ?_
  refine s_sld (n := 2153) hX hsc (dec_of D_L_law45 (i := 12) rfl) rfl (fun v3 => ?_)
  refine s_callVP (c := 10) (n := 2156) hX cls10 (vk131 (by omega)) lk_RL_222 (dec_of D_L_law45 (i := 13) rfl) rfl (by decide) (c_X10_unknown (l := _) hG _ _) rfl rfl (Nat.le_of_ble_eq_true rfl) (fun q4 => ?_)
  refine s_icmp_eq (tgt := 2569) (n := 2159) hX (dec_of D_L_law45 (i := 14) rfl) rfl rfl ?_ ?_
  · refine s_wid ?_
    exact s_sub [0, 1, 2, 3, 4] rfl (hit q4.2)
  · exact s_bad (by decide)
theorem lk_RL_223 : LkV RL 223 RX9 yX9_statement cX9_statement 7 (some .int) 3 := ⟨wd_1053, wd_1054, wd_1055, wd_83, wd_1056, by decide +kernel, by decide⟩
theorem lk_RL_226 : LkV RL 226 RX10 yX10_statement cX10_statement 6 (some .int) 3 := ⟨wd_1966, wd_1967, wd_1968, wd_93, wd_1969, by decide +kernel, by decide⟩
def T_L_law46 : List (Nat × Instr × Nat) := [(2161, .aload_n 1, 1), (2162, .aload_n 0, 1), (2163, .iload 4, 2), (2165, .iconst 1, 1), (2166, .iadd, 1), (2167, .iaload, 1), (2168, .aload_n 0, 1), (2169, .iload 4, 2), (2171, .iconst 2, 1), (2172, .iadd, 1), (2173, .iaload, 1), (2174, .aload_n 0, 1), (2175, .iload 4, 2), (2177, .iconst 3, 1), (2178, .iadd, 1), (2179, .iaload, 1), (2180, .invokevirtual 223, 3), (2183, .aload_n 2, 1), (2184, .aload_n 0, 1), (2185, .iload 4, 2), (2187, .iconst 1, 1), (2188, .iadd, 1), (2189, .iaload, 1), (2190, .aload_n 0, 1), (2191, .iload 4, 2), (2193, .iconst 2, 1), (2194, .iadd, 1), (2195, .iaload, 1), (2196, .aload_n 0, 1), (2197, .iload 4, 2), (2199, .iconst 3, 1), (2200, .iadd, 1), (2201, .iaload, 1), (2202, .invokevirtual 226, 3), (2205, .if_icmp .eq 364, 3), (2208, .iconst 0, 1), (2209, .ireturn, 1)]
theorem D_L_law46 : dchk code T_L_law46 = true := by decide +kernel
def lawC46 (xs : Nat → Int32) (L : Nat) (rec : ST × Int32 → Option Int32) (σ : ST) (i : Int32) : Option Int32 :=
  bd_ (ldX xs L (i + 1)) (fun v1 => bd_ (ldX xs L (i + 2)) (fun v2 => bd_ (ldX xs L (i + 3)) (fun v3 => bd_ (Rp_statement (σ) v1 v2 v3) (fun q4 => bd_ (ldX xs L (i + 1)) (fun v5 => bd_ (ldX xs L (i + 2)) (fun v6 => bd_ (ldX xs L (i + 3)) (fun v7 => bd_ (Mo_statement (σ) v5 v6 v7) (fun q8 => (if q4 = q8.1 then rec (q8.2, i + 7) else some 0)))))))))
set_option maxHeartbeats 4000000 in
set_option maxRecDepth 100000 in
theorem s_lawC46 {G : GW} (hG : Good G) {X : CX} {b L : Nat} {xs : Nat → Int32} (hX : Ok G X code 7 RL 14) (hsc : Scr G X b L xs) {l : Launch} (hXl : X.2.1 = l) (hl0 : l.stackTraces = false) (hc : X.2.2.2.2.2.2.2.2.2.2.1 + 1 ≤ X.2.2.2.1.cells) (hs : X.2.2.2.2.2.2.2.2.2.2.2 + 6 ≤ X.2.2.2.1.slots) {σ : ST} {i : Int32} {rec : ST × Int32 → Option Int32} (hit : ∀ σ1, Sim G (bump X) 7 (LQ X b) σ1 2569 [(0, .ref b), (1, .ref (ga G 130 0)), (2, .ref (ga G 131 0)), (3, .ref (ga G 105 0)), (4, .int i)] [] (rec (σ1, i + 7))) : Sim G X 7 (LQ X b) σ 2161 [(0, .ref b), (1, .ref (ga G 130 0)), (2, .ref (ga G 131 0)), (3, .ref (ga G 105 0)), (4, .int i)] [] (lawC46 xs L rec σ i) := by
  unfold lawC46
  refine s_aload_n 1 (n := 2162) hX (dec_of D_L_law46 (i := 0) rfl) rfl rfl rfl ?_
  refine s_aload_n 0 (n := 2163) hX (dec_of D_L_law46 (i := 1) rfl) rfl rfl rfl ?_
  refine s_iload 4 (n := 2165) hX (dec_of D_L_law46 (i := 2) rfl) rfl rfl ?_
  refine s_iconst (v := 1) (n := 2166) hX (dec_of D_L_law46 (i := 3) rfl) rfl (by decide) ?_
  refine s_iadd (n := 2167) hX (dec_of D_L_law46 (i := 4) rfl) rfl ?_
  refine s_sld (n := 2168) hX hsc (dec_of D_L_law46 (i := 5) rfl) rfl (fun v1 => ?_)
  refine s_aload_n 0 (n := 2169) hX (dec_of D_L_law46 (i := 6) rfl) rfl rfl rfl ?_
  refine s_iload 4 (n := 2171) hX (dec_of D_L_law46 (i := 7) rfl) rfl rfl ?_
  refine s_iconst (v := 2) (n := 2172) hX (dec_of D_L_law46 (i := 8) rfl) rfl (by decide) ?_
  refine s_iadd (n := 2173) hX (dec_of D_L_law46 (i := 9) rfl) rfl ?_
  refine s_sld (n := 2174) hX hsc (dec_of D_L_law46 (i := 10) rfl) rfl (fun v2 => ?_)
  refine s_aload_n 0 (n := 2175) hX (dec_of D_L_law46 (i := 11) rfl) rfl rfl rfl ?_
  refine s_iload 4 (n := 2177) hX (dec_of D_L_law46 (i := 12) rfl) rfl rfl ?_
  refine s_iconst (v := 3) (n := 2178) hX (dec_of D_L_law46 (i := 13) rfl) rfl (by decide) ?_
  refine s_iadd (n := 2179) hX (dec_of D_L_law46 (i := 14) rfl) rfl ?_
  refine s_sld (n := 2180) hX hsc (dec_of D_L_law46 (i := 15) rfl) rfl (fun v3 => ?_)
  refine s_callVI (c := 9) (n := 2183) hX cls9 (vk130 (by omega)) lk_RL_223 (dec_of D_L_law46 (i := 16) rfl) rfl (by decide) (c_X9_statement (l := _) hG _ _ _ _) rfl rfl (Nat.le_of_ble_eq_true rfl) (fun q4 => ?_)
  refine s_aload_n 2 (n := 2184) hX (dec_of D_L_law46 (i := 17) rfl) rfl rfl rfl ?_
  refine s_aload_n 0 (n := 2185) hX (dec_of D_L_law46 (i := 18) rfl) rfl rfl rfl ?_
  refine s_iload 4 (n := 2187) hX (dec_of D_L_law46 (i := 19) rfl) rfl rfl ?_
  refine s_iconst (v := 1) (n := 2188) hX (dec_of D_L_law46 (i := 20) rfl) rfl (by decide) ?_
  refine s_iadd (n := 2189) hX (dec_of D_L_law46 (i := 21) rfl) rfl ?_
  refine s_sld (n := 2190) hX hsc (dec_of D_L_law46 (i := 22) rfl) rfl (fun v5 => ?_)
  refine s_aload_n 0 (n := 2191) hX (dec_of D_L_law46 (i := 23) rfl) rfl rfl rfl ?_
  refine s_iload 4 (n := 2193) hX (dec_of D_L_law46 (i := 24) rfl) rfl rfl ?_
  refine s_iconst (v := 2) (n := 2194) hX (dec_of D_L_law46 (i := 25) rfl) rfl (by decide) ?_
  refine s_iadd (n := 2195) hX (dec_of D_L_law46 (i := 26) rfl) rfl ?_
  refine s_sld (n := 2196) hX hsc (dec_of D_L_law46 (i := 27) rfl) rfl (fun v6 => ?_)
  refine s_aload_n 0 (n := 2197) hX (dec_of D_L_law46 (i := 28) rfl) rfl rfl rfl ?_
  refine s_iload 4 (n := 2199) hX (dec_of D_L_law46 (i := 29) rfl) rfl rfl ?_
  refine s_iconst (v := 3) (n := 2200) hX (dec_of D_L_law46 (i := 30) rfl) rfl (by decide) ?_
  refine s_iadd (n := 2201) hX (dec_of D_L_law46 (i := 31) rfl) rfl ?_
  refine s_sld (n := 2202) hX hsc (dec_of D_L_law46 (i := 32) rfl) rfl (fun v7 => ?_)
  refine s_callVP (c := 10) (n := 2205) hX cls10 (vk131 (by omega)) lk_RL_226 (dec_of D_L_law46 (i := 33) rfl) rfl (by decide) (c_X10_statement (l := _) hG _ _ _ _) rfl rfl (Nat.le_of_ble_eq_true rfl) (fun q8 => ?_)
  refine s_icmp_eq (tgt := 2569) (n := 2208) hX (dec_of D_L_law46 (i := 34) rfl) rfl rfl ?_ ?_
  · refine s_wid ?_
    exact s_sub [0, 1, 2, 3, 4] rfl (hit q8.2)
  · exact s_bad (by decide)
theorem lk_RL_227 : LkV RL 227 RX9 yX9_moveGain cX9_moveGain 3 (some .int) 2 := ⟨wd_1192, wd_1193, wd_1194, wd_83, wd_1195, by decide +kernel, by decide⟩
theorem lk_RL_230 : LkV RL 230 RX10 yX10_moveGain cX10_moveGain 3 (some .int) 2 := ⟨wd_1970, wd_1971, wd_1972, wd_93, wd_1973, by decide +kernel, by decide⟩
def T_L_law47 : List (Nat × Instr × Nat) := [(2210, .aload_n 1, 1), (2211, .aload_n 0, 1), (2212, .iload 4, 2), (2214, .iconst 1, 1), (2215, .iadd, 1), (2216, .iaload, 1), (2217, .aload_n 0, 1), (2218, .iload 4, 2), (2220, .iconst 2, 1), (2221, .iadd, 1), (2222, .iaload, 1), (2223, .invokevirtual 227, 3), (2226, .aload_n 2, 1), (2227, .aload_n 0, 1), (2228, .iload 4, 2), (2230, .iconst 1, 1), (2231, .iadd, 1), (2232, .iaload, 1), (2233, .aload_n 0, 1), (2234, .iload 4, 2), (2236, .iconst 2, 1), (2237, .iadd, 1), (2238, .iaload, 1), (2239, .invokevirtual 230, 3), (2242, .if_icmp .eq 327, 3), (2245, .iconst 0, 1), (2246, .ireturn, 1)]
theorem D_L_law47 : dchk code T_L_law47 = true := by decide +kernel
def lawC47 (xs : Nat → Int32) (L : Nat) (rec : ST × Int32 → Option Int32) (σ : ST) (i : Int32) : Option Int32 :=
  bd_ (ldX xs L (i + 1)) (fun v1 => bd_ (ldX xs L (i + 2)) (fun v2 => bd_ (Rp_moveGain (σ) v1 v2) (fun q3 => bd_ (ldX xs L (i + 1)) (fun v4 => bd_ (ldX xs L (i + 2)) (fun v5 => bd_ (Mo_moveGain q3.2 v4 v5) (fun q6 => (if q3.1 = q6.1 then rec (q6.2, i + 7) else some 0)))))))
set_option maxHeartbeats 4000000 in
set_option maxRecDepth 100000 in
theorem s_lawC47 {G : GW} (hG : Good G) {X : CX} {b L : Nat} {xs : Nat → Int32} (hX : Ok G X code 7 RL 14) (hsc : Scr G X b L xs) {l : Launch} (hXl : X.2.1 = l) (hl0 : l.stackTraces = false) (hc : X.2.2.2.2.2.2.2.2.2.2.1 + 1 ≤ X.2.2.2.1.cells) (hs : X.2.2.2.2.2.2.2.2.2.2.2 + 6 ≤ X.2.2.2.1.slots) {σ : ST} {i : Int32} {rec : ST × Int32 → Option Int32} (hit : ∀ σ1, Sim G (bump X) 7 (LQ X b) σ1 2569 [(0, .ref b), (1, .ref (ga G 130 0)), (2, .ref (ga G 131 0)), (3, .ref (ga G 105 0)), (4, .int i)] [] (rec (σ1, i + 7))) : Sim G X 7 (LQ X b) σ 2210 [(0, .ref b), (1, .ref (ga G 130 0)), (2, .ref (ga G 131 0)), (3, .ref (ga G 105 0)), (4, .int i)] [] (lawC47 xs L rec σ i) := by
  unfold lawC47
  refine s_aload_n 1 (n := 2211) hX (dec_of D_L_law47 (i := 0) rfl) rfl rfl rfl ?_
  refine s_aload_n 0 (n := 2212) hX (dec_of D_L_law47 (i := 1) rfl) rfl rfl rfl ?_
  refine s_iload 4 (n := 2214) hX (dec_of D_L_law47 (i := 2) rfl) rfl rfl ?_
  refine s_iconst (v := 1) (n := 2215) hX (dec_of D_L_law47 (i := 3) rfl) rfl (by decide) ?_
  refine s_iadd (n := 2216) hX (dec_of D_L_law47 (i := 4) rfl) rfl ?_
  refine s_sld (n := 2217) hX hsc (dec_of D_L_law47 (i := 5) rfl) rfl (fun v1 => ?_)
  refine s_aload_n 0 (n := 2218) hX (dec_of D_L_law47 (i := 6) rfl) rfl rfl rfl ?_
  refine s_iload 4 (n := 2220) hX (dec_of D_L_law47 (i := 7) rfl) rfl rfl ?_
  refine s_iconst (v := 2) (n := 2221) hX (dec_of D_L_law47 (i := 8) rfl) rfl (by decide) ?_
  refine s_iadd (n := 2222) hX (dec_of D_L_law47 (i := 9) rfl) rfl ?_
  refine s_sld (n := 2223) hX hsc (dec_of D_L_law47 (i := 10) rfl) rfl (fun v2 => ?_)
  refine s_callVP (c := 9) (n := 2226) hX cls9 (vk130 (by omega)) lk_RL_227 (dec_of D_L_law47 (i := 11) rfl) rfl (by decide) (c_X9_moveGain (l := _) hG _ _ _) rfl rfl (Nat.le_of_ble_eq_true rfl) (fun q3 => ?_)
  refine s_aload_n 2 (n := 2227) hX (dec_of D_L_law47 (i := 12) rfl) rfl rfl rfl ?_
  refine s_aload_n 0 (n := 2228) hX (dec_of D_L_law47 (i := 13) rfl) rfl rfl rfl ?_
  refine s_iload 4 (n := 2230) hX (dec_of D_L_law47 (i := 14) rfl) rfl rfl ?_
  refine s_iconst (v := 1) (n := 2231) hX (dec_of D_L_law47 (i := 15) rfl) rfl (by decide) ?_
  refine s_iadd (n := 2232) hX (dec_of D_L_law47 (i := 16) rfl) rfl ?_
  refine s_sld (n := 2233) hX hsc (dec_of D_L_law47 (i := 17) rfl) rfl (fun v4 => ?_)
  refine s_aload_n 0 (n := 2234) hX (dec_of D_L_law47 (i := 18) rfl) rfl rfl rfl ?_
  refine s_iload 4 (n := 2236) hX (dec_of D_L_law47 (i := 19) rfl) rfl rfl ?_
  refine s_iconst (v := 2) (n := 2237) hX (dec_of D_L_law47 (i := 20) rfl) rfl (by decide) ?_
  refine s_iadd (n := 2238) hX (dec_of D_L_law47 (i := 21) rfl) rfl ?_
  refine s_sld (n := 2239) hX hsc (dec_of D_L_law47 (i := 22) rfl) rfl (fun v5 => ?_)
  refine s_callVP (c := 10) (n := 2242) hX cls10 (vk131 (by omega)) lk_RL_230 (dec_of D_L_law47 (i := 23) rfl) rfl (by decide) (c_X10_moveGain (l := _) hG _ _ _) rfl rfl (Nat.le_of_ble_eq_true rfl) (fun q6 => ?_)
  refine s_icmp_eq (tgt := 2569) (n := 2245) hX (dec_of D_L_law47 (i := 24) rfl) rfl rfl ?_ ?_
  · refine s_wid ?_
    exact s_sub [0, 1, 2, 3, 4] rfl (hit q6.2)
  · exact s_bad (by decide)
theorem lk_RL_231 : LkV RL 231 RX9 yX9_bestHome cX9_bestHome 7 (some .int) 2 := ⟨wd_1205, wd_1206, wd_1207, wd_83, wd_1208, by decide +kernel, by decide⟩
theorem lk_RL_234 : LkV RL 234 RX10 yX10_bestHome cX10_bestHome 5 (some .int) 2 := ⟨wd_1978, wd_1979, wd_1980, wd_93, wd_1981, by decide +kernel, by decide⟩
def T_L_law48 : List (Nat × Instr × Nat) := [(2247, .aload_n 1, 1), (2248, .aload_n 0, 1), (2249, .iload 4, 2), (2251, .iconst 1, 1), (2252, .iadd, 1), (2253, .iaload, 1), (2254, .aload_n 0, 1), (2255, .iload 4, 2), (2257, .iconst 2, 1), (2258, .iadd, 1), (2259, .iaload, 1), (2260, .invokevirtual 231, 3), (2263, .aload_n 2, 1), (2264, .aload_n 0, 1), (2265, .iload 4, 2), (2267, .iconst 1, 1), (2268, .iadd, 1), (2269, .iaload, 1), (2270, .aload_n 0, 1), (2271, .iload 4, 2), (2273, .iconst 2, 1), (2274, .iadd, 1), (2275, .iaload, 1), (2276, .invokevirtual 234, 3), (2279, .if_icmp .eq 290, 3), (2282, .iconst 0, 1), (2283, .ireturn, 1)]
theorem D_L_law48 : dchk code T_L_law48 = true := by decide +kernel
def lawC48 (xs : Nat → Int32) (L : Nat) (rec : ST × Int32 → Option Int32) (σ : ST) (i : Int32) : Option Int32 :=
  bd_ (ldX xs L (i + 1)) (fun v1 => bd_ (ldX xs L (i + 2)) (fun v2 => bd_ (Rp_bestHome (σ) v1 v2) (fun q3 => bd_ (ldX xs L (i + 1)) (fun v4 => bd_ (ldX xs L (i + 2)) (fun v5 => bd_ (Mo_bestHome q3.2 v4 v5) (fun q6 => (if q3.1 = q6.1 then rec (q6.2, i + 7) else some 0)))))))
set_option maxHeartbeats 4000000 in
set_option maxRecDepth 100000 in
theorem s_lawC48 {G : GW} (hG : Good G) {X : CX} {b L : Nat} {xs : Nat → Int32} (hX : Ok G X code 7 RL 14) (hsc : Scr G X b L xs) {l : Launch} (hXl : X.2.1 = l) (hl0 : l.stackTraces = false) (hc : X.2.2.2.2.2.2.2.2.2.2.1 + 1 ≤ X.2.2.2.1.cells) (hs : X.2.2.2.2.2.2.2.2.2.2.2 + 6 ≤ X.2.2.2.1.slots) {σ : ST} {i : Int32} {rec : ST × Int32 → Option Int32} (hit : ∀ σ1, Sim G (bump X) 7 (LQ X b) σ1 2569 [(0, .ref b), (1, .ref (ga G 130 0)), (2, .ref (ga G 131 0)), (3, .ref (ga G 105 0)), (4, .int i)] [] (rec (σ1, i + 7))) : Sim G X 7 (LQ X b) σ 2247 [(0, .ref b), (1, .ref (ga G 130 0)), (2, .ref (ga G 131 0)), (3, .ref (ga G 105 0)), (4, .int i)] [] (lawC48 xs L rec σ i) := by
  unfold lawC48
  refine s_aload_n 1 (n := 2248) hX (dec_of D_L_law48 (i := 0) rfl) rfl rfl rfl ?_
  refine s_aload_n 0 (n := 2249) hX (dec_of D_L_law48 (i := 1) rfl) rfl rfl rfl ?_
  refine s_iload 4 (n := 2251) hX (dec_of D_L_law48 (i := 2) rfl) rfl rfl ?_
  refine s_iconst (v := 1) (n := 2252) hX (dec_of D_L_law48 (i := 3) rfl) rfl (by decide) ?_
  refine s_iadd (n := 2253) hX (dec_of D_L_law48 (i := 4) rfl) rfl ?_
  refine s_sld (n := 2254) hX hsc (dec_of D_L_law48 (i := 5) rfl) rfl (fun v1 => ?_)
  refine s_aload_n 0 (n := 2255) hX (dec_of D_L_law48 (i := 6) rfl) rfl rfl rfl ?_
  refine s_iload 4 (n := 2257) hX (dec_of D_L_law48 (i := 7) rfl) rfl rfl ?_
  refine s_iconst (v := 2) (n := 2258) hX (dec_of D_L_law48 (i := 8) rfl) rfl (by decide) ?_
  refine s_iadd (n := 2259) hX (dec_of D_L_law48 (i := 9) rfl) rfl ?_
  refine s_sld (n := 2260) hX hsc (dec_of D_L_law48 (i := 10) rfl) rfl (fun v2 => ?_)
  refine s_callVP (c := 9) (n := 2263) hX cls9 (vk130 (by omega)) lk_RL_231 (dec_of D_L_law48 (i := 11) rfl) rfl (by decide) (c_X9_bestHome (l := _) hG _ _ _) rfl rfl (Nat.le_of_ble_eq_true rfl) (fun q3 => ?_)
  refine s_aload_n 2 (n := 2264) hX (dec_of D_L_law48 (i := 12) rfl) rfl rfl rfl ?_
  refine s_aload_n 0 (n := 2265) hX (dec_of D_L_law48 (i := 13) rfl) rfl rfl rfl ?_
  refine s_iload 4 (n := 2267) hX (dec_of D_L_law48 (i := 14) rfl) rfl rfl ?_
  refine s_iconst (v := 1) (n := 2268) hX (dec_of D_L_law48 (i := 15) rfl) rfl (by decide) ?_
  refine s_iadd (n := 2269) hX (dec_of D_L_law48 (i := 16) rfl) rfl ?_
  refine s_sld (n := 2270) hX hsc (dec_of D_L_law48 (i := 17) rfl) rfl (fun v4 => ?_)
  refine s_aload_n 0 (n := 2271) hX (dec_of D_L_law48 (i := 18) rfl) rfl rfl rfl ?_
  refine s_iload 4 (n := 2273) hX (dec_of D_L_law48 (i := 19) rfl) rfl rfl ?_
  refine s_iconst (v := 2) (n := 2274) hX (dec_of D_L_law48 (i := 20) rfl) rfl (by decide) ?_
  refine s_iadd (n := 2275) hX (dec_of D_L_law48 (i := 21) rfl) rfl ?_
  refine s_sld (n := 2276) hX hsc (dec_of D_L_law48 (i := 22) rfl) rfl (fun v5 => ?_)
  refine s_callVP (c := 10) (n := 2279) hX cls10 (vk131 (by omega)) lk_RL_234 (dec_of D_L_law48 (i := 23) rfl) rfl (by decide) (c_X10_bestHome (l := _) hG _ _ _) rfl rfl (Nat.le_of_ble_eq_true rfl) (fun q6 => ?_)
  refine s_icmp_eq (tgt := 2569) (n := 2282) hX (dec_of D_L_law48 (i := 24) rfl) rfl rfl ?_ ?_
  · refine s_wid ?_
    exact s_sub [0, 1, 2, 3, 4] rfl (hit q6.2)
  · exact s_bad (by decide)
theorem lk_RL_235 : LkV RL 235 RX9 yX9_answers cX9_answers 2 (some .int) 1 := ⟨wd_779, wd_780, wd_781, wd_83, wd_782, by decide +kernel, by decide⟩
theorem lk_RL_238 : LkV RL 238 RX10 yX10_answers cX10_answers 4 (some .int) 1 := ⟨wd_1982, wd_1983, wd_1984, wd_93, wd_1985, by decide +kernel, by decide⟩
def T_L_law49 : List (Nat × Instr × Nat) := [(2284, .aload_n 1, 1), (2285, .aload_n 0, 1), (2286, .iload 4, 2), (2288, .iconst 1, 1), (2289, .iadd, 1), (2290, .iaload, 1), (2291, .invokevirtual 235, 3), (2294, .aload_n 2, 1), (2295, .aload_n 0, 1), (2296, .iload 4, 2), (2298, .iconst 1, 1), (2299, .iadd, 1), (2300, .iaload, 1), (2301, .invokevirtual 238, 3), (2304, .if_icmp .eq 265, 3), (2307, .iconst 0, 1), (2308, .ireturn, 1)]
theorem D_L_law49 : dchk code T_L_law49 = true := by decide +kernel
def lawC49 (xs : Nat → Int32) (L : Nat) (rec : ST × Int32 → Option Int32) (σ : ST) (i : Int32) : Option Int32 :=
  bd_ (ldX xs L (i + 1)) (fun v1 => bd_ (Rp_answers (σ) v1) (fun q2 => bd_ (ldX xs L (i + 1)) (fun v3 => bd_ (Mo_answers (σ) v3) (fun q4 => (if q2 = q4.1 then rec (q4.2, i + 7) else some 0)))))
set_option maxHeartbeats 4000000 in
set_option maxRecDepth 100000 in
theorem s_lawC49 {G : GW} (hG : Good G) {X : CX} {b L : Nat} {xs : Nat → Int32} (hX : Ok G X code 7 RL 14) (hsc : Scr G X b L xs) {l : Launch} (hXl : X.2.1 = l) (hl0 : l.stackTraces = false) (hc : X.2.2.2.2.2.2.2.2.2.2.1 + 1 ≤ X.2.2.2.1.cells) (hs : X.2.2.2.2.2.2.2.2.2.2.2 + 6 ≤ X.2.2.2.1.slots) {σ : ST} {i : Int32} {rec : ST × Int32 → Option Int32} (hit : ∀ σ1, Sim G (bump X) 7 (LQ X b) σ1 2569 [(0, .ref b), (1, .ref (ga G 130 0)), (2, .ref (ga G 131 0)), (3, .ref (ga G 105 0)), (4, .int i)] [] (rec (σ1, i + 7))) : Sim G X 7 (LQ X b) σ 2284 [(0, .ref b), (1, .ref (ga G 130 0)), (2, .ref (ga G 131 0)), (3, .ref (ga G 105 0)), (4, .int i)] [] (lawC49 xs L rec σ i) := by
  unfold lawC49
  refine s_aload_n 1 (n := 2285) hX (dec_of D_L_law49 (i := 0) rfl) rfl rfl rfl ?_
  refine s_aload_n 0 (n := 2286) hX (dec_of D_L_law49 (i := 1) rfl) rfl rfl rfl ?_
  refine s_iload 4 (n := 2288) hX (dec_of D_L_law49 (i := 2) rfl) rfl rfl ?_
  refine s_iconst (v := 1) (n := 2289) hX (dec_of D_L_law49 (i := 3) rfl) rfl (by decide) ?_
  refine s_iadd (n := 2290) hX (dec_of D_L_law49 (i := 4) rfl) rfl ?_
  refine s_sld (n := 2291) hX hsc (dec_of D_L_law49 (i := 5) rfl) rfl (fun v1 => ?_)
  refine s_callVI (c := 9) (n := 2294) hX cls9 (vk130 (by omega)) lk_RL_235 (dec_of D_L_law49 (i := 6) rfl) rfl (by decide) (c_X9_answers (l := _) hG _ _) rfl rfl (Nat.le_of_ble_eq_true rfl) (fun q2 => ?_)
  refine s_aload_n 2 (n := 2295) hX (dec_of D_L_law49 (i := 7) rfl) rfl rfl rfl ?_
  refine s_aload_n 0 (n := 2296) hX (dec_of D_L_law49 (i := 8) rfl) rfl rfl rfl ?_
  refine s_iload 4 (n := 2298) hX (dec_of D_L_law49 (i := 9) rfl) rfl rfl ?_
  refine s_iconst (v := 1) (n := 2299) hX (dec_of D_L_law49 (i := 10) rfl) rfl (by decide) ?_
  refine s_iadd (n := 2300) hX (dec_of D_L_law49 (i := 11) rfl) rfl ?_
  refine s_sld (n := 2301) hX hsc (dec_of D_L_law49 (i := 12) rfl) rfl (fun v3 => ?_)
  refine s_callVP (c := 10) (n := 2304) hX cls10 (vk131 (by omega)) lk_RL_238 (dec_of D_L_law49 (i := 13) rfl) rfl (by decide) (c_X10_answers (l := _) hG _ _) rfl rfl (Nat.le_of_ble_eq_true rfl) (fun q4 => ?_)
  refine s_icmp_eq (tgt := 2569) (n := 2307) hX (dec_of D_L_law49 (i := 14) rfl) rfl rfl ?_ ?_
  · refine s_wid ?_
    exact s_sub [0, 1, 2, 3, 4] rfl (hit q4.2)
  · exact s_bad (by decide)
theorem lk_RL_239 : LkV RL 239 RX9 yX9_poorest cX9_poorest 6 (some .int) 2 := ⟨wd_1049, wd_1050, wd_1051, wd_83, wd_1052, by decide +kernel, by decide⟩
theorem lk_RL_242 : LkV RL 242 RX10 yX10_poorest cX10_poorest 5 (some .int) 2 := ⟨wd_1986, wd_1987, wd_1988, wd_93, wd_1989, by decide +kernel, by decide⟩
def T_L_law50 : List (Nat × Instr × Nat) := [(2309, .aload_n 1, 1), (2310, .aload_n 0, 1), (2311, .iload 4, 2), (2313, .iconst 1, 1), (2314, .iadd, 1), (2315, .iaload, 1), (2316, .aload_n 0, 1), (2317, .iload 4, 2), (2319, .iconst 2, 1), (2320, .iadd, 1), (2321, .iaload, 1), (2322, .invokevirtual 239, 3), (2325, .aload_n 2, 1), (2326, .aload_n 0, 1), (2327, .iload 4, 2), (2329, .iconst 1, 1), (2330, .iadd, 1), (2331, .iaload, 1), (2332, .aload_n 0, 1), (2333, .iload 4, 2), (2335, .iconst 2, 1), (2336, .iadd, 1), (2337, .iaload, 1), (2338, .invokevirtual 242, 3), (2341, .if_icmp .eq 228, 3), (2344, .iconst 0, 1), (2345, .ireturn, 1)]
theorem D_L_law50 : dchk code T_L_law50 = true := by decide +kernel
def lawC50 (xs : Nat → Int32) (L : Nat) (rec : ST × Int32 → Option Int32) (σ : ST) (i : Int32) : Option Int32 :=
  bd_ (ldX xs L (i + 1)) (fun v1 => bd_ (ldX xs L (i + 2)) (fun v2 => bd_ (Rp_poorest (σ) v1 v2) (fun q3 => bd_ (ldX xs L (i + 1)) (fun v4 => bd_ (ldX xs L (i + 2)) (fun v5 => bd_ (Mo_poorest (σ) v4 v5) (fun q6 => (if q3 = q6.1 then rec (q6.2, i + 7) else some 0)))))))
set_option maxHeartbeats 4000000 in
set_option maxRecDepth 100000 in
theorem s_lawC50 {G : GW} (hG : Good G) {X : CX} {b L : Nat} {xs : Nat → Int32} (hX : Ok G X code 7 RL 14) (hsc : Scr G X b L xs) {l : Launch} (hXl : X.2.1 = l) (hl0 : l.stackTraces = false) (hc : X.2.2.2.2.2.2.2.2.2.2.1 + 1 ≤ X.2.2.2.1.cells) (hs : X.2.2.2.2.2.2.2.2.2.2.2 + 6 ≤ X.2.2.2.1.slots) {σ : ST} {i : Int32} {rec : ST × Int32 → Option Int32} (hit : ∀ σ1, Sim G (bump X) 7 (LQ X b) σ1 2569 [(0, .ref b), (1, .ref (ga G 130 0)), (2, .ref (ga G 131 0)), (3, .ref (ga G 105 0)), (4, .int i)] [] (rec (σ1, i + 7))) : Sim G X 7 (LQ X b) σ 2309 [(0, .ref b), (1, .ref (ga G 130 0)), (2, .ref (ga G 131 0)), (3, .ref (ga G 105 0)), (4, .int i)] [] (lawC50 xs L rec σ i) := by
  unfold lawC50
  refine s_aload_n 1 (n := 2310) hX (dec_of D_L_law50 (i := 0) rfl) rfl rfl rfl ?_
  refine s_aload_n 0 (n := 2311) hX (dec_of D_L_law50 (i := 1) rfl) rfl rfl rfl ?_
  refine s_iload 4 (n := 2313) hX (dec_of D_L_law50 (i := 2) rfl) rfl rfl ?_
  refine s_iconst (v := 1) (n := 2314) hX (dec_of D_L_law50 (i := 3) rfl) rfl (by decide) ?_
  refine s_iadd (n := 2315) hX (dec_of D_L_law50 (i := 4) rfl) rfl ?_
  refine s_sld (n := 2316) hX hsc (dec_of D_L_law50 (i := 5) rfl) rfl (fun v1 => ?_)
  refine s_aload_n 0 (n := 2317) hX (dec_of D_L_law50 (i := 6) rfl) rfl rfl rfl ?_
  refine s_iload 4 (n := 2319) hX (dec_of D_L_law50 (i := 7) rfl) rfl rfl ?_
  refine s_iconst (v := 2) (n := 2320) hX (dec_of D_L_law50 (i := 8) rfl) rfl (by decide) ?_
  refine s_iadd (n := 2321) hX (dec_of D_L_law50 (i := 9) rfl) rfl ?_
  refine s_sld (n := 2322) hX hsc (dec_of D_L_law50 (i := 10) rfl) rfl (fun v2 => ?_)
  refine s_callVI (c := 9) (n := 2325) hX cls9 (vk130 (by omega)) lk_RL_239 (dec_of D_L_law50 (i := 11) rfl) rfl (by decide) (c_X9_poorest (l := _) hG _ _ _) rfl rfl (Nat.le_of_ble_eq_true rfl) (fun q3 => ?_)
  refine s_aload_n 2 (n := 2326) hX (dec_of D_L_law50 (i := 12) rfl) rfl rfl rfl ?_
  refine s_aload_n 0 (n := 2327) hX (dec_of D_L_law50 (i := 13) rfl) rfl rfl rfl ?_
  refine s_iload 4 (n := 2329) hX (dec_of D_L_law50 (i := 14) rfl) rfl rfl ?_
  refine s_iconst (v := 1) (n := 2330) hX (dec_of D_L_law50 (i := 15) rfl) rfl (by decide) ?_
  refine s_iadd (n := 2331) hX (dec_of D_L_law50 (i := 16) rfl) rfl ?_
  refine s_sld (n := 2332) hX hsc (dec_of D_L_law50 (i := 17) rfl) rfl (fun v4 => ?_)
  refine s_aload_n 0 (n := 2333) hX (dec_of D_L_law50 (i := 18) rfl) rfl rfl rfl ?_
  refine s_iload 4 (n := 2335) hX (dec_of D_L_law50 (i := 19) rfl) rfl rfl ?_
  refine s_iconst (v := 2) (n := 2336) hX (dec_of D_L_law50 (i := 20) rfl) rfl (by decide) ?_
  refine s_iadd (n := 2337) hX (dec_of D_L_law50 (i := 21) rfl) rfl ?_
  refine s_sld (n := 2338) hX hsc (dec_of D_L_law50 (i := 22) rfl) rfl (fun v5 => ?_)
  refine s_callVP (c := 10) (n := 2341) hX cls10 (vk131 (by omega)) lk_RL_242 (dec_of D_L_law50 (i := 23) rfl) rfl (by decide) (c_X10_poorest (l := _) hG _ _ _) rfl rfl (Nat.le_of_ble_eq_true rfl) (fun q6 => ?_)
  refine s_icmp_eq (tgt := 2569) (n := 2344) hX (dec_of D_L_law50 (i := 24) rfl) rfl rfl ?_ ?_
  · refine s_wid ?_
    exact s_sub [0, 1, 2, 3, 4] rfl (hit q6.2)
  · exact s_bad (by decide)
theorem lk_RL_243 : LkV RL 243 RX9 yX9_openSeats cX9_openSeats 2 (some .int) 1 := ⟨wd_702, wd_703, wd_704, wd_83, wd_705, by decide +kernel, by decide⟩
theorem lk_RL_246 : LkV RL 246 RX10 yX10_openSeats cX10_openSeats 4 (some .int) 1 := ⟨wd_1990, wd_1991, wd_1992, wd_93, wd_1993, by decide +kernel, by decide⟩
def T_L_law51 : List (Nat × Instr × Nat) := [(2346, .aload_n 1, 1), (2347, .aload_n 0, 1), (2348, .iload 4, 2), (2350, .iconst 1, 1), (2351, .iadd, 1), (2352, .iaload, 1), (2353, .invokevirtual 243, 3), (2356, .aload_n 2, 1), (2357, .aload_n 0, 1), (2358, .iload 4, 2), (2360, .iconst 1, 1), (2361, .iadd, 1), (2362, .iaload, 1), (2363, .invokevirtual 246, 3), (2366, .if_icmp .eq 203, 3), (2369, .iconst 0, 1), (2370, .ireturn, 1)]
theorem D_L_law51 : dchk code T_L_law51 = true := by decide +kernel
def lawC51 (xs : Nat → Int32) (L : Nat) (rec : ST × Int32 → Option Int32) (σ : ST) (i : Int32) : Option Int32 :=
  bd_ (ldX xs L (i + 1)) (fun v1 => bd_ (Rp_openSeats (σ) v1) (fun q2 => bd_ (ldX xs L (i + 1)) (fun v3 => bd_ (Mo_openSeats (σ) v3) (fun q4 => (if q2 = q4.1 then rec (q4.2, i + 7) else some 0)))))
set_option maxHeartbeats 4000000 in
set_option maxRecDepth 100000 in
theorem s_lawC51 {G : GW} (hG : Good G) {X : CX} {b L : Nat} {xs : Nat → Int32} (hX : Ok G X code 7 RL 14) (hsc : Scr G X b L xs) {l : Launch} (hXl : X.2.1 = l) (hl0 : l.stackTraces = false) (hc : X.2.2.2.2.2.2.2.2.2.2.1 + 1 ≤ X.2.2.2.1.cells) (hs : X.2.2.2.2.2.2.2.2.2.2.2 + 6 ≤ X.2.2.2.1.slots) {σ : ST} {i : Int32} {rec : ST × Int32 → Option Int32} (hit : ∀ σ1, Sim G (bump X) 7 (LQ X b) σ1 2569 [(0, .ref b), (1, .ref (ga G 130 0)), (2, .ref (ga G 131 0)), (3, .ref (ga G 105 0)), (4, .int i)] [] (rec (σ1, i + 7))) : Sim G X 7 (LQ X b) σ 2346 [(0, .ref b), (1, .ref (ga G 130 0)), (2, .ref (ga G 131 0)), (3, .ref (ga G 105 0)), (4, .int i)] [] (lawC51 xs L rec σ i) := by
  unfold lawC51
  refine s_aload_n 1 (n := 2347) hX (dec_of D_L_law51 (i := 0) rfl) rfl rfl rfl ?_
  refine s_aload_n 0 (n := 2348) hX (dec_of D_L_law51 (i := 1) rfl) rfl rfl rfl ?_
  refine s_iload 4 (n := 2350) hX (dec_of D_L_law51 (i := 2) rfl) rfl rfl ?_
  refine s_iconst (v := 1) (n := 2351) hX (dec_of D_L_law51 (i := 3) rfl) rfl (by decide) ?_
  refine s_iadd (n := 2352) hX (dec_of D_L_law51 (i := 4) rfl) rfl ?_
  refine s_sld (n := 2353) hX hsc (dec_of D_L_law51 (i := 5) rfl) rfl (fun v1 => ?_)
  refine s_callVI (c := 9) (n := 2356) hX cls9 (vk130 (by omega)) lk_RL_243 (dec_of D_L_law51 (i := 6) rfl) rfl (by decide) (c_X9_openSeats (l := _) hG _ _) rfl rfl (Nat.le_of_ble_eq_true rfl) (fun q2 => ?_)
  refine s_aload_n 2 (n := 2357) hX (dec_of D_L_law51 (i := 7) rfl) rfl rfl rfl ?_
  refine s_aload_n 0 (n := 2358) hX (dec_of D_L_law51 (i := 8) rfl) rfl rfl rfl ?_
  refine s_iload 4 (n := 2360) hX (dec_of D_L_law51 (i := 9) rfl) rfl rfl ?_
  refine s_iconst (v := 1) (n := 2361) hX (dec_of D_L_law51 (i := 10) rfl) rfl (by decide) ?_
  refine s_iadd (n := 2362) hX (dec_of D_L_law51 (i := 11) rfl) rfl ?_
  refine s_sld (n := 2363) hX hsc (dec_of D_L_law51 (i := 12) rfl) rfl (fun v3 => ?_)
  refine s_callVP (c := 10) (n := 2366) hX cls10 (vk131 (by omega)) lk_RL_246 (dec_of D_L_law51 (i := 13) rfl) rfl (by decide) (c_X10_openSeats (l := _) hG _ _) rfl rfl (Nat.le_of_ble_eq_true rfl) (fun q4 => ?_)
  refine s_icmp_eq (tgt := 2569) (n := 2369) hX (dec_of D_L_law51 (i := 14) rfl) rfl rfl ?_ ?_
  · refine s_wid ?_
    exact s_sub [0, 1, 2, 3, 4] rfl (hit q4.2)
  · exact s_bad (by decide)
theorem lk_RL_247 : LkV RL 247 RX9 yX9_late cX9_late 5 (some .int) 1 := ⟨wd_1029, wd_1030, wd_1031, wd_83, wd_1032, by decide +kernel, by decide⟩
theorem lk_RL_250 : LkV RL 250 RX10 yX10_late cX10_late 5 (some .int) 1 := ⟨wd_1994, wd_1995, wd_1996, wd_93, wd_1997, by decide +kernel, by decide⟩
def T_L_law52 : List (Nat × Instr × Nat) := [(2371, .aload_n 1, 1), (2372, .aload_n 0, 1), (2373, .iload 4, 2), (2375, .iconst 1, 1), (2376, .iadd, 1), (2377, .iaload, 1), (2378, .invokevirtual 247, 3), (2381, .aload_n 2, 1), (2382, .aload_n 0, 1), (2383, .iload 4, 2), (2385, .iconst 1, 1), (2386, .iadd, 1), (2387, .iaload, 1), (2388, .invokevirtual 250, 3), (2391, .if_icmp .eq 178, 3), (2394, .iconst 0, 1), (2395, .ireturn, 1)]
theorem D_L_law52 : dchk code T_L_law52 = true := by decide +kernel
def lawC52 (xs : Nat → Int32) (L : Nat) (rec : ST × Int32 → Option Int32) (σ : ST) (i : Int32) : Option Int32 :=
  bd_ (ldX xs L (i + 1)) (fun v1 => bd_ (Rp_late (σ) v1) (fun q2 => bd_ (ldX xs L (i + 1)) (fun v3 => bd_ (Mo_late (σ) v3) (fun q4 => (if q2 = q4.1 then rec (q4.2, i + 7) else some 0)))))
set_option maxHeartbeats 4000000 in
set_option maxRecDepth 100000 in
theorem s_lawC52 {G : GW} (hG : Good G) {X : CX} {b L : Nat} {xs : Nat → Int32} (hX : Ok G X code 7 RL 14) (hsc : Scr G X b L xs) {l : Launch} (hXl : X.2.1 = l) (hl0 : l.stackTraces = false) (hc : X.2.2.2.2.2.2.2.2.2.2.1 + 1 ≤ X.2.2.2.1.cells) (hs : X.2.2.2.2.2.2.2.2.2.2.2 + 6 ≤ X.2.2.2.1.slots) {σ : ST} {i : Int32} {rec : ST × Int32 → Option Int32} (hit : ∀ σ1, Sim G (bump X) 7 (LQ X b) σ1 2569 [(0, .ref b), (1, .ref (ga G 130 0)), (2, .ref (ga G 131 0)), (3, .ref (ga G 105 0)), (4, .int i)] [] (rec (σ1, i + 7))) : Sim G X 7 (LQ X b) σ 2371 [(0, .ref b), (1, .ref (ga G 130 0)), (2, .ref (ga G 131 0)), (3, .ref (ga G 105 0)), (4, .int i)] [] (lawC52 xs L rec σ i) := by
  unfold lawC52
  refine s_aload_n 1 (n := 2372) hX (dec_of D_L_law52 (i := 0) rfl) rfl rfl rfl ?_
  refine s_aload_n 0 (n := 2373) hX (dec_of D_L_law52 (i := 1) rfl) rfl rfl rfl ?_
  refine s_iload 4 (n := 2375) hX (dec_of D_L_law52 (i := 2) rfl) rfl rfl ?_
  refine s_iconst (v := 1) (n := 2376) hX (dec_of D_L_law52 (i := 3) rfl) rfl (by decide) ?_
  refine s_iadd (n := 2377) hX (dec_of D_L_law52 (i := 4) rfl) rfl ?_
  refine s_sld (n := 2378) hX hsc (dec_of D_L_law52 (i := 5) rfl) rfl (fun v1 => ?_)
  refine s_callVI (c := 9) (n := 2381) hX cls9 (vk130 (by omega)) lk_RL_247 (dec_of D_L_law52 (i := 6) rfl) rfl (by decide) (c_X9_late (l := _) hG _ _) rfl rfl (Nat.le_of_ble_eq_true rfl) (fun q2 => ?_)
  refine s_aload_n 2 (n := 2382) hX (dec_of D_L_law52 (i := 7) rfl) rfl rfl rfl ?_
  refine s_aload_n 0 (n := 2383) hX (dec_of D_L_law52 (i := 8) rfl) rfl rfl rfl ?_
  refine s_iload 4 (n := 2385) hX (dec_of D_L_law52 (i := 9) rfl) rfl rfl ?_
  refine s_iconst (v := 1) (n := 2386) hX (dec_of D_L_law52 (i := 10) rfl) rfl (by decide) ?_
  refine s_iadd (n := 2387) hX (dec_of D_L_law52 (i := 11) rfl) rfl ?_
  refine s_sld (n := 2388) hX hsc (dec_of D_L_law52 (i := 12) rfl) rfl (fun v3 => ?_)
  refine s_callVP (c := 10) (n := 2391) hX cls10 (vk131 (by omega)) lk_RL_250 (dec_of D_L_law52 (i := 13) rfl) rfl (by decide) (c_X10_late (l := _) hG _ _) rfl rfl (Nat.le_of_ble_eq_true rfl) (fun q4 => ?_)
  refine s_icmp_eq (tgt := 2569) (n := 2394) hX (dec_of D_L_law52 (i := 14) rfl) rfl rfl ?_ ?_
  · refine s_wid ?_
    exact s_sub [0, 1, 2, 3, 4] rfl (hit q4.2)
  · exact s_bad (by decide)
theorem lk_RL_251 : LkV RL 251 RX9 yX9_split cX9_split 5 (some .int) 4 := ⟨wd_1117, wd_1118, wd_1119, wd_83, wd_1120, by decide +kernel, by decide⟩
theorem lk_RL_254 : LkV RL 254 RX10 yX10_split cX10_split 8 (some .int) 4 := ⟨wd_1998, wd_1999, wd_2000, wd_93, wd_2001, by decide +kernel, by decide⟩
def T_L_law53 : List (Nat × Instr × Nat) := [(2396, .aload_n 1, 1), (2397, .aload_n 0, 1), (2398, .iload 4, 2), (2400, .iconst 1, 1), (2401, .iadd, 1), (2402, .iaload, 1), (2403, .aload_n 0, 1), (2404, .iload 4, 2), (2406, .iconst 2, 1), (2407, .iadd, 1), (2408, .iaload, 1), (2409, .aload_n 0, 1), (2410, .iload 4, 2), (2412, .iconst 3, 1), (2413, .iadd, 1), (2414, .iaload, 1), (2415, .aload_n 0, 1), (2416, .iload 4, 2), (2418, .iconst 4, 1), (2419, .iadd, 1), (2420, .iaload, 1), (2421, .invokevirtual 251, 3), (2424, .aload_n 2, 1), (2425, .aload_n 0, 1), (2426, .iload 4, 2), (2428, .iconst 1, 1), (2429, .iadd, 1), (2430, .iaload, 1), (2431, .aload_n 0, 1), (2432, .iload 4, 2), (2434, .iconst 2, 1), (2435, .iadd, 1), (2436, .iaload, 1), (2437, .aload_n 0, 1), (2438, .iload 4, 2), (2440, .iconst 3, 1), (2441, .iadd, 1), (2442, .iaload, 1), (2443, .aload_n 0, 1), (2444, .iload 4, 2), (2446, .iconst 4, 1), (2447, .iadd, 1), (2448, .iaload, 1), (2449, .invokevirtual 254, 3), (2452, .if_icmp .eq 117, 3), (2455, .iconst 0, 1), (2456, .ireturn, 1)]
theorem D_L_law53 : dchk code T_L_law53 = true := by decide +kernel
def lawC53 (xs : Nat → Int32) (L : Nat) (rec : ST × Int32 → Option Int32) (σ : ST) (i : Int32) : Option Int32 :=
  bd_ (ldX xs L (i + 1)) (fun v1 => bd_ (ldX xs L (i + 2)) (fun v2 => bd_ (ldX xs L (i + 3)) (fun v3 => bd_ (ldX xs L (i + 4)) (fun v4 => bd_ (Rp_split (σ) v1 v2 v3 v4) (fun q5 => bd_ (ldX xs L (i + 1)) (fun v6 => bd_ (ldX xs L (i + 2)) (fun v7 => bd_ (ldX xs L (i + 3)) (fun v8 => bd_ (ldX xs L (i + 4)) (fun v9 => bd_ (Mo_split q5.2 v6 v7 v8 v9) (fun q10 => (if q5.1 = q10.1 then rec (q10.2, i + 7) else some 0)))))))))))
set_option maxHeartbeats 4000000 in
set_option maxRecDepth 100000 in
theorem s_lawC53 {G : GW} (hG : Good G) {X : CX} {b L : Nat} {xs : Nat → Int32} (hX : Ok G X code 7 RL 14) (hsc : Scr G X b L xs) {l : Launch} (hXl : X.2.1 = l) (hl0 : l.stackTraces = false) (hc : X.2.2.2.2.2.2.2.2.2.2.1 + 1 ≤ X.2.2.2.1.cells) (hs : X.2.2.2.2.2.2.2.2.2.2.2 + 6 ≤ X.2.2.2.1.slots) {σ : ST} {i : Int32} {rec : ST × Int32 → Option Int32} (hit : ∀ σ1, Sim G (bump X) 7 (LQ X b) σ1 2569 [(0, .ref b), (1, .ref (ga G 130 0)), (2, .ref (ga G 131 0)), (3, .ref (ga G 105 0)), (4, .int i)] [] (rec (σ1, i + 7))) : Sim G X 7 (LQ X b) σ 2396 [(0, .ref b), (1, .ref (ga G 130 0)), (2, .ref (ga G 131 0)), (3, .ref (ga G 105 0)), (4, .int i)] [] (lawC53 xs L rec σ i) := by
  unfold lawC53
  refine s_aload_n 1 (n := 2397) hX (dec_of D_L_law53 (i := 0) rfl) rfl rfl rfl ?_
  refine s_aload_n 0 (n := 2398) hX (dec_of D_L_law53 (i := 1) rfl) rfl rfl rfl ?_
  refine s_iload 4 (n := 2400) hX (dec_of D_L_law53 (i := 2) rfl) rfl rfl ?_
  refine s_iconst (v := 1) (n := 2401) hX (dec_of D_L_law53 (i := 3) rfl) rfl (by decide) ?_
  refine s_iadd (n := 2402) hX (dec_of D_L_law53 (i := 4) rfl) rfl ?_
  refine s_sld (n := 2403) hX hsc (dec_of D_L_law53 (i := 5) rfl) rfl (fun v1 => ?_)
  refine s_aload_n 0 (n := 2404) hX (dec_of D_L_law53 (i := 6) rfl) rfl rfl rfl ?_
  refine s_iload 4 (n := 2406) hX (dec_of D_L_law53 (i := 7) rfl) rfl rfl ?_
  refine s_iconst (v := 2) (n := 2407) hX (dec_of D_L_law53 (i := 8) rfl) rfl (by decide) ?_
  refine s_iadd (n := 2408) hX (dec_of D_L_law53 (i := 9) rfl) rfl ?_
  refine s_sld (n := 2409) hX hsc (dec_of D_L_law53 (i := 10) rfl) rfl (fun v2 => ?_)
  refine s_aload_n 0 (n := 2410) hX (dec_of D_L_law53 (i := 11) rfl) rfl rfl rfl ?_
  refine s_iload 4 (n := 2412) hX (dec_of D_L_law53 (i := 12) rfl) rfl rfl ?_
  refine s_iconst (v := 3) (n := 2413) hX (dec_of D_L_law53 (i := 13) rfl) rfl (by decide) ?_
  refine s_iadd (n := 2414) hX (dec_of D_L_law53 (i := 14) rfl) rfl ?_
  refine s_sld (n := 2415) hX hsc (dec_of D_L_law53 (i := 15) rfl) rfl (fun v3 => ?_)
  refine s_aload_n 0 (n := 2416) hX (dec_of D_L_law53 (i := 16) rfl) rfl rfl rfl ?_
  refine s_iload 4 (n := 2418) hX (dec_of D_L_law53 (i := 17) rfl) rfl rfl ?_
  refine s_iconst (v := 4) (n := 2419) hX (dec_of D_L_law53 (i := 18) rfl) rfl (by decide) ?_
  refine s_iadd (n := 2420) hX (dec_of D_L_law53 (i := 19) rfl) rfl ?_
  refine s_sld (n := 2421) hX hsc (dec_of D_L_law53 (i := 20) rfl) rfl (fun v4 => ?_)
  refine s_callVP (c := 9) (n := 2424) hX cls9 (vk130 (by omega)) lk_RL_251 (dec_of D_L_law53 (i := 21) rfl) rfl (by decide) (c_X9_split (l := _) hG _ _ _ _ _) rfl rfl (Nat.le_of_ble_eq_true rfl) (fun q5 => ?_)
  refine s_aload_n 2 (n := 2425) hX (dec_of D_L_law53 (i := 22) rfl) rfl rfl rfl ?_
  refine s_aload_n 0 (n := 2426) hX (dec_of D_L_law53 (i := 23) rfl) rfl rfl rfl ?_
  refine s_iload 4 (n := 2428) hX (dec_of D_L_law53 (i := 24) rfl) rfl rfl ?_
  refine s_iconst (v := 1) (n := 2429) hX (dec_of D_L_law53 (i := 25) rfl) rfl (by decide) ?_
  refine s_iadd (n := 2430) hX (dec_of D_L_law53 (i := 26) rfl) rfl ?_
  refine s_sld (n := 2431) hX hsc (dec_of D_L_law53 (i := 27) rfl) rfl (fun v6 => ?_)
  refine s_aload_n 0 (n := 2432) hX (dec_of D_L_law53 (i := 28) rfl) rfl rfl rfl ?_
  refine s_iload 4 (n := 2434) hX (dec_of D_L_law53 (i := 29) rfl) rfl rfl ?_
  refine s_iconst (v := 2) (n := 2435) hX (dec_of D_L_law53 (i := 30) rfl) rfl (by decide) ?_
  refine s_iadd (n := 2436) hX (dec_of D_L_law53 (i := 31) rfl) rfl ?_
  refine s_sld (n := 2437) hX hsc (dec_of D_L_law53 (i := 32) rfl) rfl (fun v7 => ?_)
  refine s_aload_n 0 (n := 2438) hX (dec_of D_L_law53 (i := 33) rfl) rfl rfl rfl ?_
  refine s_iload 4 (n := 2440) hX (dec_of D_L_law53 (i := 34) rfl) rfl rfl ?_
  refine s_iconst (v := 3) (n := 2441) hX (dec_of D_L_law53 (i := 35) rfl) rfl (by decide) ?_
  refine s_iadd (n := 2442) hX (dec_of D_L_law53 (i := 36) rfl) rfl ?_
  refine s_sld (n := 2443) hX hsc (dec_of D_L_law53 (i := 37) rfl) rfl (fun v8 => ?_)
  refine s_aload_n 0 (n := 2444) hX (dec_of D_L_law53 (i := 38) rfl) rfl rfl rfl ?_
  refine s_iload 4 (n := 2446) hX (dec_of D_L_law53 (i := 39) rfl) rfl rfl ?_
  refine s_iconst (v := 4) (n := 2447) hX (dec_of D_L_law53 (i := 40) rfl) rfl (by decide) ?_
  refine s_iadd (n := 2448) hX (dec_of D_L_law53 (i := 41) rfl) rfl ?_
  refine s_sld (n := 2449) hX hsc (dec_of D_L_law53 (i := 42) rfl) rfl (fun v9 => ?_)
  refine s_callVP (c := 10) (n := 2452) hX cls10 (vk131 (by omega)) lk_RL_254 (dec_of D_L_law53 (i := 43) rfl) rfl (by decide) (c_X10_split (l := _) hG _ _ _ _ _) rfl rfl (Nat.le_of_ble_eq_true rfl) (fun q10 => ?_)
  refine s_icmp_eq (tgt := 2569) (n := 2455) hX (dec_of D_L_law53 (i := 44) rfl) rfl rfl ?_ ?_
  · refine s_wid ?_
    exact s_sub [0, 1, 2, 3, 4] rfl (hit q10.2)
  · exact s_bad (by decide)
theorem lk_RL_255 : LkV RL 255 RX9 yX9_dearest cX9_dearest 4 (some .int) 1 := ⟨wd_1082, wd_1083, wd_1084, wd_83, wd_1085, by decide +kernel, by decide⟩
theorem lk_RL_258 : LkV RL 258 RX10 yX10_dearest cX10_dearest 4 (some .int) 1 := ⟨wd_2002, wd_2003, wd_2004, wd_93, wd_2005, by decide +kernel, by decide⟩
def T_L_law54 : List (Nat × Instr × Nat) := [(2457, .aload_n 1, 1), (2458, .aload_n 0, 1), (2459, .iload 4, 2), (2461, .iconst 1, 1), (2462, .iadd, 1), (2463, .iaload, 1), (2464, .invokevirtual 255, 3), (2467, .aload_n 2, 1), (2468, .aload_n 0, 1), (2469, .iload 4, 2), (2471, .iconst 1, 1), (2472, .iadd, 1), (2473, .iaload, 1), (2474, .invokevirtual 258, 3), (2477, .if_icmp .eq 92, 3), (2480, .iconst 0, 1), (2481, .ireturn, 1)]
theorem D_L_law54 : dchk code T_L_law54 = true := by decide +kernel
def lawC54 (xs : Nat → Int32) (L : Nat) (rec : ST × Int32 → Option Int32) (σ : ST) (i : Int32) : Option Int32 :=
  bd_ (ldX xs L (i + 1)) (fun v1 => bd_ (Rp_dearest (σ) v1) (fun q2 => bd_ (ldX xs L (i + 1)) (fun v3 => bd_ (Mo_dearest (σ) v3) (fun q4 => (if q2 = q4.1 then rec (q4.2, i + 7) else some 0)))))
set_option maxHeartbeats 4000000 in
set_option maxRecDepth 100000 in
theorem s_lawC54 {G : GW} (hG : Good G) {X : CX} {b L : Nat} {xs : Nat → Int32} (hX : Ok G X code 7 RL 14) (hsc : Scr G X b L xs) {l : Launch} (hXl : X.2.1 = l) (hl0 : l.stackTraces = false) (hc : X.2.2.2.2.2.2.2.2.2.2.1 + 1 ≤ X.2.2.2.1.cells) (hs : X.2.2.2.2.2.2.2.2.2.2.2 + 6 ≤ X.2.2.2.1.slots) {σ : ST} {i : Int32} {rec : ST × Int32 → Option Int32} (hit : ∀ σ1, Sim G (bump X) 7 (LQ X b) σ1 2569 [(0, .ref b), (1, .ref (ga G 130 0)), (2, .ref (ga G 131 0)), (3, .ref (ga G 105 0)), (4, .int i)] [] (rec (σ1, i + 7))) : Sim G X 7 (LQ X b) σ 2457 [(0, .ref b), (1, .ref (ga G 130 0)), (2, .ref (ga G 131 0)), (3, .ref (ga G 105 0)), (4, .int i)] [] (lawC54 xs L rec σ i) := by
  unfold lawC54
  refine s_aload_n 1 (n := 2458) hX (dec_of D_L_law54 (i := 0) rfl) rfl rfl rfl ?_
  refine s_aload_n 0 (n := 2459) hX (dec_of D_L_law54 (i := 1) rfl) rfl rfl rfl ?_
  refine s_iload 4 (n := 2461) hX (dec_of D_L_law54 (i := 2) rfl) rfl rfl ?_
  refine s_iconst (v := 1) (n := 2462) hX (dec_of D_L_law54 (i := 3) rfl) rfl (by decide) ?_
  refine s_iadd (n := 2463) hX (dec_of D_L_law54 (i := 4) rfl) rfl ?_
  refine s_sld (n := 2464) hX hsc (dec_of D_L_law54 (i := 5) rfl) rfl (fun v1 => ?_)
  refine s_callVI (c := 9) (n := 2467) hX cls9 (vk130 (by omega)) lk_RL_255 (dec_of D_L_law54 (i := 6) rfl) rfl (by decide) (c_X9_dearest (l := _) hG _ _) rfl rfl (Nat.le_of_ble_eq_true rfl) (fun q2 => ?_)
  refine s_aload_n 2 (n := 2468) hX (dec_of D_L_law54 (i := 7) rfl) rfl rfl rfl ?_
  refine s_aload_n 0 (n := 2469) hX (dec_of D_L_law54 (i := 8) rfl) rfl rfl rfl ?_
  refine s_iload 4 (n := 2471) hX (dec_of D_L_law54 (i := 9) rfl) rfl rfl ?_
  refine s_iconst (v := 1) (n := 2472) hX (dec_of D_L_law54 (i := 10) rfl) rfl (by decide) ?_
  refine s_iadd (n := 2473) hX (dec_of D_L_law54 (i := 11) rfl) rfl ?_
  refine s_sld (n := 2474) hX hsc (dec_of D_L_law54 (i := 12) rfl) rfl (fun v3 => ?_)
  refine s_callVP (c := 10) (n := 2477) hX cls10 (vk131 (by omega)) lk_RL_258 (dec_of D_L_law54 (i := 13) rfl) rfl (by decide) (c_X10_dearest (l := _) hG _ _) rfl rfl (Nat.le_of_ble_eq_true rfl) (fun q4 => ?_)
  refine s_icmp_eq (tgt := 2569) (n := 2480) hX (dec_of D_L_law54 (i := 14) rfl) rfl rfl ?_ ?_
  · refine s_wid ?_
    exact s_sub [0, 1, 2, 3, 4] rfl (hit q4.2)
  · exact s_bad (by decide)
theorem lk_RL_259 : LkV RL 259 RX9 yX9_reached cX9_reached 3 (some .int) 2 := ⟨wd_820, wd_821, wd_822, wd_83, wd_823, by decide +kernel, by decide⟩
theorem lk_RL_262 : LkV RL 262 RX10 yX10_reached cX10_reached 5 (some .int) 2 := ⟨wd_2006, wd_2007, wd_2008, wd_93, wd_2009, by decide +kernel, by decide⟩
def T_L_law55 : List (Nat × Instr × Nat) := [(2482, .aload_n 1, 1), (2483, .aload_n 0, 1), (2484, .iload 4, 2), (2486, .iconst 1, 1), (2487, .iadd, 1), (2488, .iaload, 1), (2489, .aload_n 0, 1), (2490, .iload 4, 2), (2492, .iconst 2, 1), (2493, .iadd, 1), (2494, .iaload, 1), (2495, .invokevirtual 259, 3), (2498, .aload_n 2, 1), (2499, .aload_n 0, 1), (2500, .iload 4, 2), (2502, .iconst 1, 1), (2503, .iadd, 1), (2504, .iaload, 1), (2505, .aload_n 0, 1), (2506, .iload 4, 2), (2508, .iconst 2, 1), (2509, .iadd, 1), (2510, .iaload, 1), (2511, .invokevirtual 262, 3), (2514, .if_icmp .eq 55, 3), (2517, .iconst 0, 1), (2518, .ireturn, 1)]
theorem D_L_law55 : dchk code T_L_law55 = true := by decide +kernel
def lawC55 (xs : Nat → Int32) (L : Nat) (rec : ST × Int32 → Option Int32) (σ : ST) (i : Int32) : Option Int32 :=
  bd_ (ldX xs L (i + 1)) (fun v1 => bd_ (ldX xs L (i + 2)) (fun v2 => bd_ (Rp_reached (σ) v1 v2) (fun q3 => bd_ (ldX xs L (i + 1)) (fun v4 => bd_ (ldX xs L (i + 2)) (fun v5 => bd_ (Mo_reached q3.2 v4 v5) (fun q6 => (if q3.1 = q6.1 then rec (q6.2, i + 7) else some 0)))))))
set_option maxHeartbeats 4000000 in
set_option maxRecDepth 100000 in
theorem s_lawC55 {G : GW} (hG : Good G) {X : CX} {b L : Nat} {xs : Nat → Int32} (hX : Ok G X code 7 RL 14) (hsc : Scr G X b L xs) {l : Launch} (hXl : X.2.1 = l) (hl0 : l.stackTraces = false) (hc : X.2.2.2.2.2.2.2.2.2.2.1 + 1 ≤ X.2.2.2.1.cells) (hs : X.2.2.2.2.2.2.2.2.2.2.2 + 6 ≤ X.2.2.2.1.slots) {σ : ST} {i : Int32} {rec : ST × Int32 → Option Int32} (hit : ∀ σ1, Sim G (bump X) 7 (LQ X b) σ1 2569 [(0, .ref b), (1, .ref (ga G 130 0)), (2, .ref (ga G 131 0)), (3, .ref (ga G 105 0)), (4, .int i)] [] (rec (σ1, i + 7))) : Sim G X 7 (LQ X b) σ 2482 [(0, .ref b), (1, .ref (ga G 130 0)), (2, .ref (ga G 131 0)), (3, .ref (ga G 105 0)), (4, .int i)] [] (lawC55 xs L rec σ i) := by
  unfold lawC55
  refine s_aload_n 1 (n := 2483) hX (dec_of D_L_law55 (i := 0) rfl) rfl rfl rfl ?_
  refine s_aload_n 0 (n := 2484) hX (dec_of D_L_law55 (i := 1) rfl) rfl rfl rfl ?_
  refine s_iload 4 (n := 2486) hX (dec_of D_L_law55 (i := 2) rfl) rfl rfl ?_
  refine s_iconst (v := 1) (n := 2487) hX (dec_of D_L_law55 (i := 3) rfl) rfl (by decide) ?_
  refine s_iadd (n := 2488) hX (dec_of D_L_law55 (i := 4) rfl) rfl ?_
  refine s_sld (n := 2489) hX hsc (dec_of D_L_law55 (i := 5) rfl) rfl (fun v1 => ?_)
  refine s_aload_n 0 (n := 2490) hX (dec_of D_L_law55 (i := 6) rfl) rfl rfl rfl ?_
  refine s_iload 4 (n := 2492) hX (dec_of D_L_law55 (i := 7) rfl) rfl rfl ?_
  refine s_iconst (v := 2) (n := 2493) hX (dec_of D_L_law55 (i := 8) rfl) rfl (by decide) ?_
  refine s_iadd (n := 2494) hX (dec_of D_L_law55 (i := 9) rfl) rfl ?_
  refine s_sld (n := 2495) hX hsc (dec_of D_L_law55 (i := 10) rfl) rfl (fun v2 => ?_)
  refine s_callVP (c := 9) (n := 2498) hX cls9 (vk130 (by omega)) lk_RL_259 (dec_of D_L_law55 (i := 11) rfl) rfl (by decide) (c_X9_reached (l := _) hG _ _ _) rfl rfl (Nat.le_of_ble_eq_true rfl) (fun q3 => ?_)
  refine s_aload_n 2 (n := 2499) hX (dec_of D_L_law55 (i := 12) rfl) rfl rfl rfl ?_
  refine s_aload_n 0 (n := 2500) hX (dec_of D_L_law55 (i := 13) rfl) rfl rfl rfl ?_
  refine s_iload 4 (n := 2502) hX (dec_of D_L_law55 (i := 14) rfl) rfl rfl ?_
  refine s_iconst (v := 1) (n := 2503) hX (dec_of D_L_law55 (i := 15) rfl) rfl (by decide) ?_
  refine s_iadd (n := 2504) hX (dec_of D_L_law55 (i := 16) rfl) rfl ?_
  refine s_sld (n := 2505) hX hsc (dec_of D_L_law55 (i := 17) rfl) rfl (fun v4 => ?_)
  refine s_aload_n 0 (n := 2506) hX (dec_of D_L_law55 (i := 18) rfl) rfl rfl rfl ?_
  refine s_iload 4 (n := 2508) hX (dec_of D_L_law55 (i := 19) rfl) rfl rfl ?_
  refine s_iconst (v := 2) (n := 2509) hX (dec_of D_L_law55 (i := 20) rfl) rfl (by decide) ?_
  refine s_iadd (n := 2510) hX (dec_of D_L_law55 (i := 21) rfl) rfl ?_
  refine s_sld (n := 2511) hX hsc (dec_of D_L_law55 (i := 22) rfl) rfl (fun v5 => ?_)
  refine s_callVP (c := 10) (n := 2514) hX cls10 (vk131 (by omega)) lk_RL_262 (dec_of D_L_law55 (i := 23) rfl) rfl (by decide) (c_X10_reached (l := _) hG _ _ _) rfl rfl (Nat.le_of_ble_eq_true rfl) (fun q6 => ?_)
  refine s_icmp_eq (tgt := 2569) (n := 2517) hX (dec_of D_L_law55 (i := 24) rfl) rfl rfl ?_ ?_
  · refine s_wid ?_
    exact s_sub [0, 1, 2, 3, 4] rfl (hit q6.2)
  · exact s_bad (by decide)
theorem lk_RL_263 : LkV RL 263 RX9 yX9_money cX9_money 4 (some .int) 1 := ⟨wd_1086, wd_1087, wd_1088, wd_83, wd_1089, by decide +kernel, by decide⟩
theorem lk_RL_266 : LkV RL 266 RX10 yX10_money cX10_money 2 (some .int) 1 := ⟨wd_2010, wd_2011, wd_2012, wd_93, wd_2013, by decide +kernel, by decide⟩
def T_L_law56 : List (Nat × Instr × Nat) := [(2519, .aload_n 1, 1), (2520, .aload_n 0, 1), (2521, .iload 4, 2), (2523, .iconst 1, 1), (2524, .iadd, 1), (2525, .iaload, 1), (2526, .invokevirtual 263, 3), (2529, .aload_n 2, 1), (2530, .aload_n 0, 1), (2531, .iload 4, 2), (2533, .iconst 1, 1), (2534, .iadd, 1), (2535, .iaload, 1), (2536, .invokevirtual 266, 3), (2539, .if_icmp .eq 30, 3), (2542, .iconst 0, 1), (2543, .ireturn, 1)]
theorem D_L_law56 : dchk code T_L_law56 = true := by decide +kernel
def lawC56 (xs : Nat → Int32) (L : Nat) (rec : ST × Int32 → Option Int32) (σ : ST) (i : Int32) : Option Int32 :=
  bd_ (ldX xs L (i + 1)) (fun v1 => bd_ (Rp_money (σ) v1) (fun q2 => bd_ (ldX xs L (i + 1)) (fun v3 => bd_ (Mo_money (σ) v3) (fun q4 => (if q2 = q4.1 then rec (q4.2, i + 7) else some 0)))))
set_option maxHeartbeats 4000000 in
set_option maxRecDepth 100000 in
theorem s_lawC56 {G : GW} (hG : Good G) {X : CX} {b L : Nat} {xs : Nat → Int32} (hX : Ok G X code 7 RL 14) (hsc : Scr G X b L xs) {l : Launch} (hXl : X.2.1 = l) (hl0 : l.stackTraces = false) (hc : X.2.2.2.2.2.2.2.2.2.2.1 + 1 ≤ X.2.2.2.1.cells) (hs : X.2.2.2.2.2.2.2.2.2.2.2 + 6 ≤ X.2.2.2.1.slots) {σ : ST} {i : Int32} {rec : ST × Int32 → Option Int32} (hit : ∀ σ1, Sim G (bump X) 7 (LQ X b) σ1 2569 [(0, .ref b), (1, .ref (ga G 130 0)), (2, .ref (ga G 131 0)), (3, .ref (ga G 105 0)), (4, .int i)] [] (rec (σ1, i + 7))) : Sim G X 7 (LQ X b) σ 2519 [(0, .ref b), (1, .ref (ga G 130 0)), (2, .ref (ga G 131 0)), (3, .ref (ga G 105 0)), (4, .int i)] [] (lawC56 xs L rec σ i) := by
  unfold lawC56
  refine s_aload_n 1 (n := 2520) hX (dec_of D_L_law56 (i := 0) rfl) rfl rfl rfl ?_
  refine s_aload_n 0 (n := 2521) hX (dec_of D_L_law56 (i := 1) rfl) rfl rfl rfl ?_
  refine s_iload 4 (n := 2523) hX (dec_of D_L_law56 (i := 2) rfl) rfl rfl ?_
  refine s_iconst (v := 1) (n := 2524) hX (dec_of D_L_law56 (i := 3) rfl) rfl (by decide) ?_
  refine s_iadd (n := 2525) hX (dec_of D_L_law56 (i := 4) rfl) rfl ?_
  refine s_sld (n := 2526) hX hsc (dec_of D_L_law56 (i := 5) rfl) rfl (fun v1 => ?_)
  refine s_callVI (c := 9) (n := 2529) hX cls9 (vk130 (by omega)) lk_RL_263 (dec_of D_L_law56 (i := 6) rfl) rfl (by decide) (c_X9_money (l := _) hG _ _) rfl rfl (Nat.le_of_ble_eq_true rfl) (fun q2 => ?_)
  refine s_aload_n 2 (n := 2530) hX (dec_of D_L_law56 (i := 7) rfl) rfl rfl rfl ?_
  refine s_aload_n 0 (n := 2531) hX (dec_of D_L_law56 (i := 8) rfl) rfl rfl rfl ?_
  refine s_iload 4 (n := 2533) hX (dec_of D_L_law56 (i := 9) rfl) rfl rfl ?_
  refine s_iconst (v := 1) (n := 2534) hX (dec_of D_L_law56 (i := 10) rfl) rfl (by decide) ?_
  refine s_iadd (n := 2535) hX (dec_of D_L_law56 (i := 11) rfl) rfl ?_
  refine s_sld (n := 2536) hX hsc (dec_of D_L_law56 (i := 12) rfl) rfl (fun v3 => ?_)
  refine s_callVP (c := 10) (n := 2539) hX cls10 (vk131 (by omega)) lk_RL_266 (dec_of D_L_law56 (i := 13) rfl) rfl (by decide) (c_X10_money (l := _) hG _ _) rfl rfl (Nat.le_of_ble_eq_true rfl) (fun q4 => ?_)
  refine s_icmp_eq (tgt := 2569) (n := 2542) hX (dec_of D_L_law56 (i := 14) rfl) rfl rfl ?_ ?_
  · refine s_wid ?_
    exact s_sub [0, 1, 2, 3, 4] rfl (hit q4.2)
  · exact s_bad (by decide)
theorem lk_RL_267 : LkV RL 267 RX9 yX9_count cX9_count 2 (some .int) 1 := ⟨wd_727, wd_728, wd_729, wd_83, wd_730, by decide +kernel, by decide⟩
theorem lk_RL_270 : LkV RL 270 RX10 yX10_count cX10_count 2 (some .int) 1 := ⟨wd_2018, wd_2019, wd_2020, wd_93, wd_2021, by decide +kernel, by decide⟩
def T_L_law57 : List (Nat × Instr × Nat) := [(2544, .aload_n 1, 1), (2545, .aload_n 0, 1), (2546, .iload 4, 2), (2548, .iconst 1, 1), (2549, .iadd, 1), (2550, .iaload, 1), (2551, .invokevirtual 267, 3), (2554, .aload_n 2, 1), (2555, .aload_n 0, 1), (2556, .iload 4, 2), (2558, .iconst 1, 1), (2559, .iadd, 1), (2560, .iaload, 1), (2561, .invokevirtual 270, 3), (2564, .if_icmp .eq 5, 3), (2567, .iconst 0, 1), (2568, .ireturn, 1)]
theorem D_L_law57 : dchk code T_L_law57 = true := by decide +kernel
def lawC57 (xs : Nat → Int32) (L : Nat) (rec : ST × Int32 → Option Int32) (σ : ST) (i : Int32) : Option Int32 :=
  bd_ (ldX xs L (i + 1)) (fun v1 => bd_ (Rp_count (σ) v1) (fun q2 => bd_ (ldX xs L (i + 1)) (fun v3 => bd_ (Mo_count (σ) v3) (fun q4 => (if q2 = q4.1 then rec (q4.2, i + 7) else some 0)))))
set_option maxHeartbeats 4000000 in
set_option maxRecDepth 100000 in
theorem s_lawC57 {G : GW} (hG : Good G) {X : CX} {b L : Nat} {xs : Nat → Int32} (hX : Ok G X code 7 RL 14) (hsc : Scr G X b L xs) {l : Launch} (hXl : X.2.1 = l) (hl0 : l.stackTraces = false) (hc : X.2.2.2.2.2.2.2.2.2.2.1 + 1 ≤ X.2.2.2.1.cells) (hs : X.2.2.2.2.2.2.2.2.2.2.2 + 6 ≤ X.2.2.2.1.slots) {σ : ST} {i : Int32} {rec : ST × Int32 → Option Int32} (hit : ∀ σ1, Sim G (bump X) 7 (LQ X b) σ1 2569 [(0, .ref b), (1, .ref (ga G 130 0)), (2, .ref (ga G 131 0)), (3, .ref (ga G 105 0)), (4, .int i)] [] (rec (σ1, i + 7))) : Sim G X 7 (LQ X b) σ 2544 [(0, .ref b), (1, .ref (ga G 130 0)), (2, .ref (ga G 131 0)), (3, .ref (ga G 105 0)), (4, .int i)] [] (lawC57 xs L rec σ i) := by
  unfold lawC57
  refine s_aload_n 1 (n := 2545) hX (dec_of D_L_law57 (i := 0) rfl) rfl rfl rfl ?_
  refine s_aload_n 0 (n := 2546) hX (dec_of D_L_law57 (i := 1) rfl) rfl rfl rfl ?_
  refine s_iload 4 (n := 2548) hX (dec_of D_L_law57 (i := 2) rfl) rfl rfl ?_
  refine s_iconst (v := 1) (n := 2549) hX (dec_of D_L_law57 (i := 3) rfl) rfl (by decide) ?_
  refine s_iadd (n := 2550) hX (dec_of D_L_law57 (i := 4) rfl) rfl ?_
  refine s_sld (n := 2551) hX hsc (dec_of D_L_law57 (i := 5) rfl) rfl (fun v1 => ?_)
  refine s_callVI (c := 9) (n := 2554) hX cls9 (vk130 (by omega)) lk_RL_267 (dec_of D_L_law57 (i := 6) rfl) rfl (by decide) (c_X9_count (l := _) hG _ _) rfl rfl (Nat.le_of_ble_eq_true rfl) (fun q2 => ?_)
  refine s_aload_n 2 (n := 2555) hX (dec_of D_L_law57 (i := 7) rfl) rfl rfl rfl ?_
  refine s_aload_n 0 (n := 2556) hX (dec_of D_L_law57 (i := 8) rfl) rfl rfl rfl ?_
  refine s_iload 4 (n := 2558) hX (dec_of D_L_law57 (i := 9) rfl) rfl rfl ?_
  refine s_iconst (v := 1) (n := 2559) hX (dec_of D_L_law57 (i := 10) rfl) rfl (by decide) ?_
  refine s_iadd (n := 2560) hX (dec_of D_L_law57 (i := 11) rfl) rfl ?_
  refine s_sld (n := 2561) hX hsc (dec_of D_L_law57 (i := 12) rfl) rfl (fun v3 => ?_)
  refine s_callVP (c := 10) (n := 2564) hX cls10 (vk131 (by omega)) lk_RL_270 (dec_of D_L_law57 (i := 13) rfl) rfl (by decide) (c_X10_count (l := _) hG _ _) rfl rfl (Nat.le_of_ble_eq_true rfl) (fun q4 => ?_)
  refine s_icmp_eq (tgt := 2569) (n := 2567) hX (dec_of D_L_law57 (i := 14) rfl) rfl rfl ?_ ?_
  · refine s_wid ?_
    exact s_sub [0, 1, 2, 3, 4] rfl (hit q4.2)
  · exact s_bad (by decide)
def T_L_head : List (Nat × Instr × Nat) := [(23, .iload 4, 2), (25, .aload_n 0, 1), (26, .arraylength, 1), (27, .bipush 7, 2), (29, .isub, 1), (30, .if_icmp .gt 2545, 3), (33, .aload_n 0, 1), (34, .iload 4, 2), (36, .iaload, 1), (37, .bipush 63, 2), (39, .iand, 1), (40, .tableswitch 2529 0 57 #[248, 321, 346, 371, 439, 507, 575, 624, 661, 698, 747, 784, 821, 846, 859, 908, 921, 958, 983, 1032, 1045, 1082, 1119, 1132, 1181, 1242, 1291, 1328, 1389, 1450, 1487, 1524, 1561, 1598, 1685, 1746, 1783, 1808, 1873, 1886, 1911, 1972, 1997, 2022, 2059, 2096, 2121, 2170, 2207, 2244, 2269, 2306, 2331, 2356, 2417, 2442, 2479, 2504], 248), (2569, .iinc 4 7, 3), (2572, .goto (-2549), 3), (2575, .iconst 1, 1), (2576, .ireturn, 1)]
theorem D_L_head : dchk code T_L_head = true := by decide +kernel
def lawS (xs : Nat → Int32) (L : Nat) (rec : ST × Int32 → Option Int32) (z : ST × Int32) : Option Int32 :=
  if nI L - 7 < z.2 then some 1 else bd_ (ldX xs L z.2) (fun v => lt_ z.1 (fun σ => lt_ z.2 (fun i => sw_ (v &&& 63) 0 [lawC0 xs L rec σ i, lawC1 xs L rec σ i, lawC2 xs L rec σ i, lawC3 xs L rec σ i, lawC4 xs L rec σ i, lawC5 xs L rec σ i, lawC6 xs L rec σ i, lawC7 xs L rec σ i, lawC8 xs L rec σ i, lawC9 xs L rec σ i, lawC10 xs L rec σ i, lawC11 xs L rec σ i, lawC12 xs L rec σ i, lawC13 xs L rec σ i, lawC14 xs L rec σ i, lawC15 xs L rec σ i, lawC16 xs L rec σ i, lawC17 xs L rec σ i, lawC18 xs L rec σ i, lawC19 xs L rec σ i, lawC20 xs L rec σ i, lawC21 xs L rec σ i, lawC22 xs L rec σ i, lawC23 xs L rec σ i, lawC24 xs L rec σ i, lawC25 xs L rec σ i, lawC26 xs L rec σ i, lawC27 xs L rec σ i, lawC28 xs L rec σ i, lawC29 xs L rec σ i, lawC30 xs L rec σ i, lawC31 xs L rec σ i, lawC32 xs L rec σ i, lawC33 xs L rec σ i, lawC34 xs L rec σ i, lawC35 xs L rec σ i, lawC36 xs L rec σ i, lawC37 xs L rec σ i, lawC38 xs L rec σ i, lawC39 xs L rec σ i, lawC40 xs L rec σ i, lawC41 xs L rec σ i, lawC42 xs L rec σ i, lawC43 xs L rec σ i, lawC44 xs L rec σ i, lawC45 xs L rec σ i, lawC46 xs L rec σ i, lawC47 xs L rec σ i, lawC48 xs L rec σ i, lawC49 xs L rec σ i, lawC50 xs L rec σ i, lawC51 xs L rec σ i, lawC52 xs L rec σ i, lawC53 xs L rec σ i, lawC54 xs L rec σ i, lawC55 xs L rec σ i, lawC56 xs L rec σ i, lawC57 xs L rec σ i] (rec (σ, i + 7)))))
set_option maxHeartbeats 4000000 in
set_option maxRecDepth 100000 in
theorem s_law {G : GW} (hG : Good G) {b L : Nat} {xs : Nat → Int32} {l : Launch} (hl0 : l.stackTraces = false) : ∀ (n : Nat) (X : CX) (_ : Ok G X code 7 RL 14) (_ : Scr G X b L xs) (_ : X.2.1 = l) (_ : LawX X b) (_ : X.2.2.2.2.2.2.2.2.2.2.1 + n ≤ 601024) (_ : X.2.2.2.2.2.2.2.2.2.2.2 + 6 * n ≤ 7293034) (z : ST × Int32), Sim G X 7 (LQ X b) z.1 23 [(0, .ref b), (1, .ref (ga G 130 0)), (2, .ref (ga G 131 0)), (3, .ref (ga G 105 0)), (4, .int z.2)] [] (lp_ (lawS xs L) n z) := by
  intro n
  induction n with
  | zero => intro X hX hsc hXl hLX h1 h2 z q hq; cases hq
  | succ n ih =>
    intro X hX hsc hXl hLX h1 h2 z
    have er : X.2.2.2.1.cells = 601024 ∧ X.2.2.2.1.slots = 7293034 := by rw [hLX.1]; exact ⟨rfl, rfl⟩
    have hc : X.2.2.2.2.2.2.2.2.2.2.1 + 1 ≤ X.2.2.2.1.cells := by rw [er.1]; omega
    have hs : X.2.2.2.2.2.2.2.2.2.2.2 + 6 ≤ X.2.2.2.1.slots := by rw [er.2]; omega
    show Sim G X 7 (LQ X b) z.1 23 _ [] (lawS xs L (lp_ (lawS xs L) n) z)
    have hrec : ∀ (z : ST × Int32), Sim G (bump X) 7 (LQ X b) z.1 23 [(0, .ref b), (1, .ref (ga G 130 0)), (2, .ref (ga G 131 0)), (3, .ref (ga G 105 0)), (4, .int z.2)] [] (lp_ (lawS xs L) n z) := ih (bump X) (hX.bump hc hs) hsc hXl hLX (by show X.2.2.2.2.2.2.2.2.2.2.1 + 1 + n ≤ _; omega) (by show X.2.2.2.2.2.2.2.2.2.2.2 + 6 + 6 * n ≤ _; omega)
    generalize lp_ (lawS xs L) n = rec at hrec ⊢
    obtain ⟨σ, i⟩ := z
    have hit : ∀ σ1, Sim G (bump X) 7 (LQ X b) σ1 2569 [(0, .ref b), (1, .ref (ga G 130 0)), (2, .ref (ga G 131 0)), (3, .ref (ga G 105 0)), (4, .int i)] [] (rec (σ1, i + 7)) := by
      intro σ1
      have hX := hX.bump hc hs
      refine s_iinc (v := i + 7) (lv' := [(0, _), (1, _), (2, _), (3, _), (4, _)]) 4 [1, 2, 3, 4, 0] (n := 2572) hX (dec_of D_L_head (i := 12) rfl) rfl rfl rfl (by decide) rfl ?_
      refine s_goto (n := 23) hX (dec_of D_L_head (i := 13) rfl) rfl ?_
      exact hrec (σ1, i + 7)
    unfold lawS
    refine s_iload 4 (n := 25) hX (dec_of D_L_head (i := 0) rfl) rfl rfl ?_
    refine s_aload_n 0 (n := 26) hX (dec_of D_L_head (i := 1) rfl) rfl rfl rfl ?_
    refine s_slen (n := 27) hX hsc (dec_of D_L_head (i := 2) rfl) rfl ?_
    refine s_bipush (v := 7) (n := 29) hX (dec_of D_L_head (i := 3) rfl) rfl (by decide) ?_
    refine s_isub (n := 30) hX (dec_of D_L_head (i := 4) rfl) rfl ?_
    refine s_icmp_gt (tgt := 2575) (n := 33) hX (dec_of D_L_head (i := 5) rfl) rfl rfl ?_ ?_
    · refine s_iconst (v := 1) (n := 2576) hX (dec_of D_L_head (i := 14) rfl) rfl (by decide) ?_
      exact s_fin hX hLX hsc.2.2.2 (by omega) (by omega) (dec_of D_L_head (i := 15) rfl)
    refine s_aload_n 0 (n := 34) hX (dec_of D_L_head (i := 6) rfl) rfl rfl rfl ?_
    refine s_iload 4 (n := 36) hX (dec_of D_L_head (i := 7) rfl) rfl rfl ?_
    refine s_sld (n := 37) hX hsc (dec_of D_L_head (i := 8) rfl) rfl (fun v => ?_)
    show Sim G X 7 (LQ X b) σ 37 _ _ (sw_ (v &&& 63) 0 _ _)
    refine s_bipush (v := 63) (n := 39) hX (dec_of D_L_head (i := 9) rfl) rfl (by decide) ?_
    refine s_iand (n := 40) hX (dec_of D_L_head (i := 10) rfl) rfl ?_
    refine s_tsw (lo' := 0) (Ps := [_, _, _, _, _, _, _, _, _, _, _, _, _, _, _, _, _, _, _, _, _, _, _, _, _, _, _, _, _, _, _, _, _, _, _, _, _, _, _, _, _, _, _, _, _, _, _, _, _, _, _, _, _, _, _, _, _, _]) hX (dec_of D_L_head (i := 11) rfl) rfl 58 rfl (by decide) (by decide) [288, 361, 386, 411, 479, 547, 615, 664, 701, 738, 787, 824, 861, 886, 899, 948, 961, 998, 1023, 1072, 1085, 1122, 1159, 1172, 1221, 1282, 1331, 1368, 1429, 1490, 1527, 1564, 1601, 1638, 1725, 1786, 1823, 1848, 1913, 1926, 1951, 2012, 2037, 2062, 2099, 2136, 2161, 2210, 2247, 2284, 2309, 2346, 2371, 2396, 2457, 2482, 2519, 2544] 2569 rfl rfl (by decide +kernel) ?_ ?_
    · exact swS_cons (s_lawC0 hG hX hsc hXl hl0 hc hs hit) (swS_cons (s_lawC1 hG hX hsc hXl hl0 hc hs hit) (swS_cons (s_lawC2 hG hX hsc hXl hl0 hc hs hit) (swS_cons (s_lawC3 hG hX hsc hXl hl0 hc hs hit) (swS_cons (s_lawC4 hG hX hsc hXl hl0 hc hs hit) (swS_cons (s_lawC5 hG hX hsc hXl hl0 hc hs hit) (swS_cons (s_lawC6 hG hX hsc hXl hl0 hc hs hit) (swS_cons (s_lawC7 hG hX hsc hXl hl0 hc hs hit) (swS_cons (s_lawC8 hG hX hsc hXl hl0 hc hs hit) (swS_cons (s_lawC9 hG hX hsc hXl hl0 hc hs hit) (swS_cons (s_lawC10 hG hX hsc hXl hl0 hc hs hit) (swS_cons (s_lawC11 hG hX hsc hXl hl0 hc hs hit) (swS_cons (s_lawC12 hG hX hsc hXl hl0 hc hs hit) (swS_cons (s_lawC13 hG hX hsc hXl hl0 hc hs hit) (swS_cons (s_lawC14 hG hX hsc hXl hl0 hc hs hit) (swS_cons (s_lawC15 hG hX hsc hXl hl0 hc hs hit) (swS_cons (s_lawC16 hG hX hsc hXl hl0 hc hs hit) (swS_cons (s_lawC17 hG hX hsc hXl hl0 hc hs hit) (swS_cons (s_lawC18 hG hX hsc hXl hl0 hc hs hit) (swS_cons (s_lawC19 hG hX hsc hXl hl0 hc hs hit) (swS_cons (s_lawC20 hG hX hsc hXl hl0 hc hs hit) (swS_cons (s_lawC21 hG hX hsc hXl hl0 hc hs hit) (swS_cons (s_lawC22 hG hX hsc hXl hl0 hc hs hit) (swS_cons (s_lawC23 hG hX hsc hXl hl0 hc hs hit) (swS_cons (s_lawC24 hG hX hsc hXl hl0 hc hs hit) (swS_cons (s_lawC25 hG hX hsc hXl hl0 hc hs hit) (swS_cons (s_lawC26 hG hX hsc hXl hl0 hc hs hit) (swS_cons (s_lawC27 hG hX hsc hXl hl0 hc hs hit) (swS_cons (s_lawC28 hG hX hsc hXl hl0 hc hs hit) (swS_cons (s_lawC29 hG hX hsc hXl hl0 hc hs hit) (swS_cons (s_lawC30 hG hX hsc hXl hl0 hc hs hit) (swS_cons (s_lawC31 hG hX hsc hXl hl0 hc hs hit) (swS_cons (s_lawC32 hG hX hsc hXl hl0 hc hs hit) (swS_cons (s_lawC33 hG hX hsc hXl hl0 hc hs hit) (swS_cons (s_lawC34 hG hX hsc hXl hl0 hc hs hit) (swS_cons (s_lawC35 hG hX hsc hXl hl0 hc hs hit) (swS_cons (s_lawC36 hG hX hsc hXl hl0 hc hs hit) (swS_cons (s_lawC37 hG hX hsc hXl hl0 hc hs hit) (swS_cons (s_lawC38 hG hX hsc hXl hl0 hc hs hit) (swS_cons (s_lawC39 hG hX hsc hXl hl0 hc hs hit) (swS_cons (s_lawC40 hG hX hsc hXl hl0 hc hs hit) (swS_cons (s_lawC41 hG hX hsc hXl hl0 hc hs hit) (swS_cons (s_lawC42 hG hX hsc hXl hl0 hc hs hit) (swS_cons (s_lawC43 hG hX hsc hXl hl0 hc hs hit) (swS_cons (s_lawC44 hG hX hsc hXl hl0 hc hs hit) (swS_cons (s_lawC45 hG hX hsc hXl hl0 hc hs hit) (swS_cons (s_lawC46 hG hX hsc hXl hl0 hc hs hit) (swS_cons (s_lawC47 hG hX hsc hXl hl0 hc hs hit) (swS_cons (s_lawC48 hG hX hsc hXl hl0 hc hs hit) (swS_cons (s_lawC49 hG hX hsc hXl hl0 hc hs hit) (swS_cons (s_lawC50 hG hX hsc hXl hl0 hc hs hit) (swS_cons (s_lawC51 hG hX hsc hXl hl0 hc hs hit) (swS_cons (s_lawC52 hG hX hsc hXl hl0 hc hs hit) (swS_cons (s_lawC53 hG hX hsc hXl hl0 hc hs hit) (swS_cons (s_lawC54 hG hX hsc hXl hl0 hc hs hit) (swS_cons (s_lawC55 hG hX hsc hXl hl0 hc hs hit) (swS_cons (s_lawC56 hG hX hsc hXl hl0 hc hs hit) (swS_cons (s_lawC57 hG hX hsc hXl hl0 hc hs hit) (swS_nil))))))))))))))))))))))))))))))))))))))))))))))))))))))))))
    · exact s_wid (hit σ)

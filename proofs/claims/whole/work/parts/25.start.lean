section StartRows
variable {G : GW} {X : CX} {cc : ByteArray} {nL d mc ms : Nat} {own : String} {Q : State → Prop} {a b n : Nat} {C : Nat → va_E} {pc m : Nat} {lv lv' : List (Nat × Value)} {st : List Value}
theorem c_astore_n {q : Fin 4} (ks : List Nat) {i : Nat} {x : Nat} (hX : OkC G X cc nL own d mc ms) (hd : decode cc pc = .ok (.astore_n q, 1)) (hn : pc + 1 = m) (hi : (q : Nat) = i) (hlt : i < nL) (hl : lv_pick (put1 lv i (.ref x)) ks = lv') (k : SC G X nL Q a b n C m lv' st) : SC G X nL Q a b n C pc lv (.ref x :: st) := by
  subst hn; exact fun H locs ls hh hP hS => lv_astore_n hX.1 hX.2.1 hd hi hh hlt rfl (fun ls' h' => k H locs ls' (lv_sub h' ks hl) hP hS)
theorem c_istore (ks : List Nat) {i : Nat} {x : Int32} (hX : OkC G X cc nL own d mc ms) (hd : decode cc pc = .ok (.istore i, 2)) (hn : pc + 2 = m) (hlt : i < nL) (hl : lv_pick (put1 lv i (.int x)) ks = lv') (k : SC G X nL Q a b n C m lv' st) : SC G X nL Q a b n C pc lv (.int x :: st) := by
  subst hn; exact fun H locs ls hh hP hS => lv_istore hX.1 hX.2.1 hd hh hlt rfl (fun ls' h' => k H locs ls' (lv_sub h' ks hl) hP hS)
end StartRows
def T_L_start : List (Nat × Instr × Nat) := [(0, .new 8, 3), (3, .dup, 1), (4, .invokespecial 23, 3), (7, .astore_n 1, 1), (8, .new 24, 3), (11, .dup, 1), (12, .invokespecial 26, 3), (15, .astore_n 2, 1), (16, .iconst 1, 1), (17, .newarray .long, 2), (19, .astore_n 3, 1), (20, .iconst 0, 1), (21, .istore 4, 2)]
theorem D_L_start : dchk code T_L_start = true := by decide +kernel
set_option maxHeartbeats 4000000 in
set_option maxRecDepth 100000 in
theorem start_walk {G : GW} {X : CX} {Q : State → Prop} {b : Nat} (hX : OkC G X code 7 RL 14 254 75683) (k : SC G X 7 Q 254 75683 254 (CE G) 23 [(0, .ref b), (1, .ref (gz G + 0)), (2, .ref (gz G + 231)), (3, .ref (gz G + 253)), (4, .int 0)] []) : SC G X 7 Q 0 0 0 (fun _ => .inl (gI G, 0, .inl (fun _ => 0))) 0 [(0, .ref b)] [] := by
  refine c_new (fs := [.null, .null, .null, .null, .null, .null, .null, .null, .null]) (n1 := 1) (a1 := 1) (b1 := 9) (m := 3) hX cls9 (dec_of D_L_start (i := 0) rfl) rfl wd_107 wd_108 wd_83 df9 rfl rfl rfl (by decide) (by decide) ?_
  refine c_dup (m := 4) hX (dec_of D_L_start (i := 1) rfl) rfl rfl ?_
  refine c_ctorI (n' := 1 + 230) (a1 := 231) (b1 := 39388) (m := 7) hX (dec_of D_L_start (i := 2) rfl) rfl (c_X9_init (l := _) G 1 0 _ (by omega) upC_pos) wd_111 wd_110 wd_83 wd_109 (by decide +kernel) rfl (by decide) (by decide) rfl rfl (by decide) (by decide) (Nat.le_of_ble_eq_true rfl) ?_
  refine c_astore_n (lv' := [(0, _), (1, _)]) [1, 0] (m := 8) hX (dec_of D_L_start (i := 3) rfl) rfl rfl (by decide) rfl ?_
  refine c_new (fs := [.int 0, .null, .int 0, .null, .null, .null, .null, .null, .int 0, .int 0, .int 0, .int 0, .int 0, .int 0, .null, .null, .int 0, .int 0, .int 0, .int 0, .int 0, .int 0, .int 0, .int 0, .int 0, .int 0, .int 0, .int 0, .int 0, .int 0, .int 0, .int 0, .int 0, .int 0, .int 0, .null, .null, .null, .null, .null, .null, .null, .null, .null, .null, .null, .null, .null, .int 0, .int 0]) (n1 := 232) (a1 := 232) (b1 := 39438) (m := 11) hX cls10 (dec_of D_L_start (i := 4) rfl) rfl wd_1336 wd_1337 wd_93 df10 rfl rfl rfl (by decide) (by decide) ?_
  refine c_dup (m := 12) hX (dec_of D_L_start (i := 5) rfl) rfl rfl ?_
  refine c_ctorI (n' := 232 + 21) (a1 := 253) (b1 := 75682) (m := 15) hX (dec_of D_L_start (i := 6) rfl) rfl (c_X10_init (l := _) G 232 231 _ (by omega) upC_pos) wd_1340 wd_1339 wd_93 wd_1338 (by decide +kernel) rfl (by decide) (by decide) rfl rfl (by decide) (by decide) (Nat.le_of_ble_eq_true rfl) ?_
  refine c_astore_n (lv' := [(0, _), (1, _), (2, _)]) [1, 2, 0] (m := 16) hX (dec_of D_L_start (i := 7) rfl) rfl rfl (by decide) rfl ?_
  refine c_iconst (v := 1) (m := 17) hX (dec_of D_L_start (i := 8) rfl) rfl (by decide) ?_
  refine c_newa (ty := .long) (N := 1) (e := (1, .inr (.inl (fun _ => 0)))) (cA := gJ G) (n1 := 254) (a1 := 254) (b1 := 75683) 1 (m := 19) hX (dec_of D_L_start (i := 9) rfl) rfl wd_154 rfl rfl (fun _ => Iff.rfl) (fun _ => rfl) (by decide) (by decide) (by decide) rfl rfl rfl (by decide) (by decide) ?_
  refine c_astore_n (lv' := [(0, _), (1, _), (2, _), (3, _)]) [1, 2, 3, 0] (m := 20) hX (dec_of D_L_start (i := 10) rfl) rfl rfl (by decide) rfl ?_
  refine c_iconst (v := 0) (m := 21) hX (dec_of D_L_start (i := 11) rfl) rfl (by decide) ?_
  refine c_istore (lv' := [(0, _), (1, _), (2, _), (3, _), (4, _)]) [1, 2, 3, 4, 0] (m := 23) hX (dec_of D_L_start (i := 12) rfl) rfl (by decide) rfl ?_
  exact k
set_option maxHeartbeats 4000000 in
set_option maxRecDepth 100000 in
theorem start_KC {p : Program} {s : State} {m : MethodId} {meth : Method} {c : Code} {b L : Nat} {xs : Nat → Int32} (C0 : lw_At p s m meth c b L xs) : ∃ (D : va_G) (cI cJ cB : ClassId) (aK aV : Nat) (ms : Nat → Nat), KC (mkG D cI cJ cB aK aV ms s.heap.size) s := by
  obtain ⟨hx, hb, hr, hml, hown, hts, hX, hbl, hlocks, hgv⟩ := id C0
  have hTB : ∀ w ∈ TB, w.before #[Value.ref b] s = true := fun w hw => hts w (List.mem_filter.mp hw).1
  have hn := flat_of_before _ hgv
  have hA : ∀ a : Nat, a < s.heap.size → ¬ s.heap.size ≤ a := fun a h => by omega
  obtain ⟨c0, t0, q0⟩ := u_known hTB cls0.2.1 (hTB _ wd_187)
  obtain ⟨c1, t1, q1⟩ := u_known hTB cls1.2.1 (hTB _ wd_333)
  obtain ⟨c2, t2, q2⟩ := u_known hTB cls2.2.1 (hTB _ wd_262)
  obtain ⟨c3, t3, q3⟩ := u_known hTB cls3.2.1 (hTB _ wd_284)
  obtain ⟨c4, t4, q4⟩ := u_known hTB cls4.2.1 (hTB _ wd_116)
  obtain ⟨c5, t5, q5⟩ := u_known hTB cls5.2.1 (hTB _ wd_348)
  obtain ⟨c6, t6, q6⟩ := u_known hTB cls6.2.1 (hTB _ wd_321)
  obtain ⟨c7, t7, q7⟩ := u_known hTB cls7.2.1 (hTB _ wd_122)
  obtain ⟨c8, t8, q8⟩ := u_known hTB cls8.2.1 (hTB _ wd_193)
  obtain ⟨c9, t9, q9⟩ := u_known hTB cls9.2.1 (hTB _ wd_108)
  obtain ⟨c10, t10, q10⟩ := u_known hTB cls10.2.1 (hTB _ wd_1337)
  obtain ⟨cI, kI, pI, aI1, aI2, aI3⟩ := Cond.arrayClass_spec (hTB _ wd_153)
  obtain ⟨cJ, kJ, pJ, aJ1, aJ2, aJ3⟩ := Cond.arrayClass_spec (hTB _ wd_154)
  have hAO : (Cond.arrayOver (.object "RightsPool$Books")).before #[Value.ref b] s = true := hts _ (by decide +kernel)
  obtain ⟨pB, cB, kB, aB0, -, aB2, aB3, aB1⟩ := Cond.arrayOver_spec hAO
  obtain ⟨adK, adV, hS1, hev⟩ := vk_Sof (args := #[Value.ref b]) (s := s) (N := 1) (tm := fun _ => .string "RightsPool$Tape" 72) (len := [79]) (byt := [wbytes]) (A := fun q => s.heap.size ≤ q) (by decide) (fun i hi => hn _ (by decide +kernel)) (fun i hi => hn _ (by decide +kernel)) (fun i hi => hn _ (by decide +kernel)) (fun i hi => by
      have : i = 0 := by omega
      subst this
      exact hn _ (by decide +kernel)) (fun i hi j hj => by
      have : i = 0 := by omega
      subst this
      have key : ∀ j, j < 79 → (Cond.eq (.elem (.field (.string "RightsPool$Tape" 72) "java/lang/String" "value" "[B") (.int (Int32.ofNat j))) (.int (wbytes.getD j 0))) ∈ flatC (Jvm.Cond.and given_1 narrow_1) := by decide +kernel
      exact hn _ (key j hj)) (fun i j hi hj h => absurd (by omega) h) hA
  obtain ⟨m0, -, -, -, e0, -⟩ := Cond.exactly_spec (hn (Cond.exactly (.string "RightsPool" 108) "java/lang/String") (by decide +kernel))
  obtain ⟨m1, -, -, -, e1, -⟩ := Cond.exactly_spec (hn (Cond.exactly (.string "RightsPool" 145) "java/lang/String") (by decide +kernel))
  obtain ⟨m2, -, -, -, e2, -⟩ := Cond.exactly_spec (hn (Cond.exactly (.string "RightsPool" 151) "java/lang/String") (by decide +kernel))
  obtain ⟨m3, -, -, -, e3, -⟩ := Cond.exactly_spec (hn (Cond.exactly (.string "RightsPool" 172) "java/lang/String") (by decide +kernel))
  obtain ⟨m4, -, -, -, e4, -⟩ := Cond.exactly_spec (hn (Cond.exactly (.string "RightsPool" 177) "java/lang/String") (by decide +kernel))
  obtain ⟨m5, -, -, -, e5, -⟩ := Cond.exactly_spec (hn (Cond.exactly (.string "RightsPool" 205) "java/lang/String") (by decide +kernel))
  have hev2 : (Term.string "RightsPoolModel" 125).eval #[Value.ref b] s none [] s = some (.ref (adK 0)) := va_eqR (hn (.eq (.string "RightsPool$Tape" 72) (.string "RightsPoolModel" 125)) (by decide +kernel)) (hev 0 (by decide))
  have hS0 : vk_S 1 [79] [wbytes] (fun _ => adK 0) (fun _ => adV 0) (fun q => s.heap.size ≤ q) s s.heap := ⟨fun i hi => by
    have : i = 0 := by omega
    subst this
    exact hS1.1 0 (by decide), fun i j hi hj _ => by omega⟩
  refine ⟨(fun k => if k = 0 then c0 else if k = 1 then c1 else if k = 2 then c2 else if k = 3 then c3 else if k = 4 then c4 else if k = 5 then c5 else if k = 6 then c6 else if k = 7 then c7 else if k = 8 then c8 else if k = 9 then c9 else c10, fun k => if k = 0 then t0 else if k = 1 then t1 else if k = 2 then t2 else if k = 3 then t3 else if k = 4 then t4 else if k = 5 then t5 else if k = 6 then t6 else if k = 7 then t7 else if k = 8 then t8 else if k = 9 then t9 else t10), cI, cJ, cB, adK 0, adV 0, fun k => if k = 0 then m0 else if k = 1 then m1 else if k = 2 then m2 else if k = 3 then m3 else if k = 4 then m4 else m5, ⟨⟨?_, ?_⟩, va_Nw.of rfl (hts _ (by decide +kernel)), ?_⟩, ?_, va_AO.of hAO⟩
  · intro k q hq
    match k, hq with
    | 0, hq => cases hq; exact q0
    | 1, hq => cases hq; exact q1
    | 2, hq => cases hq; exact q2
    | 3, hq => cases hq; exact q3
    | 4, hq => cases hq; exact q4
    | 5, hq => cases hq; exact q5
    | 6, hq => cases hq; exact q6
    | 7, hq => cases hq; exact q7
    | 8, hq => cases hq; exact q8
    | 9, hq => cases hq; exact q9
    | 10, hq => cases hq; exact q10
    | k + 11, hq => cases hq
  · intro k q hq
    match k, hq with
    | 0, hq => cases hq; exact ⟨fun n z => ⟨fun k h => (by cases h), kI, aI2, pI, aI3⟩, aI1⟩
    | 1, hq => cases hq; exact ⟨fun n z => ⟨fun k h => (by cases h), kJ, aJ2, pJ, aJ3⟩, aJ1⟩
    | 2, hq => cases hq; exact ⟨fun n z => ⟨fun k h => (by cases h), kB, aB2, pB, aB3⟩, kB, pB, aB2, aB3, aB0, aB1⟩
    | k + 3, hq => cases hq
  · refine ⟨hS0, vk_R.of (hts (.stringRef RX7 72 wtext) (by decide +kernel)) (hev 0 (by decide)), vk_R.of (hts (.stringRef RX10 125 wtext) (by decide +kernel)) hev2, va_Zof (hts (.laysStatic "java/lang/String" "COMPACT_STRINGS" "Z") (by decide +kernel)) (hts (.initialized "java/lang/String") (by decide +kernel)) (va_eqi (hn _ (by decide +kernel))) hA, va_Zqof (hts (.laysStatic "jdk/internal/util/Preconditions" "SIOOBE_FORMATTER" "Ljava/util/function/BiFunction;") (by decide +kernel)) (hts (.initialized "jdk/internal/util/Preconditions") (by decide +kernel)) (hn _ (by decide +kernel)) hA, vk_R.of (hts (.stringRef RX9 108 "no such land") (by decide +kernel)) e0, vk_R.of (hts (.stringRef RX9 145 "no such what of a land") (by decide +kernel)) e1, vk_R.of (hts (.stringRef RX9 151 "no such player") (by decide +kernel)) e2, vk_R.of (hts (.stringRef RX9 172 "no such what of a player") (by decide +kernel)) e3, vk_R.of (hts (.stringRef RX9 177 "no such session") (by decide +kernel)) e4, vk_R.of (hts (.stringRef RX9 205 "no such what of a session") (by decide +kernel)) e5, vx_Zqof (hts (.laysStatic Bundle.tN "UNASSIGNED_STACK" Bundle.steD) (by decide +kernel)) (hts (.initialized Bundle.tN) (by decide +kernel)) (hn _ (by decide +kernel)) hA, vx_Zqof (hts (.laysStatic Bundle.tN "SUPPRESSED_SENTINEL" Bundle.listD) (by decide +kernel)) (hts (.initialized Bundle.tN) (by decide +kernel)) (hn _ (by decide +kernel)) hA, ?_, ⟨va_Nw.of rfl (hts (.castable nIOB nIOB) (by decide +kernel)), va_Nw.of rfl (hts (.castable nNSE nNSE) (by decide +kernel))⟩, va_Nc.of (hn (.not (.castable nNSE nIOB)) (by decide +kernel))⟩
    have key : ∀ x ∈ declsX, Cond.declares x ∈ lw_tbl := by decide +kernel
    exact fun x hx => va_Nw.of rfl (hts _ (key x hx))
  · have key : ∀ w ∈ nests, w ∈ lw_tbl ∧ w.onTables = true := by decide +kernel
    exact fun w hw => va_Nw.of (key w hw).2 (hts w (key w hw).1)
set_option maxHeartbeats 4000000 in
set_option maxRecDepth 100000 in
theorem whole_of {p : Program} {e : Env} {s : State} {m : MethodId} {below : List Frame} {meth : Method} {c : Code} (l : Launch) (hflags : l.flags = flags0) {b L : Nat} {xs : Nat → Int32} (hp : lp_ (lawS xs L) 513 (σ0, 0) = some 1) (C0 : lw_At p s m meth c b L xs) : W p l e room_1 s m #[Value.ref b] below meth c s.heap [] 0 0 (lw_Z below #[Value.ref b] s) (entryFrame m ([Value.ref b] : List Value).toArray 7) := by
  obtain ⟨D, cI, cJ, cB, aK, aV, ms, hKC⟩ := start_KC C0
  obtain ⟨hx, hb, hr, hml, hown, hts, hX, hbl, hlocks, hgv⟩ := id C0
  have hTB : ∀ w ∈ TB, w.before #[Value.ref b] s = true := fun w hw => hts w (List.mem_filter.mp hw).1
  have hl0 : l.stackTraces = false := by
    simp [Launch.stackTraces, hflags, flags0]
  have hl := lv_entry ([.ref b]) (n := 7) (Nat.le_of_ble_eq_true rfl)
  rw [lg_entry_eq]
  generalize (lg_sl ([.ref b]) ++ List.replicate (7 - (lg_sl ([.ref b])).length) Slot.unset).toArray = ls at hl ⊢
  have hl : lv_has ls 7 [(0, .ref b)] := hl
  have hG := good0 D cI cJ cB aK aV ms s.heap.size
  have hpic := fun H => pic0 (H := H) D cI cJ cB aK aV ms s.heap.size
  have hga : ga (mkG D cI cJ cB aK aV ms s.heap.size) 130 0 = s.heap.size + 0 ∧ ga (mkG D cI cJ cB aK aV ms s.heap.size) 131 0 = s.heap.size + 231 ∧ ga (mkG D cI cJ cB aK aV ms s.heap.size) 105 0 = s.heap.size + 253 := ⟨rfl, rfl, rfl⟩
  have hgz : gz (mkG D cI cJ cB aK aV ms s.heap.size) = s.heap.size := rfl
  generalize mkG D cI cJ cB aK aV ms s.heap.size = G at hKC hG hpic hga hgz
  refine start_walk (G := G) (X := (p, l, e, room_1, s, m, #[Value.ref b], below, meth, c, 0, 0)) (b := b) ⟨hx, hb, hml, hown, hTB, hKC, Nat.le_of_ble_eq_true rfl, Nat.le_of_ble_eq_true rfl, Nat.le_of_ble_eq_true rfl, Nat.le_of_ble_eq_true rfl⟩ ?_ s.heap [] ls hl ⟨by rw [hgz]; rfl, fun k q hq => by simp [wsg] at hq⟩ va_S.rf
  intro H locs ls hl hP hS
  have hk := s_law (G := G) (b := b) (L := L) (xs := xs) hG hl0 513 (p, l, e, room_1, s, m, #[Value.ref b], below, meth, c, 254, 75683) ⟨hx, hb, hml, hown, hTB, hKC.1, hG, Nat.le_of_ble_eq_true rfl, Nat.le_of_ble_eq_true rfl, Nat.le_of_ble_eq_true rfl, Nat.le_of_ble_eq_true rfl⟩ ⟨hX, hbl, by show ¬ gz G ≤ b; rw [hgz]; omega, by rw [hgz]; exact Nat.le_refl _⟩ rfl ⟨rfl, rfl, hr, hlocks⟩ (Nat.le_of_ble_eq_true rfl) (Nat.le_of_ble_eq_true rfl) (σ0, 0) 1 hp H locs ls (by rw [hga.1, hga.2.1, hga.2.2, ← hgz]; exact hl) (hpic H hP) hS
  intro T hT XX
  obtain ⟨t, g1, g2⟩ := hk T hT XX
  exact ⟨t, g1, g2 rfl⟩

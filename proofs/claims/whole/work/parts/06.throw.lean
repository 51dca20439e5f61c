/-! ===== NoSuchElementException's constructor names its superclass' at another place of its pool than the kit's law takes: the same walk, with that place ===== -/
def six13 : ByteArray := ⟨#[0x2a, 0x2b, 0xb7, 0x00, 0x0d, 0xb1]⟩
theorem s13_0 : decode six13 0 = .ok (.aload_n 0, 1) := by decide +kernel
theorem s13_1 : decode six13 1 = .ok (.aload_n 1, 1) := by decide +kernel
theorem s13_2 : decode six13 2 = .ok (.invokespecial 13, 3) := by decide +kernel
theorem s13_5 : decode six13 5 = .ok (.return_, 1) := by decide +kernel
def nRT : String := "java/lang/RuntimeException"
def nEX : List String := ["java/lang/Exception"]
def nseTail (own : String) (ic : Nat) (cls : String) : List Cond := [.methodLink own ic (Bundle.initS cls), .instantiable cls 6, .castable cls cls, .selects cls Bundle.tFill0 Bundle.tFill0, .selects cls Bundle.tFill Bundle.tFill,
   .lays cls Bundle.tN "cause" "Ljava/lang/Throwable;", .lays cls Bundle.tN "stackTrace" Bundle.steD, .lays cls Bundle.tN "suppressedExceptions" Bundle.listD, .lays cls Bundle.tN "detailMessage" "Ljava/lang/String;",
   .isRef (.static Bundle.tN "UNASSIGNED_STACK" Bundle.steD), .isRef (.static Bundle.tN "SUPPRESSED_SENTINEL" Bundle.listD),
   .fieldLink Bundle.tN 198 Bundle.tN "backtrace" "Ljava/lang/Object;", .lays Bundle.tN Bundle.tN "backtrace" "Ljava/lang/Object;", .lays cls Bundle.tN "backtrace" "Ljava/lang/Object;"]
def nseAtoms (own : String) (ic : Nat) (cls : String) : List Cond := Bundle.throwableAtoms ++ Bundle.throwableSAtoms ++ (Bundle.passSAtoms cls nRT 13 six13 ++ Bundle.chainSAtoms nRT nEX) ++ nseTail own ic cls
set_option maxHeartbeats 1000000 in
theorem nse_ctor {p : Program} {l : Launch} {e : Env} {R : Room} {s : State} {m₀ : MethodId} {args : Array Value} {below : List Frame} {meth : Method} {c : Code} {V : State} {locs : List Loc} {cells slots : Nat} (X : Stand p l e R s m₀ args below meth c V locs cells slots) (hexec : p.tables.exec = Jvm.exec) (htr : e.platform.stackTraces = false) {own cls : String} {ic : Nat}
    (hown : s.vm.findClass own = some m₀.cls) (hcls : Bundle.fit cls = true)
    (h : ∀ a ∈ nseAtoms own ic cls, a.before args s = true)
    (hlocs : ∀ x ∈ locs, ∀ cell, s.heap[x.base]? = some cell → cell.vm.isStatics = false)
    {a : Addr} {cX : ClassId} {kX : Class} (hfoundX : s.vm.findClass cls = some cX) (hkX : s.vm.classes[cX]? = some kX) (hcell : V.heap[a]? = some (freshCell cX kX)) (hnew : s.heap.size ≤ a)
    {msg : Value} (hmsg : msg.isRef = true)
    {g : JFrame} (hg : g.method = m₀) (hsize : g.locals.size = c.maxLocals) (hlocked : g.locked = none) (hentered : g.entered = []) {rest : List Value} (hstack : g.stack = msg :: .ref a :: .ref a :: rest)
    (hd6 : decode c.code g.pc = .ok (.invokespecial ic, 3)) (hd9 : decode c.code (g.pc + 3) = .ok (.athrow, 1)) (hout : ∀ x ∈ c.exceptionTable.toList, covers x (g.pc + 3) = false)
    (hRframes : 5 < R.frames) (hRlocals : 2 * g.monitorRoom + ((Value.ref a :: rest).map fun v => v.category).sum + (13 * 3 + 42) ≤ R.locals) (hlocks : meth.locks = false) :
    ∃ U : State, Steps p.tables e below (V.setTop g) U ∧ U.status = .running ∧ Ended U below (.threw a) ∧ s.WarmedH U.vm ∧ s.sameButNew ({ U with vm := s.vm } : State) locs cells slots ∧
      ∃ ce, U.heap[a]? = some ce ∧ ce.vm = .none ∧ s.vm.findClass cls = some ce.cls := by
  have howns : e.platform.frameOwnsMonitors = true := by rw [X.admits.platform]
  have hfin : e.platform.finalization = false := by rw [X.admits.platform]
  have hpl : e.platform.magicAccessors = ({} : Platform).magicAccessors := by rw [X.admits.platform]
  have a' : ∀ x, x ∈ nseAtoms own ic cls → x.holds args s none s [] = true := fun x hx => h x hx
  have tl : ∀ x, x ∈ nseTail own ic cls → x ∈ nseAtoms own ic cls := fun x hx => List.mem_append_right _ hx
  obtain ⟨T, Z0, L, -, Y⟩ := ThrowableC.of_atoms (args := args) howns hfin hpl (fun x hx => h x (by simp [nseAtoms, hx]))
  obtain ⟨Z, M, LZ, LM, hnZ⟩ := Init0T.ofS_atoms (args := args) hpl L Y (fun x hx => h x (by simp [nseAtoms, hx]))
  have hRT : Bundle.fit nRT = true := by decide +kernel
  have hEX : ∀ z ∈ nEX, Bundle.fit z = true := by decide +kernel
  obtain ⟨P1, L1, hP1m, hs1⟩ := PassC.ofS_atoms (args := args) (s := s) hpl (X := cls) (Y := nRT) (Bundle.fit_spec hcls).1 (Bundle.fit_spec hRT).2 s13_0 s13_1 s13_2 s13_5 (fun x hx => h x (by simp [nseAtoms, hx]))
  obtain ⟨P2, Ps, hlen, L2, hL, hP2m, hlink2, hlink⟩ := Bundle.chainS (args := args) hpl hnZ nEX nRT hRT hEX (fun x hx => h x (by simp [nseAtoms, hx]))
  have hlink1 : P1.sup = P2.m := Option.some.inj (hs1.symm.trans hP2m)
  have hfound : s.vm.findClass cls = some P1.m.cls := findClass_of_methodNamed hP1m
  cases Option.some.inj (hfoundX.symm.trans hfound)
  obtain ⟨c1, kX', hc1, hk, hord, -, -, hn6⟩ := Cond.instantiable_spec (a' (.instantiable cls 6) (tl _ (by simp [nseTail])))
  cases Option.some.inj (hc1.symm.trans hfound)
  cases Option.some.inj (hkX.symm.trans hk)
  have hsel0 : selectMethod e.platform s.vm P1.m.cls T.fill0 = .method T.fill0 := by
    obtain ⟨c2, r2, m2, q1, q2, q3, q4, -⟩ := Cond.selects_spec (a' (.selects cls Bundle.tFill0 Bundle.tFill0) (tl _ (by simp [nseTail])))
    cases Option.some.inj (q1.symm.trans hfound)
    cases Option.some.inj (q2.symm.trans (State.methodFound?_of_named Y.fill0 (by decide)))
    cases Option.some.inj (q3.symm.trans Y.fill0)
    rw [Launch.admits_selectMethod X.admits]; exact q4
  have hselF : selectMethod e.platform s.vm P1.m.cls T.fill = .method T.fill := by
    obtain ⟨c2, r2, m2, q1, q2, q3, q4, -⟩ := Cond.selects_spec (a' (.selects cls Bundle.tFill Bundle.tFill) (tl _ (by simp [nseTail])))
    cases Option.some.inj (q1.symm.trans hfound)
    cases Option.some.inj (q2.symm.trans (State.methodFound?_of_named Y.fill (by decide)))
    cases Option.some.inj (q3.symm.trans Y.fill)
    rw [Launch.admits_selectMethod X.admits]; exact q4
  obtain ⟨cellS0, hcS0, hiss⟩ := Y.statics
  obtain ⟨u0, hu0⟩ := Cond.staticRefV Y.unassigned L.unassignedStatic L.statics hcS0 hiss (a' (.isRef (.static Bundle.tN "UNASSIGNED_STACK" Bundle.steD)) (tl _ (by simp [nseTail])))
  obtain ⟨sen, hsen⟩ := Cond.staticRefV Y.sentinel L.sentinelStatic L.statics hcS0 hiss (a' (.isRef (.static Bundle.tN "SUPPRESSED_SENTINEL" Bundle.listD)) (tl _ (by simp [nseTail])))
  obtain ⟨ci198, i198, fB, hk198, hg198, ha198, hsB, -, hnB, htB, hffB⟩ := Cond.ownField (t := .object "java/lang/Object") Y.found L.cls (by decide +kernel) (a' (.fieldLink Bundle.tN 198 Bundle.tN "backtrace" "Ljava/lang/Object;") (tl _ (by simp [nseTail]))) (a' (.lays Bundle.tN Bundle.tN "backtrace" "Ljava/lang/Object;") (tl _ (by simp [nseTail]))) e.platform hpl
  obtain ⟨cellS, hcS', heS, -, hkeep⟩ := X.same.2.2.2.2.2 T.aS cellS0 hcS0
  have hcellS : V.heap[T.aS]? = some cellS := hcS'
  have hout' : ∀ i, (⟨T.aS, i⟩ : Loc) ∉ locs := fun i hmem => by
    have := hlocs _ hmem cellS0 hcS0
    rw [hiss] at this; cases this
  have hknownS : cellS.vm ≠ .unknown := by
    rw [heS]; intro hu
    rw [show cellS0.vm = .unknown from hu] at hiss
    cases hiss
  have hneS : T.aS ≠ a := Nat.ne_of_lt (Nat.lt_of_lt_of_le (Array.getElem?_eq_some_iff.mp hcS0).1 hnew)
  obtain ⟨iM, hffM⟩ := Y.msg
  obtain ⟨tyC, dC, hdC, hdnC⟩ := Cond.laysAt hfound hk Y.cause (a' (.lays cls Bundle.tN "cause" "Ljava/lang/Throwable;") (tl _ (by simp [nseTail])))
  obtain ⟨tyS, dS, hdS, hdnS⟩ := Cond.laysAt hfound hk Y.stack (a' (.lays cls Bundle.tN "stackTrace" Bundle.steD) (tl _ (by simp [nseTail])))
  obtain ⟨tyP, dP, hdP, hdnP⟩ := Cond.laysAt hfound hk Y.supp (a' (.lays cls Bundle.tN "suppressedExceptions" Bundle.listD) (tl _ (by simp [nseTail])))
  obtain ⟨tyM, dM, hdM, hdnM⟩ := Cond.laysAt hfound hk hffM (a' (.lays cls Bundle.tN "detailMessage" "Ljava/lang/String;") (tl _ (by simp [nseTail])))
  obtain ⟨tyB, dB, hdB, hdnB⟩ := Cond.laysAt hfound hk hffB (a' (.lays cls Bundle.tN "backtrace" "Ljava/lang/Object;") (tl _ (by simp [nseTail])))
  have bC := Cond.laysApart hdB hdC hdnB hdnC (by rw [hnB, Y.causeName]; decide)
  have bS := Cond.laysApart hdB hdS hdnB hdnS (by rw [hnB, Y.stackName]; decide)
  have bP := Cond.laysApart hdB hdP hdnB hdnP (by rw [hnB, Y.suppName]; decide)
  have hskip : SkipFacts T e.platform s (fun u => u) u0 ((preparedCellV T.toThrowableT (freshCell P1.m.cls kX) a u0 sen).withEntry V.cur) :=
    ⟨{ ci198 := ci198, i198 := i198, fBack := fB }, ⟨hk198, hg198, ha198, hsB⟩, by
      have := fresh_default (c := P1.m.cls) tyB
      rw [htB] at this
      simpa [preparedCellV, Cell.setSlot, Cell.withEntry, Array.getElem?_setIfInBounds, bC, bS, bP, bC.symm, bS.symm, bP.symm, defaultValue] using this, fun _ _ => rfl⟩
  obtain ⟨tm, methC, cdC, kC, vm₁, hnC, -, -, -, -, -, -, -, hW₁, st1⟩ := Steps.initColdS (tb := p.tables) (e := e) (below := below) (s := s) (U := V) X.here hexec X.warmed hpl hown (t := Bundle.initS cls) rfl rfl (Bundle.fit_spec hcls).2
    (a' (.methodLink own ic (Bundle.initS cls)) (tl _ (by simp [nseTail]))) (h (.instanceMethod (Bundle.initS cls)) (by simp [nseAtoms, Bundle.passSAtoms])) (bytes := six13) (maxL := 2) (h (.code (Bundle.initS cls) six13 2 none) (by simp [nseAtoms, Bundle.passSAtoms]))
    (f := g) hg (a := a) (msg := msg) (rest := .ref a :: rest) hstack hd6
  cases Option.some.inj (hnC.symm.trans hP1m)
  have X₁ := X.noted hW₁
  have hl1 : Ps.length = 1 := hlen
  obtain ⟨vm₂, X₂, st2⟩ := X₁.ctorMessageOffV hexec (g := { g with stack := .ref a :: rest }) hg hsize T L Z LZ M LM (P1 :: P2 :: Ps)
    (fun P hP => by
      rcases List.mem_cons.mp hP with rfl | hP
      · exact L1
      · rcases List.mem_cons.mp hP with rfl | hP
        · exact L2
        · exact hL P hP) ⟨hlink1, hlink2, hlink⟩ (u0 := u0) (sen := sen) (self := a) hmsg (cell := freshCell P1.m.cls kX) (cellS := cellS)
    hcell (fun _ => by simp) (by simp) rfl rfl hsel0 hselF hcellS hneS hknownS (by rw [hkeep _ (hout' _)]; exact hu0) (by rw [hkeep _ (hout' _)]; exact hsen)
    (Takes.of_laid hk hord tyC (by rw [Y.causeType]; rfl)) (Takes.of_laid hk hord tyS (by rw [Y.stackType]; exact fits_refV_array _ u0)) (Takes.of_laid hk hord tyP (by rw [Y.suppType]; exact fits_refV_object _ sen))
    (Takes.of_laid hk hord tyM (by rw [Y.msgType]; exact fits_refV_object _ ⟨msg, hmsg⟩)) Y.objLocals hskip htr [] hd6
    (by simp only [List.length_cons, hl1]; omega) (by simp only [List.length_cons, hl1]; exact hRlocals)
  obtain ⟨hwalk, hrun, hended, hWU, hsame⟩ := X₂.athrowLeaves hexec (g := { g with stack := .ref a :: rest, pc := g.pc + 3 }) hg hlocked hentered hout (a := a) (rest := rest) rfl hd9
  have hlt : a < ((V.setVm vm₁).setVm vm₂).heap.size := (Array.getElem?_eq_some_iff.mp hcell).1
  have hU := heapAt_setCell_self (s := (V.setVm vm₁).setVm vm₂) (plainBareV T.toThrowableT (freshCell P1.m.cls kX) a u0 sen msg) hlt
  refine ⟨_, st1 _ (fun acts => ?_), hrun, hended, hWU, hsame.weaken (fun y hy hlt' => ?_) (Nat.le_refl _) (Nat.le_refl _), _, hU, rfl, hfound⟩
  · rw [doInvoke_state]
    exact st2 _ hwalk
  · rcases List.mem_append.mp hy with h1 | h1
    · exact h1
    · exfalso
      have hb : y.base = a := by
        simp only [List.mem_cons, List.not_mem_nil, or_false] at h1
        rcases h1 with rfl | rfl | rfl | rfl | rfl <;> rfl
      rw [hb] at hlt'
      exact Nat.not_lt.mpr hnew hlt'
def nseW (own : String) (ic : Nat) (cls : String) : List Cond := (nseAtoms own ic cls).filter vx_no
theorem nse_throw {p : Program} {l : Launch} {e : Env} {R : Room} {s : State} {m : MethodId} {args : Array Value} {below : List Frame} {meth : Method} {c : Code} {H : Heap} {locs : List Loc} {cells slots : Nat} {free : Addr → Prop} {ls : Array Slot} {rest : List Value} {Qc : Array Value → State → Outcome → State → Prop} {XC : String → State → State → Prop} {cc : ByteArray} {pc : Nat} (hexec : p.tables.exec = Jvm.exec) (hb : c.code = cc) (hl : l.stackTraces = false) {own cls text : String} {ik is ic mc ms sa : Nat} {A : Nat → Prop}
    (hown : s.vm.findClass own = some m.cls) (hcls : Bundle.fit cls = true)
    (hk : (Cond.classLink own ik cls).before args s = true) (hini : (Cond.initialized cls).before args s = true) (hstr : vk_R own is text sa s) (hat : ∀ w ∈ nseW own ic cls, w.before args s = true)
    (hgood : ∀ w ∈ Cond.classLink own ik cls :: Cond.initialized cls :: nseW own ic cls, vx_ot w = true)
    (hU : vx_Zq Bundle.tN "UNASSIGNED_STACK" Bundle.steD A s s.heap) (hN : vx_Zq Bundle.tN "SUPPRESSED_SENTINEL" Bundle.listD A s s.heap) (hS : va_S A s.heap H locs) (hsize : ls.size = c.maxLocals)
    (d0 : decode cc pc = .ok (.new ik, 3)) (d3 : decode cc (pc + 3) = .ok (.dup, 1)) (d4 : decode cc (pc + 4) = .ok (.ldc is, 2)) (d6 : decode cc (pc + 6) = .ok (.invokespecial ic, 3)) (d9 : decode cc (pc + 9) = .ok (.athrow, 1))
    (hout : ∀ x ∈ c.exceptionTable.toList, covers x (pc + 9) = false)
    (hRframes : 5 < R.frames) (hRlocals : (rest.map fun v => v.category).sum + (13 * 3 + 43) ≤ R.locals) (hRcells : cells + 1 ≤ R.cells) (hRslots : slots + 6 ≤ R.slots) (hlocks : meth.locks = false)
    (hx : ∀ t : State, s.vm.Alike t.vm → H.size ≤ t.heap.size → (∀ q : Nat, q < H.size → t.heap[q]? = H[q]?) → XC cls s t)
    (hf : ∀ z ∈ locs, free z.base) (hc : cells + 1 ≤ mc) (hs : slots + 6 ≤ ms) :
    W p l e R s m args below meth c H locs cells slots (vx_MQ below Qc XC args s mc ms free) (F0 m pc ls rest) := by
  intro T hT X
  have htr : e.platform.stackTraces = false := (show e.platform.stackTraces = l.stackTraces by rw [X.admits.platform]).trans hl
  have Y := vx_rebase X (R' := { frames := R.frames, locals := R.locals, cells := 1, slots := 6 }) (Nat.le_refl _) (Nat.le_refl _) hRcells hRslots
  obtain ⟨s', hA⟩ : ∃ z, z = (T.setVm s.vm).setFrames (.invoking m args :: below) := ⟨_, rfl⟩
  rw [← hA] at Y
  have hvm : s'.vm = s.vm := by rw [hA]; rfl
  have hhp : s'.heap = H := by rw [hA]; exact hT
  have hW0 : s.WarmedH s'.vm := by rw [hvm]; exact State.WarmedH.refl s
  have hat' : ∀ w ∈ nseW own ic cls, w.before args s' = true := fun w hw => vx_ot_at hW0 hvm.symm (hgood w (List.mem_cons_of_mem _ (List.mem_cons_of_mem _ hw))) (hat w hw)
  have hk' : (Cond.classLink own ik cls).before args s' = true := vx_ot_at hW0 hvm.symm (hgood _ List.mem_cons_self) hk
  have hini' : (Cond.initialized cls).before args s' = true := vx_ot_at hW0 hvm.symm (hgood _ (List.mem_cons_of_mem _ List.mem_cons_self)) hini
  have hU' : vx_Zq Bundle.tN "UNASSIGNED_STACK" Bundle.steD A s' s'.heap := by rw [hhp]; exact vx_Zq.moved hW0.alike (hU.kept hS.2.1)
  have hN' : vx_Zq Bundle.tN "SUPPRESSED_SENTINEL" Bundle.listD A s' s'.heap := by rw [hhp]; exact vx_Zq.moved hW0.alike (hN.kept hS.2.1)
  have h : ∀ w ∈ nseAtoms own ic cls, w.before args s' = true := vx_own hat' (vx_isRefq hU'.1) (vx_isRefq hN'.1) hU'.2.word hN'.2.word
  have hown' : s'.vm.findClass own = some m.cls := by rw [hvm]; exact hown
  have hins : (Cond.instantiable cls 6).before args s' = true := h _ (List.mem_append_right _ (by simp [nseTail]))
  obtain ⟨vm₁, cX, kX, hfX, hkX, -, -, X₁, st1⟩ := Y.newCold hexec (own := own) (C := cls) (index := ik) (n := 6) hown' hk' hins hini'
    (g := F0 m pc ls rest) rfl (by rw [hb]; exact d0) (Nat.le_refl _) (Nat.le_refl _)
  generalize hT1 : (T.setVm vm₁).pushCell { cls := cX, slots := kX.instanceTypes.map defaultValue, vm := .none } = T1 at X₁ st1
  have hcat : (Value.ref T.heap.size).category = 1 := rfl
  have hcellA : T1.heap[T.heap.size]? = some (freshCell cX kX) := by rw [← hT1]; exact State.heap_pushCell_size _ _
  have d3' : decode c.code (pc + 3) = .ok (.dup, 1) := by rw [hb]; exact d3
  have d4' : decode c.code (pc + 4) = .ok (.ldc is, 2) := by rw [hb]; exact d4
  have hstr' : vk_R own is text sa s' := vk_R.warm hW0 hstr
  obtain ⟨U, hsteps, hrun, hend, hW, hsame, ce, hce, hcv, hO⟩ := nse_ctor X₁ hexec htr (own := own) (cls := cls) (ic := ic) hown' hcls h (fun x hx => nomatch hx) hfX hkX hcellA (by rw [hhp, hT]; exact Nat.le_refl _) (msg := .ref sa) rfl
    (g := { method := m, pc := pc + 6, locals := ls, stack := .ref sa :: .ref T.heap.size :: .ref T.heap.size :: rest, locked := none }) rfl hsize rfl rfl (rest := rest) rfl
    (by rw [hb]; exact d6) (by rw [hb]; exact d9) hout hRframes (by show 2 * 0 + _ + _ ≤ _; simp only [List.map_cons, List.sum_cons, hcat]; omega) hlocks
  obtain ⟨f1, f2⟩ := vx_frame hsame
  rw [hhp] at f1 f2
  have hWs : s.WarmedH U.vm := State.WarmedH.trans hW0 hW
  have hcl : s.vm.findClass cls = some ce.cls := by
    rw [hvm] at hO
    exact hO
  have hall : s.sameButNew ({ U with vm := s.vm } : State) locs mc ms := by
    subst hA
    obtain ⟨e1, e2⟩ := hsame
    rw [State.setFrames_setFrames] at e1
    have h2 : (T.setVm s.vm).sameButNew ({ U with vm := s.vm } : State) [] (0 + 1) (0 + 6) := ⟨e1, e2⟩
    have h3 := X.same.trans h2
    rw [List.append_nil] at h3
    exact h3.mono hc hs
  refine ⟨U, ?_, .threw T.heap.size, hrun, hend, Or.inr ⟨T.heap.size, rfl, cls, ce, locs, hx U hWs.alike f1 (fun q hq => f2 q hq (fun z hz => nomatch hz)), hce, hcv, hcl, hWs, hall, hf⟩⟩
  refine st1 _ ?_
  show Steps p.tables e below (T1.setTop { method := m, pc := pc + 3, locals := ls, stack := .ref T.heap.size :: rest, locked := none }) _
  jvm_step X₁.here [X₁.here.top, hexec, d3', Value.category]
  exact X₁.ldcString hexec (own := own) (text := text) (index := is) (a := sa) hown' hstr'.1 hstr'.2
    (g := { method := m, pc := pc + 4, locals := ls, stack := .ref T.heap.size :: .ref T.heap.size :: rest, locked := none }) rfl d4' _ hsteps
/-! ===== methods that may throw ===== -/
def QX (G : GW) (σ : ST) (b : Int32 × Int32) : Array Value → State → Outcome → State → Prop := fun _ st oc t => (b.1 = 0 ∧ oc = .returned (some (.int b.2)) ∧ Pic G σ t.heap) ∧ va_F (Fr G) st t
def XX (G : GW) (σ : ST) (b : Int32 × Int32) : String → State → State → Prop := fun E st t => ((b.1 = 1 ∧ E = nIOB) ∨ (b.1 = 2 ∧ E = nNSE)) ∧ Pic G σ t.heap ∧ va_F (Fr G) st t
abbrev rmx (d : Nat) : Room := { frames := d, cells := 1, slots := 6, locals := 40 * d }
def CtrX (G : GW) (l : Launch) (y : MethodName) (cc : ByteArray) (nL : Nat) (ret : Option FieldType) (d : Nat) (av : List Value) (σ : ST) (P : Option (Int32 × Int32)) : Prop := ∀ b, P = some b → vx_Met l y (.code y cc nL ret :: TB) (rmx d) (Pcc G av σ) (QX G σ b) (XX G σ b) 1 6 (Fr G)
def MQT (G : GW) (X : CX) (σ : ST) : Int32 × Int32 → State → Prop := fun b => vx_MQ X.2.2.2.2.2.2.2.1 (QX G σ b) (XX G σ b) X.2.2.2.2.2.2.1 (xs_ X) 1 6 (Fr G)
/-- a body without a table, nothing made yet, no stack traces -/
def Bare (X : CX) : Prop := (∀ x ∈ X.2.2.2.2.2.2.2.2.2.1.exceptionTable.toList, False) ∧ X.2.2.2.2.2.2.2.2.2.2.1 = 0 ∧ X.2.2.2.2.2.2.2.2.2.2.2 = 0 ∧ X.2.1.stackTraces = false ∧ 1 ≤ X.2.2.2.1.cells ∧ 6 ≤ X.2.2.2.1.slots
theorem Pic.kept {G : GW} {σ : ST} {H H1 : Heap} (h : Pic G σ H) (hq : ∀ q : Nat, q < H.size → H1[q]? = H[q]?) : Pic G σ H1 := fun k q hk => (h k q hk).kept (hq _ (h k q hk).lt)
section ThrowRows
variable {G : GW} {X : CX} {cc : ByteArray} {nL d : Nat} {own : String} {σ : ST} {pc n : Nat} {lv : List (Nat × Value)} {st : List Value}
theorem s_iretX {v : Int32} (hX : Ok G X cc nL own d) (hB : Bare X) (hr : RetIs X (some .int)) (hd : decode cc pc = .ok (.ireturn, 1)) : Sim G X nL (MQT G X σ) σ pc lv [.int v] (some (0, v)) := by
  intro b' hb H locs ls hl hP hS
  cases hb
  refine W.widen (k := 1) (n := 6) (by rw [hB.2.1]; exact Nat.zero_le _) (by rw [hB.2.2.1]; exact Nat.zero_le _) ?_
  exact vx_ret (W.iret hX.1 hX.2.1 hr.1 (fun t ht _ => ⟨⟨rfl, rfl, by rw [ht]; exact hP⟩, hS.F ht⟩) (fun q hq => hS.2.2 q hq) hd hr.2)
theorem s_throw {cls text : String} {code : Int32} {ik is ic sa : Nat} (hX : Ok G X cc nL own d) (hB : Bare X) (hr : RetIs X (some .int)) (hd6 : 6 ≤ d) (hc : (code = 1 ∧ cls = nIOB) ∨ (code = 2 ∧ cls = nNSE)) (hcls : Bundle.fit cls = true) (hk : Cond.classLink own ik cls ∈ TB) (hini : Cond.initialized cls ∈ TB) (hstr : vk_R own is text sa (xs_ X))
    (h1 : ∀ w ∈ (vx_atS own ic cls ["java/lang/RuntimeException", "java/lang/Exception"]).filter goodWord, w ∈ TB) (h2 : ∀ w ∈ (vx_atS own ic cls ["java/lang/RuntimeException", "java/lang/Exception"]).filter (fun w => !goodWord w), w ∈ Cond.castable nIOB nIOB :: Cond.castable nNSE nNSE :: declsX.map Cond.declares)
    (hgood : ∀ w ∈ Cond.classLink own ik cls :: Cond.initialized cls :: vx_atS own ic cls ["java/lang/RuntimeException", "java/lang/Exception"], vx_ot w = true)
    (d0 : decode cc pc = .ok (.new ik, 3)) (d3 : decode cc (pc + 3) = .ok (.dup, 1)) (d4 : decode cc (pc + 4) = .ok (.ldc is, 2)) (d6 : decode cc (pc + 6) = .ok (.invokespecial ic, 3)) (d9 : decode cc (pc + 9) = .ok (.athrow, 1)) : Sim G X nL (MQT G X σ) σ pc lv [] (some (code, 0)) := by
  intro b' hb H locs ls hl hP hS
  cases hb
  obtain ⟨g1, g2, g3, g4, g5, g6, g7, g8, g9, g10, g11⟩ := id hX
  obtain ⟨t1, t2, t3, t4, t5, t6⟩ := hB
  obtain ⟨-, -, -, -, -, -, -, -, -, -, -, k12, k13, k14, k15, -⟩ := g6.2.2
  have hat : ∀ w ∈ vx_atS own ic cls ["java/lang/RuntimeException", "java/lang/Exception"], w.before X.2.2.2.2.2.2.1 (xs_ X) = true :=
    vx_hat (fun w hw => g5 _ (h1 w hw)) h2 (fun w hw => by
      rcases List.mem_cons.mp hw with rfl | hw
      · exact va_Nw.use rfl k15.1
      · rcases List.mem_cons.mp hw with rfl | hw
        · exact va_Nw.use rfl k15.2
        · obtain ⟨x, hx, rfl⟩ := List.mem_map.mp hw
          exact va_Nw.use rfl (k14 x hx))
  have hnames : ∀ z ∈ ["java/lang/RuntimeException", "java/lang/Exception"], Bundle.fit z = true := by decide +kernel
  refine vx_throwS (A := Fr G) g1 g2 t4 g4 hcls hnames (g5 _ hk) (g5 _ hini) hstr hat hgood k12 k13 hS (hl.1.trans g3.symm) d0 d3 d4 d6 d9 (fun x hx => (t1 x hx).elim) ?_ ?_ ?_ ?_ hr.2 ?_ (fun q hq => hS.2.2 q hq) ?_ ?_
  · show 2 + 3 < _; omega
  · show (([] : List Value).map fun v => v.category).sum + (13 * (2 + 1) + 43) ≤ _
    simp only [List.map_nil, List.sum_nil]; omega
  · rw [t2]; exact t5
  · rw [t3]; exact t6
  · intro t _ hz hq
    refine ⟨hc, hP.kept hq, Nat.le_trans hS.1 hz, fun q h3 h4 => ?_⟩
    rw [hq q (Nat.lt_of_lt_of_le h3 hS.1)]
    exact hS.2.1 q h3 h4
  · rw [t2]; exact Nat.le_refl _
  · rw [t3]; exact Nat.le_refl _
theorem s_throwN {cls text : String} {code : Int32} {ik is ic sa : Nat} (hX : Ok G X cc nL own d) (hB : Bare X) (hr : RetIs X (some .int)) (hd6 : 6 ≤ d) (hc : (code = 1 ∧ cls = nIOB) ∨ (code = 2 ∧ cls = nNSE)) (hcls : Bundle.fit cls = true) (hk : Cond.classLink own ik cls ∈ TB) (hini : Cond.initialized cls ∈ TB) (hstr : vk_R own is text sa (xs_ X))
    (h1 : ∀ w ∈ (nseW own ic cls).filter goodWord, w ∈ TB) (h2 : ∀ w ∈ (nseW own ic cls).filter (fun w => !goodWord w), w ∈ Cond.castable nIOB nIOB :: Cond.castable nNSE nNSE :: declsX.map Cond.declares)
    (hgood : ∀ w ∈ Cond.classLink own ik cls :: Cond.initialized cls :: nseW own ic cls, vx_ot w = true)
    (d0 : decode cc pc = .ok (.new ik, 3)) (d3 : decode cc (pc + 3) = .ok (.dup, 1)) (d4 : decode cc (pc + 4) = .ok (.ldc is, 2)) (d6 : decode cc (pc + 6) = .ok (.invokespecial ic, 3)) (d9 : decode cc (pc + 9) = .ok (.athrow, 1)) : Sim G X nL (MQT G X σ) σ pc lv [] (some (code, 0)) := by
  intro b' hb H locs ls hl hP hS
  cases hb
  obtain ⟨g1, g2, g3, g4, g5, g6, g7, g8, g9, g10, g11⟩ := id hX
  obtain ⟨t1, t2, t3, t4, t5, t6⟩ := hB
  obtain ⟨-, -, -, -, -, -, -, -, -, -, -, k12, k13, k14, k15, -⟩ := g6.2.2
  have hat : ∀ w ∈ nseW own ic cls, w.before X.2.2.2.2.2.2.1 (xs_ X) = true :=
    vx_hat (fun w hw => g5 _ (h1 w hw)) h2 (fun w hw => by
      rcases List.mem_cons.mp hw with rfl | hw
      · exact va_Nw.use rfl k15.1
      · rcases List.mem_cons.mp hw with rfl | hw
        · exact va_Nw.use rfl k15.2
        · obtain ⟨x, hx, rfl⟩ := List.mem_map.mp hw
          exact va_Nw.use rfl (k14 x hx))
  refine nse_throw (A := Fr G) g1 g2 t4 g4 hcls (g5 _ hk) (g5 _ hini) hstr hat hgood k12 k13 hS (hl.1.trans g3.symm) d0 d3 d4 d6 d9 (fun x hx => (t1 x hx).elim) ?_ ?_ ?_ ?_ hr.2 ?_ (fun q hq => hS.2.2 q hq) ?_ ?_
  · omega
  · show (([] : List Value).map fun v => v.category).sum + (13 * 3 + 43) ≤ _
    simp only [List.map_nil, List.sum_nil]; omega
  · rw [t2]; exact t5
  · rw [t3]; exact t6
  · intro t _ hz hq
    refine ⟨hc, hP.kept hq, Nat.le_trans hS.1 hz, fun q h3 h4 => ?_⟩
    rw [hq q (Nat.lt_of_lt_of_le h3 hS.1)]
    exact hS.2.1 q h3 h4
  · rw [t2]; exact Nat.le_refl _
  · rw [t3]; exact Nat.le_refl _
theorem ctrX_of {y : MethodName} {l : Launch} {ret : Option FieldType} {av : List Value} {P : Option (Int32 × Int32)} (hG : Good G) (hl0 : l.stackTraces = false) (hy : plainName y.cls = true) (hle : (lg_sl av).length ≤ nL) (h : ∀ X : CX, X.2.1 = l → RetIs X ret → Bare X → Ok G X cc nL y.cls d → Sim G X nL (MQT G X σ) σ 0 (lv_args 0 av) [] P) : CtrX G l y cc nL ret d av σ P := by
  intro b hb
  refine vx_ofW (cc := cc) (maxL := nL) (ret := ret) hy rfl ?_
  intro p e s m args below meth c s₁ B hml htab hv
  obtain ⟨rfl, hP, hK⟩ := hv
  have hts := atoms_spec (ws := .code y cc nL ret :: TB) B.pre
  have hown : s.vm.findClass y.cls = some m.cls := findClass_of_methodNamed B.named
  have hl := lv_entry av (n := nL) hle
  rw [lg_entry_eq]
  exact h (p, l, e, rmx d, s, m, av.toArray, below, meth, c, 0, 0) rfl ⟨B.returns, B.notSynchronized⟩ ⟨htab, rfl, rfl, hl0, Nat.le_refl _, Nat.le_refl _⟩ ⟨B.exec, B.bytes, hml, hown, fun w hw => hts w (List.mem_cons_of_mem _ hw), hK, hG, Nat.le_refl _, Nat.le_refl _, Nat.zero_le _, Nat.zero_le _⟩ b hb s.heap [] _ hl hP va_S.rf
end ThrowRows
theorem in_flt {L : List Cond} (h : ∀ w ∈ L.filter goodWord, w ∈ lw_tbl) : ∀ w ∈ L.filter goodWord, w ∈ TB := fun w hw => List.mem_filter.mpr ⟨h w hw, (List.mem_filter.mp hw).2⟩
theorem atx1 : ∀ w ∈ (vx_atS RX9 110 nIOB ["java/lang/RuntimeException", "java/lang/Exception"]).filter goodWord, w ∈ TB := in_flt (by decide +kernel)
theorem atx2 : ∀ w ∈ (nseW RX9 147 nNSE).filter goodWord, w ∈ TB := in_flt (by decide +kernel)
theorem aty1 : ∀ w ∈ (vx_atS RX9 110 nIOB ["java/lang/RuntimeException", "java/lang/Exception"]).filter (fun w => !goodWord w), w ∈ Cond.castable nIOB nIOB :: Cond.castable nNSE nNSE :: declsX.map Cond.declares := by decide +kernel
theorem aty2 : ∀ w ∈ (nseW RX9 147 nNSE).filter (fun w => !goodWord w), w ∈ Cond.castable nIOB nIOB :: Cond.castable nNSE nNSE :: declsX.map Cond.declares := by decide +kernel
theorem atz1 : ∀ w ∈ Cond.classLink RX9 106 nIOB :: Cond.initialized nIOB :: vx_atS RX9 110 nIOB ["java/lang/RuntimeException", "java/lang/Exception"], vx_ot w = true := by decide +kernel
theorem atz2 : ∀ w ∈ Cond.classLink RX9 143 nNSE :: Cond.initialized nNSE :: nseW RX9 147 nNSE, vx_ot w = true := by decide +kernel

/-! ===== constructors: the heap from gz on is C 0, C 1, .. ===== -/
def wsg (G : GW) (n : Nat) (C : Nat → va_E) : va_W := (List.range n).map (fun j => (gz G + j, C j))
theorem wsg_at {G : GW} {n j : Nat} {C : Nat → va_E} (h : j < n) : (wsg G n C)[j]? = some (gz G + j, C j) := by
  simp [wsg, List.getElem?_map, List.getElem?_range h]
theorem wsg_lt {G : GW} {n j : Nat} {C : Nat → va_E} {q : Nat × va_E} (h : (wsg G n C)[j]? = some q) : j < n ∧ q = (gz G + j, C j) := by
  have hl : j < (wsg G n C).length := (List.getElem?_eq_some_iff.mp h).1
  have hl2 : j < n := by simpa [wsg] using hl
  rw [wsg_at hl2] at h
  exact ⟨hl2, (Option.some.inj h).symm⟩
theorem wsg_D (G : GW) (n : Nat) (C : Nat → va_E) : va_D (Fr G) (wsg G n C) := by
  refine ⟨fun i j p q hp hq e => ?_, fun k q hq => ?_⟩
  · obtain ⟨-, rfl⟩ := wsg_lt hp
    obtain ⟨-, rfl⟩ := wsg_lt hq
    have : gz G + i = gz G + j := e
    omega
  · obtain ⟨-, rfl⟩ := wsg_lt hq
    exact Nat.le_add_right _ _
def Seg (G : GW) (n : Nat) (C : Nat → va_E) (H : Heap) : Prop := H.size = gz G + n ∧ va_P (gD G) vwCl (wsg G n C) H
theorem Seg.at {G : GW} {n : Nat} {C : Nat → va_E} {H : Heap} (h : Seg G n C H) {j : Nat} (hj : j < n) : va_at (gD G) vwCl (gz G + j, C j) H := h.2 j _ (wsg_at hj)
/-- one cell written -/
theorem Seg.put {G : GW} {n j : Nat} {C : Nat → va_E} {H H1 : Heap} {e : va_E} (h : Seg G n C H) (z : H1.size = H.size) (hw : va_at (gD G) vwCl (gz G + j, e) H1) (oq : ∀ q : Nat, q ≠ gz G + j → H1[q]? = H[q]?) : Seg G n (va_up C j e) H1 := by
  refine ⟨z.trans h.1, fun k q hk => ?_⟩
  obtain ⟨hkn, rfl⟩ := wsg_lt hk
  by_cases hkj : k = j
  · subst hkj
    simp only [va_up, if_pos]
    exact hw
  · simp only [va_up, if_neg hkj]
    exact (h.at hkn).kept (oq _ (by show gz G + k ≠ gz G + j; omega))
/-- one cell made -/
theorem Seg.push {G : GW} {n : Nat} {C : Nat → va_E} {H H1 : Heap} {e : va_E} (h : Seg G n C H) (z : H1.size = H.size + 1) (hw : va_at (gD G) vwCl (gz G + n, e) H1) (oq : ∀ q : Nat, q < H.size → H1[q]? = H[q]?) : Seg G (n + 1) (va_up C n e) H1 := by
  refine ⟨by rw [z, h.1]; omega, fun k q hk => ?_⟩
  obtain ⟨hkn, rfl⟩ := wsg_lt hk
  by_cases hkj : k = n
  · subst hkj
    simp only [va_up, if_pos]
    exact hw
  · simp only [va_up, if_neg hkj]
    have hk2 : k < n := by omega
    exact (h.at hk2).kept (oq _ (by rw [h.1]; show gz G + k < gz G + n; omega))
/-- the judgement: cells and slots made so far, how many cells there are, what they hold -/
def SC (G : GW) (X : CX) (nL : Nat) (Q : State → Prop) (a b n : Nat) (C : Nat → va_E) (pc : Nat) (lv : List (Nat × Value)) (st : List Value) : Prop :=
  ∀ (H : Heap) (locs : List Loc) (ls : Array Slot), lv_has ls nL lv → Seg G n C H → va_S (Fr G) (xs_ X).heap H locs → W X.1 X.2.1 X.2.2.1 X.2.2.2.1 X.2.2.2.2.1 X.2.2.2.2.2.1 X.2.2.2.2.2.2.1 X.2.2.2.2.2.2.2.1 X.2.2.2.2.2.2.2.2.1 X.2.2.2.2.2.2.2.2.2.1 H locs a b Q (F0 (xm_ X) pc ls st)
def nests : List Cond := [.methodLinkNest RX9 9 yX4_init RX9, .methodLinkNest RX4 11 yX7_init RX9, .methodLinkNest RX9 18 yX0_init RX9, .methodLinkNest RX0 11 yX8_init RX9, .methodLinkNest RX2 17 yX0_init RX9, .methodLinkNest RX9 32 yX8_init RX9, .methodLinkNest RX9 39 yX3_init RX9, .methodLinkNest RX9 46 yX6_init RX9, .methodLinkNest RX6 11 yX3_init RX9, .methodLinkNest RX9 53 yX1_init RX9, .methodLinkNest RX9 60 yX5_init RX9]
def isNest : Cond → Bool
  | .methodLinkNest .. => true
  | _ => false
theorem nests_is : ∀ w ∈ nests, isNest w = true := by decide
def KC (G : GW) (U : State) : Prop := KK G U ∧ (∀ w ∈ nests, va_Nw w U) ∧ va_AO RX0 U
theorem KC.at {G : GW} {s U : State} {H : Heap} {locs : List Loc} (h : KC G s) (hW : s.WarmedH U.vm) (hU : U.heap = H) (hS : va_S (Fr G) s.heap H locs) : KC G U := by
  refine ⟨h.1.at hW hU hS, fun w hw => ?_, va_AO.moved hW.alike h.2.2⟩
  have h1 := h.2.1 w hw
  have h2 := nests_is w hw
  cases w <;> first | exact va_Nw.warmM hW h1 | cases h2
theorem KC.calling {G : GW} {U : State} {g : JFrame} {mk : MethodId} {a : Array Value} (h : KC G U) : KC G (U.calling g mk a) := by
  refine ⟨h.1.calling, fun w hw => ?_, va_AO.moved (Vm.Alike.refl U.vm) h.2.2⟩
  have h1 := h.2.1 w hw
  have h2 := nests_is w hw
  cases w <;> first | exact va_Nw.same rfl rfl h1 | cases h2
/-- what holds in a constructor's body -/
def OkC (G : GW) (X : CX) (cc : ByteArray) (nL : Nat) (own : String) (d mc ms : Nat) : Prop :=
  X.1.tables.exec = Jvm.exec ∧ X.2.2.2.2.2.2.2.2.2.1.code = cc ∧ X.2.2.2.2.2.2.2.2.2.1.maxLocals = nL ∧ (xs_ X).vm.findClass own = some (xm_ X).cls ∧ (∀ w ∈ TB, w.before X.2.2.2.2.2.2.1 (xs_ X) = true) ∧ KC G (xs_ X) ∧ d ≤ X.2.2.2.1.frames ∧ 40 * d ≤ X.2.2.2.1.locals ∧ mc ≤ X.2.2.2.1.cells ∧ ms ≤ X.2.2.2.1.slots
section CtorRows
variable {G : GW} {X : CX} {cc : ByteArray} {nL d mc ms : Nat} {own : String} {Q : State → Prop} {a b n : Nat} {C : Nat → va_E} {pc m : Nat} {lv lv' : List (Nat × Value)} {st : List Value}
theorem c_iconst {i : Int} {v : Int32} (hX : OkC G X cc nL own d mc ms) (hd : decode cc pc = .ok (.iconst i, 1)) (hn : pc + 1 = m) (hv : Int32.ofInt i = v) (k : SC G X nL Q a b n C m lv (.int v :: st)) : SC G X nL Q a b n C pc lv st := by
  subst hn; exact fun H locs ls hl hP hS => lv_iconst hX.1 hX.2.1 hd hv (k H locs ls hl hP hS)
theorem c_bipush {i : Int} {v : Int32} (hX : OkC G X cc nL own d mc ms) (hd : decode cc pc = .ok (.bipush i, 2)) (hn : pc + 2 = m) (hv : (Int8.ofInt i).toInt32 = v) (k : SC G X nL Q a b n C m lv (.int v :: st)) : SC G X nL Q a b n C pc lv st := by
  subst hn; exact fun H locs ls hl hP hS => lv_bipush hX.1 hX.2.1 hd hv (k H locs ls hl hP hS)
theorem c_sipush {i : Int} {v : Int32} (hX : OkC G X cc nL own d mc ms) (hd : decode cc pc = .ok (.sipush i, 3)) (hn : pc + 3 = m) (hv : (Int16.ofInt i).toInt32 = v) (k : SC G X nL Q a b n C m lv (.int v :: st)) : SC G X nL Q a b n C pc lv st := by
  subst hn; exact fun H locs ls hl hP hS => lv_sipush hX.1 hX.2.1 hd hv (k H locs ls hl hP hS)
theorem c_aload_n {q : Fin 4} (j : Nat) {i : Nat} {x : Nat} (hX : OkC G X cc nL own d mc ms) (hd : decode cc pc = .ok (.aload_n q, 1)) (hn : pc + 1 = m) (hi : (q : Nat) = i) (hl : lv[j]? = some (i, .ref x)) (k : SC G X nL Q a b n C m lv (.ref x :: st)) : SC G X nL Q a b n C pc lv st := by
  subst hn; exact fun H locs ls hh hP hS => lv_aload_n hX.1 hX.2.1 hd hi (lv_at hh j hl) (k H locs ls hh hP hS)
theorem c_iload_n {q : Fin 4} (j : Nat) {i : Nat} {x : Int32} (hX : OkC G X cc nL own d mc ms) (hd : decode cc pc = .ok (.iload_n q, 1)) (hn : pc + 1 = m) (hi : (q : Nat) = i) (hl : lv[j]? = some (i, .int x)) (k : SC G X nL Q a b n C m lv (.int x :: st)) : SC G X nL Q a b n C pc lv st := by
  subst hn; exact fun H locs ls hh hP hS => lv_iload_n hX.1 hX.2.1 hd hi (lv_at hh j hl) (k H locs ls hh hP hS)
theorem c_istore_n {q : Fin 4} (ks : List Nat) {i : Nat} {x : Int32} (hX : OkC G X cc nL own d mc ms) (hd : decode cc pc = .ok (.istore_n q, 1)) (hn : pc + 1 = m) (hi : (q : Nat) = i) (hlt : i < nL) (hl : lv_pick (put1 lv i (.int x)) ks = lv') (k : SC G X nL Q a b n C m lv' st) : SC G X nL Q a b n C pc lv (.int x :: st) := by
  subst hn; exact fun H locs ls hh hP hS => lv_istore_n hX.1 hX.2.1 hd hi hh hlt rfl (fun ls' h' => k H locs ls' (lv_sub h' ks hl) hP hS)
theorem c_iinc (j : Nat) (ks : List Nat) {i : Nat} {z : Int} {x v : Int32} (hX : OkC G X cc nL own d mc ms) (hd : decode cc pc = .ok (.iinc i z, 3)) (hn : pc + 3 = m) (hj : lv[j]? = some (i, .int x)) (hv : x + Int32.ofInt z = v) (hlt : i < nL) (hl : lv_pick (put1 lv i (.int v)) ks = lv') (k : SC G X nL Q a b n C m lv' st) : SC G X nL Q a b n C pc lv st := by
  subst hn; exact fun H locs ls hh hP hS => lv_iinc hX.1 hX.2.1 hd hh hj hv hlt rfl (fun ls' h' => k H locs ls' (lv_sub h' ks hl) hP hS)
theorem c_goto {off : Int} (hX : OkC G X cc nL own d mc ms) (hd : decode cc pc = .ok (.goto off, 3)) (hn : (pc : Int) + off = (m : Int)) (k : SC G X nL Q a b n C m lv st) : SC G X nL Q a b n C pc lv st :=
  fun H locs ls hl hP hS => lv_goto hX.1 hX.2.1 hd hn (k H locs ls hl hP hS)
theorem c_icmp_ge {x y : Int32} {off : Int} {tgt : Nat} (hX : OkC G X cc nL own d mc ms) (hd : decode cc pc = .ok (.if_icmp .ge off, 3)) (ht : (pc : Int) + off = (tgt : Int)) (hn : pc + 3 = m) (kt : y ≤ x → SC G X nL Q a b n C tgt lv st) (kf : ¬ y ≤ x → SC G X nL Q a b n C m lv st) : SC G X nL Q a b n C pc lv (.int y :: .int x :: st) := by
  subst hn; exact fun H locs ls hl hP hS => lv_icmp_ge hX.1 hX.2.1 hd ht (fun q => kt q H locs ls hl hP hS) (fun q => kf q H locs ls hl hP hS)
theorem c_dup {v : Value} (hX : OkC G X cc nL own d mc ms) (hd : decode cc pc = .ok (.dup, 1)) (hn : pc + 1 = m) (hc : v.category = 1) (k : SC G X nL Q a b n C m lv (v :: v :: st)) : SC G X nL Q a b n C pc lv (v :: st) := by
  subst hn; exact fun H locs ls hl hP hS => lv_dup hX.1 hX.2.1 hd hc (k H locs ls hl hP hS)
theorem c_obj {idx : Nat} {x : Nat} (hX : OkC G X cc nL own d mc ms) (hd : decode cc pc = .ok (.invokespecial idx, 3)) (hn : pc + 3 = m) (hd1 : 1 ≤ d) (hw : Cond.methodLink own idx objectInit ∈ TB) (hi : Cond.instanceMethod objectInit ∈ TB) (hc : Cond.code objectInit ⟨#[0xb1]⟩ 1 none ∈ TB) (k : SC G X nL Q a b n C m lv []) : SC G X nL Q a b n C pc lv [.ref x] := by
  subst hn; intro H locs ls hl hP hS
  obtain ⟨h1, h2, h3, h4, h5, h6, h7, h8, h9, h10⟩ := id hX
  exact W.objInit h1 h2 h4 (h5 _ hw) (h5 _ hi) (h5 _ hc) rfl (hl.1.trans h3.symm) rfl hd (by omega) (by show 2 * 0 + 0 + 12 ≤ _; omega) (k H locs ls hl hP hS)
/-- a row of ints or longs -/
theorem c_newa {atype : ArrayType} {ty : FieldType} {v : Int32} {N : Nat} {e : vp_A} {cA : ClassId} (t0 : Nat) (hX : OkC G X cc nL own d mc ms) (hd : decode cc pc = .ok (.newarray atype, 2)) (hn : pc + 2 = m) (hw : Cond.arrayClass (newarray.typeOf atype) ∈ TB) (hty : newarray.typeOf atype = ty) (ht : (tysG G)[t0]? = some (cA, ty)) (hra : ∀ x, va_RA (xs_ X) x ty ↔ (xs_ X).vm.findClass ("[" ++ ty.toString) = some x) (he : ∀ x : ClassId, vp_cell x e = arrV x N (fun _ => defaultValue ty)) (hv : ¬ v < 0) (hN : v.toNatClampNeg = N) (hbytes : N * componentBytes ty ≤ 536870912) {n1 a1 b1 : Nat} (x1 : n + 1 = n1) (x2 : a + 1 = a1) (x3 : b + N = b1) (hc : a1 ≤ mc) (hs : b1 ≤ ms) (k : SC G X nL Q a1 b1 n1 (va_up C n (.inl (cA, e))) m lv (.ref (gz G + n) :: st)) : SC G X nL Q a b n C pc lv (.int v :: st) := by
  subst hn; subst hty; subst x1; subst x2; subst x3; intro H locs ls hl hP hS
  obtain ⟨h1, h2, h3, h4, h5, h6, h7, h8, h9, h10⟩ := id hX
  refine va_newaK h1 h2 (h5 _ hw) rfl hd rfl hv hN hbytes (by omega) (by omega) hP.1 fun H1 cA' e1 z1 o1 hAr hNm => ?_
  have hcA : cA' = cA := by
    have := (hra cA).mp (h6.1.1.2 t0 _ ht).2
    exact Option.some.inj (hNm.symm.trans this)
  subst hcA
  have hsz := hP.1
  refine k H1 locs ls hl (hP.push (by rw [z1, hsz]) (by show H1[gz G + n]? = some (vp_cell _ _); rw [he]; exact e1) (fun q hq => o1 q (by omega))) ⟨Nat.le_trans hS.1 (by omega), fun x g1 g2 => (o1 x (by have := hS.1; omega)).trans (hS.2.1 x g1 g2), hS.2.2⟩
/-- a new object -/
theorem c_new {ci N index : Nat} {Cn : String} {T : u_T} {ty : Nat → FieldType} {fs : List Value} (hX : OkC G X cc nL own d mc ms) (hcl : ClsOk ci Cn T N ty) (hd : decode cc pc = .ok (.new index, 3)) (hn : pc + 3 = m) (hw : Cond.classLink own index Cn ∈ TB) (hi : Cond.instantiable Cn N ∈ TB) (hini : Cond.initialized Cn ∈ TB) (hfs : ∀ j, j < N → defaultValue (ty j) = vp_V fs j) {n1 a1 b1 : Nat} (x1 : n + 1 = n1) (x2 : a + 1 = a1) (x3 : b + N = b1) (hc : a1 ≤ mc) (hs : b1 ≤ ms) (k : SC G X nL Q a1 b1 n1 (va_up C n (.inr (ci, fs))) m lv (.ref (gz G + n) :: st)) : SC G X nL Q a b n C pc lv st := by
  subst hn; subst x1; subst x2; subst x3; intro H locs ls hl hP hS
  obtain ⟨h1, h2, h3, h4, h5, h6, h7, h8, h9, h10⟩ := id hX
  have hKn := h6.1.1.1 ci _ hcl.1
  refine W.newcK h1 h2 h4 (h5 _ hw) (h5 _ hi) (h5 _ hini) rfl hd (by omega) (by omega) hKn.2.1 hP.1 fun H1 kC hkC e1 z1 o1 => ?_
  have hsz := hP.1
  refine k H1 locs ls hl (hP.push (by rw [z1, hsz]) ⟨_, hcl.1, (u_born ty h5 hcl.2.1 hKn hkC e1 hcl.2.2.1).to hfs⟩ (fun q hq => o1 q (by omega))) ⟨Nat.le_trans hS.1 (by omega), fun x g1 g2 => (o1 x (by have := hS.1; omega)).trans (hS.2.1 x g1 g2), hS.2.2⟩
theorem c_putF {ci N index p j : Nat} {Cn : String} {T : u_T} {ty : Nat → FieldType} {fs : List Value} {v : Value} (h11 : X.2.2.2.2.2.2.2.2.1.name = "<init>") (hX : OkC G X cc nL Cn d mc ms) (hcl : ClsOk ci Cn T N ty) (hj : j < n) (hC : C j = .inr (ci, fs)) (hd : decode cc pc = .ok (.putfield index, 3)) (hn : pc + 3 = m) (hp : p < N) (hw : Cond.fieldLink Cn index (T p).1 (T p).2.1 (T p).2.2.1 ∈ TB) (hfin : (T p).2.2.2 = true) (hdecl : (T p).1 = Cn) (hnar : narrow (ty p) v = v) (hfit : fits (ty p) v = true) (hl0 : p < fs.length) (k : SC G X nL Q a b n (va_up C j (.inr (ci, fs.set p v))) m lv st) : SC G X nL Q a b n C pc lv (v :: .ref (gz G + j) :: st) := by
  subst hn; intro H locs ls hl hP hS
  obtain ⟨h1, h2, h3, h4, h5, h6, h7, h8, h9, h10⟩ := id hX
  have hK := h6.1.1
  have hap := va_apart (own := Cn) h5 hcl.2.1 ty hcl.2.2.1 hcl.2.2.2.1 hK hcl.1
  have hat := hP.at hj
  rw [hC] at hat
  obtain ⟨r, g1, cell, q1, q2, q3, q4⟩ := hat
  have hr : r = (Cn, T, N) := Option.some.inj (g1.symm.trans hcl.1)
  subst hr
  obtain ⟨hSl, hfc, kC, hkC, hkind⟩ := hK.1 ci _ hcl.1
  obtain ⟨cf, kf, fi, f, hi, hsl⟩ := hSl p hp
  have hlay := h5 _ (hcl.2.1 _ (u_in_lay hp))
  unfold u_lay at hlay
  rw [if_pos hfin] at hlay
  have hst := (u_facts hfc hkC (u_lays h5 hcl.2.1 hp) hi).1
  have hcf : (xm_ X).cls = cf := by
    obtain ⟨_, _, c', _, _, _, -, -, hf', -, -, -, hown2, -⟩ := Cond.laysFinal_spec hlay
    have e1 : c' = cf := by have := hi.symm.trans hf'; simp at this; exact this.1.symm
    rw [hdecl] at hown2
    rw [← e1]; exact Option.some.inj (h4.symm.trans hown2)
  have h6' := u_fits hfc hkC hkind (Or.inr hlay) hi (hcl.2.2.1 p hp) hnar hfit
  refine W.putFinK h1 h2 h4 (h5 _ hw) hi hst hcf h11 (by rw [q2]; exact h6') q1 q3 (by rw [hsl]; exact k2_hasslot (q4 p hp)) rfl rfl hd fun H' e1 e2 e3 => ?_
  rw [hsl] at e1 ⊢
  exact k H' _ ls hl (hP.put e2 ⟨_, hcl.1, t_OB.to (V := updV (vp_V fs) p v) ⟨_, e1, q2, q3, t_set q4 hap hp v⟩ (fun j _ => vp_updV_set hl0 v j)⟩ e3) (hS.put e2 e3 (Nat.le_add_right _ _))
theorem c_put {ci N index p j : Nat} {Cn : String} {T : u_T} {ty : Nat → FieldType} {fs : List Value} {v : Value} (hX : OkC G X cc nL own d mc ms) (hcl : ClsOk ci Cn T N ty) (hj : j < n) (hC : C j = .inr (ci, fs)) (hd : decode cc pc = .ok (.putfield index, 3)) (hn : pc + 3 = m) (hp : p < N) (hw : Cond.fieldLink own index (T p).1 (T p).2.1 (T p).2.2.1 ∈ TB) (hfin : (T p).2.2.2 = false) (hnar : narrow (ty p) v = v) (hfit : fits (ty p) v = true) (hl0 : p < fs.length) (k : SC G X nL Q a b n (va_up C j (.inr (ci, fs.set p v))) m lv st) : SC G X nL Q a b n C pc lv (v :: .ref (gz G + j) :: st) := by
  subst hn; intro H locs ls hl hP hS
  obtain ⟨h1, h2, h3, h4, h5, h6, h7, h8, h9, h10⟩ := id hX
  have hK := h6.1.1
  have hap := va_apart (own := own) h5 hcl.2.1 ty hcl.2.2.1 hcl.2.2.2.1 hK hcl.1
  have hat := hP.at hj
  rw [hC] at hat
  obtain ⟨r, g1, cell, q1, q2, q3, q4⟩ := hat
  have hr : r = (Cn, T, N) := Option.some.inj (g1.symm.trans hcl.1)
  subst hr
  obtain ⟨hSl, hfc, kC, hkC, hkind⟩ := hK.1 ci _ hcl.1
  obtain ⟨cf, kf, fi, f, hi, hsl⟩ := hSl p hp
  have hlay := h5 _ (hcl.2.1 _ (u_in_lay hp))
  unfold u_lay at hlay
  rw [if_neg (by rw [hfin]; decide)] at hlay
  have hst := (u_facts hfc hkC (u_lays h5 hcl.2.1 hp) hi).1
  have h6' := u_store hfc hkC hkind hlay hi (hcl.2.2.1 p hp) hnar hfit
  refine W.putK h1 h2 (f := f) ⟨h4, h5 _ hw, ⟨_, _, _, hi⟩, hst⟩ (by rw [q2]; exact h6') q1 q3 (by rw [hsl]; exact k2_hasslot (q4 p hp)) rfl rfl hd fun H' e1 e2 e3 => ?_
  rw [hsl] at e1 ⊢
  exact k H' _ ls hl (hP.put e2 ⟨_, hcl.1, t_OB.to (V := updV (vp_V fs) p v) ⟨_, e1, q2, q3, t_set q4 hap hp v⟩ (fun j _ => vp_updV_set hl0 v j)⟩ e3) (hS.put e2 e3 (Nat.le_add_right _ _))
/-! a constructor's contract: what the cells hold behind it -/
abbrev rmc (d mc ms : Nat) : Room := { frames := d, cells := mc, slots := ms, locals := 40 * d }
def QCC (G : GW) (n' : Nat) (C' : Nat → va_E) : Array Value → State → Outcome → State → Prop := fun _ st oc t => (oc = .returned none ∧ Seg G n' C' t.heap) ∧ va_F (Fr G) st t
def CtrC (G : GW) (l : Launch) (y : MethodName) (cc : ByteArray) (nL d mc ms n n' j : Nat) (C C' : Nat → va_E) : Prop := Met l y (.code y cc nL none :: TB) (rmc d mc ms) (fun v U => v = #[.ref (gz G + j)] ∧ Seg G n C U.heap ∧ KC G U) (QCC G n' C') mc ms (Fr G)
def MQC (G : GW) (X : CX) (mc ms n' : Nat) (C' : Nat → va_E) : State → Prop := MQ X.2.2.2.2.2.2.2.1 (QCC G n' C') X.2.2.2.2.2.2.1 (xs_ X) mc ms (Fr G)
theorem c_ret (hX : OkC G X cc nL own d mc ms) (hr : RetIs X none) (hd : decode cc pc = .ok (.return_, 1)) (ha : a = mc) (hb : b = ms) : SC G X nL (MQC G X mc ms n C) a b n C pc lv [] := by
  subst ha; subst hb
  intro H locs ls hl hP hS
  exact W.vret hX.1 hX.2.1 hr.1 (fun t ht _ => ⟨⟨rfl, by rw [ht]; exact hP⟩, hS.F ht⟩) (fun q hq => hS.2.2 q hq) hd hr.2
theorem ctrC_of {y : MethodName} {l : Launch} {j n' : Nat} {C' : Nat → va_E} (hy : plainName y.cls = true) (hyn : y.name = "<init>") (hle : 1 ≤ nL) (h : ∀ X : CX, X.2.1 = l → RetIs X none → X.2.2.2.2.2.2.2.2.1.name = "<init>" → OkC G X cc nL y.cls d mc ms → SC G X nL (MQC G X mc ms n' C') 0 0 n C 0 [(0, .ref (gz G + j))] []) : CtrC G l y cc nL d mc ms n n' j C C' := by
  refine Met.ofW (cc := cc) (maxL := nL) (ret := none) hy rfl ?_
  intro p e s m args below meth c s₁ B hml hv
  obtain ⟨rfl, hP, hK⟩ := hv
  have hts := atoms_spec (ws := .code y cc nL none :: TB) B.pre
  have hown : s.vm.findClass y.cls = some m.cls := findClass_of_methodNamed B.named
  have hin : meth.name = "<init>" := ((name_of_methodNamed B.named B.method).1).trans hyn
  have hl := lv_entry [.ref (gz G + j)] (n := nL) hle
  have ee : (#[Value.ref (gz G + j)] : Array Value) = ([Value.ref (gz G + j)] : List Value).toArray := rfl
  rw [ee, lg_entry_eq]
  exact h (p, l, e, rmc d mc ms, s, m, #[.ref (gz G + j)], below, meth, c, 0, 0) rfl ⟨B.returns, B.notSynchronized⟩ hin ⟨B.exec, B.bytes, hml, hown, fun w hw => hts w (List.mem_cons_of_mem _ hw), hK, Nat.le_refl _, Nat.le_refl _, Nat.le_refl _, Nat.le_refl _⟩ s.heap [] _ hl hP va_S.rf
theorem c_back {aa : Array Value} {rest st0 : List Value} {ls : Array Slot} {H : Heap} {locs : List Loc} {mc' ms' n' : Nat} {C' : Nat → va_E} (hr : va_Run X.1 X.2.1 X.2.2.1 X.2.2.2.1 X.2.2.2.2.1 X.2.2.2.2.2.1 X.2.2.2.2.2.2.1 X.2.2.2.2.2.2.2.1 X.2.2.2.2.2.2.2.2.1 X.2.2.2.2.2.2.2.2.2.1 H locs a b mc' ms' (F0 (xm_ X) pc ls st0) rest (QCC G n' C' aa) (Fr G)) (hS : va_S (Fr G) (xs_ X).heap H locs)
    (k : ∀ (H1 : Heap) (locs1 : List Loc), Seg G n' C' H1 → va_S (Fr G) (xs_ X).heap H1 locs1 → W X.1 X.2.1 X.2.2.1 X.2.2.2.1 X.2.2.2.2.1 X.2.2.2.2.2.1 X.2.2.2.2.2.2.1 X.2.2.2.2.2.2.2.1 X.2.2.2.2.2.2.2.2.1 X.2.2.2.2.2.2.2.2.2.1 H1 locs1 (a + mc') (b + ms') Q (F0 (xm_ X) (pc + 3) ls rest)) : W X.1 X.2.1 X.2.2.1 X.2.2.2.1 X.2.2.2.2.1 X.2.2.2.2.2.1 X.2.2.2.2.2.2.1 X.2.2.2.2.2.2.2.1 X.2.2.2.2.2.2.2.2.1 X.2.2.2.2.2.2.2.2.2.1 H locs a b Q (F0 (xm_ X) pc ls st0) := by
  intro T hT XX
  obtain ⟨v, st₀, t, T', Lc, q0, X', hL, e1, e2, ⟨⟨hv, hPb⟩, hz, hk⟩, stp⟩ := hr T hT XX
  cases hv
  rw [q0] at hz hk
  obtain ⟨t2, a1, b1⟩ := k T'.heap (locs ++ Lc) (by rw [e1]; exact hPb)
    ⟨Nat.le_trans hS.1 (by rw [e1]; exact hz), fun q g1 g2 => by rw [e1, hk q (Nat.lt_of_lt_of_le g1 hS.1) g2]; exact hS.2.1 q g1 g2, fun q hq => by
      rcases List.mem_append.mp hq with h | h
      · exact hS.2.2 q h
      · exact hL q h⟩ T' rfl X'
  exact ⟨t2, stp t2 a1, b1⟩
/-- a constructor of a nest mate called -/
theorem c_ctorN {y : MethodName} {bytes : ByteArray} {maxL d' mc' ms' n' j index : Nat} {host : String} {C' : Nat → va_E} {rest : List Value} (hX : OkC G X cc nL own d mc ms) (hd : decode cc pc = .ok (.invokespecial index, 3)) (hn : pc + 3 = m) (hC : CtrC G X.2.1 y bytes maxL d' mc' ms' n n' j C C') (hcode : Cond.code y bytes maxL none ∈ TB) (hins : Cond.instanceMethod y ∈ TB) (hini : Cond.initialized y.cls ∈ TB) (hnest : Cond.methodLinkNest own index y host ∈ nests) (hdesc : y.cls ≠ "java/lang/invoke/MethodHandle" ∧ y.cls ≠ "java/lang/invoke/VarHandle" ∧ (parseMethodDescriptor y.desc).map (fun d => d.parameters.length) = some 0) (hyn : y.name = "<init>") (hmax : maxL ≤ 21) (hdd : d' + 1 ≤ d) {a1 b1 : Nat} (x2 : a + mc' = a1) (x3 : b + ms' = b1) (hc : a1 ≤ mc) (hs : b1 ≤ ms) (hroom : (rest.map fun v => v.category).sum ≤ 8) (k : SC G X nL Q a1 b1 n' C' m lv rest) : SC G X nL Q a b n C pc lv (.ref (gz G + j) :: rest) := by
  subst hn; subst x2; subst x3; intro H locs ls hl hP hS
  obtain ⟨h1, h2, h3, h4, h5, h6, h7, h8, h9, h10⟩ := id hX
  have r1 : d' + 1 ≤ X.2.2.2.1.frames := by omega
  have r2 : 8 + (maxL + 11) + 40 * d' ≤ X.2.2.2.1.locals := by omega
  refine c_back (va_runIN (R := X.2.2.2.1) (S := ⟨h1, h2, h3, h4, h5⟩) (As := []) (rest := rest) hC ⟨va_cnB (R := X.2.2.2.1) (rm := rmc d' mc' ms') 0 h5 (tb_self _ _ _ _ hcode) rfl rfl rfl (h6.2.1 _ hnest) (h5 _ hini) hdesc ⟨r1, r2⟩, hyn, h5 _ hins⟩ ⟨fun a U g mk q => ⟨q.1, q.2.1, q.2.2.calling⟩, fun U hU hW => ⟨rfl, by rw [hU]; exact hP, h6.at hW hU hS⟩⟩ rfl rfl hl.1 rfl (lv_room hroom) hd ⟨by omega, by omega⟩) hS (fun H1 locs1 hP1 hS1 => k H1 locs1 ls hl hP1 hS1)
/-- a constructor that is no nest mate's private one -/
theorem c_ctorI {y : MethodName} {bytes : ByteArray} {maxL d' mc' ms' n' j index : Nat} {C' : Nat → va_E} {rest : List Value} (hX : OkC G X cc nL own d mc ms) (hd : decode cc pc = .ok (.invokespecial index, 3)) (hn : pc + 3 = m) (hC : CtrC G X.2.1 y bytes maxL d' mc' ms' n n' j C C') (hcode : Cond.code y bytes maxL none ∈ TB) (hins : Cond.instanceMethod y ∈ TB) (hini : Cond.initialized y.cls ∈ TB) (hlink : Cond.methodLink own index y ∈ TB) (hdesc : y.cls ≠ "java/lang/invoke/MethodHandle" ∧ y.cls ≠ "java/lang/invoke/VarHandle" ∧ (parseMethodDescriptor y.desc).map (fun d => d.parameters.length) = some 0) (hyn : y.name = "<init>") (hmax : maxL ≤ 21) (hdd : d' + 1 ≤ d) {a1 b1 : Nat} (x2 : a + mc' = a1) (x3 : b + ms' = b1) (hc : a1 ≤ mc) (hs : b1 ≤ ms) (hroom : (rest.map fun v => v.category).sum ≤ 8) (k : SC G X nL Q a1 b1 n' C' m lv rest) : SC G X nL Q a b n C pc lv (.ref (gz G + j) :: rest) := by
  subst hn; subst x2; subst x3; intro H locs ls hl hP hS
  obtain ⟨h1, h2, h3, h4, h5, h6, h7, h8, h9, h10⟩ := id hX
  have r1 : d' + 1 ≤ X.2.2.2.1.frames := by omega
  have r2 : 8 + (maxL + 11) + 40 * d' ≤ X.2.2.2.1.locals := by omega
  refine c_back (va_runI (R := X.2.2.2.1) (S := ⟨h1, h2, h3, h4, h5⟩) (As := []) (rest := rest) hC (cwI (R := X.2.2.2.1) (rm := rmc d' mc' ms') 0 h5 (tb_self _ _ _ _ hcode) rfl rfl rfl (h5 _ hini) (h5 _ hlink) (h5 _ hins) hyn hdesc ⟨r1, r2⟩) ⟨fun a U g mk q => ⟨q.1, q.2.1, q.2.2.calling⟩, fun U hU hW => ⟨rfl, by rw [hU]; exact hP, h6.at hW hU hS⟩⟩ rfl rfl hl.1 rfl (lv_room hroom) hd ⟨by omega, by omega⟩) hS (fun H1 locs1 hP1 hS1 => k H1 locs1 ls hl hP1 hS1)
/-- the row of books: made, and written -/
theorem c_anew {v : Int32} {N index : Nat} (hX : OkC G X cc nL own d mc ms) (hd : decode cc pc = .ok (.anewarray index, 3)) (hn : pc + 3 = m) (hw : Cond.classLink own index RX0 ∈ TB) (hv : ¬ v < 0) (hN : v.toNatClampNeg = N) (hbytes : N * 4 ≤ 536870912) {n1 a1 b1 : Nat} (x1 : n + 1 = n1) (x2 : a + 1 = a1) (x3 : b + N = b1) (hc : a1 ≤ mc) (hs : b1 ≤ ms) (k : SC G X nL Q a1 b1 n1 (va_up C n (.inl (gB G, N, .inr (.inr (.inr (.inr (fun _ => none))))))) m lv (.ref (gz G + n) :: st)) : SC G X nL Q a b n C pc lv (.int v :: st) := by
  subst hn; subst hN; subst x1; subst x2; subst x3; intro H locs ls hl hP hS
  obtain ⟨h1, h2, h3, h4, h5, h6, h7, h8, h9, h10⟩ := id hX
  refine W.anew (C := RX0) h1 h2 h4 (h5 _ hw) (va_AO.use h6.2.2) rfl hd rfl hv hbytes (by omega) (by omega) fun cA kA comp f1 f2 f3 f4 => ?_
  have hcA : cA = gB G := by
    obtain ⟨kA', comp', -, -, -, k4⟩ := (h6.1.1.2 2 _ rfl).2
    exact Option.some.inj (f1.symm.trans k4)
  subst hcA
  have hsz := hP.1
  generalize hH1 : H.push ({ cls := gB G, slots := Array.replicate v.toNatClampNeg .null, vm := .none } : Cell) = H1
  have z1 : H1.size = H.size + 1 := by rw [← hH1, Array.size_push]
  have e1 : H1[H.size]? = some (arrV (gB G) v.toNatClampNeg (fun _ => .null)) := by rw [← hH1, Array.getElem?_push_size, ← arrV_new]
  have o1 : ∀ q : Nat, q < H.size → H1[q]? = H[q]? := fun q hq => by rw [← hH1, Array.getElem?_push, if_neg (Nat.ne_of_lt hq)]
  rw [show (H.size : Nat) = gz G + n from hsz]
  refine k H1 locs ls hl (hP.push z1 (by show H1[gz G + n]? = some (vp_cell _ _); rw [← hsz, e1]; rfl) o1) ⟨Nat.le_trans hS.1 (by omega), fun x g1 g2 => (o1 x (by have := hS.1; omega)).trans (hS.2.1 x g1 g2), hS.2.2⟩
theorem c_aast {i : Int32} {N j q : Nat} {f : Nat → Option Nat} {vs : List Value} (hX : OkC G X cc nL own d mc ms) (hj : j < n) (hq : q < n) (hCj : C j = .inl (gB G, N, .inr (.inr (.inr (.inr f))))) (hCq : C q = .inr (0, vs)) (hcl : ClsOk 0 RX0 TX0 10 tyX0) (hin : vp_in i N) (hd : decode cc pc = .ok (.aastore, 1)) (hn : pc + 1 = m) (k : SC G X nL Q a b n (va_up C j (.inl (gB G, N, .inr (.inr (.inr (.inr (va_up f i.toNatClampNeg (some (gz G + q)))))))) ) m lv st) : SC G X nL Q a b n C pc lv (.ref (gz G + q) :: .int i :: .ref (gz G + j) :: st) := by
  subst hn; intro H locs ls hl hP hS
  obtain ⟨h1, h2, h3, h4, h5, h6, h7, h8, h9, h10⟩ := id hX
  have hlt : i.toNatClampNeg < N := Nat.not_le.mp fun q => hin (Or.inr q)
  have h0 : ¬ i < 0 := fun q => hin (Or.inl q)
  have hK := h6.1.1
  have haj := hP.at hj
  rw [hCj] at haj
  have haq := hP.at hq
  rw [hCq] at haq
  obtain ⟨r', hr', cellV, g1, g2, g3, -⟩ := haq
  have hcls := (hK.1 0 (RX0, TX0, 10) hcl.1).2
  obtain ⟨kA, comp, k1, k2, k3, -⟩ := (hK.2 2 _ rfl).2
  have hcomp : comp = (gD G).1 0 := Option.some.inj (k3.symm.trans hcls.1)
  subst hcomp
  obtain ⟨kC, hkC, -⟩ := hcls.2
  refine W.aast h1 h2 haj (fun q h => by cases h) (fun h => by cases h) k1 k2 rfl hkC ⟨h0, by show _ < (arrV _ _ _).slots.size; rw [arrV_size]; exact hlt⟩ g1 (fun q h => by rw [g3] at h; cases h) (by rw [g2]; exact hkC) (by rw [g2]; exact va_assign hcls) rfl rfl hd fun H1 e z oq => ?_
  refine k H1 _ ls hl (hP.put z ?_ oq) (hS.put z oq (Nat.le_add_right _ _))
  show H1[gz G + j]? = some (vp_cell _ _)
  rw [e]
  rw [vp_cell_q, vp_cell_q, arrV_store]
  congr 2
  funext q
  by_cases hq : q = i.toNatClampNeg
  · subst hq
    simp [updV, va_up, va_rf]
  · simp [updV, va_up, hq]
theorem c_getR {ci N index p j : Nat} {x : Nat} {Cn : String} {T : u_T} {ty : Nat → FieldType} {fs : List Value} (hX : OkC G X cc nL own d mc ms) (hcl : ClsOk ci Cn T N ty) (hj : j < n) (hC : C j = .inr (ci, fs)) (hd : decode cc pc = .ok (.getfield index, 3)) (hn : pc + 3 = m) (hp : p < N) (hv : fs[p]? = some (.ref x)) (hw : Cond.fieldLink own index (T p).1 (T p).2.1 (T p).2.2.1 ∈ TB) (k : SC G X nL Q a b n C m lv (.ref x :: st)) : SC G X nL Q a b n C pc lv (.ref (gz G + j) :: st) := by
  subst hn; intro H locs ls hl hP hS
  obtain ⟨h1, h2, h3, h4, h5, h6, h7, h8, h9, h10⟩ := id hX
  have h1' := wsg_at (G := G) (C := C) hj
  rw [hC] at h1'
  exact va_get h1 h2 h5 hcl.2.1 h4 h6.1.1 hP.2 j h1' hcl.1 p hp (h5 _ hw) (fun _ h => h) hv hd (k H locs ls hl hP hS)
theorem ctrM_of {y : MethodName} {l : Launch} {j n' : Nat} {C' : Nat → va_E} (hy : plainName y.cls = true) (hle : 1 ≤ nL) (h : ∀ X : CX, X.2.1 = l → RetIs X none → OkC G X cc nL y.cls d mc ms → SC G X nL (MQC G X mc ms n' C') 0 0 n C 0 [(0, .ref (gz G + j))] []) : CtrC G l y cc nL d mc ms n n' j C C' := by
  refine Met.ofW (cc := cc) (maxL := nL) (ret := none) hy rfl ?_
  intro p e s m args below meth c s₁ B hml hv
  obtain ⟨rfl, hP, hK⟩ := hv
  have hts := atoms_spec (ws := .code y cc nL none :: TB) B.pre
  have hown : s.vm.findClass y.cls = some m.cls := findClass_of_methodNamed B.named
  have hl := lv_entry [.ref (gz G + j)] (n := nL) hle
  have ee : (#[Value.ref (gz G + j)] : Array Value) = ([Value.ref (gz G + j)] : List Value).toArray := rfl
  rw [ee, lg_entry_eq]
  exact h (p, l, e, rmc d mc ms, s, m, #[.ref (gz G + j)], below, meth, c, 0, 0) rfl ⟨B.returns, B.notSynchronized⟩ ⟨B.exec, B.bytes, hml, hown, fun w hw => hts w (List.mem_cons_of_mem _ hw), hK, Nat.le_refl _, Nat.le_refl _, Nat.le_refl _, Nat.le_refl _⟩ s.heap [] _ hl hP va_S.rf
theorem c_iadd {x y : Int32} (hX : OkC G X cc nL own d mc ms) (hd : decode cc pc = .ok (.iadd, 1)) (hn : pc + 1 = m) (k : SC G X nL Q a b n C m lv (.int (x + y) :: st)) : SC G X nL Q a b n C pc lv (.int y :: .int x :: st) := by
  subst hn; exact fun H locs ls hl hP hS => lv_iadd hX.1 hX.2.1 hd (k H locs ls hl hP hS)
theorem c_iast {i v : Int32} {N j : Nat} {f : Nat → Int32} (hX : OkC G X cc nL own d mc ms) (hj : j < n) (hCj : C j = .inl (gI G, N, .inl f)) (hin : vp_in i N) (hd : decode cc pc = .ok (.iastore, 1)) (hn : pc + 1 = m) (k : SC G X nL Q a b n (va_up C j (.inl (gI G, N, .inl (upd f i.toNatClampNeg v)))) m lv st) : SC G X nL Q a b n C pc lv (.int v :: .int i :: .ref (gz G + j) :: st) := by
  subst hn; intro H locs ls hl hP hS
  obtain ⟨h1, h2, h3, h4, h5, h6, h7, h8, h9, h10⟩ := id hX
  have haj := hP.at hj
  rw [hCj] at haj
  refine W.iast h1 h2 haj ((h6.1.1.2 0 _ rfl).1 N (fun j => .int (f j))) (fun q => by cases q) (by show ¬ (i < 0 ∨ (arrV _ _ _).slots.size ≤ _); rw [arrV_size]; exact hin) rfl rfl hd fun H1 e z oq => ?_
  refine k H1 _ ls hl (hP.put z ?_ oq) (hS.put z oq (Nat.le_add_right _ _))
  show H1[gz G + j]? = some (vp_cell _ _)
  rw [e]
  rw [vp_cell_i, vp_cell_i, arrV_store]
  congr 2
  funext q
  by_cases hq : q = i.toNatClampNeg
  · subst hq
    simp [updV, upd]
  · simp [updV, upd, hq]
theorem c_callM {y : MethodName} {bytes : ByteArray} {maxL d' n' j index ci N : Nat} {Cn : String} {T : u_T} {ty : Nat → FieldType} {fs : List Value} {C' : Nat → va_E} {rest : List Value} (hX : OkC G X cc nL own d mc ms) (hcl : ClsOk ci Cn T N ty) (hj : j < n) (hCj : C j = .inr (ci, fs)) (L : LkV own index Cn y bytes maxL none 0) (hd : decode cc pc = .ok (.invokevirtual index, 3)) (hn : pc + 3 = m) (hC : CtrC G X.2.1 y bytes maxL d' 0 0 n n' j C C') (hdd : d' + 1 ≤ d) (hc : a ≤ mc) (hs : b ≤ ms) (hroom : (rest.map fun v => v.category).sum ≤ 8) (k : SC G X nL Q a b n' C' m lv rest) : SC G X nL Q a b n C pc lv (.ref (gz G + j) :: rest) := by
  subst hn; intro H locs ls hl hP hS
  obtain ⟨h1, h2, h3, h4, h5, h6, h7, h8, h9, h10⟩ := id hX
  have hmax : maxL ≤ 21 := L.2.2.2.2.2.2
  have e1 := wsg_at (G := G) (C := C) hj
  rw [hCj] at e1
  refine c_back (mc' := 0) (ms' := 0) (va_runV (R := X.2.2.2.1) (S := ⟨h1, h2, h3, h4, h5⟩) (As := []) (rest := rest) hC (cw_V h5 L (by omega) (by omega)) ⟨fun a U g mk q => ⟨q.1, q.2.1, q.2.2.calling⟩, va_recv h6.1.1 hP.2 (ci := ci) (q0 := j) hcl.1 e1, fun U hU hW => ⟨rfl, by rw [hU]; exact hP, h6.at hW hU hS⟩⟩ rfl rfl hl.1 rfl (lv_room hroom) hd ⟨by omega, by omega⟩) hS (fun H1 locs1 hP1 hS1 => k H1 locs1 ls hl hP1 hS1)
end CtorRows
theorem upC_pos {α : Type} {C : Nat → α} {j : Nat} {e : α} : va_up C j e j = e := by simp [va_up]
theorem upC_ne {α : Type} {C : Nat → α} {i j : Nat} {e : α} (h : i ≠ j) : va_up C j e i = C i := by simp [va_up, h]

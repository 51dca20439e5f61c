/-! ===== rows of the heap, calls, ends ===== -/
def ClsOk (c : Nat) (C : String) (T : u_T) (N : Nat) (ty : Nat → FieldType) : Prop := vwCl[c]? = some (C, T, N) ∧ (∀ w ∈ u_ws C T N, w ∈ TB) ∧ (∀ k, k < N → parseFieldDescriptor (T k).2.2.1 = some (ty k)) ∧ (∀ a, a < N → ∀ b, b < N → a ≠ b → (T a).2.1 ≠ (T b).2.1) ∧ (fldsOf c).length = N ∧ c < 11
section MemRows
variable {G : GW} {X : CX} {cc : ByteArray} {nL d : Nat} {own : String} {β : Type} {Q : β → State → Prop} {σ : ST} {pc n : Nat} {lv lv' : List (Nat × Value)} {st : List Value} {P P1 P2 : Option β}
theorem cel_obj (G : GW) (σ : ST) (c i : Nat) : cel G σ (121 + c) i = .inr (c, (fldsOf c).map (fv G σ i)) := by
  unfold cel
  rw [if_neg (by omega), if_neg (by omega), if_neg (by omega), show 121 + c - 121 = c by omega]
theorem s_get {c i p index : Nat} {C : String} {T : u_T} {N : Nat} {ty : Nat → FieldType} {f : Nat × Nat} (hX : Ok G X cc nL own d) (hc : ClsOk c C T N ty) (hv : vld (121 + c) i) (hd : decode cc pc = .ok (.getfield index, 3)) (hn : pc + 3 = n) (hp : (fldsOf c)[p]? = some f) (hw : Cond.fieldLink own index (T p).1 (T p).2.1 (T p).2.2.1 ∈ TB) (k : Sim G X nL Q σ n lv (fv G σ i f :: st) P) : Sim G X nL Q σ pc lv (.ref (ga G (121 + c) i) :: st) P := by
  subst hn; intro b hb H locs ls hl hP hS
  obtain ⟨q0, h1, -⟩ := wl_at G (cel G σ) hv
  rw [cel_obj] at h1
  have hpN : p < N := by rw [← hc.2.2.2.2.1]; exact (List.getElem?_eq_some_iff.mp hp).1
  exact va_get hX.1 hX.2.1 hX.2.2.2.2.1 hc.2.1 hX.2.2.2.1 hX.2.2.2.2.2.1.1 hP q0 h1 hc.1 p hpN (hX.2.2.2.2.1 _ hw) (fun _ h => h) (by rw [List.getElem?_map, hp]; rfl) hd (k b hb H locs ls hl hP hS)
theorem s_getI {c i p index id : Nat} {C : String} {T : u_T} {N : Nat} {ty : Nat → FieldType} (hX : Ok G X cc nL own d) (hc : ClsOk c C T N ty) (hv : vld (121 + c) i) (hd : decode cc pc = .ok (.getfield index, 3)) (hn : pc + 3 = n) (hp : (fldsOf c)[p]? = some (1, id)) (hw : Cond.fieldLink own index (T p).1 (T p).2.1 (T p).2.2.1 ∈ TB) (k : Sim G X nL Q σ n lv (.int (gF σ id i) :: st) P) : Sim G X nL Q σ pc lv (.ref (ga G (121 + c) i) :: st) P := s_get hX hc hv hd hn hp hw k
theorem s_getR {c i p index k' : Nat} {C : String} {T : u_T} {N : Nat} {ty : Nat → FieldType} (hX : Ok G X cc nL own d) (hc : ClsOk c C T N ty) (hv : vld (121 + c) i) (hd : decode cc pc = .ok (.getfield index, 3)) (hn : pc + 3 = n) (hp : (fldsOf c)[p]? = some (0, k')) (hw : Cond.fieldLink own index (T p).1 (T p).2.1 (T p).2.2.1 ∈ TB) (k : Sim G X nL Q σ n lv (.ref (ga G k' i) :: st) P) : Sim G X nL Q σ pc lv (.ref (ga G (121 + c) i) :: st) P := s_get hX hc hv hd hn hp hw k
theorem s_getC {c i p index z : Nat} (k' i' : Nat) {C : String} {T : u_T} {N : Nat} {ty : Nat → FieldType} (hX : Ok G X cc nL own d) (hc : ClsOk c C T N ty) (hv : vld (121 + c) i) (hd : decode cc pc = .ok (.getfield index, 3)) (hn : pc + 3 = n) (hp : (fldsOf c)[p]? = some (3, z)) (hz : z / 64 = k' ∧ z % 64 = i') (hw : Cond.fieldLink own index (T p).1 (T p).2.1 (T p).2.2.1 ∈ TB) (k : Sim G X nL Q σ n lv (.ref (ga G k' i') :: st) P) : Sim G X nL Q σ pc lv (.ref (ga G (121 + c) i) :: st) P := by
  refine s_get hX hc hv hd hn hp hw ?_
  have e : fv G σ i (3, z) = .ref (ga G k' i') := by show Value.ref (ga G (z / 64) (z % 64)) = _; rw [hz.1, hz.2]
  rw [e]; exact k
/-- the roll, the draft: which one it is, is tested -/
def ldQ (σ : ST) (j : Nat) : Option Nat := if σ.2.2 j < 2 then some (σ.2.2 j) else none
theorem s_getQ {c i p index j : Nat} {C : String} {T : u_T} {N : Nat} {ty : Nat → FieldType} {K : Nat → Option β} (hX : Ok G X cc nL own d) (hc : ClsOk c C T N ty) (hv : vld (121 + c) i) (hd : decode cc pc = .ok (.getfield index, 3)) (hn : pc + 3 = n) (hp : (fldsOf c)[p]? = some (2, j)) (hw : Cond.fieldLink own index (T p).1 (T p).2.1 (T p).2.2.1 ∈ TB) (k : ∀ r, r < 2 → Sim G X nL Q σ n lv (.ref (ga G 126 r) :: st) (K r)) : Sim G X nL Q σ pc lv (.ref (ga G (121 + c) i) :: st) (bd_ (ldQ σ j) K) := by
  intro b hb
  by_cases h : σ.2.2 j < 2
  · simp only [bd_, ldQ, if_pos h, Option.bind_some] at hb
    exact s_get hX hc hv hd hn hp hw (k _ h) b hb
  · simp [bd_, ldQ, h] at hb
theorem s_putI {c i p index : Nat} {v : Int32} {C : String} {T : u_T} {N : Nat} {ty : Nat → FieldType} {K : ST → Option β} (hX : Ok G X cc nL own d) (hc : ClsOk c C T N ty) (hv : vld (121 + c) i) (hd : decode cc pc = .ok (.putfield index, 3)) (hn : pc + 3 = n) (hp : (fldsOf c)[p]? = some (1, 200 + 64 * c + p)) (hp5 : p < 50) (hw : Cond.fieldLink own index (T p).1 (T p).2.1 (T p).2.2.1 ∈ TB) (hf : (T p).2.2.2 = false) (hnar : narrow (ty p) (.int v) = .int v) (hfit : fits (ty p) (.int v) = true) (k : ∀ σ', Sim G X nL Q σ' n lv st (K σ')) : Sim G X nL Q σ pc lv (.int v :: .ref (ga G (121 + c) i) :: st) (lt_ (setF σ (200 + 64 * c + p) i v) K) := by
  subst hn; intro b hb H locs ls hl hP hS
  obtain ⟨q0, h1, h2⟩ := wl_at G (cel G σ) hv
  obtain ⟨g1, g2⟩ := cel_setF G σ (i := i) v hc.2.2.2.2.2 hp hp5
  have h3 := h2 _ (cel G (setF σ (200 + 64 * c + p) i v)) rfl g2
  rw [g1] at h3
  rw [cel_obj] at h1
  have hpN : p < N := by rw [← hc.2.2.2.2.1]; exact (List.getElem?_eq_some_iff.mp hp).1
  refine va_put hX.1 hX.2.1 hX.2.2.2.2.1 hc.2.1 ty hc.2.2.1 hc.2.2.2.1 hX.2.2.2.1 hX.2.2.2.2.2.1.1 hP (hX.2.2.2.2.2.2.1 _) hS q0 h1 hc.1 p hpN (hX.2.2.2.2.1 _ hw) (fun _ h => h) hf (hc.2.2.1 p hpN) hnar hfit (by rw [List.length_map, hc.2.2.2.2.1]; exact hpN) hd (fun H1 locs1 hP1 _ hS1 => ?_)
  rw [h3] at hP1
  exact k _ b hb H1 locs1 ls hl hP1 hS1
theorem s_putQ {j r index : Nat} {K : ST → Option β} (hX : Ok G X cc nL own d) (hj : j < 2) (hd : decode cc pc = .ok (.putfield index, 3)) (hn : pc + 3 = n) (hw : Cond.fieldLink own index (TX9 (7 + j)).1 (TX9 (7 + j)).2.1 (TX9 (7 + j)).2.2.1 ∈ TB) (hc : ClsOk 9 RX9 TX9 9 tyX9) (k : ∀ σ', Sim G X nL Q σ' n lv st (K σ')) : Sim G X nL Q σ pc lv (.ref (ga G 126 r) :: .ref (ga G 130 0) :: st) (lt_ (setQ σ j r) K) := by
  subst hn; intro b hb H locs ls hl hP hS
  have hv : vld (121 + 9) 0 := vld_of (n := 1) (by decide) (by decide)
  obtain ⟨q0, h1, h2⟩ := wl_at G (cel G σ) hv
  obtain ⟨g1, g2⟩ := cel_setQ G σ j r hj
  have h3 : (wl G (cel G σ)).set q0 (ga G 130 0, .inr (9, ((fldsOf 9).map (fv G σ 0)).set (7 + j) (.ref (ga G 126 r)))) = wl G (cel G (setQ σ j r)) := by
    have e := h2 _ (fun k' i' => if k' = 130 ∧ i' = 0 then cel G (setQ σ j r) 130 0 else cel G σ k' i') (by rw [if_pos ⟨rfl, rfl⟩]) (fun k' i' hne => by rw [if_neg hne])
    rw [← g1]
    refine e.trans ?_
    unfold wl
    apply List.map_congr_left
    intro z hz
    by_cases hz2 : z.1 = 130 ∧ z.2 = 0
    · show (_, _) = (_, _)
      dsimp only
      rw [if_pos hz2, hz2.1, hz2.2]
    · show (_, _) = (_, _)
      dsimp only
      rw [if_neg hz2, g2 z.1 z.2 hz2 hz]
  rw [cel_obj] at h1
  have hty : ∀ j, j < 2 → tyX9 (7 + j) = .object "RightsPool$Roll" ∧ (TX9 (7 + j)).2.2.2 = false := by decide +kernel
  have hN : 7 + j < 9 := by omega
  refine va_put hX.1 hX.2.1 hX.2.2.2.2.1 hc.2.1 tyX9 hc.2.2.1 hc.2.2.2.1 hX.2.2.2.1 hX.2.2.2.2.2.1.1 hP (hX.2.2.2.2.2.2.1 _) hS q0 h1 hc.1 (7 + j) hN (hX.2.2.2.2.1 _ hw) (fun _ h => h) (hty j hj).2 (hc.2.2.1 (7 + j) hN) (by rw [(hty j hj).1]; rfl) (by rw [(hty j hj).1]; rfl) (by rw [List.length_map, hc.2.2.2.2.1]; exact hN) hd (fun H1 locs1 hP1 _ hS1 => ?_)
  have hP2 : va_P (gD G) vwCl ((wl G (cel G σ)).set q0 (ga G 130 0, .inr (9, ((fldsOf 9).map (fv G σ 0)).set (7 + j) (.ref (ga G 126 r))))) H1 := hP1
  rw [h3] at hP2
  exact k _ b hb H1 locs1 ls hl hP2 hS1
theorem cel_i (G : GW) (σ : ST) {k : Nat} (i : Nat) (hk : k < 100) : cel G σ k i = .inl (gI G, lenI k, .inl (σ.1 k i)) := by unfold cel; rw [if_pos hk]
theorem cel_l (G : GW) (σ : ST) {k : Nat} (i : Nat) (hk : 100 ≤ k ∧ k < 120) : cel G σ k i = .inl (gJ G, lenL k, .inr (.inl (σ.2.1 k i))) := by unfold cel; rw [if_neg (by omega), if_pos hk.2]
theorem s_iald {k i : Nat} {j : Int32} {K : Int32 → Option β} (hX : Ok G X cc nL own d) (hv : vld k i) (hk : k < 100) (hd : decode cc pc = .ok (.iaload, 1)) (hn : pc + 1 = n) (kk : ∀ v, Sim G X nL Q σ n lv (.int v :: st) (K v)) : Sim G X nL Q σ pc lv (.int j :: .ref (ga G k i) :: st) (bd_ (ldI σ k i j) K) := by
  subst hn; intro b hb H locs ls hl hP hS
  by_cases h : inB j (lenI k) = true
  · simp only [bd_, ldI, if_pos h, Option.bind_some] at hb
    obtain ⟨q0, h1, -⟩ := wl_at G (cel G σ) hv
    rw [cel_i G σ i hk] at h1
    exact va_iald hX.1 hX.2.1 hX.2.2.2.2.2.1.1 hP q0 0 h1 rfl (inB_in h) hd (kk _ b hb H locs ls hl hP hS)
  · simp [bd_, ldI, h] at hb
theorem s_lald {k i : Nat} {j : Int32} {K : Int64 → Option β} (hX : Ok G X cc nL own d) (hv : vld k i) (hk : 100 ≤ k ∧ k < 120) (hd : decode cc pc = .ok (.laload, 1)) (hn : pc + 1 = n) (kk : ∀ v, Sim G X nL Q σ n lv (.long v :: st) (K v)) : Sim G X nL Q σ pc lv (.int j :: .ref (ga G k i) :: st) (bd_ (ldL σ k i j) K) := by
  subst hn; intro b hb H locs ls hl hP hS
  by_cases h : inB j (lenL k) = true
  · simp only [bd_, ldL, if_pos h, Option.bind_some] at hb
    obtain ⟨q0, h1, -⟩ := wl_at G (cel G σ) hv
    rw [cel_l G σ i hk] at h1
    exact va_lald hX.1 hX.2.1 hX.2.2.2.2.2.1.1 hP q0 1 h1 rfl (inB_in h) hd (kk _ b hb H locs ls hl hP hS)
  · simp [bd_, ldL, h] at hb
theorem s_iast {k i : Nat} {j v : Int32} {K : ST → Option β} (hX : Ok G X cc nL own d) (hv : vld k i) (hk : k < 100) (hd : decode cc pc = .ok (.iastore, 1)) (hn : pc + 1 = n) (kk : ∀ σ', Sim G X nL Q σ' n lv st (K σ')) : Sim G X nL Q σ pc lv (.int v :: .int j :: .ref (ga G k i) :: st) (bd_ (stI σ k i j v) K) := by
  subst hn; intro b hb H locs ls hl hP hS
  by_cases h : inB j (lenI k) = true
  · simp only [bd_, stI, if_pos h, Option.bind_some] at hb
    obtain ⟨q0, h1, h2⟩ := wl_at G (cel G σ) hv
    rw [cel_i G σ i hk] at h1
    have h3 := h2 _ (cel G (setR σ k i (upd (σ.1 k i) j.toNatClampNeg v))) rfl (cel_setR G σ _ hk)
    rw [cel_i G _ i hk, show (setR σ k i (upd (σ.1 k i) j.toNatClampNeg v)).1 k i = upd (σ.1 k i) j.toNatClampNeg v by simp [setR, up3]] at h3
    refine va_iast hX.1 hX.2.1 hX.2.2.2.2.2.1.1 hP (hX.2.2.2.2.2.2.1 _) hS q0 0 h1 rfl (inB_in h) hd (fun H1 locs1 hP1 _ hS1 => ?_)
    rw [h3] at hP1
    exact kk _ b hb H1 locs1 ls hl hP1 hS1
  · simp [bd_, stI, h] at hb
theorem s_last {k i : Nat} {j : Int32} {v : Int64} {K : ST → Option β} (hX : Ok G X cc nL own d) (hv : vld k i) (hk : 100 ≤ k ∧ k < 120) (hd : decode cc pc = .ok (.lastore, 1)) (hn : pc + 1 = n) (kk : ∀ σ', Sim G X nL Q σ' n lv st (K σ')) : Sim G X nL Q σ pc lv (.long v :: .int j :: .ref (ga G k i) :: st) (bd_ (stL σ k i j v) K) := by
  subst hn; intro b hb H locs ls hl hP hS
  by_cases h : inB j (lenL k) = true
  · simp only [bd_, stL, if_pos h, Option.bind_some] at hb
    obtain ⟨q0, h1, h2⟩ := wl_at G (cel G σ) hv
    rw [cel_l G σ i hk] at h1
    have h3 := h2 _ (cel G (setL σ k i (vp_updL (σ.2.1 k i) j.toNatClampNeg v))) rfl (cel_setL G σ _)
    rw [cel_l G _ i hk, show (setL σ k i (vp_updL (σ.2.1 k i) j.toNatClampNeg v)).2.1 k i = vp_updL (σ.2.1 k i) j.toNatClampNeg v by simp [setL, up3]] at h3
    refine va_last hX.1 hX.2.1 hX.2.2.2.2.2.1.1 hP (hX.2.2.2.2.2.2.1 _) hS q0 1 h1 rfl (inB_in h) hd (fun H1 locs1 hP1 _ hS1 => ?_)
    rw [h3] at hP1
    exact kk _ b hb H1 locs1 ls hl hP1 hS1
  · simp [bd_, stL, h] at hb
theorem s_aald {j : Int32} {K : Nat → Option β} (hX : Ok G X cc nL own d) (hd : decode cc pc = .ok (.aaload, 1)) (hn : pc + 1 = n) (kk : ∀ r, r < 13 → Sim G X nL Q σ n lv (.ref (ga G 121 r) :: st) (K r)) : Sim G X nL Q σ pc lv (.int j :: .ref (ga G 120 0) :: st) (bd_ (ldB j) K) := by
  subst hn; intro b hb H locs ls hl hP hS
  by_cases h : inB j 12 = true
  · simp only [bd_, ldB, if_pos h, Option.bind_some] at hb
    have hv : vld 120 0 := vld_of (n := 1) (by decide) (by decide)
    obtain ⟨q0, h1, -⟩ := wl_at G (cel G σ) hv
    have hlt : j.toNatClampNeg < 12 := by simp only [inB, Bool.and_eq_true, decide_eq_true_eq] at h; exact h.2
    exact va_aldq hX.1 hX.2.1 hX.2.2.2.2.2.1.1 hP q0 2 h1 rfl (inB_in h) hd (kk _ (by omega) b hb H locs ls hl hP hS)
  · simp [bd_, ldB, h] at hb
theorem s_alen {k i : Nat} {N : Int32} (hX : Ok G X cc nL own d) (hv : vld k i) (hk : k < 100) (hd : decode cc pc = .ok (.arraylength, 1)) (hn : pc + 1 = n) (hN : (lenI k).toInt32 = N) (kk : Sim G X nL Q σ n lv (.int N :: st) P) : Sim G X nL Q σ pc lv (.ref (ga G k i) :: st) P := by
  subst hn; intro b hb H locs ls hl hP hS
  obtain ⟨q0, h1, -⟩ := wl_at G (cel G σ) hv
  rw [cel_i G σ i hk] at h1
  exact W.alen hX.1 hX.2.1 (hP q0 _ h1) ((hX.2.2.2.2.2.1.1.2 0 _ rfl).1 (lenI k) (fun j => .int (σ.1 k i j))) (by show (arrV _ _ _).slots.size.toInt32 = N; rw [arrV_size]; exact hN) rfl rfl hd (kk b hb H locs ls hl hP hS)
/-! contracts -/
def Qcc (G : GW) (o : Option Value × ST) : Array Value → State → Outcome → State → Prop := fun _ st oc t => oc = .returned o.1 ∧ Pic G o.2 t.heap ∧ va_F (Fr G) st t
abbrev rmd (d : Nat) : Room := { frames := d, cells := 0, slots := 0, locals := 40 * d }
def Pcc (G : GW) (av : List Value) (σ : ST) : Array Value → State → Prop := fun v U => v = av.toArray ∧ Pic G σ U.heap ∧ KK G U
def Ctr (G : GW) (l : Launch) (y : MethodName) (cc : ByteArray) (nL : Nat) (ret : Option FieldType) (d : Nat) (av : List Value) (σ : ST) {β : Type} (out : β → Option Value × ST) (P : Option β) : Prop := ∀ b, P = some b → Met l y (.code y cc nL ret :: TB) (rmd d) (Pcc G av σ) (Qcc G (out b)) 0 0 (Fr G)
/-- a method's end: which state its answer stands for -/
def MQX (G : GW) (X : CX) (out : β → Option Value × ST) : β → State → Prop := fun b => MQ X.2.2.2.2.2.2.2.1 (Qcc G (out b)) X.2.2.2.2.2.2.1 (xs_ X) X.2.2.2.2.2.2.2.2.2.2.1 X.2.2.2.2.2.2.2.2.2.2.2 (Fr G)
def RetIs (X : CX) (ret : Option FieldType) : Prop := X.2.2.2.2.2.2.2.2.1.sig.returnType = ret ∧ X.2.2.2.2.2.2.2.2.1.locks = false
theorem s_iret {out : β → Option Value × ST} {v : Int32} {b : β} (hX : Ok G X cc nL own d) (hr : RetIs X (some .int)) (hd : decode cc pc = .ok (.ireturn, 1)) (ho : out b = (some (.int v), σ)) : Sim G X nL (MQX G X out) σ pc lv [.int v] (some b) := by
  intro b' hb H locs ls hl hP hS
  cases hb
  exact W.iret hX.1 hX.2.1 hr.1 (fun t ht _ => by rw [ho]; exact ⟨rfl, by rw [ht]; exact hP, hS.F ht⟩) (fun q hq => hS.2.2 q hq) hd hr.2
theorem s_zret {out : β → Option Value × ST} {v : Int32} {b : β} {ty : FieldType} (hX : Ok G X cc nL own d) (hr : RetIs X (some ty)) (hd : decode cc pc = .ok (.ireturn, 1)) (hz : narrow ty (.int v) = .int v) (ho : out b = (some (.int v), σ)) : Sim G X nL (MQX G X out) σ pc lv [.int v] (some b) := by
  intro b' hb H locs ls hl hP hS
  cases hb
  exact W.zret hX.1 hX.2.1 hr.1 hz (fun t ht _ => by rw [ho]; exact ⟨rfl, by rw [ht]; exact hP, hS.F ht⟩) (fun q hq => hS.2.2 q hq) hd hr.2
theorem s_lret {out : β → Option Value × ST} {v : Int64} {b : β} (hX : Ok G X cc nL own d) (hr : RetIs X (some .long)) (hd : decode cc pc = .ok (.lreturn, 1)) (ho : out b = (some (.long v), σ)) : Sim G X nL (MQX G X out) σ pc lv [.long v] (some b) := by
  intro b' hb H locs ls hl hP hS
  cases hb
  exact W.lret hX.1 hX.2.1 hr.1 (fun t ht _ => by rw [ho]; exact ⟨rfl, by rw [ht]; exact hP, hS.F ht⟩) (fun q hq => hS.2.2 q hq) hd hr.2
theorem s_vret {out : β → Option Value × ST} {b : β} (hX : Ok G X cc nL own d) (hr : RetIs X none) (hd : decode cc pc = .ok (.return_, 1)) (ho : out b = (none, σ)) : Sim G X nL (MQX G X out) σ pc lv [] (some b) := by
  intro b' hb H locs ls hl hP hS
  cases hb
  exact W.vret hX.1 hX.2.1 hr.1 (fun t ht _ => by rw [ho]; exact ⟨rfl, by rw [ht]; exact hP, hS.F ht⟩) (fun q hq => hS.2.2 q hq) hd hr.2
theorem ctr_of {y : MethodName} {l : Launch} {ret : Option FieldType} {av : List Value} {out : β → Option Value × ST} (hG : Good G) (hy : plainName y.cls = true) (hle : (lg_sl av).length ≤ nL) (h : ∀ X : CX, X.2.1 = l → RetIs X ret → Ok G X cc nL y.cls d → Sim G X nL (MQX G X out) σ 0 (lv_args 0 av) [] P) : Ctr G l y cc nL ret d av σ out P := by
  intro b hb
  refine Met.ofW (cc := cc) (maxL := nL) (ret := ret) hy rfl ?_
  intro p e s m args below meth c s₁ B hml hv
  obtain ⟨rfl, hP, hK⟩ := hv
  have hts := atoms_spec (ws := .code y cc nL ret :: TB) B.pre
  have hown : s.vm.findClass y.cls = some m.cls := findClass_of_methodNamed B.named
  have hl := lv_entry av (n := nL) hle
  rw [lg_entry_eq]
  exact h (p, l, e, rmd d, s, m, av.toArray, below, meth, c, 0, 0) rfl ⟨B.returns, B.notSynchronized⟩ ⟨B.exec, B.bytes, hml, hown, fun w hw => hts w (List.mem_cons_of_mem _ hw), hK, hG, Nat.le_refl _, Nat.le_refl _, Nat.zero_le _, Nat.zero_le _⟩ b hb s.heap [] _ hl hP va_S.rf
/-! calls -/
theorem tb_self (y : MethodName) (bytes : ByteArray) (maxL : Nat) (ret : Option FieldType) (h : Cond.code y bytes maxL ret ∈ TB) : GoodIn TB (.code y bytes maxL ret :: TB) := fun w hw => by
  have : w ∈ TB := (List.mem_cons.mp hw).elim (fun e => by rw [e]; exact h) (fun e => e)
  exact ⟨this, good_of_word (TB_good this)⟩
def LkV (own : String) (index : Nat) (C : String) (y : MethodName) (bytes : ByteArray) (maxL : Nat) (ret : Option FieldType) (na : Nat) : Prop := Cond.methodLink own index y ∈ TB ∧ Cond.instanceMethod y ∈ TB ∧ Cond.selects C y y ∈ TB ∧ Cond.initialized C ∈ TB ∧ Cond.code y bytes maxL ret ∈ TB ∧ (y.cls = C ∧ y.cls ≠ "java/lang/invoke/MethodHandle" ∧ y.cls ≠ "java/lang/invoke/VarHandle" ∧ (parseMethodDescriptor y.desc).map (fun d => d.parameters.length) = some na) ∧ maxL ≤ 21
def LkS (own : String) (index : Nat) (y : MethodName) (bytes : ByteArray) (maxL : Nat) (ret : Option FieldType) (na : Nat) : Prop := Cond.methodLink own index y ∈ TB ∧ Cond.static y ∈ TB ∧ Cond.initialized y.cls ∈ TB ∧ Cond.code y bytes maxL ret ∈ TB ∧ (y.cls ≠ "java/lang/invoke/MethodHandle" ∧ y.cls ≠ "java/lang/invoke/VarHandle" ∧ (parseMethodDescriptor y.desc).map (fun d => d.parameters.length) = some na) ∧ maxL ≤ 21
theorem cw_V {R : Room} {s : State} {args : Array Value} {index : Nat} {C : String} {y : MethodName} {bytes : ByteArray} {maxL : Nat} {ret : Option FieldType} {na d' : Nat} (hts : ∀ w ∈ TB, w.before args s = true) (L : LkV own index C y bytes maxL ret na) (h1 : d' + 1 ≤ R.frames) (h2 : 8 + (maxL + 11) + 40 * d' ≤ R.locals) : CallW R s args own C index y bytes maxL ret (.code y bytes maxL ret :: TB) (rmd d') 0 0 na := by
  have hg := tb_self y bytes maxL ret L.2.2.2.2.1
  refine cwV (rm := rmd d') na hts (fun w hw => ?_) rfl rfl rfl L.2.2.2.2.2.1 ⟨h1, h2⟩
  rcases List.mem_append.mp hw with h | h
  · simp only [List.mem_cons, List.not_mem_nil, or_false] at h
    rcases h with rfl | rfl | rfl | rfl
    · exact ⟨L.1, good_of_word (TB_good L.1)⟩
    · exact ⟨L.2.1, good_of_word (TB_good L.2.1)⟩
    · exact ⟨L.2.2.1, good_of_word (TB_good L.2.2.1)⟩
    · exact ⟨L.2.2.2.1, good_of_word (TB_good L.2.2.2.1)⟩
  · exact hg w h
theorem cw_S {R : Room} {s : State} {args : Array Value} {index : Nat} {y : MethodName} {bytes : ByteArray} {maxL : Nat} {ret : Option FieldType} {na d' : Nat} (hts : ∀ w ∈ TB, w.before args s = true) (L : LkS own index y bytes maxL ret na) (h1 : d' + 1 ≤ R.frames) (h2 : 8 + (maxL + 11) + 40 * d' ≤ R.locals) : CallB R s args own index y bytes maxL ret (.code y bytes maxL ret :: TB) (rmd d') 0 0 na ∧ (Cond.static y).before args s = true :=
  ⟨callB_of (rm := rmd d') na hts (tb_self y bytes maxL ret L.2.2.2.1) rfl rfl rfl (hts _ L.2.2.1) (hts _ L.1) L.2.2.2.2.1 ⟨h1, h2⟩, hts _ L.2.1⟩
theorem pcc_blind (G : GW) (av : List Value) (σ : ST) : FrameBlind (Pcc G av σ) := fun a U g mk q => ⟨q.1, q.2.1, KK.calling q.2.2⟩
/-- behind a call: the state that the callee leaves -/
theorem s_back {b' : Option Value × ST} {aa : Array Value} {rest st0 : List Value} {Qf : State → Prop} {ls : Array Slot} {H : Heap} {locs : List Loc} (hr : va_Run X.1 X.2.1 X.2.2.1 X.2.2.2.1 X.2.2.2.2.1 X.2.2.2.2.2.1 X.2.2.2.2.2.2.1 X.2.2.2.2.2.2.2.1 X.2.2.2.2.2.2.2.2.1 X.2.2.2.2.2.2.2.2.2.1 H locs X.2.2.2.2.2.2.2.2.2.2.1 X.2.2.2.2.2.2.2.2.2.2.2 0 0 (F0 (xm_ X) pc ls st0) rest (Qcc G b' aa) (Fr G)) (hS : va_S (Fr G) (xs_ X).heap H locs)
    (kk : ∀ (H1 : Heap) (locs1 : List Loc), Pic G b'.2 H1 → va_S (Fr G) (xs_ X).heap H1 locs1 → WX X H1 locs1 Qf (F0 (xm_ X) (pc + 3) ls (b'.1.toList ++ rest))) : WX X H locs Qf (F0 (xm_ X) pc ls st0) := by
  intro T hT XX
  obtain ⟨v, st₀, t, T', L, h0, X', hL, e1, e2, ⟨hv, hPb, hz, hk⟩, st⟩ := hr T hT XX
  cases hv
  rw [h0] at hz hk
  obtain ⟨t2, a1, b1⟩ := kk T'.heap (locs ++ L) (by rw [e1]; exact hPb)
    ⟨Nat.le_trans hS.1 (by rw [e1]; exact hz), fun q h1 h2 => by rw [e1, hk q (Nat.lt_of_lt_of_le h1 hS.1) h2]; exact hS.2.1 q h1 h2, fun q hq => by
      rcases List.mem_append.mp hq with h | h
      · exact hS.2.2 q h
      · exact hL q h⟩ T' rfl X'
  exact ⟨t2, st t2 a1, b1⟩
theorem s_callV_ {γ : Type} {c i index : Nat} {C : String} {T : u_T} {N : Nat} {ty : Nat → FieldType} {y : MethodName} {bytes : ByteArray} {maxL na d' : Nat} {ret : Option FieldType} {As rest : List Value} {out : γ → Option Value × ST} {Pc : Option γ} {K : γ → Option β} (hX : Ok G X cc nL own d) (hc : ClsOk c C T N ty) (hv : vld (121 + c) i) (L : LkV own index C y bytes maxL ret na) (hd : decode cc pc = .ok (.invokevirtual index, 3)) (hn : pc + 3 = n) (hdd : d' + 1 ≤ d) (hC : Ctr G X.2.1 y bytes maxL ret d' (.ref (ga G (121 + c) i) :: As) σ out Pc) (hst : st = As.reverse ++ .ref (ga G (121 + c) i) :: rest) (hna : As.length = na) (hroom : (rest.map fun v => v.category).sum ≤ 8) (k : ∀ r, Pc = some r → Sim G X nL Q (out r).2 n lv ((out r).1.toList ++ rest) (K r)) : Sim G X nL Q σ pc lv st (bd_ Pc K) := by
  subst hn; subst hst; intro b hb H locs ls hl hP hS
  cases hPc : Pc with
  | none => rw [hPc] at hb; cases hb
  | some r =>
    rw [hPc] at hb
    obtain ⟨h1, h2, h3, h4, h5, h6, h7, h8, h9, h10, h11⟩ := id hX
    have hmax : maxL ≤ 21 := L.2.2.2.2.2.2
    obtain ⟨q0, e1, -⟩ := wl_at G (cel G σ) hv
    rw [cel_obj] at e1
    have hC2 : vwCl[c]? = some (C, T, N) := hc.1
    refine s_back (va_runV (S := ⟨h1, h2, h3, h4, h5⟩) (hC r hPc) (cw_V h5 L (by omega) (by omega)) ⟨pcc_blind G _ σ, va_recv h6.1 hP (ci := c) (q0 := q0) hC2 e1, fun U hU hW => ⟨rfl, by rw [hU]; exact hP, h6.at hW hU hS⟩⟩ rfl hna hl.1 rfl (lv_room hroom) hd ⟨h10, h11⟩) hS (fun H1 locs1 hP1 hS1 => k r hPc b hb H1 locs1 ls hl hP1 hS1)
theorem s_callV {γ : Type} {c i index : Nat} {C : String} {T : u_T} {N : Nat} {ty : Nat → FieldType} {y : MethodName} {bytes : ByteArray} {maxL na d' : Nat} {ret : Option FieldType} {As rest : List Value} {out : γ → Option Value × ST} {Pc : Option γ} {K : γ → Option β} (hX : Ok G X cc nL own d) (hc : ClsOk c C T N ty) (hv : vld (121 + c) i) (L : LkV own index C y bytes maxL ret na) (hd : decode cc pc = .ok (.invokevirtual index, 3)) (hn : pc + 3 = n) (hdd : d' + 1 ≤ d) (hC : Ctr G X.2.1 y bytes maxL ret d' (.ref (ga G (121 + c) i) :: As) σ out Pc) (hst : st = As.reverse ++ .ref (ga G (121 + c) i) :: rest) (hna : As.length = na) (hroom : (rest.map fun v => v.category).sum ≤ 8) (k : ∀ r, Sim G X nL Q (out r).2 n lv ((out r).1.toList ++ rest) (K r)) : Sim G X nL Q σ pc lv st (bd_ Pc K) := s_callV_ hX hc hv L hd hn hdd hC hst hna hroom (fun r _ => k r)
theorem s_callS_ {γ : Type} {index : Nat} {y : MethodName} {bytes : ByteArray} {maxL na d' : Nat} {ret : Option FieldType} {As rest : List Value} {out : γ → Option Value × ST} {Pc : Option γ} {K : γ → Option β} (hX : Ok G X cc nL own d) (L : LkS own index y bytes maxL ret na) (hd : decode cc pc = .ok (.invokestatic index, 3)) (hn : pc + 3 = n) (hdd : d' + 1 ≤ d) (hC : Ctr G X.2.1 y bytes maxL ret d' As σ out Pc) (hst : st = As.reverse ++ rest) (hna : As.length = na) (hroom : (rest.map fun v => v.category).sum ≤ 8) (k : ∀ r, Pc = some r → Sim G X nL Q (out r).2 n lv ((out r).1.toList ++ rest) (K r)) : Sim G X nL Q σ pc lv st (bd_ Pc K) := by
  subst hn; subst hst; intro b hb H locs ls hl hP hS
  cases hPc : Pc with
  | none => rw [hPc] at hb; cases hb
  | some r =>
    rw [hPc] at hb
    obtain ⟨h1, h2, h3, h4, h5, h6, h7, h8, h9, h10, h11⟩ := id hX
    have hmax : maxL ≤ 21 := L.2.2.2.2.2
    refine s_back (va_runS (S := ⟨h1, h2, h3, h4, h5⟩) (hC r hPc) (cw_S h5 L (by omega) (by omega)) ⟨pcc_blind G _ σ, fun U hU hW => ⟨rfl, by rw [hU]; exact hP, h6.at hW hU hS⟩⟩ rfl hna hl.1 rfl (lv_room hroom) hd ⟨h10, h11⟩) hS (fun H1 locs1 hP1 hS1 => k r hPc b hb H1 locs1 ls hl hP1 hS1)
theorem s_callS {γ : Type} {index : Nat} {y : MethodName} {bytes : ByteArray} {maxL na d' : Nat} {ret : Option FieldType} {As rest : List Value} {out : γ → Option Value × ST} {Pc : Option γ} {K : γ → Option β} (hX : Ok G X cc nL own d) (L : LkS own index y bytes maxL ret na) (hd : decode cc pc = .ok (.invokestatic index, 3)) (hn : pc + 3 = n) (hdd : d' + 1 ≤ d) (hC : Ctr G X.2.1 y bytes maxL ret d' As σ out Pc) (hst : st = As.reverse ++ rest) (hna : As.length = na) (hroom : (rest.map fun v => v.category).sum ≤ 8) (k : ∀ r, Sim G X nL Q (out r).2 n lv ((out r).1.toList ++ rest) (K r)) : Sim G X nL Q σ pc lv st (bd_ Pc K) := s_callS_ hX L hd hn hdd hC hst hna hroom (fun r _ => k r)
theorem s_callN {γ : Type} {As rest : List Value} {out : γ → Option Value × ST} {Pc : Option γ} {K : γ → Option β} {d' : Nat} (hX : Ok G X cc nL RX0 d) (hcode : Cond.code yX9_slotOf cX9_slotOf 3 (some .int) ∈ TB) (hstat : Cond.static yX9_slotOf ∈ TB) (hini : Cond.initialized RX9 ∈ TB) (hd : decode cc pc = .ok (.invokestatic 86, 3)) (hn : pc + 3 = n) (hdd : d' + 1 ≤ d) (hC : Ctr G X.2.1 yX9_slotOf cX9_slotOf 3 (some .int) d' As σ out Pc) (hst : st = As.reverse ++ rest) (hna : As.length = 3) (hroom : (rest.map fun v => v.category).sum ≤ 8) (k : ∀ r, Sim G X nL Q (out r).2 n lv ((out r).1.toList ++ rest) (K r)) : Sim G X nL Q σ pc lv st (bd_ Pc K) := by
  subst hn; subst hst; intro b hb H locs ls hl hP hS
  cases hPc : Pc with
  | none => rw [hPc] at hb; cases hb
  | some r =>
    rw [hPc] at hb
    obtain ⟨h1, h2, h3, h4, h5, h6, h7, h8, h9, h10, h11⟩ := id hX
    refine s_back (va_runSN (S := ⟨h1, h2, h3, h4, h5⟩) (hC r hPc) ⟨va_cnB (rm := rmd d') 3 h5 (tb_self _ _ _ _ hcode) rfl rfl rfl h6.2.1 (h5 _ hini) (by decide +kernel) ⟨by show d' + 1 ≤ _; omega, by show 8 + (3 + 11) + 40 * d' ≤ _; omega⟩, h5 _ hstat, trivial⟩ ⟨pcc_blind G _ σ, fun U hU hW => ⟨rfl, by rw [hU]; exact hP, h6.at hW hU hS⟩⟩ rfl hna hl.1 rfl (lv_room hroom) hd ⟨h10, h11⟩) hS (fun H1 locs1 hP1 hS1 => k r b hb H1 locs1 ls hl hP1 hS1)
def cpI (σ : ST) (k0 i0 : Nat) (sp : Int32) (k1 i1 : Nat) (dp m : Int32) : Option ST := if 0 ≤ sp ∧ 0 ≤ dp ∧ 0 ≤ m ∧ sp.toNatClampNeg + m.toNatClampNeg ≤ lenI k0 ∧ dp.toNatClampNeg + m.toNatClampNeg ≤ lenI k1 then some (setR σ k1 i1 (va_cpy (σ.1 k0 i0) (σ.1 k1 i1) sp.toNatClampNeg dp.toNatClampNeg m.toNatClampNeg)) else none
theorem s_copy {k0 i0 k1 i1 index : Nat} {sp dp m : Int32} {K : ST → Option β} (hX : Ok G X cc nL own d) (hv0 : vld k0 i0) (hv1 : vld k1 i1) (hk0 : k0 < 100) (hk1 : k1 < 100) (hd : decode cc pc = .ok (.invokestatic index, 3)) (hn : pc + 3 = n) (hdd : 1 ≤ d) (hw : Cond.methodLink own index arraycopyName ∈ TB) (hnat : Cond.native arraycopyName ∈ TB) (hstat : Cond.static arraycopyName ∈ TB) (hini : Cond.initialized "java/lang/System" ∈ TB) (kk : ∀ σ', Sim G X nL Q σ' n lv [] (K σ')) : Sim G X nL Q σ pc lv [.int m, .int dp, .ref (ga G k1 i1), .int sp, .ref (ga G k0 i0)] (bd_ (cpI σ k0 i0 sp k1 i1 dp m) K) := by
  subst hn; intro b hb H locs ls hl hP hS
  by_cases h : 0 ≤ sp ∧ 0 ≤ dp ∧ 0 ≤ m ∧ sp.toNatClampNeg + m.toNatClampNeg ≤ lenI k0 ∧ dp.toNatClampNeg + m.toNatClampNeg ≤ lenI k1
  · simp only [bd_, cpI, if_pos h, Option.bind_some] at hb
    obtain ⟨g1, g2, g3, g4, g5⟩ := h
    obtain ⟨q0, e0, -⟩ := wl_at G (cel G σ) hv0
    obtain ⟨q1, e1, f1⟩ := wl_at G (cel G σ) hv1
    rw [cel_i G σ i0 hk0] at e0
    rw [cel_i G σ i1 hk1] at e1
    have h3 := f1 _ (cel G (setR σ k1 i1 (va_cpy (σ.1 k0 i0) (σ.1 k1 i1) sp.toNatClampNeg dp.toNatClampNeg m.toNatClampNeg))) rfl (cel_setR G σ _ hk1)
    rw [cel_i G _ i1 hk1, show (setR σ k1 i1 (va_cpy (σ.1 k0 i0) (σ.1 k1 i1) sp.toNatClampNeg dp.toNatClampNeg m.toNatClampNeg)).1 k1 i1 = va_cpy (σ.1 k0 i0) (σ.1 k1 i1) sp.toNatClampNeg dp.toNatClampNeg m.toNatClampNeg by simp [setR, up3]] at h3
    obtain ⟨h1, h2, h3', h4, h5, h6, h7, h8, h9, h10, h11⟩ := id hX
    have hfw : nativeFrameWords "java/lang/System" "arraycopy" 5 ≤ 20 := by decide +kernel
    have hfr : 1 ≤ X.2.2.2.1.frames := by omega
    have hlo : (([] : List Value).map fun v => v.category).sum + (nativeFrameWords "java/lang/System" "arraycopy" 5 + 11) ≤ X.2.2.2.1.locals := by
      simp only [List.map_nil, List.sum_nil]; omega
    refine va_copyi (ty := .int) h1 h2 (h3'.trans hl.1.symm) h4 (h5 _ hw) (h5 _ hnat) (h5 _ hstat) (h5 _ hini) h6.1 hP (h7 _) hS q0 q1 0 0 e0 e1 rfl rfl rfl (Int32.not_lt.mpr g1) (Int32.not_lt.mpr g2) (Int32.not_lt.mpr g3) g4 g5 (fun _ _ => rfl) (rest := []) hfr hlo hd (fun H1 locs1 hP1 _ hS1 => ?_)
    rw [h3] at hP1
    exact kk _ b hb H1 locs1 ls hl hP1 hS1
  · simp only [bd_, cpI, if_neg h] at hb; cases hb
theorem s_dup2 {v u : Value} (hX : Ok G X cc nL own d) (hd : decode cc pc = .ok (.dup2, 1)) (hn : pc + 1 = n) (hv : v.category = 1) (hu : u.category = 1) (k : Sim G X nL Q σ n lv (v :: u :: v :: u :: st) P) : Sim G X nL Q σ pc lv (v :: u :: st) P := by
  subst hn; exact fun b hb H locs ls hl hP hS => lv_dup2_11 hX.1 hX.2.1 hd hv hu (k b hb H locs ls hl hP hS)
theorem s_lsw {dflt o0 o1 : Int} {len t0 t1 td : Nat} {x : Int32} {P0 Pd : Option β} (hX : Ok G X cc nL own d) (hd : decode cc pc = .ok (.lookupswitch dflt #[(0, o0), (1, o1)], len)) (h0 : (pc : Int) + o0 = (t0 : Int)) (h1 : (pc : Int) + o1 = (t1 : Int)) (h2 : (pc : Int) + dflt = (td : Int)) (k0 : Sim G X nL Q σ t0 lv st P0) (k1 : Sim G X nL Q σ t1 lv st P1) (kd : Sim G X nL Q σ td lv st Pd) : Sim G X nL Q σ pc lv (.int x :: st) (sw_ x 0 [P0, P1] Pd) := by
  intro b hb H locs ls hl hP hS
  by_cases e0 : x = nI 0
  · subst e0
    simp only [sw_, if_pos] at hb
    exact lv_lookup hX.1 hX.2.1 hd (by simp) rfl h0 (k0 b hb H locs ls hl hP hS)
  · by_cases e1 : x = nI 1
    · subst e1
      simp only [sw_, if_neg e0, if_pos] at hb
      exact lv_lookup hX.1 hX.2.1 hd (by simp) rfl h1 (k1 b hb H locs ls hl hP hS)
    · simp only [sw_, if_neg e0, if_neg e1] at hb
      refine lv_lookup (off := dflt) hX.1 hX.2.1 hd (by simp) ?_ h2 (kd b hb H locs ls hl hP hS)
      have q0 : ¬ x.toInt = 0 := fun q => e0 (Int32.toInt_inj.mp (by rw [q]; rfl))
      have q1 : ¬ x.toInt = 1 := fun q => e1 (Int32.toInt_inj.mp (by rw [q]; rfl))
      simp [Op.lookupswitch.offset, Ne.symm q0, Ne.symm q1, q0, q1]
theorem s_mmax {index : Nat} {x y : Int32} {rest : List Value} (hX : Ok G X cc nL own d) (hd : decode cc pc = .ok (.invokestatic index, 3)) (hn : pc + 3 = n) (hdd : 1 ≤ d) (hw : Cond.methodLink own index Lib.Math.max.name ∈ TB) (hstat : Cond.static Lib.Math.max.name ∈ TB) (hini : Cond.initialized "java/lang/Math" ∈ TB) (hcode : Cond.code Lib.Math.max.name Lib.Math.max.code 2 (some .int) ∈ TB) (hroom : (rest.map fun v => v.category).sum ≤ 8) (k : Sim G X nL Q σ n lv (.int (if x < y then y else x) :: rest) P) : Sim G X nL Q σ pc lv (.int y :: .int x :: rest) P := by
  subst hn; intro b hb H locs ls hl hP hS
  obtain ⟨h1, h2, h3, h4, h5, h6, h7, h8, h9, h10, h11⟩ := id hX
  have hfr : 1 ≤ X.2.2.2.1.frames := by omega
  have hlo : (rest.map fun v => v.category).sum + 13 ≤ X.2.2.2.1.locals := by omega
  exact va_mmax h1 h2 (h3.trans hl.1.symm) h4 (h5 _ hw) (h5 _ hstat) (h5 _ hini) (h5 _ hcode) hfr hlo h10 h11 hd (k b hb H locs ls hl hP hS)
theorem s_mmin {index : Nat} {x y : Int32} {rest : List Value} (hX : Ok G X cc nL own d) (hd : decode cc pc = .ok (.invokestatic index, 3)) (hn : pc + 3 = n) (hdd : 1 ≤ d) (hw : Cond.methodLink own index Lib.Math.min.name ∈ TB) (hstat : Cond.static Lib.Math.min.name ∈ TB) (hini : Cond.initialized "java/lang/Math" ∈ TB) (hcode : Cond.code Lib.Math.min.name Lib.Math.min.code 2 (some .int) ∈ TB) (hroom : (rest.map fun v => v.category).sum ≤ 8) (k : Sim G X nL Q σ n lv (.int (if y < x then y else x) :: rest) P) : Sim G X nL Q σ pc lv (.int y :: .int x :: rest) P := by
  subst hn; intro b hb H locs ls hl hP hS
  obtain ⟨h1, h2, h3, h4, h5, h6, h7, h8, h9, h10, h11⟩ := id hX
  have hfr : 1 ≤ X.2.2.2.1.frames := by omega
  have hlo : (rest.map fun v => v.category).sum + 13 ≤ X.2.2.2.1.locals := by omega
  exact va_mmin h1 h2 (h3.trans hl.1.symm) h4 (h5 _ hw) (h5 _ hstat) (h5 _ hini) (h5 _ hcode) hfr hlo h10 h11 hd (k b hb H locs ls hl hP hS)
abbrev oI (σ : ST) : Int32 → Option Value × ST := fun v => (some (.int v), σ)
abbrev oP : Int32 × ST → Option Value × ST := fun q => (some (.int q.1), q.2)
abbrev oV : ST → Option Value × ST := fun s => (none, s)
abbrev oJ (σ : ST) : Int64 → Option Value × ST := fun v => (some (.long v), σ)
abbrev oK : Int64 × ST → Option Value × ST := fun q => (some (.long q.1), q.2)
theorem s_callVI {c i index : Nat} {C : String} {T : u_T} {N : Nat} {ty : Nat → FieldType} {y : MethodName} {bytes : ByteArray} {maxL na d' : Nat} {ret : Option FieldType} {As rest : List Value} {Pc : Option Int32} {K : Int32 → Option β} (hX : Ok G X cc nL own d) (hc : ClsOk c C T N ty) (hv : vld (121 + c) i) (L : LkV own index C y bytes maxL ret na) (hd : decode cc pc = .ok (.invokevirtual index, 3)) (hn : pc + 3 = n) (hdd : d' + 1 ≤ d) (hC : Ctr G X.2.1 y bytes maxL ret d' (.ref (ga G (121 + c) i) :: As) σ (oI σ) Pc) (hst : st = As.reverse ++ .ref (ga G (121 + c) i) :: rest) (hna : As.length = na) (hroom : (rest.map fun v => v.category).sum ≤ 8) (k : ∀ v, Sim G X nL Q σ n lv (.int v :: rest) (K v)) : Sim G X nL Q σ pc lv st (bd_ Pc K) := s_callV hX hc hv L hd hn hdd hC hst hna hroom k
theorem s_callSI {index : Nat} {y : MethodName} {bytes : ByteArray} {maxL na d' : Nat} {ret : Option FieldType} {As rest : List Value} {Pc : Option Int32} {K : Int32 → Option β} (hX : Ok G X cc nL own d) (L : LkS own index y bytes maxL ret na) (hd : decode cc pc = .ok (.invokestatic index, 3)) (hn : pc + 3 = n) (hdd : d' + 1 ≤ d) (hC : Ctr G X.2.1 y bytes maxL ret d' As σ (oI σ) Pc) (hst : st = As.reverse ++ rest) (hna : As.length = na) (hroom : (rest.map fun v => v.category).sum ≤ 8) (k : ∀ v, Sim G X nL Q σ n lv (.int v :: rest) (K v)) : Sim G X nL Q σ pc lv st (bd_ Pc K) := s_callS hX L hd hn hdd hC hst hna hroom k
theorem s_callVP {c i index : Nat} {C : String} {T : u_T} {N : Nat} {ty : Nat → FieldType} {y : MethodName} {bytes : ByteArray} {maxL na d' : Nat} {ret : Option FieldType} {As rest : List Value} {Pc : Option (Int32 × ST)} {K : (Int32 × ST) → Option β} (hX : Ok G X cc nL own d) (hc : ClsOk c C T N ty) (hv : vld (121 + c) i) (L : LkV own index C y bytes maxL ret na) (hd : decode cc pc = .ok (.invokevirtual index, 3)) (hn : pc + 3 = n) (hdd : d' + 1 ≤ d) (hC : Ctr G X.2.1 y bytes maxL ret d' (.ref (ga G (121 + c) i) :: As) σ (oP) Pc) (hst : st = As.reverse ++ .ref (ga G (121 + c) i) :: rest) (hna : As.length = na) (hroom : (rest.map fun v => v.category).sum ≤ 8) (k : ∀ q, Sim G X nL Q q.2 n lv (.int q.1 :: rest) (K q)) : Sim G X nL Q σ pc lv st (bd_ Pc K) := s_callV hX hc hv L hd hn hdd hC hst hna hroom k
theorem s_callSP {index : Nat} {y : MethodName} {bytes : ByteArray} {maxL na d' : Nat} {ret : Option FieldType} {As rest : List Value} {Pc : Option (Int32 × ST)} {K : (Int32 × ST) → Option β} (hX : Ok G X cc nL own d) (L : LkS own index y bytes maxL ret na) (hd : decode cc pc = .ok (.invokestatic index, 3)) (hn : pc + 3 = n) (hdd : d' + 1 ≤ d) (hC : Ctr G X.2.1 y bytes maxL ret d' As σ (oP) Pc) (hst : st = As.reverse ++ rest) (hna : As.length = na) (hroom : (rest.map fun v => v.category).sum ≤ 8) (k : ∀ q, Sim G X nL Q q.2 n lv (.int q.1 :: rest) (K q)) : Sim G X nL Q σ pc lv st (bd_ Pc K) := s_callS hX L hd hn hdd hC hst hna hroom k
theorem s_callVV {c i index : Nat} {C : String} {T : u_T} {N : Nat} {ty : Nat → FieldType} {y : MethodName} {bytes : ByteArray} {maxL na d' : Nat} {ret : Option FieldType} {As rest : List Value} {Pc : Option ST} {K : ST → Option β} (hX : Ok G X cc nL own d) (hc : ClsOk c C T N ty) (hv : vld (121 + c) i) (L : LkV own index C y bytes maxL ret na) (hd : decode cc pc = .ok (.invokevirtual index, 3)) (hn : pc + 3 = n) (hdd : d' + 1 ≤ d) (hC : Ctr G X.2.1 y bytes maxL ret d' (.ref (ga G (121 + c) i) :: As) σ (oV) Pc) (hst : st = As.reverse ++ .ref (ga G (121 + c) i) :: rest) (hna : As.length = na) (hroom : (rest.map fun v => v.category).sum ≤ 8) (k : ∀ q, Sim G X nL Q q n lv rest (K q)) : Sim G X nL Q σ pc lv st (bd_ Pc K) := s_callV hX hc hv L hd hn hdd hC hst hna hroom k
theorem s_callSV {index : Nat} {y : MethodName} {bytes : ByteArray} {maxL na d' : Nat} {ret : Option FieldType} {As rest : List Value} {Pc : Option ST} {K : ST → Option β} (hX : Ok G X cc nL own d) (L : LkS own index y bytes maxL ret na) (hd : decode cc pc = .ok (.invokestatic index, 3)) (hn : pc + 3 = n) (hdd : d' + 1 ≤ d) (hC : Ctr G X.2.1 y bytes maxL ret d' As σ (oV) Pc) (hst : st = As.reverse ++ rest) (hna : As.length = na) (hroom : (rest.map fun v => v.category).sum ≤ 8) (k : ∀ q, Sim G X nL Q q n lv rest (K q)) : Sim G X nL Q σ pc lv st (bd_ Pc K) := s_callS hX L hd hn hdd hC hst hna hroom k
theorem s_callVJ {c i index : Nat} {C : String} {T : u_T} {N : Nat} {ty : Nat → FieldType} {y : MethodName} {bytes : ByteArray} {maxL na d' : Nat} {ret : Option FieldType} {As rest : List Value} {Pc : Option Int64} {K : Int64 → Option β} (hX : Ok G X cc nL own d) (hc : ClsOk c C T N ty) (hv : vld (121 + c) i) (L : LkV own index C y bytes maxL ret na) (hd : decode cc pc = .ok (.invokevirtual index, 3)) (hn : pc + 3 = n) (hdd : d' + 1 ≤ d) (hC : Ctr G X.2.1 y bytes maxL ret d' (.ref (ga G (121 + c) i) :: As) σ (oJ σ) Pc) (hst : st = As.reverse ++ .ref (ga G (121 + c) i) :: rest) (hna : As.length = na) (hroom : (rest.map fun v => v.category).sum ≤ 8) (k : ∀ v, Sim G X nL Q σ n lv (.long v :: rest) (K v)) : Sim G X nL Q σ pc lv st (bd_ Pc K) := s_callV hX hc hv L hd hn hdd hC hst hna hroom k
theorem s_callSJ {index : Nat} {y : MethodName} {bytes : ByteArray} {maxL na d' : Nat} {ret : Option FieldType} {As rest : List Value} {Pc : Option Int64} {K : Int64 → Option β} (hX : Ok G X cc nL own d) (L : LkS own index y bytes maxL ret na) (hd : decode cc pc = .ok (.invokestatic index, 3)) (hn : pc + 3 = n) (hdd : d' + 1 ≤ d) (hC : Ctr G X.2.1 y bytes maxL ret d' As σ (oJ σ) Pc) (hst : st = As.reverse ++ rest) (hna : As.length = na) (hroom : (rest.map fun v => v.category).sum ≤ 8) (k : ∀ v, Sim G X nL Q σ n lv (.long v :: rest) (K v)) : Sim G X nL Q σ pc lv st (bd_ Pc K) := s_callS hX L hd hn hdd hC hst hna hroom k
theorem s_callVK {c i index : Nat} {C : String} {T : u_T} {N : Nat} {ty : Nat → FieldType} {y : MethodName} {bytes : ByteArray} {maxL na d' : Nat} {ret : Option FieldType} {As rest : List Value} {Pc : Option (Int64 × ST)} {K : (Int64 × ST) → Option β} (hX : Ok G X cc nL own d) (hc : ClsOk c C T N ty) (hv : vld (121 + c) i) (L : LkV own index C y bytes maxL ret na) (hd : decode cc pc = .ok (.invokevirtual index, 3)) (hn : pc + 3 = n) (hdd : d' + 1 ≤ d) (hC : Ctr G X.2.1 y bytes maxL ret d' (.ref (ga G (121 + c) i) :: As) σ (oK) Pc) (hst : st = As.reverse ++ .ref (ga G (121 + c) i) :: rest) (hna : As.length = na) (hroom : (rest.map fun v => v.category).sum ≤ 8) (k : ∀ q, Sim G X nL Q q.2 n lv (.long q.1 :: rest) (K q)) : Sim G X nL Q σ pc lv st (bd_ Pc K) := s_callV hX hc hv L hd hn hdd hC hst hna hroom k
theorem s_callSK {index : Nat} {y : MethodName} {bytes : ByteArray} {maxL na d' : Nat} {ret : Option FieldType} {As rest : List Value} {Pc : Option (Int64 × ST)} {K : (Int64 × ST) → Option β} (hX : Ok G X cc nL own d) (L : LkS own index y bytes maxL ret na) (hd : decode cc pc = .ok (.invokestatic index, 3)) (hn : pc + 3 = n) (hdd : d' + 1 ≤ d) (hC : Ctr G X.2.1 y bytes maxL ret d' As σ (oK) Pc) (hst : st = As.reverse ++ rest) (hna : As.length = na) (hroom : (rest.map fun v => v.category).sum ≤ 8) (k : ∀ q, Sim G X nL Q q.2 n lv (.long q.1 :: rest) (K q)) : Sim G X nL Q σ pc lv st (bd_ Pc K) := s_callS hX L hd hn hdd hC hst hna hroom k
theorem s_callNI {As rest : List Value} {Pc : Option Int32} {K : Int32 → Option β} {d' : Nat} (hX : Ok G X cc nL RX0 d) (hcode : Cond.code yX9_slotOf cX9_slotOf 3 (some .int) ∈ TB) (hstat : Cond.static yX9_slotOf ∈ TB) (hini : Cond.initialized RX9 ∈ TB) (hd : decode cc pc = .ok (.invokestatic 86, 3)) (hn : pc + 3 = n) (hdd : d' + 1 ≤ d) (hC : Ctr G X.2.1 yX9_slotOf cX9_slotOf 3 (some .int) d' As σ (oI σ) Pc) (hst : st = As.reverse ++ rest) (hna : As.length = 3) (hroom : (rest.map fun v => v.category).sum ≤ 8) (k : ∀ v, Sim G X nL Q σ n lv (.int v :: rest) (K v)) : Sim G X nL Q σ pc lv st (bd_ Pc K) := s_callN hX hcode hstat hini hd hn hdd hC hst hna hroom k
end MemRows
def dchk (cc : ByteArray) (T : List (Nat × Instr × Nat)) : Bool := T.all (fun q => decide (decode cc q.1 = .ok (q.2.1, q.2.2)))
theorem dec_of {cc : ByteArray} {T : List (Nat × Instr × Nat)} (h : dchk cc T = true) {i pc len : Nat} {ins : Instr} (hi : T[i]? = some (pc, ins, len)) : decode cc pc = .ok (ins, len) := by
  have h1 := List.all_eq_true.mp h _ (List.mem_of_getElem? hi)
  exact of_decide_eq_true h1
theorem vk0 {i : Nat} (h : i < 13) : vld 0 i := vld_of (n := 13) (by decide) h
theorem vk1 {i : Nat} (h : i < 13) : vld 1 i := vld_of (n := 13) (by decide) h
theorem vk2 {i : Nat} (h : i < 13) : vld 2 i := vld_of (n := 13) (by decide) h
theorem vk3 {i : Nat} (h : i < 13) : vld 3 i := vld_of (n := 13) (by decide) h
theorem vk4 {i : Nat} (h : i < 13) : vld 4 i := vld_of (n := 13) (by decide) h
theorem vk5 {i : Nat} (h : i < 13) : vld 5 i := vld_of (n := 13) (by decide) h
theorem vk6 {i : Nat} (h : i < 13) : vld 6 i := vld_of (n := 13) (by decide) h
theorem vk7 {i : Nat} (h : i < 13) : vld 7 i := vld_of (n := 13) (by decide) h
theorem vk8 {i : Nat} (h : i < 1) : vld 8 i := vld_of (n := 1) (by decide) h
theorem vk9 {i : Nat} (h : i < 2) : vld 9 i := vld_of (n := 2) (by decide) h
theorem vk10 {i : Nat} (h : i < 2) : vld 10 i := vld_of (n := 2) (by decide) h
theorem vk11 {i : Nat} (h : i < 2) : vld 11 i := vld_of (n := 2) (by decide) h
theorem vk12 {i : Nat} (h : i < 2) : vld 12 i := vld_of (n := 2) (by decide) h
theorem vk13 {i : Nat} (h : i < 2) : vld 13 i := vld_of (n := 2) (by decide) h
theorem vk14 {i : Nat} (h : i < 2) : vld 14 i := vld_of (n := 2) (by decide) h
theorem vk15 {i : Nat} (h : i < 2) : vld 15 i := vld_of (n := 2) (by decide) h
theorem vk16 {i : Nat} (h : i < 2) : vld 16 i := vld_of (n := 2) (by decide) h
theorem vk17 {i : Nat} (h : i < 2) : vld 17 i := vld_of (n := 2) (by decide) h
theorem vk18 {i : Nat} (h : i < 2) : vld 18 i := vld_of (n := 2) (by decide) h
theorem vk19 {i : Nat} (h : i < 2) : vld 19 i := vld_of (n := 2) (by decide) h
theorem vk20 {i : Nat} (h : i < 2) : vld 20 i := vld_of (n := 2) (by decide) h
theorem vk21 {i : Nat} (h : i < 1) : vld 21 i := vld_of (n := 1) (by decide) h
theorem vk22 {i : Nat} (h : i < 1) : vld 22 i := vld_of (n := 1) (by decide) h
theorem vk23 {i : Nat} (h : i < 1) : vld 23 i := vld_of (n := 1) (by decide) h
theorem vk24 {i : Nat} (h : i < 14) : vld 24 i := vld_of (n := 14) (by decide) h
theorem vk25 {i : Nat} (h : i < 14) : vld 25 i := vld_of (n := 14) (by decide) h
theorem vk26 {i : Nat} (h : i < 14) : vld 26 i := vld_of (n := 14) (by decide) h
theorem vk27 {i : Nat} (h : i < 14) : vld 27 i := vld_of (n := 14) (by decide) h
theorem vk28 {i : Nat} (h : i < 1) : vld 28 i := vld_of (n := 1) (by decide) h
theorem vk29 {i : Nat} (h : i < 1) : vld 29 i := vld_of (n := 1) (by decide) h
theorem vk30 {i : Nat} (h : i < 1) : vld 30 i := vld_of (n := 1) (by decide) h
theorem vk31 {i : Nat} (h : i < 1) : vld 31 i := vld_of (n := 1) (by decide) h
theorem vk32 {i : Nat} (h : i < 1) : vld 32 i := vld_of (n := 1) (by decide) h
theorem vk33 {i : Nat} (h : i < 1) : vld 33 i := vld_of (n := 1) (by decide) h
theorem vk34 {i : Nat} (h : i < 1) : vld 34 i := vld_of (n := 1) (by decide) h
theorem vk35 {i : Nat} (h : i < 1) : vld 35 i := vld_of (n := 1) (by decide) h
theorem vk36 {i : Nat} (h : i < 1) : vld 36 i := vld_of (n := 1) (by decide) h
theorem vk37 {i : Nat} (h : i < 1) : vld 37 i := vld_of (n := 1) (by decide) h
theorem vk38 {i : Nat} (h : i < 1) : vld 38 i := vld_of (n := 1) (by decide) h
theorem vk39 {i : Nat} (h : i < 1) : vld 39 i := vld_of (n := 1) (by decide) h
theorem vk40 {i : Nat} (h : i < 1) : vld 40 i := vld_of (n := 1) (by decide) h
theorem vk41 {i : Nat} (h : i < 1) : vld 41 i := vld_of (n := 1) (by decide) h
theorem vk42 {i : Nat} (h : i < 1) : vld 42 i := vld_of (n := 1) (by decide) h
theorem vk43 {i : Nat} (h : i < 1) : vld 43 i := vld_of (n := 1) (by decide) h
theorem vk44 {i : Nat} (h : i < 1) : vld 44 i := vld_of (n := 1) (by decide) h
theorem vk45 {i : Nat} (h : i < 1) : vld 45 i := vld_of (n := 1) (by decide) h
theorem vk46 {i : Nat} (h : i < 1) : vld 46 i := vld_of (n := 1) (by decide) h
theorem vk47 {i : Nat} (h : i < 1) : vld 47 i := vld_of (n := 1) (by decide) h
theorem vk48 {i : Nat} (h : i < 1) : vld 48 i := vld_of (n := 1) (by decide) h
theorem vk100 {i : Nat} (h : i < 1) : vld 100 i := vld_of (n := 1) (by decide) h
theorem vk101 {i : Nat} (h : i < 1) : vld 101 i := vld_of (n := 1) (by decide) h
theorem vk102 {i : Nat} (h : i < 1) : vld 102 i := vld_of (n := 1) (by decide) h
theorem vk103 {i : Nat} (h : i < 1) : vld 103 i := vld_of (n := 1) (by decide) h
theorem vk104 {i : Nat} (h : i < 1) : vld 104 i := vld_of (n := 1) (by decide) h
theorem vk105 {i : Nat} (h : i < 1) : vld 105 i := vld_of (n := 1) (by decide) h
theorem vk120 {i : Nat} (h : i < 1) : vld 120 i := vld_of (n := 1) (by decide) h
theorem vk121 {i : Nat} (h : i < 13) : vld 121 i := vld_of (n := 13) (by decide) h
theorem vk122 {i : Nat} (h : i < 1) : vld 122 i := vld_of (n := 1) (by decide) h
theorem vk123 {i : Nat} (h : i < 1) : vld 123 i := vld_of (n := 1) (by decide) h
theorem vk124 {i : Nat} (h : i < 2) : vld 124 i := vld_of (n := 2) (by decide) h
theorem vk125 {i : Nat} (h : i < 1) : vld 125 i := vld_of (n := 1) (by decide) h
theorem vk126 {i : Nat} (h : i < 2) : vld 126 i := vld_of (n := 2) (by decide) h
theorem vk127 {i : Nat} (h : i < 1) : vld 127 i := vld_of (n := 1) (by decide) h
theorem vk128 {i : Nat} (h : i < 1) : vld 128 i := vld_of (n := 1) (by decide) h
theorem vk129 {i : Nat} (h : i < 14) : vld 129 i := vld_of (n := 14) (by decide) h
theorem vk130 {i : Nat} (h : i < 1) : vld 130 i := vld_of (n := 1) (by decide) h
theorem vk131 {i : Nat} (h : i < 1) : vld 131 i := vld_of (n := 1) (by decide) h
theorem cls0 : ClsOk 0 RX0 TX0 10 tyX0 := ⟨rfl, inTX0, tyX0_ok, nmX0, rfl, by decide⟩
theorem cls1 : ClsOk 1 RX1 TX1 2 tyX1 := ⟨rfl, inTX1, tyX1_ok, nmX1, rfl, by decide⟩
theorem cls2 : ClsOk 2 RX2 TX2 3 tyX2 := ⟨rfl, inTX2, tyX2_ok, nmX2, rfl, by decide⟩
theorem cls3 : ClsOk 3 RX3 TX3 7 tyX3 := ⟨rfl, inTX3, tyX3_ok, nmX3, rfl, by decide⟩
theorem cls4 : ClsOk 4 RX4 TX4 9 tyX4 := ⟨rfl, inTX4, tyX4_ok, nmX4, rfl, by decide⟩
theorem cls5 : ClsOk 5 RX5 TX5 14 tyX5 := ⟨rfl, inTX5, tyX5_ok, nmX5, rfl, by decide⟩
theorem cls6 : ClsOk 6 RX6 TX6 1 tyX6 := ⟨rfl, inTX6, tyX6_ok, nmX6, rfl, by decide⟩
theorem cls7 : ClsOk 7 RX7 TX7 7 tyX7 := ⟨rfl, inTX7, tyX7_ok, nmX7, rfl, by decide⟩
theorem cls8 : ClsOk 8 RX8 TX8 4 tyX8 := ⟨rfl, inTX8, tyX8_ok, nmX8, rfl, by decide⟩
theorem cls9 : ClsOk 9 RX9 TX9 9 tyX9 := ⟨rfl, inTX9, tyX9_ok, nmX9, rfl, by decide⟩
theorem cls10 : ClsOk 10 RX10 TX10 50 tyX10 := ⟨rfl, inTX10, tyX10_ok, nmX10, rfl, by decide⟩

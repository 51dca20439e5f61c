/-! my rows: the world. Kinds: int rows 0.., long rows 100.., the row of books 120, objects 121 + the number of their class; int fields 200 + 64 * class + place -/
def lensI : List Nat := [6, 6, 8, 8, 96, 96, 240, 2160, 16, 13, 13, 13, 3, 6, 6, 6, 16, 8, 8, 64, 64, 900, 901, 901, 6, 6, 16, 40, 900, 6, 64, 64, 8, 8, 2689, 32268, 6, 16, 8, 6, 6, 6, 16, 64, 64, 8, 8, 13, 16]
def lensL : List Nat := [16, 6, 16, 8, 901, 1]
def fldsT : List (List (Nat × Nat)) := [[(0, 129), (0, 0), (0, 1), (0, 2), (0, 3), (0, 4), (0, 5), (0, 6), (0, 7), (1, 209)], [(0, 8), (0, 100)], [(0, 120), (1, 329), (1, 330)], [(0, 9), (0, 10), (0, 11), (0, 12), (1, 396), (1, 397), (1, 398)], [(0, 128), (0, 101), (0, 102), (0, 103), (1, 460), (1, 461), (1, 462), (1, 463), (1, 464)], [(0, 13), (0, 14), (0, 15), (0, 16), (0, 17), (0, 18), (0, 19), (0, 20), (1, 528), (1, 529), (1, 530), (1, 531), (1, 532), (1, 533)], [(3, 7937)], [(0, 21), (0, 22), (0, 23), (0, 104), (1, 652), (1, 653), (1, 654)], [(0, 24), (0, 25), (0, 26), (0, 27)], [(3, 8000), (3, 7744), (3, 7872), (3, 8269), (3, 7936), (3, 8128), (3, 7808), (2, 0), (2, 1)], [(1, 840), (0, 28), (1, 842), (0, 29), (0, 30), (0, 31), (0, 32), (0, 33), (1, 848), (1, 849), (1, 850), (1, 851), (1, 852), (1, 853), (0, 34), (0, 35), (1, 856), (1, 857), (1, 858), (1, 859), (1, 860), (1, 861), (1, 862), (1, 863), (1, 864), (1, 865), (1, 866), (1, 867), (1, 868), (1, 869), (1, 870), (1, 871), (1, 872), (1, 873), (1, 874), (0, 36), (0, 37), (0, 38), (0, 39), (0, 40), (0, 41), (0, 42), (0, 43), (0, 44), (0, 45), (0, 46), (0, 47), (0, 48), (1, 888), (1, 889)]]
def kcnt : List (Nat × Nat) := [(0, 13), (1, 13), (2, 13), (3, 13), (4, 13), (5, 13), (6, 13), (7, 13), (8, 1), (9, 2), (10, 2), (11, 2), (12, 2), (13, 2), (14, 2), (15, 2), (16, 2), (17, 2), (18, 2), (19, 2), (20, 2), (21, 1), (22, 1), (23, 1), (24, 14), (25, 14), (26, 14), (27, 14), (28, 1), (29, 1), (30, 1), (31, 1), (32, 1), (33, 1), (34, 1), (35, 1), (36, 1), (37, 1), (38, 1), (39, 1), (40, 1), (41, 1), (42, 1), (43, 1), (44, 1), (45, 1), (46, 1), (47, 1), (48, 1), (100, 1), (101, 1), (102, 1), (103, 1), (104, 1), (105, 1), (120, 1), (121, 13), (122, 1), (123, 1), (124, 2), (125, 1), (126, 2), (127, 1), (128, 1), (129, 14), (130, 1), (131, 1)]
abbrev SI : Type := Nat → Nat → Nat → Int32
abbrev SL : Type := Nat → Nat → Nat → Int64
/-- a state: int rows and fields, long rows, which roll is which -/
abbrev ST : Type := SI × SL × (Nat → Nat)
/-- the fixed things of a world: class ids and slots, the array classes' ids, the addresses, where the world begins -/
abbrev GW : Type := va_G × (ClassId × ClassId × ClassId) × (Nat → Nat → Nat) × Nat
abbrev gD (G : GW) : va_G := G.1
abbrev gI (G : GW) : ClassId := G.2.1.1
abbrev gJ (G : GW) : ClassId := G.2.1.2.1
abbrev gB (G : GW) : ClassId := G.2.1.2.2
abbrev ga (G : GW) : Nat → Nat → Nat := G.2.2.1
abbrev gz (G : GW) : Nat := G.2.2.2
def lenI (k : Nat) : Nat := lensI.getD k 0
def lenL (k : Nat) : Nat := lensL.getD (k - 100) 0
def fldsOf (c : Nat) : List (Nat × Nat) := fldsT.getD c []
def fv (G : GW) (σ : ST) (i : Nat) (d : Nat × Nat) : Value := if d.1 = 0 then .ref (ga G d.2 i) else if d.1 = 1 then .int (σ.1 d.2 i 0) else if d.1 = 2 then .ref (ga G 126 (σ.2.2 d.2)) else .ref (ga G (d.2 / 64) (d.2 % 64))
def cel (G : GW) (σ : ST) (k i : Nat) : va_E := if k < 100 then .inl (gI G, lenI k, .inl (σ.1 k i)) else if k < 120 then .inl (gJ G, lenL k, .inr (.inl (σ.2.1 k i))) else if k = 120 then .inl (gB G, 12, .inr (.inr (.inr (.inr (fun j => some (ga G 121 (j + 1))))))) else .inr (k - 121, (fldsOf (k - 121)).map (fv G σ i))
def CL : List (Nat × Nat) := kcnt.flatMap (fun q => (List.range q.2).map (fun i => (q.1, i)))
def vld (k i : Nat) : Prop := (k, i) ∈ CL
theorem vld_of {k n i : Nat} (h : (k, n) ∈ kcnt) (hi : i < n) : vld k i := List.mem_flatMap.mpr ⟨(k, n), h, List.mem_map.mpr ⟨i, List.mem_range.mpr hi, rfl⟩⟩
theorem CL_nodup : CL.Nodup := by decide +kernel
def wl (G : GW) (c : Nat → Nat → va_E) : va_W := CL.map (fun q => (ga G q.1 q.2, c q.1 q.2))
theorem wl_at (G : GW) (c : Nat → Nat → va_E) {k i : Nat} (h : vld k i) : ∃ q0 : Nat, (wl G c)[q0]? = some (ga G k i, c k i) ∧ ∀ (e : va_E) (c' : Nat → Nat → va_E), c' k i = e → (∀ k' i', ¬ (k' = k ∧ i' = i) → c' k' i' = c k' i') → (wl G c).set q0 (ga G k i, e) = wl G c' := by
  obtain ⟨q0, hq⟩ := List.getElem?_of_mem h
  refine ⟨q0, by simp [wl, hq], fun e c' he hc => ?_⟩
  apply List.ext_getElem?
  intro j
  by_cases hj : q0 = j
  · subst hj
    have hlt : q0 < CL.length := (List.getElem?_eq_some_iff.mp hq).1
    rw [List.getElem?_set_self (by simpa [wl] using hlt)]
    simp [wl, hq, he]
  · rw [List.getElem?_set_ne hj]
    simp only [wl, List.getElem?_map]
    cases hz : CL[j]? with
    | none => rfl
    | some z =>
      have hne : ¬ (z.1 = k ∧ z.2 = i) := fun hh => by
        have hz' : CL[j]? = some (k, i) := by rw [hz, ← hh.1, ← hh.2]
        have hlt : q0 < CL.length := (List.getElem?_eq_some_iff.mp hq).1
        exact hj ((List.getElem?_inj hlt CL_nodup).mp (hq.trans hz'.symm))
      simp only [Option.map_some]
      rw [hc z.1 z.2 hne]
/-- the cells that the world may change -/
abbrev Fr (G : GW) : Nat → Prop := fun q => gz G ≤ q
abbrev tysG (G : GW) : List (ClassId × FieldType) := [(gI G, .int), (gJ G, .long), (gB G, .object "RightsPool$Books")]
def Pic (G : GW) (σ : ST) (H : Heap) : Prop := va_P (gD G) vwCl (wl G (cel G σ)) H
def Good (G : GW) : Prop := ∀ c : Nat → Nat → va_E, va_D (Fr G) (wl G c)
def wtext : String := "land player session unknown lead keep all like own both leads sides first side "
def wbytes : List Int32 := [108, 97, 110, 100, 32, 112, 108, 97, 121, 101, 114, 32, 115, 101, 115, 115, 105, 111, 110, 32, 117, 110, 107, 110, 111, 119, 110, 32, 108, 101, 97, 100, 32, 107, 101, 101, 112, 32, 97, 108, 108, 32, 108, 105, 107, 101, 32, 111, 119, 110, 32, 98, 111, 116, 104, 32, 108, 101, 97, 100, 115, 32, 115, 105, 100, 101, 115, 32, 102, 105, 114, 115, 116, 32, 115, 105, 100, 101, 32]
/-- constructors of the thrown ones' superclasses, as declared -/
def declsX : List MethodName := [⟨"java/lang/RuntimeException", "<init>", "()V"⟩, ⟨"java/lang/RuntimeException", "<init>", "(Ljava/lang/String;)V"⟩, ⟨"java/lang/Exception", "<init>", "()V"⟩, ⟨"java/lang/Exception", "<init>", "(Ljava/lang/String;)V"⟩, ⟨"java/lang/Throwable", "<init>", "()V"⟩, ⟨"java/lang/Throwable", "<init>", "(Ljava/lang/String;)V"⟩]
def nIOB : String := "java/lang/IndexOutOfBoundsException"
def nNSE : String := "java/util/NoSuchElementException"
/-- the text of words, the messages, what a thrown one needs -/
def Str (G : GW) (U : State) : Prop := vk_S 1 [79] [wbytes] (fun _ => ga G 140 0) (fun _ => ga G 141 0) (Fr G) U U.heap ∧ vk_R RX7 72 wtext (ga G 140 0) U ∧ vk_R RX10 125 wtext (ga G 140 0) U ∧ va_Z "java/lang/String" "COMPACT_STRINGS" "Z" (.int 1) (Fr G) U U.heap ∧ va_Zq "jdk/internal/util/Preconditions" "SIOOBE_FORMATTER" "Ljava/util/function/BiFunction;" (Fr G) U U.heap ∧ vk_R RX9 108 "no such land" (ga G 142 0) U ∧ vk_R RX9 145 "no such what of a land" (ga G 142 1) U ∧ vk_R RX9 151 "no such player" (ga G 142 2) U ∧ vk_R RX9 172 "no such what of a player" (ga G 142 3) U ∧ vk_R RX9 177 "no such session" (ga G 142 4) U ∧ vk_R RX9 205 "no such what of a session" (ga G 142 5) U ∧ vx_Zq Bundle.tN "UNASSIGNED_STACK" Bundle.steD (Fr G) U U.heap ∧ vx_Zq Bundle.tN "SUPPRESSED_SENTINEL" Bundle.listD (Fr G) U U.heap ∧ (∀ x ∈ declsX, va_Nw (.declares x) U) ∧ (va_Nw (.castable nIOB nIOB) U ∧ va_Nw (.castable nNSE nNSE) U) ∧ va_Nc nNSE nIOB U
theorem Str.at {G : GW} {s U : State} {H : Heap} {locs : List Loc} (h : Str G s) (hW : s.WarmedH U.vm) (hU : U.heap = H) (hS : va_S (Fr G) s.heap H locs) : Str G U := by
  subst hU
  obtain ⟨h1, h2, h3, h4, h5, h6, h7, h8, h9, h10, h11, h12, h13, h14, h15, h16⟩ := h
  exact ⟨vk_S.moved hW.alike (h1.kept hS.2.1), h2.warm hW, h3.warm hW, va_Z.moved hW.alike (h4.kept hS.2.1), va_Zq.moved hW.alike (h5.kept hS.2.1), h6.warm hW, h7.warm hW, h8.warm hW, h9.warm hW, h10.warm hW, h11.warm hW, vx_Zq.moved hW.alike (h12.kept hS.2.1), vx_Zq.moved hW.alike (h13.kept hS.2.1), fun x hx => va_Nw.warmD hW (h14 x hx), ⟨va_Nw.warmC hW h15.1, va_Nw.warmC hW h15.2⟩, h16.moved hW.alike⟩
theorem Str.calling {G : GW} {U : State} {g : JFrame} {mk : MethodId} {a : Array Value} (h : Str G U) : Str G (U.calling g mk a) := by
  obtain ⟨h1, h2, h3, h4, h5, h6, h7, h8, h9, h10, h11, h12, h13, h14, h15, h16⟩ := h
  have e : U.vm.Alike (U.calling g mk a).vm := Vm.Alike.refl U.vm
  exact ⟨vk_S.moved e h1, h2.same rfl, h3.same rfl, va_Z.moved e h4, va_Zq.moved e h5, h6.same rfl, h7.same rfl, h8.same rfl, h9.same rfl, h10.same rfl, h11.same rfl, vx_Zq.moved e h12, vx_Zq.moved e h13, fun x hx => va_Nw.same rfl rfl (h14 x hx), ⟨va_Nw.same rfl rfl h15.1, va_Nw.same rfl rfl h15.2⟩, h16.moved e⟩
def KK (G : GW) (U : State) : Prop := va_K (gD G) vwCl (tysG G) U ∧ va_Nw (.methodLinkNest RX0 86 yX9_slotOf RX9) U ∧ Str G U
theorem KK.at {G : GW} {s U : State} {H : Heap} {locs : List Loc} (h : KK G s) (hW : s.WarmedH U.vm) (hU : U.heap = H) (hS : va_S (Fr G) s.heap H locs) : KK G U := ⟨va_K.moved hW.alike h.1, va_Nw.warmM hW h.2.1, h.2.2.at hW hU hS⟩
theorem KK.calling {G : GW} {U : State} {g : JFrame} {mk : MethodId} {a : Array Value} (h : KK G U) : KK G (U.calling g mk a) := ⟨va_K.moved (u := U) (U := U.calling g mk a) (Vm.Alike.refl U.vm) h.1, va_Nw.same rfl rfl h.2.1, h.2.2.calling⟩
/-! states changed -/
def up3 {α : Type} (f : Nat → Nat → α) (k i : Nat) (x : α) : Nat → Nat → α := fun a b => if a = k ∧ b = i then x else f a b
def setR (σ : ST) (k i : Nat) (f : Nat → Int32) : ST := (up3 σ.1 k i f, σ.2)
def setF (σ : ST) (k i : Nat) (v : Int32) : ST := (up3 σ.1 k i (fun _ => v), σ.2)
def setL (σ : ST) (k i : Nat) (f : Nat → Int64) : ST := (σ.1, up3 σ.2.1 k i f, σ.2.2)
def setQ (σ : ST) (j r : Nat) : ST := (σ.1, σ.2.1, fun a => if a = j then r else σ.2.2 a)
abbrev gF (σ : ST) (k i : Nat) : Int32 := σ.1 k i 0
def fldChk (c p : Nat) : Bool := match (fldsOf c)[p]? with
  | some d => (!decide (d.1 = 1) || decide (d.2 = 200 + 64 * c + p)) && (!decide (d.1 = 2) || decide (c = 9 ∧ p = 7 + d.2))
  | none => true
theorem flds_ok : ∀ c, c < 11 → ∀ p, p < 50 → ∀ d, (fldsOf c)[p]? = some d → (d.1 = 1 → d.2 = 200 + 64 * c + p) ∧ (d.1 = 2 → c = 9 ∧ p = 7 + d.2) := by
  intro c hc p hp d hd
  have h : ∀ c, c < 11 → ∀ p, p < 50 → fldChk c p = true := by decide +kernel
  have h1 := h c hc p hp
  unfold fldChk at h1
  rw [hd] at h1
  simp only [Bool.and_eq_true, Bool.or_eq_true, Bool.not_eq_true', decide_eq_true_eq, decide_eq_false_iff_not] at h1
  exact ⟨fun q => h1.1.elim (fun z => absurd q z) id, fun q => h1.2.elim (fun z => absurd q z) id⟩
theorem flds_len : ∀ c, (fldsOf c).length ≤ 50 ∧ (11 ≤ c → fldsOf c = []) := by
  intro c
  by_cases hc : c < 11
  · have h : ∀ c, c < 11 → (fldsOf c).length ≤ 50 := by decide +kernel
    exact ⟨h c hc, fun h2 => absurd hc (Nat.not_lt.mpr h2)⟩
  · have : fldsOf c = [] := by
      unfold fldsOf
      rw [List.getD_eq_getElem?_getD, List.getElem?_eq_none (by show fldsT.length ≤ c; have : fldsT.length = 11 := rfl; omega)]
      rfl
    rw [this]
    exact ⟨Nat.zero_le _, fun _ => rfl⟩
theorem flds_at {c : Nat} {d : Nat × Nat} (h : d ∈ fldsOf c) : ∃ p, (fldsOf c)[p]? = some d ∧ c < 11 ∧ p < 50 := by
  obtain ⟨p, hp⟩ := List.getElem?_of_mem h
  have h1 : p < (fldsOf c).length := (List.getElem?_eq_some_iff.mp hp).1
  have h2 := flds_len c
  refine ⟨p, hp, ?_, by omega⟩
  rcases Nat.lt_or_ge c 11 with q | q
  · exact q
  · rw [h2.2 q] at h
    cases h
theorem cel_setR (G : GW) (σ : ST) {k i : Nat} (f : Nat → Int32) (hk : k < 100) : ∀ k' i', ¬ (k' = k ∧ i' = i) → cel G (setR σ k i f) k' i' = cel G σ k' i' := by
  intro k' i' h
  unfold cel
  by_cases h1 : k' < 100
  · rw [if_pos h1, if_pos h1]
    have : (setR σ k i f).1 k' i' = σ.1 k' i' := by simp [setR, up3, h]
    rw [this]
  · rw [if_neg h1, if_neg h1]
    by_cases h2 : k' < 120
    · rw [if_pos h2, if_pos h2]; rfl
    · rw [if_neg h2, if_neg h2]
      by_cases h3 : k' = 120
      · rw [if_pos h3, if_pos h3]
      · rw [if_neg h3, if_neg h3]
        refine congrArg (fun l => (Sum.inr (k' - 121, l) : va_E)) ?_
        apply List.map_congr_left
        intro d hd
        obtain ⟨p, hp, hc, hp2⟩ := flds_at hd
        have h4 := (flds_ok _ hc p hp2 d hp).1
        unfold fv
        by_cases e0 : d.1 = 0
        · rw [if_pos e0, if_pos e0]
        · rw [if_neg e0, if_neg e0]
          by_cases e1 : d.1 = 1
          · rw [if_pos e1, if_pos e1]
            have : (setR σ k i f).1 d.2 i' = σ.1 d.2 i' := by
              have hne : ¬ (d.2 = k ∧ i' = i) := fun q => by have := h4 e1; omega
              simp [setR, up3, hne]
            rw [this]
          · rw [if_neg e1, if_neg e1]; rfl
theorem cel_setL (G : GW) (σ : ST) {k i : Nat} (f : Nat → Int64) : ∀ k' i', ¬ (k' = k ∧ i' = i) → cel G (setL σ k i f) k' i' = cel G σ k' i' := by
  intro k' i' h
  unfold cel
  have : (setL σ k i f).2.1 k' i' = σ.2.1 k' i' := by simp [setL, up3, h]
  rw [this]
  rfl
theorem map_set_at {α β : Type} (f g : α → β) (l : List α) (p : Nat) (h : ∀ (j : Nat) (d : α), l[j]? = some d → j ≠ p → f d = g d) (x : β) (hx : ∀ d : α, l[p]? = some d → f d = x) : l.map f = (l.map g).set p x := by
  apply List.ext_getElem?
  intro j
  by_cases hj : p = j
  · subst hj
    cases hz : l[p]? with
    | none =>
      have : l.length ≤ p := List.getElem?_eq_none_iff.mp hz
      rw [List.getElem?_eq_none (by simpa using this), List.getElem?_eq_none (by simpa using this)]
    | some z =>
      have hlt : p < l.length := (List.getElem?_eq_some_iff.mp hz).1
      rw [List.getElem?_set_self (by simpa using hlt)]
      simp [hz, hx z hz]
  · rw [List.getElem?_set_ne hj]
    simp only [List.getElem?_map]
    cases hz : l[j]? with
    | none => rfl
    | some z => simp [h j z hz (fun e => hj e.symm)]
theorem cel_setF (G : GW) (σ : ST) {c p i : Nat} (v : Int32) (hc : c < 11) (hp : (fldsOf c)[p]? = some (1, 200 + 64 * c + p)) (hp5 : p < 50) : cel G (setF σ (200 + 64 * c + p) i v) (121 + c) i = .inr (c, ((fldsOf c).map (fv G σ i)).set p (.int v)) ∧ ∀ k' i', ¬ (k' = 121 + c ∧ i' = i) → cel G (setF σ (200 + 64 * c + p) i v) k' i' = cel G σ k' i' := by
  have key : ∀ (c' p' i' : Nat) (d : Nat × Nat), (fldsOf c')[p']? = some d → ¬ (c' = c ∧ p' = p ∧ i' = i) → fv G (setF σ (200 + 64 * c + p) i v) i' d = fv G σ i' d := by
    intro c' p' i' d hd hne
    obtain ⟨p2, hq, hc', hp'⟩ := flds_at (List.mem_of_getElem? hd)
    have hpl : p' < 50 := by
      have h1 : p' < (fldsOf c').length := (List.getElem?_eq_some_iff.mp hd).1
      have h2 := (flds_len c').1
      omega
    have h4 := (flds_ok _ hc' p' hpl d hd).1
    unfold fv
    by_cases e0 : d.1 = 0
    · rw [if_pos e0, if_pos e0]
    · rw [if_neg e0, if_neg e0]
      by_cases e1 : d.1 = 1
      · rw [if_pos e1, if_pos e1]
        have : (setF σ (200 + 64 * c + p) i v).1 d.2 i' = σ.1 d.2 i' := by
          have hne2 : ¬ (d.2 = 200 + 64 * c + p ∧ i' = i) := fun q => by
            have := h4 e1
            exact hne (by omega)
          simp [setF, up3, hne2]
        rw [this]
      · rw [if_neg e1, if_neg e1]; rfl
  constructor
  · unfold cel
    rw [if_neg (by omega), if_neg (by omega), if_neg (by omega)]
    have e : 121 + c - 121 = c := by omega
    rw [e]
    congr 2
    apply map_set_at
    · intro j d hd hj
      exact key c j i d hd (fun q => hj q.2.1)
    · intro d hd
      rw [hp] at hd
      cases hd
      simp [fv, setF, up3]
  · intro k' i' h
    unfold cel
    by_cases h1 : k' < 100
    · rw [if_pos h1, if_pos h1]
      have : (setF σ (200 + 64 * c + p) i v).1 k' i' = σ.1 k' i' := by
        have hne2 : ¬ (k' = 200 + 64 * c + p ∧ i' = i) := fun q => by omega
        simp [setF, up3, hne2]
      rw [this]
    · rw [if_neg h1, if_neg h1]
      by_cases h2 : k' < 120
      · rw [if_pos h2, if_pos h2]; rfl
      · rw [if_neg h2, if_neg h2]
        by_cases h3 : k' = 120
        · rw [if_pos h3, if_pos h3]
        · rw [if_neg h3, if_neg h3]
          refine congrArg (fun l => (Sum.inr (k' - 121, l) : va_E)) ?_
          apply List.map_congr_left
          intro d hd
          obtain ⟨p', hp', -, -⟩ := flds_at hd
          exact key _ p' i' d hp' (fun q => h (by omega))
theorem cel_setQ (G : GW) (σ : ST) (j r : Nat) (hj : j < 2) : cel G (setQ σ j r) 130 0 = .inr (9, ((fldsOf 9).map (fv G σ 0)).set (7 + j) (.ref (ga G 126 r))) ∧ ∀ k' i', ¬ (k' = 130 ∧ i' = 0) → vld k' i' → cel G (setQ σ j r) k' i' = cel G σ k' i' := by
  have key : ∀ (c' p' i' : Nat) (d : Nat × Nat), (fldsOf c')[p']? = some d → ¬ (c' = 9 ∧ p' = 7 + j) → fv G (setQ σ j r) i' d = fv G σ i' d := by
    intro c' p' i' d hd hne
    obtain ⟨p2, hq, hc', hp'⟩ := flds_at (List.mem_of_getElem? hd)
    have hpl : p' < 50 := by
      have h1 : p' < (fldsOf c').length := (List.getElem?_eq_some_iff.mp hd).1
      have h2 := (flds_len c').1
      omega
    have h4 := (flds_ok _ hc' p' hpl d hd).2
    unfold fv
    by_cases e0 : d.1 = 0
    · rw [if_pos e0, if_pos e0]
    · rw [if_neg e0, if_neg e0]
      by_cases e1 : d.1 = 1
      · rw [if_pos e1, if_pos e1]; rfl
      · rw [if_neg e1, if_neg e1]
        by_cases e2 : d.1 = 2
        · rw [if_pos e2, if_pos e2]
          have : (setQ σ j r).2.2 d.2 = σ.2.2 d.2 := by
            have hne2 : ¬ d.2 = j := fun q => by
              have := h4 e2
              exact hne (by omega)
            simp [setQ, hne2]
          rw [this]
        · rw [if_neg e2, if_neg e2]
  constructor
  · show Sum.inr (9, (fldsOf 9).map (fv G (setQ σ j r) 0)) = _
    congr 2
    apply map_set_at
    · intro p d hd hp
      exact key 9 p 0 d hd (fun q => hp q.2)
    · intro d hd
      have : d = (2, j) := by
        rcases (by omega : j = 0 ∨ j = 1) with rfl | rfl
        · have h9 : (fldsOf 9)[7 + 0]? = some (2, 0) := by decide +kernel
          rw [h9] at hd; exact (Option.some.inj hd).symm
        · have h9 : (fldsOf 9)[7 + 1]? = some (2, 1) := by decide +kernel
          rw [h9] at hd; exact (Option.some.inj hd).symm
      subst this
      simp [fv, setQ]
  · intro k' i' h hv
    unfold cel
    by_cases h1 : k' < 100
    · rw [if_pos h1, if_pos h1]; rfl
    · rw [if_neg h1, if_neg h1]
      by_cases h2 : k' < 120
      · rw [if_pos h2, if_pos h2]; rfl
      · rw [if_neg h2, if_neg h2]
        by_cases h3 : k' = 120
        · rw [if_pos h3, if_pos h3]
        · rw [if_neg h3, if_neg h3]
          refine congrArg (fun l => (Sum.inr (k' - 121, l) : va_E)) ?_
          apply List.map_congr_left
          intro d hd
          obtain ⟨p', hp', -, -⟩ := flds_at hd
          refine key _ p' i' d hp' (fun q => ?_)
          have hk : k' = 130 := by omega
          subst hk
          have h0 : ∀ z ∈ CL, z.1 = 130 → z.2 = 0 := by decide +kernel
          exact h ⟨rfl, h0 _ hv rfl⟩
/-! ===== the judgement: P tells how the machine goes on from here ===== -/
abbrev CX : Type := Program × Launch × Env × Room × State × MethodId × Array Value × List Frame × Method × Code × Nat × Nat
abbrev xs_ (X : CX) : State := X.2.2.2.2.1
abbrev xl_ (X : CX) : Launch := X.2.1
abbrev xm_ (X : CX) : MethodId := X.2.2.2.2.2.1
def WX (X : CX) (H : Heap) (locs : List Loc) (Q : State → Prop) (g : JFrame) : Prop := W X.1 X.2.1 X.2.2.1 X.2.2.2.1 X.2.2.2.2.1 X.2.2.2.2.2.1 X.2.2.2.2.2.2.1 X.2.2.2.2.2.2.2.1 X.2.2.2.2.2.2.2.2.1 X.2.2.2.2.2.2.2.2.2.1 H locs X.2.2.2.2.2.2.2.2.2.2.1 X.2.2.2.2.2.2.2.2.2.2.2 Q g
/-- what holds of a method's body throughout: the machine, the bytes, the words, the world's tables -/
def Ok (G : GW) (X : CX) (cc : ByteArray) (nL : Nat) (own : String) (d : Nat) : Prop :=
  X.1.tables.exec = Jvm.exec ∧ X.2.2.2.2.2.2.2.2.2.1.code = cc ∧ X.2.2.2.2.2.2.2.2.2.1.maxLocals = nL ∧ (xs_ X).vm.findClass own = some (xm_ X).cls ∧ (∀ w ∈ TB, w.before X.2.2.2.2.2.2.1 (xs_ X) = true) ∧ KK G (xs_ X) ∧ Good G ∧ d ≤ X.2.2.2.1.frames ∧ 40 * d ≤ X.2.2.2.1.locals ∧ X.2.2.2.2.2.2.2.2.2.2.1 ≤ X.2.2.2.1.cells ∧ X.2.2.2.2.2.2.2.2.2.2.2 ≤ X.2.2.2.1.slots
def Sim (G : GW) (X : CX) (nL : Nat) {β : Type} (Q : β → State → Prop) (σ : ST) (pc : Nat) (lv : List (Nat × Value)) (st : List Value) (P : Option β) : Prop :=
  ∀ b, P = some b → ∀ (H : Heap) (locs : List Loc) (ls : Array Slot), lv_has ls nL lv → Pic G σ H → va_S (Fr G) (xs_ X).heap H locs → WX X H locs (Q b) (F0 (xm_ X) pc ls st)
/-! pure combinators -/
def lt_ {α β : Type} (x : α) (f : α → β) : β := f x
def lk_ {α β : Type} (body : (α → β) → β) (k : α → β) : β := body k
def lp_ {α β : Type} (step : (α → Option β) → α → Option β) : Nat → α → Option β
  | 0, _ => none
  | n + 1, a => step (lp_ step n) a
def FU : Nat := 100000
def bd_ {α β : Type} (x : Option α) (f : α → Option β) : Option β := x.bind f
def gd_ {β : Type} (c : Prop) [Decidable c] (x : Option β) : Option β := if c then x else none
def inB (i : Int32) (n : Nat) : Bool := decide (0 ≤ i) && decide (i.toNatClampNeg < n)
def ldI (σ : ST) (k i : Nat) (j : Int32) : Option Int32 := if inB j (lenI k) = true then some (σ.1 k i j.toNatClampNeg) else none
def ldL (σ : ST) (k i : Nat) (j : Int32) : Option Int64 := if inB j (lenL k) = true then some (σ.2.1 k i j.toNatClampNeg) else none
def stI (σ : ST) (k i : Nat) (j v : Int32) : Option ST := if inB j (lenI k) = true then some (setR σ k i (upd (σ.1 k i) j.toNatClampNeg v)) else none
def stL (σ : ST) (k i : Nat) (j : Int32) (v : Int64) : Option ST := if inB j (lenL k) = true then some (setL σ k i (vp_updL (σ.2.1 k i) j.toNatClampNeg v)) else none
def ldB (j : Int32) : Option Nat := if inB j 12 = true then some (j.toNatClampNeg + 1) else none
def idv (x y : Int32) : Option Int32 := if y = 0 then none else some (x / y)
def irm (x y : Int32) : Option Int32 := if y = 0 then none else some (x - x / y * y)
def ldv (x y : Int64) : Option Int64 := if y = 0 then none else some (x / y)
def lrm (x y : Int64) : Option Int64 := if y = 0 then none else some (x - x / y * y)
def sw_ {β : Type} (x : Int32) : Nat → List (Option β) → Option β → Option β
  | _, [], d => d
  | n, p :: ps, d => if x = nI n then p else sw_ x (n + 1) ps d
theorem inB_in {i : Int32} {n : Nat} (h : inB i n = true) : vp_in i n := by
  simp only [inB, Bool.and_eq_true, decide_eq_true_eq] at h
  intro q
  rcases q with q | q
  · exact absurd h.1 (Int32.not_le.mpr q)
  · omega
section SimRows
variable {G : GW} {X : CX} {cc : ByteArray} {nL d : Nat} {own : String} {β : Type} {Q : β → State → Prop} {σ : ST} {pc n : Nat} {lv lv' : List (Nat × Value)} {st : List Value} {P P1 P2 : Option β}
theorem s_iconst {i : Int} {v : Int32} (hX : Ok G X cc nL own d) (hd : decode cc pc = .ok (.iconst i, 1)) (hn : pc + 1 = n) (hv : Int32.ofInt i = v) (k : Sim G X nL Q σ n lv (.int v :: st) P) : Sim G X nL Q σ pc lv st P := by
  subst hn; exact fun b hb H locs ls hl hP hS => lv_iconst hX.1 hX.2.1 hd hv (k b hb H locs ls hl hP hS)
theorem s_bipush {i : Int} {v : Int32} (hX : Ok G X cc nL own d) (hd : decode cc pc = .ok (.bipush i, 2)) (hn : pc + 2 = n) (hv : (Int8.ofInt i).toInt32 = v) (k : Sim G X nL Q σ n lv (.int v :: st) P) : Sim G X nL Q σ pc lv st P := by
  subst hn; exact fun b hb H locs ls hl hP hS => lv_bipush hX.1 hX.2.1 hd hv (k b hb H locs ls hl hP hS)
theorem s_sipush {i : Int} {v : Int32} (hX : Ok G X cc nL own d) (hd : decode cc pc = .ok (.sipush i, 3)) (hn : pc + 3 = n) (hv : (Int16.ofInt i).toInt32 = v) (k : Sim G X nL Q σ n lv (.int v :: st) P) : Sim G X nL Q σ pc lv st P := by
  subst hn; exact fun b hb H locs ls hl hP hS => lv_sipush hX.1 hX.2.1 hd hv (k b hb H locs ls hl hP hS)
theorem s_lconst {i : Fin 2} {v : Int64} (hX : Ok G X cc nL own d) (hd : decode cc pc = .ok (.lconst i, 1)) (hn : pc + 1 = n) (hv : Int64.ofNat (i : Nat) = v) (k : Sim G X nL Q σ n lv (.long v :: st) P) : Sim G X nL Q σ pc lv st P := by
  subst hn; exact fun b hb H locs ls hl hP hS => lv_lconst hX.1 hX.2.1 hd hv (k b hb H locs ls hl hP hS)
theorem s_ldc {i : Nat} {v : Int32} (hX : Ok G X cc nL own d) (hd : decode cc pc = .ok (.ldc i, 2)) (hn : pc + 2 = n) (hw : Cond.constant own i v ∈ TB) (k : Sim G X nL Q σ n lv (.int v :: st) P) : Sim G X nL Q σ pc lv st P := by
  subst hn; exact fun b hb H locs ls hl hP hS => lv_ldc hX.1 hX.2.1 hX.2.2.2.1 (hX.2.2.2.2.1 _ hw) hd (k b hb H locs ls hl hP hS)
theorem s_ldcw {i : Nat} {v : Int32} (hX : Ok G X cc nL own d) (hd : decode cc pc = .ok (.ldc_w i, 3)) (hn : pc + 3 = n) (hw : Cond.constant own i v ∈ TB) (k : Sim G X nL Q σ n lv (.int v :: st) P) : Sim G X nL Q σ pc lv st P := by
  subst hn; exact fun b hb H locs ls hl hP hS => lv_ldcw hX.1 hX.2.1 hX.2.2.2.1 (hX.2.2.2.2.1 _ hw) hd (k b hb H locs ls hl hP hS)
theorem s_ldc2 {i : Nat} {v : Int64} (hX : Ok G X cc nL own d) (hd : decode cc pc = .ok (.ldc2_w i, 3)) (hn : pc + 3 = n) (hw : Cond.constantLong own i v ∈ TB) (k : Sim G X nL Q σ n lv (.long v :: st) P) : Sim G X nL Q σ pc lv st P := by
  subst hn; exact fun b hb H locs ls hl hP hS => lv_ldc2 hX.1 hX.2.1 hX.2.2.2.1 (hX.2.2.2.2.1 _ hw) hd (k b hb H locs ls hl hP hS)
theorem s_iload_n {q : Fin 4} (j : Nat) {i : Nat} {x : Int32} (hX : Ok G X cc nL own d) (hd : decode cc pc = .ok (.iload_n q, 1)) (hn : pc + 1 = n) (hi : (q : Nat) = i) (hl : lv[j]? = some (i, .int x)) (k : Sim G X nL Q σ n lv (.int x :: st) P) : Sim G X nL Q σ pc lv st P := by
  subst hn; exact fun b hb H locs ls hh hP hS => lv_iload_n hX.1 hX.2.1 hd hi (lv_at hh j hl) (k b hb H locs ls hh hP hS)
theorem s_iload (j : Nat) {i : Nat} {x : Int32} (hX : Ok G X cc nL own d) (hd : decode cc pc = .ok (.iload i, 2)) (hn : pc + 2 = n) (hl : lv[j]? = some (i, .int x)) (k : Sim G X nL Q σ n lv (.int x :: st) P) : Sim G X nL Q σ pc lv st P := by
  subst hn; exact fun b hb H locs ls hh hP hS => lv_iload hX.1 hX.2.1 hd (lv_at hh j hl) (k b hb H locs ls hh hP hS)
theorem s_lload_n {q : Fin 4} (j : Nat) {i : Nat} {x : Int64} (hX : Ok G X cc nL own d) (hd : decode cc pc = .ok (.lload_n q, 1)) (hn : pc + 1 = n) (hi : (q : Nat) = i) (hl : lv[j]? = some (i, .long x)) (k : Sim G X nL Q σ n lv (.long x :: st) P) : Sim G X nL Q σ pc lv st P := by
  subst hn; exact fun b hb H locs ls hh hP hS => lv_lload_n hX.1 hX.2.1 hd hi (lv_at hh j hl) (k b hb H locs ls hh hP hS)
theorem s_lload (j : Nat) {i : Nat} {x : Int64} (hX : Ok G X cc nL own d) (hd : decode cc pc = .ok (.lload i, 2)) (hn : pc + 2 = n) (hl : lv[j]? = some (i, .long x)) (k : Sim G X nL Q σ n lv (.long x :: st) P) : Sim G X nL Q σ pc lv st P := by
  subst hn; exact fun b hb H locs ls hh hP hS => lv_lload hX.1 hX.2.1 hd (lv_at hh j hl) (k b hb H locs ls hh hP hS)
theorem s_aload_n {q : Fin 4} (j : Nat) {i : Nat} {x : Nat} (hX : Ok G X cc nL own d) (hd : decode cc pc = .ok (.aload_n q, 1)) (hn : pc + 1 = n) (hi : (q : Nat) = i) (hl : lv[j]? = some (i, .ref x)) (k : Sim G X nL Q σ n lv (.ref x :: st) P) : Sim G X nL Q σ pc lv st P := by
  subst hn; exact fun b hb H locs ls hh hP hS => lv_aload_n hX.1 hX.2.1 hd hi (lv_at hh j hl) (k b hb H locs ls hh hP hS)
theorem s_aload (j : Nat) {i : Nat} {x : Nat} (hX : Ok G X cc nL own d) (hd : decode cc pc = .ok (.aload i, 2)) (hn : pc + 2 = n) (hl : lv[j]? = some (i, .ref x)) (k : Sim G X nL Q σ n lv (.ref x :: st) P) : Sim G X nL Q σ pc lv st P := by
  subst hn; exact fun b hb H locs ls hh hP hS => lv_aload hX.1 hX.2.1 hd (lv_at hh j hl) (k b hb H locs ls hh hP hS)
/-- what is left of the locals behind a store -/
def put1 (lv : List (Nat × Value)) (i : Nat) (v : Value) : List (Nat × Value) := (i, v) :: lv.filter (fun q => !(q.1 == i) && !(q.1 + 1 == i && q.2.category == 2))
def put2 (lv : List (Nat × Value)) (i : Nat) (v : Value) : List (Nat × Value) := (i, v) :: lv.filter (fun q => !(q.1 == i) && (!(q.1 == i + 1) && !(q.1 + 1 == i && q.2.category == 2)))
theorem s_istore_n {q : Fin 4} (ks : List Nat) {i : Nat} {x : Int32} (hX : Ok G X cc nL own d) (hd : decode cc pc = .ok (.istore_n q, 1)) (hn : pc + 1 = n) (hi : (q : Nat) = i) (hlt : i < nL) (hl : lv_pick (put1 lv i (.int x)) ks = lv') (k : Sim G X nL Q σ n lv' st P) : Sim G X nL Q σ pc lv (.int x :: st) P := by
  subst hn; exact fun b hb H locs ls hh hP hS => lv_istore_n hX.1 hX.2.1 hd hi hh hlt rfl (fun ls' h' => k b hb H locs ls' (lv_sub h' ks hl) hP hS)
theorem s_istore (ks : List Nat) {i : Nat} {x : Int32} (hX : Ok G X cc nL own d) (hd : decode cc pc = .ok (.istore i, 2)) (hn : pc + 2 = n) (hlt : i < nL) (hl : lv_pick (put1 lv i (.int x)) ks = lv') (k : Sim G X nL Q σ n lv' st P) : Sim G X nL Q σ pc lv (.int x :: st) P := by
  subst hn; exact fun b hb H locs ls hh hP hS => lv_istore hX.1 hX.2.1 hd hh hlt rfl (fun ls' h' => k b hb H locs ls' (lv_sub h' ks hl) hP hS)
theorem s_lstore_n {q : Fin 4} (ks : List Nat) {i : Nat} {x : Int64} (hX : Ok G X cc nL own d) (hd : decode cc pc = .ok (.lstore_n q, 1)) (hn : pc + 1 = n) (hi : (q : Nat) = i) (hlt : i + 1 < nL) (hl : lv_pick (put2 lv i (.long x)) ks = lv') (k : Sim G X nL Q σ n lv' st P) : Sim G X nL Q σ pc lv (.long x :: st) P := by
  subst hn; exact fun b hb H locs ls hh hP hS => lv_lstore_n hX.1 hX.2.1 hd hi hh hlt rfl (fun ls' h' => k b hb H locs ls' (lv_sub h' ks hl) hP hS)
theorem s_lstore (ks : List Nat) {i : Nat} {x : Int64} (hX : Ok G X cc nL own d) (hd : decode cc pc = .ok (.lstore i, 2)) (hn : pc + 2 = n) (hlt : i + 1 < nL) (hl : lv_pick (put2 lv i (.long x)) ks = lv') (k : Sim G X nL Q σ n lv' st P) : Sim G X nL Q σ pc lv (.long x :: st) P := by
  subst hn; exact fun b hb H locs ls hh hP hS => lv_lstore hX.1 hX.2.1 hd hh hlt rfl (fun ls' h' => k b hb H locs ls' (lv_sub h' ks hl) hP hS)
theorem s_astore_n {q : Fin 4} (ks : List Nat) {i : Nat} {x : Nat} (hX : Ok G X cc nL own d) (hd : decode cc pc = .ok (.astore_n q, 1)) (hn : pc + 1 = n) (hi : (q : Nat) = i) (hlt : i < nL) (hl : lv_pick (put1 lv i (.ref x)) ks = lv') (k : Sim G X nL Q σ n lv' st P) : Sim G X nL Q σ pc lv (.ref x :: st) P := by
  subst hn; exact fun b hb H locs ls hh hP hS => lv_astore_n hX.1 hX.2.1 hd hi hh hlt rfl (fun ls' h' => k b hb H locs ls' (lv_sub h' ks hl) hP hS)
theorem s_astore (ks : List Nat) {i : Nat} {x : Nat} (hX : Ok G X cc nL own d) (hd : decode cc pc = .ok (.astore i, 2)) (hn : pc + 2 = n) (hlt : i < nL) (hl : lv_pick (put1 lv i (.ref x)) ks = lv') (k : Sim G X nL Q σ n lv' st P) : Sim G X nL Q σ pc lv (.ref x :: st) P := by
  subst hn; exact fun b hb H locs ls hh hP hS => lv_astore hX.1 hX.2.1 hd hh hlt rfl (fun ls' h' => k b hb H locs ls' (lv_sub h' ks hl) hP hS)
theorem s_iinc (j : Nat) (ks : List Nat) {i : Nat} {z : Int} {x v : Int32} (hX : Ok G X cc nL own d) (hd : decode cc pc = .ok (.iinc i z, 3)) (hn : pc + 3 = n) (hj : lv[j]? = some (i, .int x)) (hv : x + Int32.ofInt z = v) (hlt : i < nL) (hl : lv_pick (put1 lv i (.int v)) ks = lv') (k : Sim G X nL Q σ n lv' st P) : Sim G X nL Q σ pc lv st P := by
  subst hn; exact fun b hb H locs ls hh hP hS => lv_iinc hX.1 hX.2.1 hd hh hj hv hlt rfl (fun ls' h' => k b hb H locs ls' (lv_sub h' ks hl) hP hS)
theorem s_iadd {x y : Int32} (hX : Ok G X cc nL own d) (hd : decode cc pc = .ok (.iadd, 1)) (hn : pc + 1 = n) (k : Sim G X nL Q σ n lv (.int (x + y) :: st) P) : Sim G X nL Q σ pc lv (.int y :: .int x :: st) P := by
  subst hn; exact fun b hb H locs ls hl hP hS => lv_iadd hX.1 hX.2.1 hd (k b hb H locs ls hl hP hS)
theorem s_isub {x y : Int32} (hX : Ok G X cc nL own d) (hd : decode cc pc = .ok (.isub, 1)) (hn : pc + 1 = n) (k : Sim G X nL Q σ n lv (.int (x - y) :: st) P) : Sim G X nL Q σ pc lv (.int y :: .int x :: st) P := by
  subst hn; exact fun b hb H locs ls hl hP hS => lv_isub hX.1 hX.2.1 hd (k b hb H locs ls hl hP hS)
theorem s_imul {x y : Int32} (hX : Ok G X cc nL own d) (hd : decode cc pc = .ok (.imul, 1)) (hn : pc + 1 = n) (k : Sim G X nL Q σ n lv (.int (x * y) :: st) P) : Sim G X nL Q σ pc lv (.int y :: .int x :: st) P := by
  subst hn; exact fun b hb H locs ls hl hP hS => lv_imul hX.1 hX.2.1 hd (k b hb H locs ls hl hP hS)
theorem s_iand {x y : Int32} (hX : Ok G X cc nL own d) (hd : decode cc pc = .ok (.iand, 1)) (hn : pc + 1 = n) (k : Sim G X nL Q σ n lv (.int (x &&& y) :: st) P) : Sim G X nL Q σ pc lv (.int y :: .int x :: st) P := by
  subst hn; exact fun b hb H locs ls hl hP hS => lv_iand hX.1 hX.2.1 hd (k b hb H locs ls hl hP hS)
theorem s_ior {x y : Int32} (hX : Ok G X cc nL own d) (hd : decode cc pc = .ok (.ior, 1)) (hn : pc + 1 = n) (k : Sim G X nL Q σ n lv (.int (x ||| y) :: st) P) : Sim G X nL Q σ pc lv (.int y :: .int x :: st) P := by
  subst hn; exact fun b hb H locs ls hl hP hS => lv_ior hX.1 hX.2.1 hd (k b hb H locs ls hl hP hS)
theorem s_ixor {x y : Int32} (hX : Ok G X cc nL own d) (hd : decode cc pc = .ok (.ixor, 1)) (hn : pc + 1 = n) (k : Sim G X nL Q σ n lv (.int (x ^^^ y) :: st) P) : Sim G X nL Q σ pc lv (.int y :: .int x :: st) P := by
  subst hn; exact fun b hb H locs ls hl hP hS => lv_ixor hX.1 hX.2.1 hd (k b hb H locs ls hl hP hS)
theorem s_ishl {x y : Int32} (hX : Ok G X cc nL own d) (hd : decode cc pc = .ok (.ishl, 1)) (hn : pc + 1 = n) (k : Sim G X nL Q σ n lv (.int (x <<< (y &&& 31)) :: st) P) : Sim G X nL Q σ pc lv (.int y :: .int x :: st) P := by
  subst hn; exact fun b hb H locs ls hl hP hS => lv_ishl hX.1 hX.2.1 hd (k b hb H locs ls hl hP hS)
theorem s_ishr {x y : Int32} (hX : Ok G X cc nL own d) (hd : decode cc pc = .ok (.ishr, 1)) (hn : pc + 1 = n) (k : Sim G X nL Q σ n lv (.int (x >>> (y &&& 31)) :: st) P) : Sim G X nL Q σ pc lv (.int y :: .int x :: st) P := by
  subst hn; exact fun b hb H locs ls hl hP hS => lv_ishr hX.1 hX.2.1 hd (k b hb H locs ls hl hP hS)
def ushr (x y : Int32) : Int32 := (x.toUInt32 >>> (y.toUInt32 &&& Int32.toUInt32 31)).toInt32
theorem s_iushr {x y : Int32} (hX : Ok G X cc nL own d) (hd : decode cc pc = .ok (.iushr, 1)) (hn : pc + 1 = n) (k : Sim G X nL Q σ n lv (.int (ushr x y) :: st) P) : Sim G X nL Q σ pc lv (.int y :: .int x :: st) P := by
  subst hn; exact fun b hb H locs ls hl hP hS => lv_iushr hX.1 hX.2.1 hd rfl (k b hb H locs ls hl hP hS)
theorem s_ladd {x y : Int64} (hX : Ok G X cc nL own d) (hd : decode cc pc = .ok (.ladd, 1)) (hn : pc + 1 = n) (k : Sim G X nL Q σ n lv (.long (x + y) :: st) P) : Sim G X nL Q σ pc lv (.long y :: .long x :: st) P := by
  subst hn; exact fun b hb H locs ls hl hP hS => lv_ladd hX.1 hX.2.1 hd (k b hb H locs ls hl hP hS)
theorem s_lsub {x y : Int64} (hX : Ok G X cc nL own d) (hd : decode cc pc = .ok (.lsub, 1)) (hn : pc + 1 = n) (k : Sim G X nL Q σ n lv (.long (x - y) :: st) P) : Sim G X nL Q σ pc lv (.long y :: .long x :: st) P := by
  subst hn; exact fun b hb H locs ls hl hP hS => lv_lsub hX.1 hX.2.1 hd (k b hb H locs ls hl hP hS)
theorem s_lmul {x y : Int64} (hX : Ok G X cc nL own d) (hd : decode cc pc = .ok (.lmul, 1)) (hn : pc + 1 = n) (k : Sim G X nL Q σ n lv (.long (x * y) :: st) P) : Sim G X nL Q σ pc lv (.long y :: .long x :: st) P := by
  subst hn; exact fun b hb H locs ls hl hP hS => lv_lmul hX.1 hX.2.1 hd (k b hb H locs ls hl hP hS)
theorem s_lcmp {x y : Int64} (hX : Ok G X cc nL own d) (hd : decode cc pc = .ok (.lcmp, 1)) (hn : pc + 1 = n) (k : Sim G X nL Q σ n lv (.int (lg_cmp x y) :: st) P) : Sim G X nL Q σ pc lv (.long y :: .long x :: st) P := by
  subst hn; exact fun b hb H locs ls hl hP hS => W.lcmp hX.1 hX.2.1 hd (k b hb H locs ls hl hP hS)
theorem s_i2l {x : Int32} (hX : Ok G X cc nL own d) (hd : decode cc pc = .ok (.i2l, 1)) (hn : pc + 1 = n) (k : Sim G X nL Q σ n lv (.long x.toInt64 :: st) P) : Sim G X nL Q σ pc lv (.int x :: st) P := by
  subst hn; exact fun b hb H locs ls hl hP hS => lv_i2l hX.1 hX.2.1 hd rfl (k b hb H locs ls hl hP hS)
theorem s_l2i {x : Int64} (hX : Ok G X cc nL own d) (hd : decode cc pc = .ok (.l2i, 1)) (hn : pc + 1 = n) (k : Sim G X nL Q σ n lv (.int x.toInt32 :: st) P) : Sim G X nL Q σ pc lv (.long x :: st) P := by
  subst hn; exact fun b hb H locs ls hl hP hS => lv_l2i hX.1 hX.2.1 hd rfl (k b hb H locs ls hl hP hS)
theorem s_idiv {x y : Int32} {K : Int32 → Option β} (hX : Ok G X cc nL own d) (hd : decode cc pc = .ok (.idiv, 1)) (hn : pc + 1 = n) (k : ∀ v, Sim G X nL Q σ n lv (.int v :: st) (K v)) : Sim G X nL Q σ pc lv (.int y :: .int x :: st) (bd_ (idv x y) K) := by
  subst hn; intro b hb H locs ls hl hP hS
  by_cases h : y = 0
  · simp [bd_, idv, h] at hb
  · simp only [bd_, idv, if_neg h, Option.bind_some] at hb
    exact lv_idiv hX.1 hX.2.1 hd h (k _ b hb H locs ls hl hP hS)
theorem s_irem {x y : Int32} {K : Int32 → Option β} (hX : Ok G X cc nL own d) (hd : decode cc pc = .ok (.irem, 1)) (hn : pc + 1 = n) (k : ∀ v, Sim G X nL Q σ n lv (.int v :: st) (K v)) : Sim G X nL Q σ pc lv (.int y :: .int x :: st) (bd_ (irm x y) K) := by
  subst hn; intro b hb H locs ls hl hP hS
  by_cases h : y = 0
  · simp [bd_, irm, h] at hb
  · simp only [bd_, irm, if_neg h, Option.bind_some] at hb
    exact lv_irem hX.1 hX.2.1 hd h (k _ b hb H locs ls hl hP hS)
theorem s_ldiv {x y : Int64} {K : Int64 → Option β} (hX : Ok G X cc nL own d) (hd : decode cc pc = .ok (.ldiv, 1)) (hn : pc + 1 = n) (k : ∀ v, Sim G X nL Q σ n lv (.long v :: st) (K v)) : Sim G X nL Q σ pc lv (.long y :: .long x :: st) (bd_ (ldv x y) K) := by
  subst hn; intro b hb H locs ls hl hP hS
  by_cases h : y = 0
  · simp [bd_, ldv, h] at hb
  · simp only [bd_, ldv, if_neg h, Option.bind_some] at hb
    exact lv_ldiv hX.1 hX.2.1 hd h (k _ b hb H locs ls hl hP hS)
theorem s_lrem {x y : Int64} {K : Int64 → Option β} (hX : Ok G X cc nL own d) (hd : decode cc pc = .ok (.lrem, 1)) (hn : pc + 1 = n) (k : ∀ v, Sim G X nL Q σ n lv (.long v :: st) (K v)) : Sim G X nL Q σ pc lv (.long y :: .long x :: st) (bd_ (lrm x y) K) := by
  subst hn; intro b hb H locs ls hl hP hS
  by_cases h : y = 0
  · simp [bd_, lrm, h] at hb
  · simp only [bd_, lrm, if_neg h, Option.bind_some] at hb
    exact lv_lrem hX.1 hX.2.1 hd h (k _ b hb H locs ls hl hP hS)
theorem s_dup {v : Value} (hX : Ok G X cc nL own d) (hd : decode cc pc = .ok (.dup, 1)) (hn : pc + 1 = n) (hc : v.category = 1) (k : Sim G X nL Q σ n lv (v :: v :: st) P) : Sim G X nL Q σ pc lv (v :: st) P := by
  subst hn; exact fun b hb H locs ls hl hP hS => lv_dup hX.1 hX.2.1 hd hc (k b hb H locs ls hl hP hS)
theorem s_pop {v : Value} (hX : Ok G X cc nL own d) (hd : decode cc pc = .ok (.pop, 1)) (hn : pc + 1 = n) (hc : v.category = 1) (k : Sim G X nL Q σ n lv st P) : Sim G X nL Q σ pc lv (v :: st) P := by
  subst hn; exact fun b hb H locs ls hl hP hS => lv_pop hX.1 hX.2.1 hd hc (k b hb H locs ls hl hP hS)
theorem s_goto {off : Int} (hX : Ok G X cc nL own d) (hd : decode cc pc = .ok (.goto off, 3)) (hn : (pc : Int) + off = (n : Int)) (k : Sim G X nL Q σ n lv st P) : Sim G X nL Q σ pc lv st P :=
  fun b hb H locs ls hl hP hS => lv_goto hX.1 hX.2.1 hd hn (k b hb H locs ls hl hP hS)
/-- a name for the int on top; for a long; for the state -/
theorem s_topi {x : Int32} {K : Int32 → Option β} (k : ∀ y, Sim G X nL Q σ pc lv (.int y :: st) (K y)) : Sim G X nL Q σ pc lv (.int x :: st) (lt_ x K) := k x
theorem s_topl {x : Int64} {K : Int64 → Option β} (k : ∀ y, Sim G X nL Q σ pc lv (.long y :: st) (K y)) : Sim G X nL Q σ pc lv (.long x :: st) (lt_ x K) := k x
theorem s_sub (ks : List Nat) (hl : lv_pick lv ks = lv') (k : Sim G X nL Q σ pc lv' st P) : Sim G X nL Q σ pc lv st P := fun b hb H locs ls hh hP hS => k b hb H locs ls (lv_sub hh ks hl) hP hS
theorem s_lp {α : Type} {Sf : α → ST} {lvf : α → List (Nat × Value)} {step : (α → Option β) → α → Option β} (h : ∀ rec : α → Option β, (∀ a, Sim G X nL Q (Sf a) pc (lvf a) st (rec a)) → ∀ a, Sim G X nL Q (Sf a) pc (lvf a) st (step rec a)) : ∀ (m : Nat) (a : α), Sim G X nL Q (Sf a) pc (lvf a) st (lp_ step m a) := by
  intro m
  induction m with
  | zero => intro a b hb; cases hb
  | succ m ih => intro a; exact h (lp_ step m) ih a
theorem s_lk {α : Type} {pcj : Nat} {Sf : α → ST} {lvf : α → List (Nat × Value)} {stf : α → List Value} {body : (α → Option β) → Option β} {K : α → Option β} (hk : ∀ j, Sim G X nL Q (Sf j) pcj (lvf j) (stf j) (K j)) (hb : ∀ k : α → Option β, (∀ j, Sim G X nL Q (Sf j) pcj (lvf j) (stf j) (k j)) → Sim G X nL Q σ pc lv st (body k)) : Sim G X nL Q σ pc lv st (lk_ body K) := hb K hk
theorem s_pos {c : Prop} [Decidable c] (h : c) (k : Sim G X nL Q σ pc lv st P1) : Sim G X nL Q σ pc lv st (if c then P1 else P2) := by rw [if_pos h]; exact k
theorem s_neg {c : Prop} [Decidable c] (h : ¬ c) (k : Sim G X nL Q σ pc lv st P2) : Sim G X nL Q σ pc lv st (if c then P1 else P2) := by rw [if_neg h]; exact k
theorem s_if_eq {x : Int32} {off : Int} {tgt : Nat} (hX : Ok G X cc nL own d) (hd : decode cc pc = .ok (.ifCond .eq off, 3)) (ht : (pc : Int) + off = (tgt : Int)) (hn : pc + 3 = n) (kt : Sim G X nL Q σ tgt lv st P1) (kf : Sim G X nL Q σ n lv st P2) : Sim G X nL Q σ pc lv (.int x :: st) (if x = 0 then P1 else P2) := by
  subst hn; exact fun b hb H locs ls hl hP hS => lv_if_eq hX.1 hX.2.1 hd ht (fun q => kt b (by rw [if_pos q] at hb; exact hb) H locs ls hl hP hS) (fun q => kf b (by rw [if_neg q] at hb; exact hb) H locs ls hl hP hS)
theorem s_icmp_eq {x y : Int32} {off : Int} {tgt : Nat} (hX : Ok G X cc nL own d) (hd : decode cc pc = .ok (.if_icmp .eq off, 3)) (ht : (pc : Int) + off = (tgt : Int)) (hn : pc + 3 = n) (kt : Sim G X nL Q σ tgt lv st P1) (kf : Sim G X nL Q σ n lv st P2) : Sim G X nL Q σ pc lv (.int y :: .int x :: st) (if x = y then P1 else P2) := by
  subst hn; exact fun b hb H locs ls hl hP hS => lv_icmp_eq hX.1 hX.2.1 hd ht (fun q => kt b (by rw [if_pos q] at hb; exact hb) H locs ls hl hP hS) (fun q => kf b (by rw [if_neg q] at hb; exact hb) H locs ls hl hP hS)
theorem s_if_ne {x : Int32} {off : Int} {tgt : Nat} (hX : Ok G X cc nL own d) (hd : decode cc pc = .ok (.ifCond .ne off, 3)) (ht : (pc : Int) + off = (tgt : Int)) (hn : pc + 3 = n) (kt : Sim G X nL Q σ tgt lv st P1) (kf : Sim G X nL Q σ n lv st P2) : Sim G X nL Q σ pc lv (.int x :: st) (if x = 0 then P2 else P1) := by
  subst hn; exact fun b hb H locs ls hl hP hS => lv_if_ne hX.1 hX.2.1 hd ht (fun q => kt b (by rw [if_neg q] at hb; exact hb) H locs ls hl hP hS) (fun q => kf b (by rw [if_pos q] at hb; exact hb) H locs ls hl hP hS)
theorem s_icmp_ne {x y : Int32} {off : Int} {tgt : Nat} (hX : Ok G X cc nL own d) (hd : decode cc pc = .ok (.if_icmp .ne off, 3)) (ht : (pc : Int) + off = (tgt : Int)) (hn : pc + 3 = n) (kt : Sim G X nL Q σ tgt lv st P1) (kf : Sim G X nL Q σ n lv st P2) : Sim G X nL Q σ pc lv (.int y :: .int x :: st) (if x = y then P2 else P1) := by
  subst hn; exact fun b hb H locs ls hl hP hS => lv_icmp_ne hX.1 hX.2.1 hd ht (fun q => kt b (by rw [if_neg q] at hb; exact hb) H locs ls hl hP hS) (fun q => kf b (by rw [if_pos q] at hb; exact hb) H locs ls hl hP hS)
theorem s_if_lt {x : Int32} {off : Int} {tgt : Nat} (hX : Ok G X cc nL own d) (hd : decode cc pc = .ok (.ifCond .lt off, 3)) (ht : (pc : Int) + off = (tgt : Int)) (hn : pc + 3 = n) (kt : Sim G X nL Q σ tgt lv st P1) (kf : Sim G X nL Q σ n lv st P2) : Sim G X nL Q σ pc lv (.int x :: st) (if x < 0 then P1 else P2) := by
  subst hn; exact fun b hb H locs ls hl hP hS => lv_if_lt hX.1 hX.2.1 hd ht (fun q => kt b (by rw [if_pos q] at hb; exact hb) H locs ls hl hP hS) (fun q => kf b (by rw [if_neg q] at hb; exact hb) H locs ls hl hP hS)
theorem s_icmp_lt {x y : Int32} {off : Int} {tgt : Nat} (hX : Ok G X cc nL own d) (hd : decode cc pc = .ok (.if_icmp .lt off, 3)) (ht : (pc : Int) + off = (tgt : Int)) (hn : pc + 3 = n) (kt : Sim G X nL Q σ tgt lv st P1) (kf : Sim G X nL Q σ n lv st P2) : Sim G X nL Q σ pc lv (.int y :: .int x :: st) (if x < y then P1 else P2) := by
  subst hn; exact fun b hb H locs ls hl hP hS => lv_icmp_lt hX.1 hX.2.1 hd ht (fun q => kt b (by rw [if_pos q] at hb; exact hb) H locs ls hl hP hS) (fun q => kf b (by rw [if_neg q] at hb; exact hb) H locs ls hl hP hS)
theorem s_if_ge {x : Int32} {off : Int} {tgt : Nat} (hX : Ok G X cc nL own d) (hd : decode cc pc = .ok (.ifCond .ge off, 3)) (ht : (pc : Int) + off = (tgt : Int)) (hn : pc + 3 = n) (kt : Sim G X nL Q σ tgt lv st P1) (kf : Sim G X nL Q σ n lv st P2) : Sim G X nL Q σ pc lv (.int x :: st) (if 0 ≤ x then P1 else P2) := by
  subst hn; exact fun b hb H locs ls hl hP hS => lv_if_ge hX.1 hX.2.1 hd ht (fun q => kt b (by rw [if_pos q] at hb; exact hb) H locs ls hl hP hS) (fun q => kf b (by rw [if_neg q] at hb; exact hb) H locs ls hl hP hS)
theorem s_icmp_ge {x y : Int32} {off : Int} {tgt : Nat} (hX : Ok G X cc nL own d) (hd : decode cc pc = .ok (.if_icmp .ge off, 3)) (ht : (pc : Int) + off = (tgt : Int)) (hn : pc + 3 = n) (kt : Sim G X nL Q σ tgt lv st P1) (kf : Sim G X nL Q σ n lv st P2) : Sim G X nL Q σ pc lv (.int y :: .int x :: st) (if y ≤ x then P1 else P2) := by
  subst hn; exact fun b hb H locs ls hl hP hS => lv_icmp_ge hX.1 hX.2.1 hd ht (fun q => kt b (by rw [if_pos q] at hb; exact hb) H locs ls hl hP hS) (fun q => kf b (by rw [if_neg q] at hb; exact hb) H locs ls hl hP hS)
theorem s_if_gt {x : Int32} {off : Int} {tgt : Nat} (hX : Ok G X cc nL own d) (hd : decode cc pc = .ok (.ifCond .gt off, 3)) (ht : (pc : Int) + off = (tgt : Int)) (hn : pc + 3 = n) (kt : Sim G X nL Q σ tgt lv st P1) (kf : Sim G X nL Q σ n lv st P2) : Sim G X nL Q σ pc lv (.int x :: st) (if 0 < x then P1 else P2) := by
  subst hn; exact fun b hb H locs ls hl hP hS => lv_if_gt hX.1 hX.2.1 hd ht (fun q => kt b (by rw [if_pos q] at hb; exact hb) H locs ls hl hP hS) (fun q => kf b (by rw [if_neg q] at hb; exact hb) H locs ls hl hP hS)
theorem s_icmp_gt {x y : Int32} {off : Int} {tgt : Nat} (hX : Ok G X cc nL own d) (hd : decode cc pc = .ok (.if_icmp .gt off, 3)) (ht : (pc : Int) + off = (tgt : Int)) (hn : pc + 3 = n) (kt : Sim G X nL Q σ tgt lv st P1) (kf : Sim G X nL Q σ n lv st P2) : Sim G X nL Q σ pc lv (.int y :: .int x :: st) (if y < x then P1 else P2) := by
  subst hn; exact fun b hb H locs ls hl hP hS => lv_icmp_gt hX.1 hX.2.1 hd ht (fun q => kt b (by rw [if_pos q] at hb; exact hb) H locs ls hl hP hS) (fun q => kf b (by rw [if_neg q] at hb; exact hb) H locs ls hl hP hS)
theorem s_if_le {x : Int32} {off : Int} {tgt : Nat} (hX : Ok G X cc nL own d) (hd : decode cc pc = .ok (.ifCond .le off, 3)) (ht : (pc : Int) + off = (tgt : Int)) (hn : pc + 3 = n) (kt : Sim G X nL Q σ tgt lv st P1) (kf : Sim G X nL Q σ n lv st P2) : Sim G X nL Q σ pc lv (.int x :: st) (if x ≤ 0 then P1 else P2) := by
  subst hn; exact fun b hb H locs ls hl hP hS => lv_if_le hX.1 hX.2.1 hd ht (fun q => kt b (by rw [if_pos q] at hb; exact hb) H locs ls hl hP hS) (fun q => kf b (by rw [if_neg q] at hb; exact hb) H locs ls hl hP hS)
theorem s_icmp_le {x y : Int32} {off : Int} {tgt : Nat} (hX : Ok G X cc nL own d) (hd : decode cc pc = .ok (.if_icmp .le off, 3)) (ht : (pc : Int) + off = (tgt : Int)) (hn : pc + 3 = n) (kt : Sim G X nL Q σ tgt lv st P1) (kf : Sim G X nL Q σ n lv st P2) : Sim G X nL Q σ pc lv (.int y :: .int x :: st) (if x ≤ y then P1 else P2) := by
  subst hn; exact fun b hb H locs ls hl hP hS => lv_icmp_le hX.1 hX.2.1 hd ht (fun q => kt b (by rw [if_pos q] at hb; exact hb) H locs ls hl hP hS) (fun q => kf b (by rw [if_neg q] at hb; exact hb) H locs ls hl hP hS)
def swS (G : GW) (X : CX) (nL : Nat) (Q : β → State → Prop) (σ : ST) (lv : List (Nat × Value)) (st : List Value) : List Nat → List (Option β) → Prop
  | t :: ts, p :: ps => Sim G X nL Q σ t lv st p ∧ swS G X nL Q σ lv st ts ps
  | [], [] => True
  | _, _ => False
theorem swS_nil : swS G X nL Q σ lv st [] [] := trivial
theorem swS_cons {t : Nat} {ts : List Nat} {p : Option β} {ps : List (Option β)} (h1 : Sim G X nL Q σ t lv st p) (h2 : swS G X nL Q σ lv st ts ps) : swS G X nL Q σ lv st (t :: ts) (p :: ps) := ⟨h1, h2⟩
theorem swS_at : ∀ (ts : List Nat) (ps : List (Option β)), swS G X nL Q σ lv st ts ps → ∀ (j : Nat) (p : Option β), ps[j]? = some p → Sim G X nL Q σ (ts.getD j 0) lv st p := by
  intro ts
  induction ts with
  | nil =>
    intro ps h j p hp
    cases ps with
    | nil => cases hp
    | cons q qs => exact h.elim
  | cons t ts ih =>
    intro ps h j p hp
    cases ps with
    | nil => cases hp
    | cons q qs =>
      cases j with
      | zero => cases hp; exact h.1
      | succ j => exact ih qs h.2 j p hp
theorem s_tsw {dflt lo hi : Int} {offs : Array Int} {len : Nat} {x : Int32} {lo' : Nat} {Ps : List (Option β)} {Pd : Option β} (hX : Ok G X cc nL own d) (hd : decode cc pc = .ok (.tableswitch dflt lo hi offs, len)) (hlo : lo = (lo' : Int)) (m : Nat) (hm : Ps.length = m) (hhi : hi = ((lo' + m : Nat) : Int) - 1) (hb31 : lo' + m < 2147483648) (tg : List Nat) (td : Nat) (htd : (pc : Int) + dflt = (td : Int)) (hlen : tg.length = m) (hoff : ∀ j, j < tg.length → ∃ off, offs[j]? = some off ∧ (pc : Int) + off = ((tg.getD j 0 : Nat) : Int))
    (hs' : swS G X nL Q σ lv st tg Ps) (hdf : Sim G X nL Q σ td lv st Pd) : Sim G X nL Q σ pc lv (.int x :: st) (sw_ x lo' Ps Pd) := by
  subst hm
  have hs := swS_at tg Ps hs'
  intro b hb H locs ls hl hP hS
  have key : ∀ (Ps' : List (Option β)) (m : Nat), (∃ (j : Nat) (p : Option β), Ps'[j]? = some p ∧ x = nI (m + j) ∧ sw_ x m Ps' Pd = p) ∨ ((∀ j, j < Ps'.length → x ≠ nI (m + j)) ∧ sw_ x m Ps' Pd = Pd) := by
    intro Ps'
    induction Ps' with
    | nil => intro m; exact Or.inr ⟨fun j hj => absurd hj (Nat.not_lt_zero _), rfl⟩
    | cons p ps ih =>
      intro m
      by_cases hx : x = nI m
      · exact Or.inl ⟨0, p, rfl, hx, by simp [sw_, hx]⟩
      · rcases ih (m + 1) with ⟨j, p', h1, h2, h3⟩ | ⟨h1, h2⟩
        · exact Or.inl ⟨j + 1, p', h1, by rw [h2]; congr 1; omega, by simp only [sw_, if_neg hx]; exact h3⟩
        · refine Or.inr ⟨fun j hj => ?_, by simp only [sw_, if_neg hx]; exact h2⟩
          cases j with
          | zero => exact hx
          | succ j => rw [show m + (j + 1) = m + 1 + j by omega]; exact h1 j (by simpa using hj)
  have htoi : ∀ m : Nat, m < 2 ^ 31 → (nI m).toInt = (m : Int) := fun m hm => by
    unfold nI; rw [Int32.toInt_ofNat_of_lt hm]
  rcases key Ps lo' with ⟨j, p, h1, h2, h3⟩ | ⟨h1, h2⟩
  · have hj : j < Ps.length := (List.getElem?_eq_some_iff.mp h1).1
    have hxi : x.toInt = ((lo' + j : Nat) : Int) := by rw [h2]; exact htoi _ (by omega)
    obtain ⟨off, ho1, ho2⟩ := hoff j (by omega)
    rw [h3] at hb
    refine lv_tableIn hX.1 hX.2.1 hd (by omega) (by omega) (off := off) ?_ ho2 (hs j p h1 b hb H locs ls hl hP hS)
    rw [hxi, hlo, show ((lo' + j : Nat) : Int) - (lo' : Int) = (j : Int) by omega]
    exact ho1
  · rw [h2] at hb
    refine lv_tableOut hX.1 hX.2.1 hd ?_ htd (hdf b hb H locs ls hl hP hS)
    rcases Decidable.em (x.toInt < lo) with q | q
    · exact Or.inl q
    · refine Or.inr (Int.not_le.mp fun q2 => ?_)
      have hxj : x = nI (lo' + (x.toInt - lo).toNat) := by
        apply Int32.toInt_inj.mp
        rw [htoi _ (by omega)]
        omega
      exact h1 (x.toInt - lo).toNat (by omega) hxj
end SimRows


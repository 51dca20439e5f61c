theorem arrV_congr {c : ClassId} {n : Nat} {f g : Nat → Value} (h : ∀ j, j < n → f j = g j) : arrV c n f = arrV c n g := by
  unfold arrV
  congr 2
  funext j
  exact h j.1 j.2
def offT : List (Nat × List Nat) := [(0, [16, 32, 46, 60, 74, 88, 102, 116, 130, 144, 158, 172, 186]), (1, [17, 33, 47, 61, 75, 89, 103, 117, 131, 145, 159, 173, 187]), (2, [18, 34, 48, 62, 76, 90, 104, 118, 132, 146, 160, 174, 188]), (3, [19, 35, 49, 63, 77, 91, 105, 119, 133, 147, 161, 175, 189]), (4, [20, 36, 50, 64, 78, 92, 106, 120, 134, 148, 162, 176, 190]), (5, [21, 37, 51, 65, 79, 93, 107, 121, 135, 149, 163, 177, 191]), (6, [22, 38, 52, 66, 80, 94, 108, 122, 136, 150, 164, 178, 192]), (7, [23, 39, 53, 67, 81, 95, 109, 123, 137, 151, 165, 179, 193]), (8, [211]), (9, [200, 206]), (10, [201, 207]), (11, [202, 208]), (12, [203, 209]), (13, [214, 223]), (14, [215, 224]), (15, [216, 225]), (16, [217, 226]), (17, [218, 227]), (18, [219, 228]), (19, [220, 229]), (20, [221, 230]), (21, [3]), (22, [4]), (23, [5]), (24, [12, 28, 42, 56, 70, 84, 98, 112, 126, 140, 154, 168, 182, 195]), (25, [13, 29, 43, 57, 71, 85, 99, 113, 127, 141, 155, 169, 183, 196]), (26, [14, 30, 44, 58, 72, 86, 100, 114, 128, 142, 156, 170, 184, 197]), (27, [15, 31, 45, 59, 73, 87, 101, 115, 129, 143, 157, 171, 185, 198]), (28, [232]), (29, [233]), (30, [234]), (31, [235]), (32, [236]), (33, [237]), (34, [238]), (35, [239]), (36, [240]), (37, [241]), (38, [242]), (39, [243]), (40, [244]), (41, [245]), (42, [246]), (43, [247]), (44, [248]), (45, [249]), (46, [250]), (47, [251]), (48, [252]), (100, [212]), (101, [7]), (102, [8]), (103, [9]), (104, [6]), (105, [253]), (120, [25]), (121, [10, 26, 40, 54, 68, 82, 96, 110, 124, 138, 152, 166, 180]), (122, [210]), (123, [24]), (124, [199, 205]), (125, [1]), (126, [213, 222]), (127, [204]), (128, [2]), (129, [11, 27, 41, 55, 69, 83, 97, 111, 125, 139, 153, 167, 181, 194]), (130, [0]), (131, [231])]
def offF (k i : Nat) : Nat := ((offT.lookup k).getD []).getD i 0
def σ0 : ST := (fun k _ => if k = 464 then (fun _ => (-1)) else if k = 532 then (fun _ => 60) else if k = 532 then (fun _ => 60) else if k = 533 then (fun _ => 3) else if k = 533 then (fun _ => 3) else if k = 848 then (fun _ => 60) else if k = 849 then (fun _ => 3) else if k = 866 then (fun _ => (-1)) else if k = 34 then opF (fun _ => 0) 40 else (fun _ => 0), fun _ _ _ => 0, fun a => a)
def mkG (D : va_G) (cI cJ cB : ClassId) (aK aV : Nat) (ms : Nat → Nat) (z : Nat) : GW := (D, (cI, cJ, cB), (fun k i => if k = 140 then aK else if k = 141 then aV else if k = 142 then ms i else z + offF k i), z)
def CE1 (G : GW) : Nat → va_E := F_X9 G 1 0 (va_up (fun _ => .inl (gI G, 0, .inl (fun _ => 0))) 0 (.inr (9, [.null, .null, .null, .null, .null, .null, .null, .null, .null])))
def CE2 (G : GW) : Nat → va_E := F_X10 G 232 231 (va_up (CE1 G) 231 (.inr (10, [.int 0, .null, .int 0, .null, .null, .null, .null, .null, .int 0, .int 0, .int 0, .int 0, .int 0, .int 0, .null, .null, .int 0, .int 0, .int 0, .int 0, .int 0, .int 0, .int 0, .int 0, .int 0, .int 0, .int 0, .int 0, .int 0, .int 0, .int 0, .int 0, .int 0, .int 0, .int 0, .null, .null, .null, .null, .null, .null, .null, .null, .null, .null, .null, .null, .null, .int 0, .int 0])))
def CE (G : GW) : Nat → va_E := va_up (CE2 G) 253 (.inl (gJ G, 1, .inr (.inl (fun _ => 0))))
section Cells
variable (D : va_G) (cI cJ cB : ClassId) (aK aV : Nat) (ms : Nat → Nat) (z : Nat)
def OkCell (G : GW) (q : Nat × Nat) : Prop := ga G q.1 q.2 = gz G + offF q.1 q.2 ∧ offF q.1 q.2 < 254 ∧ ∀ (a : Nat) (H : Heap), va_at (gD G) vwCl (a, CE G (offF q.1 q.2)) H → va_at (gD G) vwCl (a, cel G σ0 q.1 q.2) H
set_option maxRecDepth 100000 in
theorem oc_0_0 : OkCell (mkG D cI cJ cB aK aV ms z) (0, 0) := ⟨rfl, by decide, fun _ _ h => h⟩
set_option maxRecDepth 100000 in
theorem oc_0_1 : OkCell (mkG D cI cJ cB aK aV ms z) (0, 1) := ⟨rfl, by decide, fun _ _ h => h⟩
set_option maxRecDepth 100000 in
theorem oc_0_2 : OkCell (mkG D cI cJ cB aK aV ms z) (0, 2) := ⟨rfl, by decide, fun _ _ h => h⟩
set_option maxRecDepth 100000 in
theorem oc_0_3 : OkCell (mkG D cI cJ cB aK aV ms z) (0, 3) := ⟨rfl, by decide, fun _ _ h => h⟩
set_option maxRecDepth 100000 in
theorem oc_0_4 : OkCell (mkG D cI cJ cB aK aV ms z) (0, 4) := ⟨rfl, by decide, fun _ _ h => h⟩
set_option maxRecDepth 100000 in
theorem oc_0_5 : OkCell (mkG D cI cJ cB aK aV ms z) (0, 5) := ⟨rfl, by decide, fun _ _ h => h⟩
set_option maxRecDepth 100000 in
theorem oc_0_6 : OkCell (mkG D cI cJ cB aK aV ms z) (0, 6) := ⟨rfl, by decide, fun _ _ h => h⟩
set_option maxRecDepth 100000 in
theorem oc_0_7 : OkCell (mkG D cI cJ cB aK aV ms z) (0, 7) := ⟨rfl, by decide, fun _ _ h => h⟩
set_option maxRecDepth 100000 in
theorem oc_0_8 : OkCell (mkG D cI cJ cB aK aV ms z) (0, 8) := ⟨rfl, by decide, fun _ _ h => h⟩
set_option maxRecDepth 100000 in
theorem oc_0_9 : OkCell (mkG D cI cJ cB aK aV ms z) (0, 9) := ⟨rfl, by decide, fun _ _ h => h⟩
set_option maxRecDepth 100000 in
theorem oc_0_10 : OkCell (mkG D cI cJ cB aK aV ms z) (0, 10) := ⟨rfl, by decide, fun _ _ h => h⟩
set_option maxRecDepth 100000 in
theorem oc_0_11 : OkCell (mkG D cI cJ cB aK aV ms z) (0, 11) := ⟨rfl, by decide, fun _ _ h => h⟩
set_option maxRecDepth 100000 in
theorem oc_0_12 : OkCell (mkG D cI cJ cB aK aV ms z) (0, 12) := ⟨rfl, by decide, fun _ _ h => h⟩
set_option maxRecDepth 100000 in
theorem oc_1_0 : OkCell (mkG D cI cJ cB aK aV ms z) (1, 0) := ⟨rfl, by decide, fun _ _ h => h⟩
set_option maxRecDepth 100000 in
theorem oc_1_1 : OkCell (mkG D cI cJ cB aK aV ms z) (1, 1) := ⟨rfl, by decide, fun _ _ h => h⟩
set_option maxRecDepth 100000 in
theorem oc_1_2 : OkCell (mkG D cI cJ cB aK aV ms z) (1, 2) := ⟨rfl, by decide, fun _ _ h => h⟩
set_option maxRecDepth 100000 in
theorem oc_1_3 : OkCell (mkG D cI cJ cB aK aV ms z) (1, 3) := ⟨rfl, by decide, fun _ _ h => h⟩
set_option maxRecDepth 100000 in
theorem oc_1_4 : OkCell (mkG D cI cJ cB aK aV ms z) (1, 4) := ⟨rfl, by decide, fun _ _ h => h⟩
set_option maxRecDepth 100000 in
theorem oc_1_5 : OkCell (mkG D cI cJ cB aK aV ms z) (1, 5) := ⟨rfl, by decide, fun _ _ h => h⟩
set_option maxRecDepth 100000 in
theorem oc_1_6 : OkCell (mkG D cI cJ cB aK aV ms z) (1, 6) := ⟨rfl, by decide, fun _ _ h => h⟩
set_option maxRecDepth 100000 in
theorem oc_1_7 : OkCell (mkG D cI cJ cB aK aV ms z) (1, 7) := ⟨rfl, by decide, fun _ _ h => h⟩
set_option maxRecDepth 100000 in
theorem oc_1_8 : OkCell (mkG D cI cJ cB aK aV ms z) (1, 8) := ⟨rfl, by decide, fun _ _ h => h⟩
set_option maxRecDepth 100000 in
theorem oc_1_9 : OkCell (mkG D cI cJ cB aK aV ms z) (1, 9) := ⟨rfl, by decide, fun _ _ h => h⟩
set_option maxRecDepth 100000 in
theorem oc_1_10 : OkCell (mkG D cI cJ cB aK aV ms z) (1, 10) := ⟨rfl, by decide, fun _ _ h => h⟩
set_option maxRecDepth 100000 in
theorem oc_1_11 : OkCell (mkG D cI cJ cB aK aV ms z) (1, 11) := ⟨rfl, by decide, fun _ _ h => h⟩
set_option maxRecDepth 100000 in
theorem oc_1_12 : OkCell (mkG D cI cJ cB aK aV ms z) (1, 12) := ⟨rfl, by decide, fun _ _ h => h⟩
set_option maxRecDepth 100000 in
theorem oc_2_0 : OkCell (mkG D cI cJ cB aK aV ms z) (2, 0) := ⟨rfl, by decide, fun _ _ h => h⟩
set_option maxRecDepth 100000 in
theorem oc_2_1 : OkCell (mkG D cI cJ cB aK aV ms z) (2, 1) := ⟨rfl, by decide, fun _ _ h => h⟩
set_option maxRecDepth 100000 in
theorem oc_2_2 : OkCell (mkG D cI cJ cB aK aV ms z) (2, 2) := ⟨rfl, by decide, fun _ _ h => h⟩
set_option maxRecDepth 100000 in
theorem oc_2_3 : OkCell (mkG D cI cJ cB aK aV ms z) (2, 3) := ⟨rfl, by decide, fun _ _ h => h⟩
set_option maxRecDepth 100000 in
theorem oc_2_4 : OkCell (mkG D cI cJ cB aK aV ms z) (2, 4) := ⟨rfl, by decide, fun _ _ h => h⟩
set_option maxRecDepth 100000 in
theorem oc_2_5 : OkCell (mkG D cI cJ cB aK aV ms z) (2, 5) := ⟨rfl, by decide, fun _ _ h => h⟩
set_option maxRecDepth 100000 in
theorem oc_2_6 : OkCell (mkG D cI cJ cB aK aV ms z) (2, 6) := ⟨rfl, by decide, fun _ _ h => h⟩
set_option maxRecDepth 100000 in
theorem oc_2_7 : OkCell (mkG D cI cJ cB aK aV ms z) (2, 7) := ⟨rfl, by decide, fun _ _ h => h⟩
set_option maxRecDepth 100000 in
theorem oc_2_8 : OkCell (mkG D cI cJ cB aK aV ms z) (2, 8) := ⟨rfl, by decide, fun _ _ h => h⟩
set_option maxRecDepth 100000 in
theorem oc_2_9 : OkCell (mkG D cI cJ cB aK aV ms z) (2, 9) := ⟨rfl, by decide, fun _ _ h => h⟩
set_option maxRecDepth 100000 in
theorem oc_2_10 : OkCell (mkG D cI cJ cB aK aV ms z) (2, 10) := ⟨rfl, by decide, fun _ _ h => h⟩
set_option maxRecDepth 100000 in
theorem oc_2_11 : OkCell (mkG D cI cJ cB aK aV ms z) (2, 11) := ⟨rfl, by decide, fun _ _ h => h⟩
set_option maxRecDepth 100000 in
theorem oc_2_12 : OkCell (mkG D cI cJ cB aK aV ms z) (2, 12) := ⟨rfl, by decide, fun _ _ h => h⟩
set_option maxRecDepth 100000 in
theorem oc_3_0 : OkCell (mkG D cI cJ cB aK aV ms z) (3, 0) := ⟨rfl, by decide, fun _ _ h => h⟩
set_option maxRecDepth 100000 in
theorem oc_3_1 : OkCell (mkG D cI cJ cB aK aV ms z) (3, 1) := ⟨rfl, by decide, fun _ _ h => h⟩
set_option maxRecDepth 100000 in
theorem oc_3_2 : OkCell (mkG D cI cJ cB aK aV ms z) (3, 2) := ⟨rfl, by decide, fun _ _ h => h⟩
set_option maxRecDepth 100000 in
theorem oc_3_3 : OkCell (mkG D cI cJ cB aK aV ms z) (3, 3) := ⟨rfl, by decide, fun _ _ h => h⟩
set_option maxRecDepth 100000 in
theorem oc_3_4 : OkCell (mkG D cI cJ cB aK aV ms z) (3, 4) := ⟨rfl, by decide, fun _ _ h => h⟩
set_option maxRecDepth 100000 in
theorem oc_3_5 : OkCell (mkG D cI cJ cB aK aV ms z) (3, 5) := ⟨rfl, by decide, fun _ _ h => h⟩
set_option maxRecDepth 100000 in
theorem oc_3_6 : OkCell (mkG D cI cJ cB aK aV ms z) (3, 6) := ⟨rfl, by decide, fun _ _ h => h⟩
set_option maxRecDepth 100000 in
theorem oc_3_7 : OkCell (mkG D cI cJ cB aK aV ms z) (3, 7) := ⟨rfl, by decide, fun _ _ h => h⟩
set_option maxRecDepth 100000 in
theorem oc_3_8 : OkCell (mkG D cI cJ cB aK aV ms z) (3, 8) := ⟨rfl, by decide, fun _ _ h => h⟩
set_option maxRecDepth 100000 in
theorem oc_3_9 : OkCell (mkG D cI cJ cB aK aV ms z) (3, 9) := ⟨rfl, by decide, fun _ _ h => h⟩
set_option maxRecDepth 100000 in
theorem oc_3_10 : OkCell (mkG D cI cJ cB aK aV ms z) (3, 10) := ⟨rfl, by decide, fun _ _ h => h⟩
set_option maxRecDepth 100000 in
theorem oc_3_11 : OkCell (mkG D cI cJ cB aK aV ms z) (3, 11) := ⟨rfl, by decide, fun _ _ h => h⟩
set_option maxRecDepth 100000 in
theorem oc_3_12 : OkCell (mkG D cI cJ cB aK aV ms z) (3, 12) := ⟨rfl, by decide, fun _ _ h => h⟩
set_option maxRecDepth 100000 in
theorem oc_4_0 : OkCell (mkG D cI cJ cB aK aV ms z) (4, 0) := ⟨rfl, by decide, fun _ _ h => h⟩
set_option maxRecDepth 100000 in
theorem oc_4_1 : OkCell (mkG D cI cJ cB aK aV ms z) (4, 1) := ⟨rfl, by decide, fun _ _ h => h⟩
set_option maxRecDepth 100000 in
theorem oc_4_2 : OkCell (mkG D cI cJ cB aK aV ms z) (4, 2) := ⟨rfl, by decide, fun _ _ h => h⟩
set_option maxRecDepth 100000 in
theorem oc_4_3 : OkCell (mkG D cI cJ cB aK aV ms z) (4, 3) := ⟨rfl, by decide, fun _ _ h => h⟩
set_option maxRecDepth 100000 in
theorem oc_4_4 : OkCell (mkG D cI cJ cB aK aV ms z) (4, 4) := ⟨rfl, by decide, fun _ _ h => h⟩
set_option maxRecDepth 100000 in
theorem oc_4_5 : OkCell (mkG D cI cJ cB aK aV ms z) (4, 5) := ⟨rfl, by decide, fun _ _ h => h⟩
set_option maxRecDepth 100000 in
theorem oc_4_6 : OkCell (mkG D cI cJ cB aK aV ms z) (4, 6) := ⟨rfl, by decide, fun _ _ h => h⟩
set_option maxRecDepth 100000 in
theorem oc_4_7 : OkCell (mkG D cI cJ cB aK aV ms z) (4, 7) := ⟨rfl, by decide, fun _ _ h => h⟩
set_option maxRecDepth 100000 in
theorem oc_4_8 : OkCell (mkG D cI cJ cB aK aV ms z) (4, 8) := ⟨rfl, by decide, fun _ _ h => h⟩
set_option maxRecDepth 100000 in
theorem oc_4_9 : OkCell (mkG D cI cJ cB aK aV ms z) (4, 9) := ⟨rfl, by decide, fun _ _ h => h⟩
set_option maxRecDepth 100000 in
theorem oc_4_10 : OkCell (mkG D cI cJ cB aK aV ms z) (4, 10) := ⟨rfl, by decide, fun _ _ h => h⟩
set_option maxRecDepth 100000 in
theorem oc_4_11 : OkCell (mkG D cI cJ cB aK aV ms z) (4, 11) := ⟨rfl, by decide, fun _ _ h => h⟩
set_option maxRecDepth 100000 in
theorem oc_4_12 : OkCell (mkG D cI cJ cB aK aV ms z) (4, 12) := ⟨rfl, by decide, fun _ _ h => h⟩
set_option maxRecDepth 100000 in
theorem oc_5_0 : OkCell (mkG D cI cJ cB aK aV ms z) (5, 0) := ⟨rfl, by decide, fun _ _ h => h⟩
set_option maxRecDepth 100000 in
theorem oc_5_1 : OkCell (mkG D cI cJ cB aK aV ms z) (5, 1) := ⟨rfl, by decide, fun _ _ h => h⟩
set_option maxRecDepth 100000 in
theorem oc_5_2 : OkCell (mkG D cI cJ cB aK aV ms z) (5, 2) := ⟨rfl, by decide, fun _ _ h => h⟩
set_option maxRecDepth 100000 in
theorem oc_5_3 : OkCell (mkG D cI cJ cB aK aV ms z) (5, 3) := ⟨rfl, by decide, fun _ _ h => h⟩
set_option maxRecDepth 100000 in
theorem oc_5_4 : OkCell (mkG D cI cJ cB aK aV ms z) (5, 4) := ⟨rfl, by decide, fun _ _ h => h⟩
set_option maxRecDepth 100000 in
theorem oc_5_5 : OkCell (mkG D cI cJ cB aK aV ms z) (5, 5) := ⟨rfl, by decide, fun _ _ h => h⟩
set_option maxRecDepth 100000 in
theorem oc_5_6 : OkCell (mkG D cI cJ cB aK aV ms z) (5, 6) := ⟨rfl, by decide, fun _ _ h => h⟩
set_option maxRecDepth 100000 in
theorem oc_5_7 : OkCell (mkG D cI cJ cB aK aV ms z) (5, 7) := ⟨rfl, by decide, fun _ _ h => h⟩
set_option maxRecDepth 100000 in
theorem oc_5_8 : OkCell (mkG D cI cJ cB aK aV ms z) (5, 8) := ⟨rfl, by decide, fun _ _ h => h⟩
set_option maxRecDepth 100000 in
theorem oc_5_9 : OkCell (mkG D cI cJ cB aK aV ms z) (5, 9) := ⟨rfl, by decide, fun _ _ h => h⟩
set_option maxRecDepth 100000 in
theorem oc_5_10 : OkCell (mkG D cI cJ cB aK aV ms z) (5, 10) := ⟨rfl, by decide, fun _ _ h => h⟩
set_option maxRecDepth 100000 in
theorem oc_5_11 : OkCell (mkG D cI cJ cB aK aV ms z) (5, 11) := ⟨rfl, by decide, fun _ _ h => h⟩
set_option maxRecDepth 100000 in
theorem oc_5_12 : OkCell (mkG D cI cJ cB aK aV ms z) (5, 12) := ⟨rfl, by decide, fun _ _ h => h⟩
set_option maxRecDepth 100000 in
theorem oc_6_0 : OkCell (mkG D cI cJ cB aK aV ms z) (6, 0) := ⟨rfl, by decide, fun _ _ h => h⟩
set_option maxRecDepth 100000 in
theorem oc_6_1 : OkCell (mkG D cI cJ cB aK aV ms z) (6, 1) := ⟨rfl, by decide, fun _ _ h => h⟩
set_option maxRecDepth 100000 in
theorem oc_6_2 : OkCell (mkG D cI cJ cB aK aV ms z) (6, 2) := ⟨rfl, by decide, fun _ _ h => h⟩
set_option maxRecDepth 100000 in
theorem oc_6_3 : OkCell (mkG D cI cJ cB aK aV ms z) (6, 3) := ⟨rfl, by decide, fun _ _ h => h⟩
set_option maxRecDepth 100000 in
theorem oc_6_4 : OkCell (mkG D cI cJ cB aK aV ms z) (6, 4) := ⟨rfl, by decide, fun _ _ h => h⟩
set_option maxRecDepth 100000 in
theorem oc_6_5 : OkCell (mkG D cI cJ cB aK aV ms z) (6, 5) := ⟨rfl, by decide, fun _ _ h => h⟩
set_option maxRecDepth 100000 in
theorem oc_6_6 : OkCell (mkG D cI cJ cB aK aV ms z) (6, 6) := ⟨rfl, by decide, fun _ _ h => h⟩
set_option maxRecDepth 100000 in
theorem oc_6_7 : OkCell (mkG D cI cJ cB aK aV ms z) (6, 7) := ⟨rfl, by decide, fun _ _ h => h⟩
set_option maxRecDepth 100000 in
theorem oc_6_8 : OkCell (mkG D cI cJ cB aK aV ms z) (6, 8) := ⟨rfl, by decide, fun _ _ h => h⟩
set_option maxRecDepth 100000 in
theorem oc_6_9 : OkCell (mkG D cI cJ cB aK aV ms z) (6, 9) := ⟨rfl, by decide, fun _ _ h => h⟩
set_option maxRecDepth 100000 in
theorem oc_6_10 : OkCell (mkG D cI cJ cB aK aV ms z) (6, 10) := ⟨rfl, by decide, fun _ _ h => h⟩
set_option maxRecDepth 100000 in
theorem oc_6_11 : OkCell (mkG D cI cJ cB aK aV ms z) (6, 11) := ⟨rfl, by decide, fun _ _ h => h⟩
set_option maxRecDepth 100000 in
theorem oc_6_12 : OkCell (mkG D cI cJ cB aK aV ms z) (6, 12) := ⟨rfl, by decide, fun _ _ h => h⟩
set_option maxRecDepth 100000 in
theorem oc_7_0 : OkCell (mkG D cI cJ cB aK aV ms z) (7, 0) := ⟨rfl, by decide, fun _ _ h => h⟩
set_option maxRecDepth 100000 in
theorem oc_7_1 : OkCell (mkG D cI cJ cB aK aV ms z) (7, 1) := ⟨rfl, by decide, fun _ _ h => h⟩
set_option maxRecDepth 100000 in
theorem oc_7_2 : OkCell (mkG D cI cJ cB aK aV ms z) (7, 2) := ⟨rfl, by decide, fun _ _ h => h⟩
set_option maxRecDepth 100000 in
theorem oc_7_3 : OkCell (mkG D cI cJ cB aK aV ms z) (7, 3) := ⟨rfl, by decide, fun _ _ h => h⟩
set_option maxRecDepth 100000 in
theorem oc_7_4 : OkCell (mkG D cI cJ cB aK aV ms z) (7, 4) := ⟨rfl, by decide, fun _ _ h => h⟩
set_option maxRecDepth 100000 in
theorem oc_7_5 : OkCell (mkG D cI cJ cB aK aV ms z) (7, 5) := ⟨rfl, by decide, fun _ _ h => h⟩
set_option maxRecDepth 100000 in
theorem oc_7_6 : OkCell (mkG D cI cJ cB aK aV ms z) (7, 6) := ⟨rfl, by decide, fun _ _ h => h⟩
set_option maxRecDepth 100000 in
theorem oc_7_7 : OkCell (mkG D cI cJ cB aK aV ms z) (7, 7) := ⟨rfl, by decide, fun _ _ h => h⟩
set_option maxRecDepth 100000 in
theorem oc_7_8 : OkCell (mkG D cI cJ cB aK aV ms z) (7, 8) := ⟨rfl, by decide, fun _ _ h => h⟩
set_option maxRecDepth 100000 in
theorem oc_7_9 : OkCell (mkG D cI cJ cB aK aV ms z) (7, 9) := ⟨rfl, by decide, fun _ _ h => h⟩
set_option maxRecDepth 100000 in
theorem oc_7_10 : OkCell (mkG D cI cJ cB aK aV ms z) (7, 10) := ⟨rfl, by decide, fun _ _ h => h⟩
set_option maxRecDepth 100000 in
theorem oc_7_11 : OkCell (mkG D cI cJ cB aK aV ms z) (7, 11) := ⟨rfl, by decide, fun _ _ h => h⟩
set_option maxRecDepth 100000 in
theorem oc_7_12 : OkCell (mkG D cI cJ cB aK aV ms z) (7, 12) := ⟨rfl, by decide, fun _ _ h => h⟩
set_option maxRecDepth 100000 in
theorem oc_8_0 : OkCell (mkG D cI cJ cB aK aV ms z) (8, 0) := ⟨rfl, by decide, fun _ _ h => h⟩
set_option maxRecDepth 100000 in
theorem oc_9_0 : OkCell (mkG D cI cJ cB aK aV ms z) (9, 0) := ⟨rfl, by decide, fun _ _ h => h⟩
set_option maxRecDepth 100000 in
theorem oc_9_1 : OkCell (mkG D cI cJ cB aK aV ms z) (9, 1) := ⟨rfl, by decide, fun _ _ h => h⟩
set_option maxRecDepth 100000 in
theorem oc_10_0 : OkCell (mkG D cI cJ cB aK aV ms z) (10, 0) := ⟨rfl, by decide, fun _ _ h => h⟩
set_option maxRecDepth 100000 in
theorem oc_10_1 : OkCell (mkG D cI cJ cB aK aV ms z) (10, 1) := ⟨rfl, by decide, fun _ _ h => h⟩
set_option maxRecDepth 100000 in
theorem oc_11_0 : OkCell (mkG D cI cJ cB aK aV ms z) (11, 0) := ⟨rfl, by decide, fun _ _ h => h⟩
set_option maxRecDepth 100000 in
theorem oc_11_1 : OkCell (mkG D cI cJ cB aK aV ms z) (11, 1) := ⟨rfl, by decide, fun _ _ h => h⟩
set_option maxRecDepth 100000 in
theorem oc_12_0 : OkCell (mkG D cI cJ cB aK aV ms z) (12, 0) := ⟨rfl, by decide, fun _ _ h => h⟩
set_option maxRecDepth 100000 in
theorem oc_12_1 : OkCell (mkG D cI cJ cB aK aV ms z) (12, 1) := ⟨rfl, by decide, fun _ _ h => h⟩
set_option maxRecDepth 100000 in
theorem oc_13_0 : OkCell (mkG D cI cJ cB aK aV ms z) (13, 0) := ⟨rfl, by decide, fun _ _ h => h⟩
set_option maxRecDepth 100000 in
theorem oc_13_1 : OkCell (mkG D cI cJ cB aK aV ms z) (13, 1) := ⟨rfl, by decide, fun _ _ h => h⟩
set_option maxRecDepth 100000 in
theorem oc_14_0 : OkCell (mkG D cI cJ cB aK aV ms z) (14, 0) := ⟨rfl, by decide, fun _ _ h => h⟩
set_option maxRecDepth 100000 in
theorem oc_14_1 : OkCell (mkG D cI cJ cB aK aV ms z) (14, 1) := ⟨rfl, by decide, fun _ _ h => h⟩
set_option maxRecDepth 100000 in
theorem oc_15_0 : OkCell (mkG D cI cJ cB aK aV ms z) (15, 0) := ⟨rfl, by decide, fun _ _ h => h⟩
set_option maxRecDepth 100000 in
theorem oc_15_1 : OkCell (mkG D cI cJ cB aK aV ms z) (15, 1) := ⟨rfl, by decide, fun _ _ h => h⟩
set_option maxRecDepth 100000 in
theorem oc_16_0 : OkCell (mkG D cI cJ cB aK aV ms z) (16, 0) := ⟨rfl, by decide, fun _ _ h => h⟩
set_option maxRecDepth 100000 in
theorem oc_16_1 : OkCell (mkG D cI cJ cB aK aV ms z) (16, 1) := ⟨rfl, by decide, fun _ _ h => h⟩
set_option maxRecDepth 100000 in
theorem oc_17_0 : OkCell (mkG D cI cJ cB aK aV ms z) (17, 0) := ⟨rfl, by decide, fun _ _ h => h⟩
set_option maxRecDepth 100000 in
theorem oc_17_1 : OkCell (mkG D cI cJ cB aK aV ms z) (17, 1) := ⟨rfl, by decide, fun _ _ h => h⟩
set_option maxRecDepth 100000 in
theorem oc_18_0 : OkCell (mkG D cI cJ cB aK aV ms z) (18, 0) := ⟨rfl, by decide, fun _ _ h => h⟩
set_option maxRecDepth 100000 in
theorem oc_18_1 : OkCell (mkG D cI cJ cB aK aV ms z) (18, 1) := ⟨rfl, by decide, fun _ _ h => h⟩
set_option maxRecDepth 100000 in
theorem oc_19_0 : OkCell (mkG D cI cJ cB aK aV ms z) (19, 0) := ⟨rfl, by decide, fun _ _ h => h⟩
set_option maxRecDepth 100000 in
theorem oc_19_1 : OkCell (mkG D cI cJ cB aK aV ms z) (19, 1) := ⟨rfl, by decide, fun _ _ h => h⟩
set_option maxRecDepth 100000 in
theorem oc_20_0 : OkCell (mkG D cI cJ cB aK aV ms z) (20, 0) := ⟨rfl, by decide, fun _ _ h => h⟩
set_option maxRecDepth 100000 in
theorem oc_20_1 : OkCell (mkG D cI cJ cB aK aV ms z) (20, 1) := ⟨rfl, by decide, fun _ _ h => h⟩
set_option maxRecDepth 100000 in
theorem oc_21_0 : OkCell (mkG D cI cJ cB aK aV ms z) (21, 0) := ⟨rfl, by decide, fun _ _ h => h⟩
set_option maxRecDepth 100000 in
theorem oc_22_0 : OkCell (mkG D cI cJ cB aK aV ms z) (22, 0) := ⟨rfl, by decide, fun _ _ h => h⟩
set_option maxRecDepth 100000 in
theorem oc_23_0 : OkCell (mkG D cI cJ cB aK aV ms z) (23, 0) := ⟨rfl, by decide, fun _ _ h => h⟩
set_option maxRecDepth 100000 in
theorem oc_24_0 : OkCell (mkG D cI cJ cB aK aV ms z) (24, 0) := ⟨rfl, by decide, fun _ _ h => h⟩
set_option maxRecDepth 100000 in
theorem oc_24_1 : OkCell (mkG D cI cJ cB aK aV ms z) (24, 1) := ⟨rfl, by decide, fun _ _ h => h⟩
set_option maxRecDepth 100000 in
theorem oc_24_2 : OkCell (mkG D cI cJ cB aK aV ms z) (24, 2) := ⟨rfl, by decide, fun _ _ h => h⟩
set_option maxRecDepth 100000 in
theorem oc_24_3 : OkCell (mkG D cI cJ cB aK aV ms z) (24, 3) := ⟨rfl, by decide, fun _ _ h => h⟩
set_option maxRecDepth 100000 in
theorem oc_24_4 : OkCell (mkG D cI cJ cB aK aV ms z) (24, 4) := ⟨rfl, by decide, fun _ _ h => h⟩
set_option maxRecDepth 100000 in
theorem oc_24_5 : OkCell (mkG D cI cJ cB aK aV ms z) (24, 5) := ⟨rfl, by decide, fun _ _ h => h⟩
set_option maxRecDepth 100000 in
theorem oc_24_6 : OkCell (mkG D cI cJ cB aK aV ms z) (24, 6) := ⟨rfl, by decide, fun _ _ h => h⟩
set_option maxRecDepth 100000 in
theorem oc_24_7 : OkCell (mkG D cI cJ cB aK aV ms z) (24, 7) := ⟨rfl, by decide, fun _ _ h => h⟩
set_option maxRecDepth 100000 in
theorem oc_24_8 : OkCell (mkG D cI cJ cB aK aV ms z) (24, 8) := ⟨rfl, by decide, fun _ _ h => h⟩
set_option maxRecDepth 100000 in
theorem oc_24_9 : OkCell (mkG D cI cJ cB aK aV ms z) (24, 9) := ⟨rfl, by decide, fun _ _ h => h⟩
set_option maxRecDepth 100000 in
theorem oc_24_10 : OkCell (mkG D cI cJ cB aK aV ms z) (24, 10) := ⟨rfl, by decide, fun _ _ h => h⟩
set_option maxRecDepth 100000 in
theorem oc_24_11 : OkCell (mkG D cI cJ cB aK aV ms z) (24, 11) := ⟨rfl, by decide, fun _ _ h => h⟩
set_option maxRecDepth 100000 in
theorem oc_24_12 : OkCell (mkG D cI cJ cB aK aV ms z) (24, 12) := ⟨rfl, by decide, fun _ _ h => h⟩
set_option maxRecDepth 100000 in
theorem oc_24_13 : OkCell (mkG D cI cJ cB aK aV ms z) (24, 13) := ⟨rfl, by decide, fun _ _ h => h⟩
set_option maxRecDepth 100000 in
theorem oc_25_0 : OkCell (mkG D cI cJ cB aK aV ms z) (25, 0) := ⟨rfl, by decide, fun _ _ h => h⟩
set_option maxRecDepth 100000 in
theorem oc_25_1 : OkCell (mkG D cI cJ cB aK aV ms z) (25, 1) := ⟨rfl, by decide, fun _ _ h => h⟩
set_option maxRecDepth 100000 in
theorem oc_25_2 : OkCell (mkG D cI cJ cB aK aV ms z) (25, 2) := ⟨rfl, by decide, fun _ _ h => h⟩
set_option maxRecDepth 100000 in
theorem oc_25_3 : OkCell (mkG D cI cJ cB aK aV ms z) (25, 3) := ⟨rfl, by decide, fun _ _ h => h⟩
set_option maxRecDepth 100000 in
theorem oc_25_4 : OkCell (mkG D cI cJ cB aK aV ms z) (25, 4) := ⟨rfl, by decide, fun _ _ h => h⟩
set_option maxRecDepth 100000 in
theorem oc_25_5 : OkCell (mkG D cI cJ cB aK aV ms z) (25, 5) := ⟨rfl, by decide, fun _ _ h => h⟩
set_option maxRecDepth 100000 in
theorem oc_25_6 : OkCell (mkG D cI cJ cB aK aV ms z) (25, 6) := ⟨rfl, by decide, fun _ _ h => h⟩
set_option maxRecDepth 100000 in
theorem oc_25_7 : OkCell (mkG D cI cJ cB aK aV ms z) (25, 7) := ⟨rfl, by decide, fun _ _ h => h⟩
set_option maxRecDepth 100000 in
theorem oc_25_8 : OkCell (mkG D cI cJ cB aK aV ms z) (25, 8) := ⟨rfl, by decide, fun _ _ h => h⟩
set_option maxRecDepth 100000 in
theorem oc_25_9 : OkCell (mkG D cI cJ cB aK aV ms z) (25, 9) := ⟨rfl, by decide, fun _ _ h => h⟩
set_option maxRecDepth 100000 in
theorem oc_25_10 : OkCell (mkG D cI cJ cB aK aV ms z) (25, 10) := ⟨rfl, by decide, fun _ _ h => h⟩
set_option maxRecDepth 100000 in
theorem oc_25_11 : OkCell (mkG D cI cJ cB aK aV ms z) (25, 11) := ⟨rfl, by decide, fun _ _ h => h⟩
set_option maxRecDepth 100000 in
theorem oc_25_12 : OkCell (mkG D cI cJ cB aK aV ms z) (25, 12) := ⟨rfl, by decide, fun _ _ h => h⟩
set_option maxRecDepth 100000 in
theorem oc_25_13 : OkCell (mkG D cI cJ cB aK aV ms z) (25, 13) := ⟨rfl, by decide, fun _ _ h => h⟩
set_option maxRecDepth 100000 in
theorem oc_26_0 : OkCell (mkG D cI cJ cB aK aV ms z) (26, 0) := ⟨rfl, by decide, fun _ _ h => h⟩
set_option maxRecDepth 100000 in
theorem oc_26_1 : OkCell (mkG D cI cJ cB aK aV ms z) (26, 1) := ⟨rfl, by decide, fun _ _ h => h⟩
set_option maxRecDepth 100000 in
theorem oc_26_2 : OkCell (mkG D cI cJ cB aK aV ms z) (26, 2) := ⟨rfl, by decide, fun _ _ h => h⟩
set_option maxRecDepth 100000 in
theorem oc_26_3 : OkCell (mkG D cI cJ cB aK aV ms z) (26, 3) := ⟨rfl, by decide, fun _ _ h => h⟩
set_option maxRecDepth 100000 in
theorem oc_26_4 : OkCell (mkG D cI cJ cB aK aV ms z) (26, 4) := ⟨rfl, by decide, fun _ _ h => h⟩
set_option maxRecDepth 100000 in
theorem oc_26_5 : OkCell (mkG D cI cJ cB aK aV ms z) (26, 5) := ⟨rfl, by decide, fun _ _ h => h⟩
set_option maxRecDepth 100000 in
theorem oc_26_6 : OkCell (mkG D cI cJ cB aK aV ms z) (26, 6) := ⟨rfl, by decide, fun _ _ h => h⟩
set_option maxRecDepth 100000 in
theorem oc_26_7 : OkCell (mkG D cI cJ cB aK aV ms z) (26, 7) := ⟨rfl, by decide, fun _ _ h => h⟩
set_option maxRecDepth 100000 in
theorem oc_26_8 : OkCell (mkG D cI cJ cB aK aV ms z) (26, 8) := ⟨rfl, by decide, fun _ _ h => h⟩
set_option maxRecDepth 100000 in
theorem oc_26_9 : OkCell (mkG D cI cJ cB aK aV ms z) (26, 9) := ⟨rfl, by decide, fun _ _ h => h⟩
set_option maxRecDepth 100000 in
theorem oc_26_10 : OkCell (mkG D cI cJ cB aK aV ms z) (26, 10) := ⟨rfl, by decide, fun _ _ h => h⟩
set_option maxRecDepth 100000 in
theorem oc_26_11 : OkCell (mkG D cI cJ cB aK aV ms z) (26, 11) := ⟨rfl, by decide, fun _ _ h => h⟩
set_option maxRecDepth 100000 in
theorem oc_26_12 : OkCell (mkG D cI cJ cB aK aV ms z) (26, 12) := ⟨rfl, by decide, fun _ _ h => h⟩
set_option maxRecDepth 100000 in
theorem oc_26_13 : OkCell (mkG D cI cJ cB aK aV ms z) (26, 13) := ⟨rfl, by decide, fun _ _ h => h⟩
set_option maxRecDepth 100000 in
theorem oc_27_0 : OkCell (mkG D cI cJ cB aK aV ms z) (27, 0) := ⟨rfl, by decide, fun _ _ h => h⟩
set_option maxRecDepth 100000 in
theorem oc_27_1 : OkCell (mkG D cI cJ cB aK aV ms z) (27, 1) := ⟨rfl, by decide, fun _ _ h => h⟩
set_option maxRecDepth 100000 in
theorem oc_27_2 : OkCell (mkG D cI cJ cB aK aV ms z) (27, 2) := ⟨rfl, by decide, fun _ _ h => h⟩
set_option maxRecDepth 100000 in
theorem oc_27_3 : OkCell (mkG D cI cJ cB aK aV ms z) (27, 3) := ⟨rfl, by decide, fun _ _ h => h⟩
set_option maxRecDepth 100000 in
theorem oc_27_4 : OkCell (mkG D cI cJ cB aK aV ms z) (27, 4) := ⟨rfl, by decide, fun _ _ h => h⟩
set_option maxRecDepth 100000 in
theorem oc_27_5 : OkCell (mkG D cI cJ cB aK aV ms z) (27, 5) := ⟨rfl, by decide, fun _ _ h => h⟩
set_option maxRecDepth 100000 in
theorem oc_27_6 : OkCell (mkG D cI cJ cB aK aV ms z) (27, 6) := ⟨rfl, by decide, fun _ _ h => h⟩
set_option maxRecDepth 100000 in
theorem oc_27_7 : OkCell (mkG D cI cJ cB aK aV ms z) (27, 7) := ⟨rfl, by decide, fun _ _ h => h⟩
set_option maxRecDepth 100000 in
theorem oc_27_8 : OkCell (mkG D cI cJ cB aK aV ms z) (27, 8) := ⟨rfl, by decide, fun _ _ h => h⟩
set_option maxRecDepth 100000 in
theorem oc_27_9 : OkCell (mkG D cI cJ cB aK aV ms z) (27, 9) := ⟨rfl, by decide, fun _ _ h => h⟩
set_option maxRecDepth 100000 in
theorem oc_27_10 : OkCell (mkG D cI cJ cB aK aV ms z) (27, 10) := ⟨rfl, by decide, fun _ _ h => h⟩
set_option maxRecDepth 100000 in
theorem oc_27_11 : OkCell (mkG D cI cJ cB aK aV ms z) (27, 11) := ⟨rfl, by decide, fun _ _ h => h⟩
set_option maxRecDepth 100000 in
theorem oc_27_12 : OkCell (mkG D cI cJ cB aK aV ms z) (27, 12) := ⟨rfl, by decide, fun _ _ h => h⟩
set_option maxRecDepth 100000 in
theorem oc_27_13 : OkCell (mkG D cI cJ cB aK aV ms z) (27, 13) := ⟨rfl, by decide, fun _ _ h => h⟩
set_option maxRecDepth 100000 in
theorem oc_28_0 : OkCell (mkG D cI cJ cB aK aV ms z) (28, 0) := ⟨rfl, by decide, fun _ _ h => h⟩
set_option maxRecDepth 100000 in
theorem oc_29_0 : OkCell (mkG D cI cJ cB aK aV ms z) (29, 0) := ⟨rfl, by decide, fun _ _ h => h⟩
set_option maxRecDepth 100000 in
theorem oc_30_0 : OkCell (mkG D cI cJ cB aK aV ms z) (30, 0) := ⟨rfl, by decide, fun _ _ h => h⟩
set_option maxRecDepth 100000 in
theorem oc_31_0 : OkCell (mkG D cI cJ cB aK aV ms z) (31, 0) := ⟨rfl, by decide, fun _ _ h => h⟩
set_option maxRecDepth 100000 in
theorem oc_32_0 : OkCell (mkG D cI cJ cB aK aV ms z) (32, 0) := ⟨rfl, by decide, fun _ _ h => h⟩
set_option maxRecDepth 100000 in
theorem oc_33_0 : OkCell (mkG D cI cJ cB aK aV ms z) (33, 0) := ⟨rfl, by decide, fun _ _ h => h⟩
set_option maxRecDepth 100000 in
theorem oc_34_0 : OkCell (mkG D cI cJ cB aK aV ms z) (34, 0) := ⟨rfl, by decide, fun _ _ h => h⟩
set_option maxRecDepth 100000 in
theorem oc_35_0 : OkCell (mkG D cI cJ cB aK aV ms z) (35, 0) := ⟨rfl, by decide, fun _ _ h => h⟩
set_option maxRecDepth 100000 in
theorem oc_36_0 : OkCell (mkG D cI cJ cB aK aV ms z) (36, 0) := ⟨rfl, by decide, fun _ _ h => h⟩
set_option maxRecDepth 100000 in
theorem oc_37_0 : OkCell (mkG D cI cJ cB aK aV ms z) (37, 0) := ⟨rfl, by decide, fun _ _ h => h⟩
set_option maxRecDepth 100000 in
theorem oc_38_0 : OkCell (mkG D cI cJ cB aK aV ms z) (38, 0) := ⟨rfl, by decide, fun _ _ h => h⟩
set_option maxRecDepth 100000 in
theorem oc_39_0 : OkCell (mkG D cI cJ cB aK aV ms z) (39, 0) := ⟨rfl, by decide, fun _ _ h => h⟩
set_option maxRecDepth 100000 in
theorem oc_40_0 : OkCell (mkG D cI cJ cB aK aV ms z) (40, 0) := ⟨rfl, by decide, fun _ _ h => h⟩
set_option maxRecDepth 100000 in
theorem oc_41_0 : OkCell (mkG D cI cJ cB aK aV ms z) (41, 0) := ⟨rfl, by decide, fun _ _ h => h⟩
set_option maxRecDepth 100000 in
theorem oc_42_0 : OkCell (mkG D cI cJ cB aK aV ms z) (42, 0) := ⟨rfl, by decide, fun _ _ h => h⟩
set_option maxRecDepth 100000 in
theorem oc_43_0 : OkCell (mkG D cI cJ cB aK aV ms z) (43, 0) := ⟨rfl, by decide, fun _ _ h => h⟩
set_option maxRecDepth 100000 in
theorem oc_44_0 : OkCell (mkG D cI cJ cB aK aV ms z) (44, 0) := ⟨rfl, by decide, fun _ _ h => h⟩
set_option maxRecDepth 100000 in
theorem oc_45_0 : OkCell (mkG D cI cJ cB aK aV ms z) (45, 0) := ⟨rfl, by decide, fun _ _ h => h⟩
set_option maxRecDepth 100000 in
theorem oc_46_0 : OkCell (mkG D cI cJ cB aK aV ms z) (46, 0) := ⟨rfl, by decide, fun _ _ h => h⟩
set_option maxRecDepth 100000 in
theorem oc_47_0 : OkCell (mkG D cI cJ cB aK aV ms z) (47, 0) := ⟨rfl, by decide, fun _ _ h => h⟩
set_option maxRecDepth 100000 in
theorem oc_48_0 : OkCell (mkG D cI cJ cB aK aV ms z) (48, 0) := ⟨rfl, by decide, fun _ _ h => h⟩
set_option maxRecDepth 100000 in
theorem oc_100_0 : OkCell (mkG D cI cJ cB aK aV ms z) (100, 0) := ⟨rfl, by decide, fun _ _ h => h⟩
set_option maxRecDepth 100000 in
theorem oc_101_0 : OkCell (mkG D cI cJ cB aK aV ms z) (101, 0) := ⟨rfl, by decide, fun _ _ h => h⟩
set_option maxRecDepth 100000 in
theorem oc_102_0 : OkCell (mkG D cI cJ cB aK aV ms z) (102, 0) := ⟨rfl, by decide, fun _ _ h => h⟩
set_option maxRecDepth 100000 in
theorem oc_103_0 : OkCell (mkG D cI cJ cB aK aV ms z) (103, 0) := ⟨rfl, by decide, fun _ _ h => h⟩
set_option maxRecDepth 100000 in
theorem oc_104_0 : OkCell (mkG D cI cJ cB aK aV ms z) (104, 0) := ⟨rfl, by decide, fun _ _ h => h⟩
set_option maxRecDepth 100000 in
theorem oc_105_0 : OkCell (mkG D cI cJ cB aK aV ms z) (105, 0) := ⟨rfl, by decide, fun _ _ h => h⟩
set_option maxRecDepth 100000 in
theorem bk_at : ∀ j, j < 12 → va_rf (hiF (mkG D cI cJ cB aK aV ms z) 25 12 j) = va_rf (some (ga (mkG D cI cJ cB aK aV ms z) 121 (j + 1))) := by
  intro j hj
  match j, hj with
  | 0, _ => rfl
  | 1, _ => rfl
  | 2, _ => rfl
  | 3, _ => rfl
  | 4, _ => rfl
  | 5, _ => rfl
  | 6, _ => rfl
  | 7, _ => rfl
  | 8, _ => rfl
  | 9, _ => rfl
  | 10, _ => rfl
  | 11, _ => rfl
set_option maxRecDepth 100000 in
theorem oc_120_0 : OkCell (mkG D cI cJ cB aK aV ms z) (120, 0) := ⟨rfl, by decide, fun a H h => by
  have h : H[a]? = some (arrV cB 12 fun j => va_rf (hiF (mkG D cI cJ cB aK aV ms z) 25 12 j)) := h
  show H[a]? = some (arrV cB 12 fun j => va_rf (some (ga (mkG D cI cJ cB aK aV ms z) 121 (j + 1))))
  rw [h]
  exact congrArg some (arrV_congr (bk_at D cI cJ cB aK aV ms z))⟩
set_option maxRecDepth 100000 in
theorem oc_121_0 : OkCell (mkG D cI cJ cB aK aV ms z) (121, 0) := ⟨rfl, by decide, fun _ _ h => h⟩
set_option maxRecDepth 100000 in
theorem oc_121_1 : OkCell (mkG D cI cJ cB aK aV ms z) (121, 1) := ⟨rfl, by decide, fun _ _ h => h⟩
set_option maxRecDepth 100000 in
theorem oc_121_2 : OkCell (mkG D cI cJ cB aK aV ms z) (121, 2) := ⟨rfl, by decide, fun _ _ h => h⟩
set_option maxRecDepth 100000 in
theorem oc_121_3 : OkCell (mkG D cI cJ cB aK aV ms z) (121, 3) := ⟨rfl, by decide, fun _ _ h => h⟩
set_option maxRecDepth 100000 in
theorem oc_121_4 : OkCell (mkG D cI cJ cB aK aV ms z) (121, 4) := ⟨rfl, by decide, fun _ _ h => h⟩
set_option maxRecDepth 100000 in
theorem oc_121_5 : OkCell (mkG D cI cJ cB aK aV ms z) (121, 5) := ⟨rfl, by decide, fun _ _ h => h⟩
set_option maxRecDepth 100000 in
theorem oc_121_6 : OkCell (mkG D cI cJ cB aK aV ms z) (121, 6) := ⟨rfl, by decide, fun _ _ h => h⟩
set_option maxRecDepth 100000 in
theorem oc_121_7 : OkCell (mkG D cI cJ cB aK aV ms z) (121, 7) := ⟨rfl, by decide, fun _ _ h => h⟩
set_option maxRecDepth 100000 in
theorem oc_121_8 : OkCell (mkG D cI cJ cB aK aV ms z) (121, 8) := ⟨rfl, by decide, fun _ _ h => h⟩
set_option maxRecDepth 100000 in
theorem oc_121_9 : OkCell (mkG D cI cJ cB aK aV ms z) (121, 9) := ⟨rfl, by decide, fun _ _ h => h⟩
set_option maxRecDepth 100000 in
theorem oc_121_10 : OkCell (mkG D cI cJ cB aK aV ms z) (121, 10) := ⟨rfl, by decide, fun _ _ h => h⟩
set_option maxRecDepth 100000 in
theorem oc_121_11 : OkCell (mkG D cI cJ cB aK aV ms z) (121, 11) := ⟨rfl, by decide, fun _ _ h => h⟩
set_option maxRecDepth 100000 in
theorem oc_121_12 : OkCell (mkG D cI cJ cB aK aV ms z) (121, 12) := ⟨rfl, by decide, fun _ _ h => h⟩
set_option maxRecDepth 100000 in
theorem oc_122_0 : OkCell (mkG D cI cJ cB aK aV ms z) (122, 0) := ⟨rfl, by decide, fun _ _ h => h⟩
set_option maxRecDepth 100000 in
theorem oc_123_0 : OkCell (mkG D cI cJ cB aK aV ms z) (123, 0) := ⟨rfl, by decide, fun _ _ h => h⟩
set_option maxRecDepth 100000 in
theorem oc_124_0 : OkCell (mkG D cI cJ cB aK aV ms z) (124, 0) := ⟨rfl, by decide, fun _ _ h => h⟩
set_option maxRecDepth 100000 in
theorem oc_124_1 : OkCell (mkG D cI cJ cB aK aV ms z) (124, 1) := ⟨rfl, by decide, fun _ _ h => h⟩
set_option maxRecDepth 100000 in
theorem oc_125_0 : OkCell (mkG D cI cJ cB aK aV ms z) (125, 0) := ⟨rfl, by decide, fun _ _ h => h⟩
set_option maxRecDepth 100000 in
theorem oc_126_0 : OkCell (mkG D cI cJ cB aK aV ms z) (126, 0) := ⟨rfl, by decide, fun _ _ h => h⟩
set_option maxRecDepth 100000 in
theorem oc_126_1 : OkCell (mkG D cI cJ cB aK aV ms z) (126, 1) := ⟨rfl, by decide, fun _ _ h => h⟩
set_option maxRecDepth 100000 in
theorem oc_127_0 : OkCell (mkG D cI cJ cB aK aV ms z) (127, 0) := ⟨rfl, by decide, fun _ _ h => h⟩
set_option maxRecDepth 100000 in
theorem oc_128_0 : OkCell (mkG D cI cJ cB aK aV ms z) (128, 0) := ⟨rfl, by decide, fun _ _ h => h⟩
set_option maxRecDepth 100000 in
theorem oc_129_0 : OkCell (mkG D cI cJ cB aK aV ms z) (129, 0) := ⟨rfl, by decide, fun _ _ h => h⟩
set_option maxRecDepth 100000 in
theorem oc_129_1 : OkCell (mkG D cI cJ cB aK aV ms z) (129, 1) := ⟨rfl, by decide, fun _ _ h => h⟩
set_option maxRecDepth 100000 in
theorem oc_129_2 : OkCell (mkG D cI cJ cB aK aV ms z) (129, 2) := ⟨rfl, by decide, fun _ _ h => h⟩
set_option maxRecDepth 100000 in
theorem oc_129_3 : OkCell (mkG D cI cJ cB aK aV ms z) (129, 3) := ⟨rfl, by decide, fun _ _ h => h⟩
set_option maxRecDepth 100000 in
theorem oc_129_4 : OkCell (mkG D cI cJ cB aK aV ms z) (129, 4) := ⟨rfl, by decide, fun _ _ h => h⟩
set_option maxRecDepth 100000 in
theorem oc_129_5 : OkCell (mkG D cI cJ cB aK aV ms z) (129, 5) := ⟨rfl, by decide, fun _ _ h => h⟩
set_option maxRecDepth 100000 in
theorem oc_129_6 : OkCell (mkG D cI cJ cB aK aV ms z) (129, 6) := ⟨rfl, by decide, fun _ _ h => h⟩
set_option maxRecDepth 100000 in
theorem oc_129_7 : OkCell (mkG D cI cJ cB aK aV ms z) (129, 7) := ⟨rfl, by decide, fun _ _ h => h⟩
set_option maxRecDepth 100000 in
theorem oc_129_8 : OkCell (mkG D cI cJ cB aK aV ms z) (129, 8) := ⟨rfl, by decide, fun _ _ h => h⟩
set_option maxRecDepth 100000 in
theorem oc_129_9 : OkCell (mkG D cI cJ cB aK aV ms z) (129, 9) := ⟨rfl, by decide, fun _ _ h => h⟩
set_option maxRecDepth 100000 in
theorem oc_129_10 : OkCell (mkG D cI cJ cB aK aV ms z) (129, 10) := ⟨rfl, by decide, fun _ _ h => h⟩
set_option maxRecDepth 100000 in
theorem oc_129_11 : OkCell (mkG D cI cJ cB aK aV ms z) (129, 11) := ⟨rfl, by decide, fun _ _ h => h⟩
set_option maxRecDepth 100000 in
theorem oc_129_12 : OkCell (mkG D cI cJ cB aK aV ms z) (129, 12) := ⟨rfl, by decide, fun _ _ h => h⟩
set_option maxRecDepth 100000 in
theorem oc_129_13 : OkCell (mkG D cI cJ cB aK aV ms z) (129, 13) := ⟨rfl, by decide, fun _ _ h => h⟩
set_option maxRecDepth 100000 in
theorem oc_130_0 : OkCell (mkG D cI cJ cB aK aV ms z) (130, 0) := ⟨rfl, by decide, fun _ _ h => h⟩
set_option maxRecDepth 100000 in
theorem oc_131_0 : OkCell (mkG D cI cJ cB aK aV ms z) (131, 0) := ⟨rfl, by decide, fun _ _ h => h⟩
set_option maxRecDepth 100000 in
theorem ocs_0 : ∀ q ∈ [(0, 0), (0, 1), (0, 2), (0, 3), (0, 4), (0, 5), (0, 6), (0, 7), (0, 8), (0, 9), (0, 10), (0, 11), (0, 12), (1, 0), (1, 1), (1, 2), (1, 3), (1, 4), (1, 5), (1, 6), (1, 7), (1, 8), (1, 9), (1, 10), (1, 11), (1, 12), (2, 0), (2, 1), (2, 2), (2, 3), (2, 4), (2, 5)], OkCell (mkG D cI cJ cB aK aV ms z) q := List.forall_mem_cons.mpr ⟨oc_0_0 D cI cJ cB aK aV ms z, List.forall_mem_cons.mpr ⟨oc_0_1 D cI cJ cB aK aV ms z, List.forall_mem_cons.mpr ⟨oc_0_2 D cI cJ cB aK aV ms z, List.forall_mem_cons.mpr ⟨oc_0_3 D cI cJ cB aK aV ms z, List.forall_mem_cons.mpr ⟨oc_0_4 D cI cJ cB aK aV ms z, List.forall_mem_cons.mpr ⟨oc_0_5 D cI cJ cB aK aV ms z, List.forall_mem_cons.mpr ⟨oc_0_6 D cI cJ cB aK aV ms z, List.forall_mem_cons.mpr ⟨oc_0_7 D cI cJ cB aK aV ms z, List.forall_mem_cons.mpr ⟨oc_0_8 D cI cJ cB aK aV ms z, List.forall_mem_cons.mpr ⟨oc_0_9 D cI cJ cB aK aV ms z, List.forall_mem_cons.mpr ⟨oc_0_10 D cI cJ cB aK aV ms z, List.forall_mem_cons.mpr ⟨oc_0_11 D cI cJ cB aK aV ms z, List.forall_mem_cons.mpr ⟨oc_0_12 D cI cJ cB aK aV ms z, List.forall_mem_cons.mpr ⟨oc_1_0 D cI cJ cB aK aV ms z, List.forall_mem_cons.mpr ⟨oc_1_1 D cI cJ cB aK aV ms z, List.forall_mem_cons.mpr ⟨oc_1_2 D cI cJ cB aK aV ms z, List.forall_mem_cons.mpr ⟨oc_1_3 D cI cJ cB aK aV ms z, List.forall_mem_cons.mpr ⟨oc_1_4 D cI cJ cB aK aV ms z, List.forall_mem_cons.mpr ⟨oc_1_5 D cI cJ cB aK aV ms z, List.forall_mem_cons.mpr ⟨oc_1_6 D cI cJ cB aK aV ms z, List.forall_mem_cons.mpr ⟨oc_1_7 D cI cJ cB aK aV ms z, List.forall_mem_cons.mpr ⟨oc_1_8 D cI cJ cB aK aV ms z, List.forall_mem_cons.mpr ⟨oc_1_9 D cI cJ cB aK aV ms z, List.forall_mem_cons.mpr ⟨oc_1_10 D cI cJ cB aK aV ms z, List.forall_mem_cons.mpr ⟨oc_1_11 D cI cJ cB aK aV ms z, List.forall_mem_cons.mpr ⟨oc_1_12 D cI cJ cB aK aV ms z, List.forall_mem_cons.mpr ⟨oc_2_0 D cI cJ cB aK aV ms z, List.forall_mem_cons.mpr ⟨oc_2_1 D cI cJ cB aK aV ms z, List.forall_mem_cons.mpr ⟨oc_2_2 D cI cJ cB aK aV ms z, List.forall_mem_cons.mpr ⟨oc_2_3 D cI cJ cB aK aV ms z, List.forall_mem_cons.mpr ⟨oc_2_4 D cI cJ cB aK aV ms z, List.forall_mem_cons.mpr ⟨oc_2_5 D cI cJ cB aK aV ms z, fun _ h => absurd h List.not_mem_nil⟩⟩⟩⟩⟩⟩⟩⟩⟩⟩⟩⟩⟩⟩⟩⟩⟩⟩⟩⟩⟩⟩⟩⟩⟩⟩⟩⟩⟩⟩⟩⟩
set_option maxRecDepth 100000 in
theorem ocs_1 : ∀ q ∈ [(2, 6), (2, 7), (2, 8), (2, 9), (2, 10), (2, 11), (2, 12), (3, 0), (3, 1), (3, 2), (3, 3), (3, 4), (3, 5), (3, 6), (3, 7), (3, 8), (3, 9), (3, 10), (3, 11), (3, 12), (4, 0), (4, 1), (4, 2), (4, 3), (4, 4), (4, 5), (4, 6), (4, 7), (4, 8), (4, 9), (4, 10), (4, 11)], OkCell (mkG D cI cJ cB aK aV ms z) q := List.forall_mem_cons.mpr ⟨oc_2_6 D cI cJ cB aK aV ms z, List.forall_mem_cons.mpr ⟨oc_2_7 D cI cJ cB aK aV ms z, List.forall_mem_cons.mpr ⟨oc_2_8 D cI cJ cB aK aV ms z, List.forall_mem_cons.mpr ⟨oc_2_9 D cI cJ cB aK aV ms z, List.forall_mem_cons.mpr ⟨oc_2_10 D cI cJ cB aK aV ms z, List.forall_mem_cons.mpr ⟨oc_2_11 D cI cJ cB aK aV ms z, List.forall_mem_cons.mpr ⟨oc_2_12 D cI cJ cB aK aV ms z, List.forall_mem_cons.mpr ⟨oc_3_0 D cI cJ cB aK aV ms z, List.forall_mem_cons.mpr ⟨oc_3_1 D cI cJ cB aK aV ms z, List.forall_mem_cons.mpr ⟨oc_3_2 D cI cJ cB aK aV ms z, List.forall_mem_cons.mpr ⟨oc_3_3 D cI cJ cB aK aV ms z, List.forall_mem_cons.mpr ⟨oc_3_4 D cI cJ cB aK aV ms z, List.forall_mem_cons.mpr ⟨oc_3_5 D cI cJ cB aK aV ms z, List.forall_mem_cons.mpr ⟨oc_3_6 D cI cJ cB aK aV ms z, List.forall_mem_cons.mpr ⟨oc_3_7 D cI cJ cB aK aV ms z, List.forall_mem_cons.mpr ⟨oc_3_8 D cI cJ cB aK aV ms z, List.forall_mem_cons.mpr ⟨oc_3_9 D cI cJ cB aK aV ms z, List.forall_mem_cons.mpr ⟨oc_3_10 D cI cJ cB aK aV ms z, List.forall_mem_cons.mpr ⟨oc_3_11 D cI cJ cB aK aV ms z, List.forall_mem_cons.mpr ⟨oc_3_12 D cI cJ cB aK aV ms z, List.forall_mem_cons.mpr ⟨oc_4_0 D cI cJ cB aK aV ms z, List.forall_mem_cons.mpr ⟨oc_4_1 D cI cJ cB aK aV ms z, List.forall_mem_cons.mpr ⟨oc_4_2 D cI cJ cB aK aV ms z, List.forall_mem_cons.mpr ⟨oc_4_3 D cI cJ cB aK aV ms z, List.forall_mem_cons.mpr ⟨oc_4_4 D cI cJ cB aK aV ms z, List.forall_mem_cons.mpr ⟨oc_4_5 D cI cJ cB aK aV ms z, List.forall_mem_cons.mpr ⟨oc_4_6 D cI cJ cB aK aV ms z, List.forall_mem_cons.mpr ⟨oc_4_7 D cI cJ cB aK aV ms z, List.forall_mem_cons.mpr ⟨oc_4_8 D cI cJ cB aK aV ms z, List.forall_mem_cons.mpr ⟨oc_4_9 D cI cJ cB aK aV ms z, List.forall_mem_cons.mpr ⟨oc_4_10 D cI cJ cB aK aV ms z, List.forall_mem_cons.mpr ⟨oc_4_11 D cI cJ cB aK aV ms z, fun _ h => absurd h List.not_mem_nil⟩⟩⟩⟩⟩⟩⟩⟩⟩⟩⟩⟩⟩⟩⟩⟩⟩⟩⟩⟩⟩⟩⟩⟩⟩⟩⟩⟩⟩⟩⟩⟩
set_option maxRecDepth 100000 in
theorem ocs_2 : ∀ q ∈ [(4, 12), (5, 0), (5, 1), (5, 2), (5, 3), (5, 4), (5, 5), (5, 6), (5, 7), (5, 8), (5, 9), (5, 10), (5, 11), (5, 12), (6, 0), (6, 1), (6, 2), (6, 3), (6, 4), (6, 5), (6, 6), (6, 7), (6, 8), (6, 9), (6, 10), (6, 11), (6, 12), (7, 0), (7, 1), (7, 2), (7, 3), (7, 4)], OkCell (mkG D cI cJ cB aK aV ms z) q := List.forall_mem_cons.mpr ⟨oc_4_12 D cI cJ cB aK aV ms z, List.forall_mem_cons.mpr ⟨oc_5_0 D cI cJ cB aK aV ms z, List.forall_mem_cons.mpr ⟨oc_5_1 D cI cJ cB aK aV ms z, List.forall_mem_cons.mpr ⟨oc_5_2 D cI cJ cB aK aV ms z, List.forall_mem_cons.mpr ⟨oc_5_3 D cI cJ cB aK aV ms z, List.forall_mem_cons.mpr ⟨oc_5_4 D cI cJ cB aK aV ms z, List.forall_mem_cons.mpr ⟨oc_5_5 D cI cJ cB aK aV ms z, List.forall_mem_cons.mpr ⟨oc_5_6 D cI cJ cB aK aV ms z, List.forall_mem_cons.mpr ⟨oc_5_7 D cI cJ cB aK aV ms z, List.forall_mem_cons.mpr ⟨oc_5_8 D cI cJ cB aK aV ms z, List.forall_mem_cons.mpr ⟨oc_5_9 D cI cJ cB aK aV ms z, List.forall_mem_cons.mpr ⟨oc_5_10 D cI cJ cB aK aV ms z, List.forall_mem_cons.mpr ⟨oc_5_11 D cI cJ cB aK aV ms z, List.forall_mem_cons.mpr ⟨oc_5_12 D cI cJ cB aK aV ms z, List.forall_mem_cons.mpr ⟨oc_6_0 D cI cJ cB aK aV ms z, List.forall_mem_cons.mpr ⟨oc_6_1 D cI cJ cB aK aV ms z, List.forall_mem_cons.mpr ⟨oc_6_2 D cI cJ cB aK aV ms z, List.forall_mem_cons.mpr ⟨oc_6_3 D cI cJ cB aK aV ms z, List.forall_mem_cons.mpr ⟨oc_6_4 D cI cJ cB aK aV ms z, List.forall_mem_cons.mpr ⟨oc_6_5 D cI cJ cB aK aV ms z, List.forall_mem_cons.mpr ⟨oc_6_6 D cI cJ cB aK aV ms z, List.forall_mem_cons.mpr ⟨oc_6_7 D cI cJ cB aK aV ms z, List.forall_mem_cons.mpr ⟨oc_6_8 D cI cJ cB aK aV ms z, List.forall_mem_cons.mpr ⟨oc_6_9 D cI cJ cB aK aV ms z, List.forall_mem_cons.mpr ⟨oc_6_10 D cI cJ cB aK aV ms z, List.forall_mem_cons.mpr ⟨oc_6_11 D cI cJ cB aK aV ms z, List.forall_mem_cons.mpr ⟨oc_6_12 D cI cJ cB aK aV ms z, List.forall_mem_cons.mpr ⟨oc_7_0 D cI cJ cB aK aV ms z, List.forall_mem_cons.mpr ⟨oc_7_1 D cI cJ cB aK aV ms z, List.forall_mem_cons.mpr ⟨oc_7_2 D cI cJ cB aK aV ms z, List.forall_mem_cons.mpr ⟨oc_7_3 D cI cJ cB aK aV ms z, List.forall_mem_cons.mpr ⟨oc_7_4 D cI cJ cB aK aV ms z, fun _ h => absurd h List.not_mem_nil⟩⟩⟩⟩⟩⟩⟩⟩⟩⟩⟩⟩⟩⟩⟩⟩⟩⟩⟩⟩⟩⟩⟩⟩⟩⟩⟩⟩⟩⟩⟩⟩
set_option maxRecDepth 100000 in
theorem ocs_3 : ∀ q ∈ [(7, 5), (7, 6), (7, 7), (7, 8), (7, 9), (7, 10), (7, 11), (7, 12), (8, 0), (9, 0), (9, 1), (10, 0), (10, 1), (11, 0), (11, 1), (12, 0), (12, 1), (13, 0), (13, 1), (14, 0), (14, 1), (15, 0), (15, 1), (16, 0), (16, 1), (17, 0), (17, 1), (18, 0), (18, 1), (19, 0), (19, 1), (20, 0)], OkCell (mkG D cI cJ cB aK aV ms z) q := List.forall_mem_cons.mpr ⟨oc_7_5 D cI cJ cB aK aV ms z, List.forall_mem_cons.mpr ⟨oc_7_6 D cI cJ cB aK aV ms z, List.forall_mem_cons.mpr ⟨oc_7_7 D cI cJ cB aK aV ms z, List.forall_mem_cons.mpr ⟨oc_7_8 D cI cJ cB aK aV ms z, List.forall_mem_cons.mpr ⟨oc_7_9 D cI cJ cB aK aV ms z, List.forall_mem_cons.mpr ⟨oc_7_10 D cI cJ cB aK aV ms z, List.forall_mem_cons.mpr ⟨oc_7_11 D cI cJ cB aK aV ms z, List.forall_mem_cons.mpr ⟨oc_7_12 D cI cJ cB aK aV ms z, List.forall_mem_cons.mpr ⟨oc_8_0 D cI cJ cB aK aV ms z, List.forall_mem_cons.mpr ⟨oc_9_0 D cI cJ cB aK aV ms z, List.forall_mem_cons.mpr ⟨oc_9_1 D cI cJ cB aK aV ms z, List.forall_mem_cons.mpr ⟨oc_10_0 D cI cJ cB aK aV ms z, List.forall_mem_cons.mpr ⟨oc_10_1 D cI cJ cB aK aV ms z, List.forall_mem_cons.mpr ⟨oc_11_0 D cI cJ cB aK aV ms z, List.forall_mem_cons.mpr ⟨oc_11_1 D cI cJ cB aK aV ms z, List.forall_mem_cons.mpr ⟨oc_12_0 D cI cJ cB aK aV ms z, List.forall_mem_cons.mpr ⟨oc_12_1 D cI cJ cB aK aV ms z, List.forall_mem_cons.mpr ⟨oc_13_0 D cI cJ cB aK aV ms z, List.forall_mem_cons.mpr ⟨oc_13_1 D cI cJ cB aK aV ms z, List.forall_mem_cons.mpr ⟨oc_14_0 D cI cJ cB aK aV ms z, List.forall_mem_cons.mpr ⟨oc_14_1 D cI cJ cB aK aV ms z, List.forall_mem_cons.mpr ⟨oc_15_0 D cI cJ cB aK aV ms z, List.forall_mem_cons.mpr ⟨oc_15_1 D cI cJ cB aK aV ms z, List.forall_mem_cons.mpr ⟨oc_16_0 D cI cJ cB aK aV ms z, List.forall_mem_cons.mpr ⟨oc_16_1 D cI cJ cB aK aV ms z, List.forall_mem_cons.mpr ⟨oc_17_0 D cI cJ cB aK aV ms z, List.forall_mem_cons.mpr ⟨oc_17_1 D cI cJ cB aK aV ms z, List.forall_mem_cons.mpr ⟨oc_18_0 D cI cJ cB aK aV ms z, List.forall_mem_cons.mpr ⟨oc_18_1 D cI cJ cB aK aV ms z, List.forall_mem_cons.mpr ⟨oc_19_0 D cI cJ cB aK aV ms z, List.forall_mem_cons.mpr ⟨oc_19_1 D cI cJ cB aK aV ms z, List.forall_mem_cons.mpr ⟨oc_20_0 D cI cJ cB aK aV ms z, fun _ h => absurd h List.not_mem_nil⟩⟩⟩⟩⟩⟩⟩⟩⟩⟩⟩⟩⟩⟩⟩⟩⟩⟩⟩⟩⟩⟩⟩⟩⟩⟩⟩⟩⟩⟩⟩⟩
set_option maxRecDepth 100000 in
theorem ocs_4 : ∀ q ∈ [(20, 1), (21, 0), (22, 0), (23, 0), (24, 0), (24, 1), (24, 2), (24, 3), (24, 4), (24, 5), (24, 6), (24, 7), (24, 8), (24, 9), (24, 10), (24, 11), (24, 12), (24, 13), (25, 0), (25, 1), (25, 2), (25, 3), (25, 4), (25, 5), (25, 6), (25, 7), (25, 8), (25, 9), (25, 10), (25, 11), (25, 12), (25, 13)], OkCell (mkG D cI cJ cB aK aV ms z) q := List.forall_mem_cons.mpr ⟨oc_20_1 D cI cJ cB aK aV ms z, List.forall_mem_cons.mpr ⟨oc_21_0 D cI cJ cB aK aV ms z, List.forall_mem_cons.mpr ⟨oc_22_0 D cI cJ cB aK aV ms z, List.forall_mem_cons.mpr ⟨oc_23_0 D cI cJ cB aK aV ms z, List.forall_mem_cons.mpr ⟨oc_24_0 D cI cJ cB aK aV ms z, List.forall_mem_cons.mpr ⟨oc_24_1 D cI cJ cB aK aV ms z, List.forall_mem_cons.mpr ⟨oc_24_2 D cI cJ cB aK aV ms z, List.forall_mem_cons.mpr ⟨oc_24_3 D cI cJ cB aK aV ms z, List.forall_mem_cons.mpr ⟨oc_24_4 D cI cJ cB aK aV ms z, List.forall_mem_cons.mpr ⟨oc_24_5 D cI cJ cB aK aV ms z, List.forall_mem_cons.mpr ⟨oc_24_6 D cI cJ cB aK aV ms z, List.forall_mem_cons.mpr ⟨oc_24_7 D cI cJ cB aK aV ms z, List.forall_mem_cons.mpr ⟨oc_24_8 D cI cJ cB aK aV ms z, List.forall_mem_cons.mpr ⟨oc_24_9 D cI cJ cB aK aV ms z, List.forall_mem_cons.mpr ⟨oc_24_10 D cI cJ cB aK aV ms z, List.forall_mem_cons.mpr ⟨oc_24_11 D cI cJ cB aK aV ms z, List.forall_mem_cons.mpr ⟨oc_24_12 D cI cJ cB aK aV ms z, List.forall_mem_cons.mpr ⟨oc_24_13 D cI cJ cB aK aV ms z, List.forall_mem_cons.mpr ⟨oc_25_0 D cI cJ cB aK aV ms z, List.forall_mem_cons.mpr ⟨oc_25_1 D cI cJ cB aK aV ms z, List.forall_mem_cons.mpr ⟨oc_25_2 D cI cJ cB aK aV ms z, List.forall_mem_cons.mpr ⟨oc_25_3 D cI cJ cB aK aV ms z, List.forall_mem_cons.mpr ⟨oc_25_4 D cI cJ cB aK aV ms z, List.forall_mem_cons.mpr ⟨oc_25_5 D cI cJ cB aK aV ms z, List.forall_mem_cons.mpr ⟨oc_25_6 D cI cJ cB aK aV ms z, List.forall_mem_cons.mpr ⟨oc_25_7 D cI cJ cB aK aV ms z, List.forall_mem_cons.mpr ⟨oc_25_8 D cI cJ cB aK aV ms z, List.forall_mem_cons.mpr ⟨oc_25_9 D cI cJ cB aK aV ms z, List.forall_mem_cons.mpr ⟨oc_25_10 D cI cJ cB aK aV ms z, List.forall_mem_cons.mpr ⟨oc_25_11 D cI cJ cB aK aV ms z, List.forall_mem_cons.mpr ⟨oc_25_12 D cI cJ cB aK aV ms z, List.forall_mem_cons.mpr ⟨oc_25_13 D cI cJ cB aK aV ms z, fun _ h => absurd h List.not_mem_nil⟩⟩⟩⟩⟩⟩⟩⟩⟩⟩⟩⟩⟩⟩⟩⟩⟩⟩⟩⟩⟩⟩⟩⟩⟩⟩⟩⟩⟩⟩⟩⟩
set_option maxRecDepth 100000 in
theorem ocs_5 : ∀ q ∈ [(26, 0), (26, 1), (26, 2), (26, 3), (26, 4), (26, 5), (26, 6), (26, 7), (26, 8), (26, 9), (26, 10), (26, 11), (26, 12), (26, 13), (27, 0), (27, 1), (27, 2), (27, 3), (27, 4), (27, 5), (27, 6), (27, 7), (27, 8), (27, 9), (27, 10), (27, 11), (27, 12), (27, 13), (28, 0), (29, 0), (30, 0), (31, 0)], OkCell (mkG D cI cJ cB aK aV ms z) q := List.forall_mem_cons.mpr ⟨oc_26_0 D cI cJ cB aK aV ms z, List.forall_mem_cons.mpr ⟨oc_26_1 D cI cJ cB aK aV ms z, List.forall_mem_cons.mpr ⟨oc_26_2 D cI cJ cB aK aV ms z, List.forall_mem_cons.mpr ⟨oc_26_3 D cI cJ cB aK aV ms z, List.forall_mem_cons.mpr ⟨oc_26_4 D cI cJ cB aK aV ms z, List.forall_mem_cons.mpr ⟨oc_26_5 D cI cJ cB aK aV ms z, List.forall_mem_cons.mpr ⟨oc_26_6 D cI cJ cB aK aV ms z, List.forall_mem_cons.mpr ⟨oc_26_7 D cI cJ cB aK aV ms z, List.forall_mem_cons.mpr ⟨oc_26_8 D cI cJ cB aK aV ms z, List.forall_mem_cons.mpr ⟨oc_26_9 D cI cJ cB aK aV ms z, List.forall_mem_cons.mpr ⟨oc_26_10 D cI cJ cB aK aV ms z, List.forall_mem_cons.mpr ⟨oc_26_11 D cI cJ cB aK aV ms z, List.forall_mem_cons.mpr ⟨oc_26_12 D cI cJ cB aK aV ms z, List.forall_mem_cons.mpr ⟨oc_26_13 D cI cJ cB aK aV ms z, List.forall_mem_cons.mpr ⟨oc_27_0 D cI cJ cB aK aV ms z, List.forall_mem_cons.mpr ⟨oc_27_1 D cI cJ cB aK aV ms z, List.forall_mem_cons.mpr ⟨oc_27_2 D cI cJ cB aK aV ms z, List.forall_mem_cons.mpr ⟨oc_27_3 D cI cJ cB aK aV ms z, List.forall_mem_cons.mpr ⟨oc_27_4 D cI cJ cB aK aV ms z, List.forall_mem_cons.mpr ⟨oc_27_5 D cI cJ cB aK aV ms z, List.forall_mem_cons.mpr ⟨oc_27_6 D cI cJ cB aK aV ms z, List.forall_mem_cons.mpr ⟨oc_27_7 D cI cJ cB aK aV ms z, List.forall_mem_cons.mpr ⟨oc_27_8 D cI cJ cB aK aV ms z, List.forall_mem_cons.mpr ⟨oc_27_9 D cI cJ cB aK aV ms z, List.forall_mem_cons.mpr ⟨oc_27_10 D cI cJ cB aK aV ms z, List.forall_mem_cons.mpr ⟨oc_27_11 D cI cJ cB aK aV ms z, List.forall_mem_cons.mpr ⟨oc_27_12 D cI cJ cB aK aV ms z, List.forall_mem_cons.mpr ⟨oc_27_13 D cI cJ cB aK aV ms z, List.forall_mem_cons.mpr ⟨oc_28_0 D cI cJ cB aK aV ms z, List.forall_mem_cons.mpr ⟨oc_29_0 D cI cJ cB aK aV ms z, List.forall_mem_cons.mpr ⟨oc_30_0 D cI cJ cB aK aV ms z, List.forall_mem_cons.mpr ⟨oc_31_0 D cI cJ cB aK aV ms z, fun _ h => absurd h List.not_mem_nil⟩⟩⟩⟩⟩⟩⟩⟩⟩⟩⟩⟩⟩⟩⟩⟩⟩⟩⟩⟩⟩⟩⟩⟩⟩⟩⟩⟩⟩⟩⟩⟩
set_option maxRecDepth 100000 in
theorem ocs_6 : ∀ q ∈ [(32, 0), (33, 0), (34, 0), (35, 0), (36, 0), (37, 0), (38, 0), (39, 0), (40, 0), (41, 0), (42, 0), (43, 0), (44, 0), (45, 0), (46, 0), (47, 0), (48, 0), (100, 0), (101, 0), (102, 0), (103, 0), (104, 0), (105, 0), (120, 0), (121, 0), (121, 1), (121, 2), (121, 3), (121, 4), (121, 5), (121, 6), (121, 7)], OkCell (mkG D cI cJ cB aK aV ms z) q := List.forall_mem_cons.mpr ⟨oc_32_0 D cI cJ cB aK aV ms z, List.forall_mem_cons.mpr ⟨oc_33_0 D cI cJ cB aK aV ms z, List.forall_mem_cons.mpr ⟨oc_34_0 D cI cJ cB aK aV ms z, List.forall_mem_cons.mpr ⟨oc_35_0 D cI cJ cB aK aV ms z, List.forall_mem_cons.mpr ⟨oc_36_0 D cI cJ cB aK aV ms z, List.forall_mem_cons.mpr ⟨oc_37_0 D cI cJ cB aK aV ms z, List.forall_mem_cons.mpr ⟨oc_38_0 D cI cJ cB aK aV ms z, List.forall_mem_cons.mpr ⟨oc_39_0 D cI cJ cB aK aV ms z, List.forall_mem_cons.mpr ⟨oc_40_0 D cI cJ cB aK aV ms z, List.forall_mem_cons.mpr ⟨oc_41_0 D cI cJ cB aK aV ms z, List.forall_mem_cons.mpr ⟨oc_42_0 D cI cJ cB aK aV ms z, List.forall_mem_cons.mpr ⟨oc_43_0 D cI cJ cB aK aV ms z, List.forall_mem_cons.mpr ⟨oc_44_0 D cI cJ cB aK aV ms z, List.forall_mem_cons.mpr ⟨oc_45_0 D cI cJ cB aK aV ms z, List.forall_mem_cons.mpr ⟨oc_46_0 D cI cJ cB aK aV ms z, List.forall_mem_cons.mpr ⟨oc_47_0 D cI cJ cB aK aV ms z, List.forall_mem_cons.mpr ⟨oc_48_0 D cI cJ cB aK aV ms z, List.forall_mem_cons.mpr ⟨oc_100_0 D cI cJ cB aK aV ms z, List.forall_mem_cons.mpr ⟨oc_101_0 D cI cJ cB aK aV ms z, List.forall_mem_cons.mpr ⟨oc_102_0 D cI cJ cB aK aV ms z, List.forall_mem_cons.mpr ⟨oc_103_0 D cI cJ cB aK aV ms z, List.forall_mem_cons.mpr ⟨oc_104_0 D cI cJ cB aK aV ms z, List.forall_mem_cons.mpr ⟨oc_105_0 D cI cJ cB aK aV ms z, List.forall_mem_cons.mpr ⟨oc_120_0 D cI cJ cB aK aV ms z, List.forall_mem_cons.mpr ⟨oc_121_0 D cI cJ cB aK aV ms z, List.forall_mem_cons.mpr ⟨oc_121_1 D cI cJ cB aK aV ms z, List.forall_mem_cons.mpr ⟨oc_121_2 D cI cJ cB aK aV ms z, List.forall_mem_cons.mpr ⟨oc_121_3 D cI cJ cB aK aV ms z, List.forall_mem_cons.mpr ⟨oc_121_4 D cI cJ cB aK aV ms z, List.forall_mem_cons.mpr ⟨oc_121_5 D cI cJ cB aK aV ms z, List.forall_mem_cons.mpr ⟨oc_121_6 D cI cJ cB aK aV ms z, List.forall_mem_cons.mpr ⟨oc_121_7 D cI cJ cB aK aV ms z, fun _ h => absurd h List.not_mem_nil⟩⟩⟩⟩⟩⟩⟩⟩⟩⟩⟩⟩⟩⟩⟩⟩⟩⟩⟩⟩⟩⟩⟩⟩⟩⟩⟩⟩⟩⟩⟩⟩
set_option maxRecDepth 100000 in
theorem ocs_7 : ∀ q ∈ [(121, 8), (121, 9), (121, 10), (121, 11), (121, 12), (122, 0), (123, 0), (124, 0), (124, 1), (125, 0), (126, 0), (126, 1), (127, 0), (128, 0), (129, 0), (129, 1), (129, 2), (129, 3), (129, 4), (129, 5), (129, 6), (129, 7), (129, 8), (129, 9), (129, 10), (129, 11), (129, 12), (129, 13), (130, 0), (131, 0)], OkCell (mkG D cI cJ cB aK aV ms z) q := List.forall_mem_cons.mpr ⟨oc_121_8 D cI cJ cB aK aV ms z, List.forall_mem_cons.mpr ⟨oc_121_9 D cI cJ cB aK aV ms z, List.forall_mem_cons.mpr ⟨oc_121_10 D cI cJ cB aK aV ms z, List.forall_mem_cons.mpr ⟨oc_121_11 D cI cJ cB aK aV ms z, List.forall_mem_cons.mpr ⟨oc_121_12 D cI cJ cB aK aV ms z, List.forall_mem_cons.mpr ⟨oc_122_0 D cI cJ cB aK aV ms z, List.forall_mem_cons.mpr ⟨oc_123_0 D cI cJ cB aK aV ms z, List.forall_mem_cons.mpr ⟨oc_124_0 D cI cJ cB aK aV ms z, List.forall_mem_cons.mpr ⟨oc_124_1 D cI cJ cB aK aV ms z, List.forall_mem_cons.mpr ⟨oc_125_0 D cI cJ cB aK aV ms z, List.forall_mem_cons.mpr ⟨oc_126_0 D cI cJ cB aK aV ms z, List.forall_mem_cons.mpr ⟨oc_126_1 D cI cJ cB aK aV ms z, List.forall_mem_cons.mpr ⟨oc_127_0 D cI cJ cB aK aV ms z, List.forall_mem_cons.mpr ⟨oc_128_0 D cI cJ cB aK aV ms z, List.forall_mem_cons.mpr ⟨oc_129_0 D cI cJ cB aK aV ms z, List.forall_mem_cons.mpr ⟨oc_129_1 D cI cJ cB aK aV ms z, List.forall_mem_cons.mpr ⟨oc_129_2 D cI cJ cB aK aV ms z, List.forall_mem_cons.mpr ⟨oc_129_3 D cI cJ cB aK aV ms z, List.forall_mem_cons.mpr ⟨oc_129_4 D cI cJ cB aK aV ms z, List.forall_mem_cons.mpr ⟨oc_129_5 D cI cJ cB aK aV ms z, List.forall_mem_cons.mpr ⟨oc_129_6 D cI cJ cB aK aV ms z, List.forall_mem_cons.mpr ⟨oc_129_7 D cI cJ cB aK aV ms z, List.forall_mem_cons.mpr ⟨oc_129_8 D cI cJ cB aK aV ms z, List.forall_mem_cons.mpr ⟨oc_129_9 D cI cJ cB aK aV ms z, List.forall_mem_cons.mpr ⟨oc_129_10 D cI cJ cB aK aV ms z, List.forall_mem_cons.mpr ⟨oc_129_11 D cI cJ cB aK aV ms z, List.forall_mem_cons.mpr ⟨oc_129_12 D cI cJ cB aK aV ms z, List.forall_mem_cons.mpr ⟨oc_129_13 D cI cJ cB aK aV ms z, List.forall_mem_cons.mpr ⟨oc_130_0 D cI cJ cB aK aV ms z, List.forall_mem_cons.mpr ⟨oc_131_0 D cI cJ cB aK aV ms z, fun _ h => absurd h List.not_mem_nil⟩⟩⟩⟩⟩⟩⟩⟩⟩⟩⟩⟩⟩⟩⟩⟩⟩⟩⟩⟩⟩⟩⟩⟩⟩⟩⟩⟩⟩⟩
set_option maxRecDepth 100000 in
theorem CL_eq : CL = [(0, 0), (0, 1), (0, 2), (0, 3), (0, 4), (0, 5), (0, 6), (0, 7), (0, 8), (0, 9), (0, 10), (0, 11), (0, 12), (1, 0), (1, 1), (1, 2), (1, 3), (1, 4), (1, 5), (1, 6), (1, 7), (1, 8), (1, 9), (1, 10), (1, 11), (1, 12), (2, 0), (2, 1), (2, 2), (2, 3), (2, 4), (2, 5)] ++ ([(2, 6), (2, 7), (2, 8), (2, 9), (2, 10), (2, 11), (2, 12), (3, 0), (3, 1), (3, 2), (3, 3), (3, 4), (3, 5), (3, 6), (3, 7), (3, 8), (3, 9), (3, 10), (3, 11), (3, 12), (4, 0), (4, 1), (4, 2), (4, 3), (4, 4), (4, 5), (4, 6), (4, 7), (4, 8), (4, 9), (4, 10), (4, 11)] ++ ([(4, 12), (5, 0), (5, 1), (5, 2), (5, 3), (5, 4), (5, 5), (5, 6), (5, 7), (5, 8), (5, 9), (5, 10), (5, 11), (5, 12), (6, 0), (6, 1), (6, 2), (6, 3), (6, 4), (6, 5), (6, 6), (6, 7), (6, 8), (6, 9), (6, 10), (6, 11), (6, 12), (7, 0), (7, 1), (7, 2), (7, 3), (7, 4)] ++ ([(7, 5), (7, 6), (7, 7), (7, 8), (7, 9), (7, 10), (7, 11), (7, 12), (8, 0), (9, 0), (9, 1), (10, 0), (10, 1), (11, 0), (11, 1), (12, 0), (12, 1), (13, 0), (13, 1), (14, 0), (14, 1), (15, 0), (15, 1), (16, 0), (16, 1), (17, 0), (17, 1), (18, 0), (18, 1), (19, 0), (19, 1), (20, 0)] ++ ([(20, 1), (21, 0), (22, 0), (23, 0), (24, 0), (24, 1), (24, 2), (24, 3), (24, 4), (24, 5), (24, 6), (24, 7), (24, 8), (24, 9), (24, 10), (24, 11), (24, 12), (24, 13), (25, 0), (25, 1), (25, 2), (25, 3), (25, 4), (25, 5), (25, 6), (25, 7), (25, 8), (25, 9), (25, 10), (25, 11), (25, 12), (25, 13)] ++ ([(26, 0), (26, 1), (26, 2), (26, 3), (26, 4), (26, 5), (26, 6), (26, 7), (26, 8), (26, 9), (26, 10), (26, 11), (26, 12), (26, 13), (27, 0), (27, 1), (27, 2), (27, 3), (27, 4), (27, 5), (27, 6), (27, 7), (27, 8), (27, 9), (27, 10), (27, 11), (27, 12), (27, 13), (28, 0), (29, 0), (30, 0), (31, 0)] ++ ([(32, 0), (33, 0), (34, 0), (35, 0), (36, 0), (37, 0), (38, 0), (39, 0), (40, 0), (41, 0), (42, 0), (43, 0), (44, 0), (45, 0), (46, 0), (47, 0), (48, 0), (100, 0), (101, 0), (102, 0), (103, 0), (104, 0), (105, 0), (120, 0), (121, 0), (121, 1), (121, 2), (121, 3), (121, 4), (121, 5), (121, 6), (121, 7)] ++ ([(121, 8), (121, 9), (121, 10), (121, 11), (121, 12), (122, 0), (123, 0), (124, 0), (124, 1), (125, 0), (126, 0), (126, 1), (127, 0), (128, 0), (129, 0), (129, 1), (129, 2), (129, 3), (129, 4), (129, 5), (129, 6), (129, 7), (129, 8), (129, 9), (129, 10), (129, 11), (129, 12), (129, 13), (130, 0), (131, 0)]))))))) := by decide +kernel
set_option maxRecDepth 100000 in
theorem oc_all : ∀ q ∈ CL, OkCell (mkG D cI cJ cB aK aV ms z) q := by
  rw [CL_eq]
  exact List.forall_mem_append.mpr ⟨ocs_0 D cI cJ cB aK aV ms z, List.forall_mem_append.mpr ⟨ocs_1 D cI cJ cB aK aV ms z, List.forall_mem_append.mpr ⟨ocs_2 D cI cJ cB aK aV ms z, List.forall_mem_append.mpr ⟨ocs_3 D cI cJ cB aK aV ms z, List.forall_mem_append.mpr ⟨ocs_4 D cI cJ cB aK aV ms z, List.forall_mem_append.mpr ⟨ocs_5 D cI cJ cB aK aV ms z, List.forall_mem_append.mpr ⟨ocs_6 D cI cJ cB aK aV ms z, ocs_7 D cI cJ cB aK aV ms z⟩⟩⟩⟩⟩⟩⟩
set_option maxRecDepth 100000 in
theorem off_nd : (CL.map (fun q => offF q.1 q.2)).Nodup := by decide +kernel
theorem good0 : Good (mkG D cI cJ cB aK aV ms z) := by
  intro c
  have hat : ∀ (i : Nat) (p : Nat × va_E), (wl (mkG D cI cJ cB aK aV ms z) c)[i]? = some p → ∃ q, CL[i]? = some q ∧ p.1 = z + offF q.1 q.2 := by
    intro i p hp
    simp only [wl, List.getElem?_map, Option.map_eq_some_iff] at hp
    obtain ⟨q, hq, rfl⟩ := hp
    exact ⟨q, hq, (oc_all D cI cJ cB aK aV ms z q (List.mem_of_getElem? hq)).1⟩
  refine ⟨fun i j p q hp hq e => ?_, fun k q hq => ?_⟩
  · obtain ⟨p', hp', ep⟩ := hat i p hp
    obtain ⟨q', hq', eq'⟩ := hat j q hq
    have he : offF p'.1 p'.2 = offF q'.1 q'.2 := by omega
    have h1 : (CL.map (fun q => offF q.1 q.2))[i]? = some (offF p'.1 p'.2) := by simp [hp']
    have h2 : (CL.map (fun q => offF q.1 q.2))[j]? = some (offF q'.1 q'.2) := by simp [hq']
    have hlt : i < (CL.map (fun q => offF q.1 q.2)).length := (List.getElem?_eq_some_iff.mp h1).1
    exact (List.getElem?_inj hlt off_nd).mp (by rw [h1, h2, he])
  · obtain ⟨q', -, e⟩ := hat k q hq
    show z ≤ q.1
    omega
theorem pic0 {H : Heap} (h : Seg (mkG D cI cJ cB aK aV ms z) 254 (CE (mkG D cI cJ cB aK aV ms z)) H) : Pic (mkG D cI cJ cB aK aV ms z) σ0 H := by
  intro k p hp
  simp only [wl, List.getElem?_map, Option.map_eq_some_iff] at hp
  obtain ⟨q, hq, rfl⟩ := hp
  obtain ⟨h1, h2, h3⟩ := oc_all D cI cJ cB aK aV ms z q (List.mem_of_getElem? hq)
  have := h.at h2
  rw [← h1] at this
  exact h3 _ _ this
end Cells

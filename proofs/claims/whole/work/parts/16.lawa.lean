/-! ===== the law's loop, over what each call answers ===== -/
/-- the calls of the law: where its case begins, how many ints it takes, the class's method, the reference's -/
def gcs : List (Nat × Nat × Nat × Nat) := [(224, 4, 103, 158), (277, 2, 104, 159), (310, 2, 105, 160), (343, 2, 106, 163), (376, 4, 107, 164), (429, 2, 108, 167), (462, 2, 109, 170), (495, 2, 110, 171), (528, 2, 111, 175), (561, 1, 112, 176), (584, 2, 113, 178), (617, 1, 114, 180), (640, 1, 115, 186), (663, 0, 116, 182), (676, 2, 117, 187), (709, 0, 118, 188), (722, 1, 119, 204), (745, 1, 120, 205), (768, 2, 121, 213), (801, 1, 122, 214), (824, 1, 123, 215), (847, 2, 124, 216), (880, 1, 125, 217), (903, 3, 126, 218), (946, 2, 127, 220), (979, 2, 128, 224), (1012, 1, 129, 225), (1035, 4, 130, 226), (1088, 1, 131, 228), (1111, 2, 132, 230), (1144, 2, 133, 231), (1177, 2, 134, 232), (1210, 0, 135, 233), (1223, 1, 136, 234), (1246, 2, 137, 235), (1279, 2, 138, 236), (1312, 3, 139, 238), (1355, 3, 140, 239), (1398, 5, 141, 240), (1461, 0, 142, 243), (1474, 0, 143, 244), (1487, 0, 144, 245), (1500, 1, 145, 246), (1523, 1, 146, 247)]
def gpush (q : Nat) (np : Nat) : Bool := (List.range np).all (fun i => decide (gat mL_law (q + 5 * i) = some (2, 0, 0, 2, q + 5 * i + 1)) && decide (gat mL_law (q + 5 * i + 1) = some (2, 0, 3, 0, q + 5 * i + 2)) && decide (gat mL_law (q + 5 * i + 2) = some (0, (i : Int) + 1, 0, 0, q + 5 * i + 3)) && decide (gat mL_law (q + 5 * i + 3) = some (10, 0, 0, 0, q + 5 * i + 4)) && decide (gat mL_law (q + 5 * i + 4) = some (43, 0, 0, 0, q + 5 * i + 5)))
def gcase (c : Nat × Nat × Nat × Nat) : Bool :=
  let p0 := c.1
  let np := c.2.1
  let p1 := p0 + 1 + 5 * np
  let p2 := p1 + 4 + 5 * np
  decide (gat mL_law p0 = some (2, 0, 1, 2, p0 + 1)) && gpush (p0 + 1) np && decide (gat mL_law p1 = some (80, 0, c.2.2.1, np, p1 + 3)) && decide (gat mL_law (p1 + 3) = some (2, 0, 2, 2, p1 + 4)) && gpush (p1 + 4) np && decide (gat mL_law p2 = some (80, 0, c.2.2.2, np, p2 + 3)) && decide (gat mL_law (p2 + 3) = some (62, 0, 1546, 0, p2 + 6)) && decide (np ≤ 5) && decide (gR 10 = (gH c.2.2.1).1.cls) && decide (gR 11 = (gH c.2.2.2).1.cls) && decide ((gH c.2.2.1).2.2.1 ≤ 40) && decide ((gH c.2.2.2).2.2.1 ≤ 40)
set_option maxRecDepth 1000000 in
theorem gcs_0 : (gcs.take 11).all gcase = true := by decide +kernel
set_option maxRecDepth 1000000 in
theorem gcs_1 : ((gcs.drop 11).take 11).all gcase = true := by decide +kernel
set_option maxRecDepth 1000000 in
theorem gcs_2 : ((gcs.drop 22).take 11).all gcase = true := by decide +kernel
set_option maxRecDepth 1000000 in
theorem gcs_3 : (gcs.drop 33).all gcase = true := by decide +kernel
theorem gcs_ok : gcs.all gcase = true := by
  have e : gcs = gcs.take 11 ++ ((gcs.drop 11).take 11 ++ ((gcs.drop 22).take 11 ++ gcs.drop 33)) := by decide +kernel
  rw [e]
  simp only [List.all_append, gcs_0, gcs_1, gcs_2, gcs_3, Bool.and_self]
theorem gcs_sw : ∀ k : Nat, k < 44 → (swL_law.lookup 33).bind (fun l => l[k]?) = (gcs[k]?).map (fun c => ((k : Int), c.1)) := by decide +kernel

/-! ===== the world behind the two constructors ===== -/
def gSH : List (Nat × Nat) := [(10, 9), (7, 11), (103, 12), (104, 24), (100, 4), (100, 10), (105, 2), (9, 7), (100, 20), (100, 20), (100, 6), (100, 6), (3, 10), (3, 10), (3, 10), (3, 10), (3, 10), (3, 10), (3, 10), (3, 10), (3, 10), (3, 10), (3, 10), (3, 10), (2, 14), (2, 14), (2, 14), (2, 14), (2, 14), (2, 14), (2, 14), (2, 14), (2, 14), (2, 14), (2, 14), (2, 14), (2, 14), (2, 14), (2, 14), (2, 14), (2, 14), (2, 14), (2, 14), (2, 14), (2, 14), (2, 14), (2, 14), (2, 14), (1, 4), (100, 120), (100, 120), (1, 4), (100, 120), (100, 120), (7, 11), (103, 12), (104, 24), (100, 4), (100, 10), (105, 2), (9, 7), (100, 20), (100, 20), (100, 6), (100, 6), (3, 10), (3, 10), (3, 10), (3, 10), (3, 10), (3, 10), (3, 10), (3, 10), (3, 10), (3, 10), (3, 10), (3, 10), (2, 14), (2, 14), (2, 14), (2, 14), (2, 14), (2, 14), (2, 14), (2, 14), (2, 14), (2, 14), (2, 14), (2, 14), (2, 14), (2, 14), (2, 14), (2, 14), (2, 14), (2, 14), (2, 14), (2, 14), (2, 14), (2, 14), (2, 14), (2, 14), (1, 4), (100, 120), (100, 120), (1, 4), (100, 120), (100, 120), (0, 2), (102, 12), (102, 12), (4, 14), (100, 4), (100, 4), (100, 5), (100, 5), (107, 4), (100, 12), (100, 12), (100, 12), (100, 12), (107, 4), (100, 4), (100, 4), (100, 4), (100, 4), (100, 4), (100, 4), (5, 7), (100, 24), (100, 24), (100, 24), (100, 12), (8, 11), (100, 120), (100, 120), (100, 121), (100, 121), (100, 121), (106, 4), (6, 3), (100, 60), (6, 3), (100, 60), (6, 3), (100, 60), (6, 3), (100, 60), (100, 7), (11, 46), (100, 96), (100, 12), (100, 12), (100, 288), (100, 4), (100, 20), (100, 20), (100, 10), (100, 2), (100, 240), (100, 7), (101, 100), (100, 4), (100, 12), (100, 4), (100, 120), (100, 120), (100, 120), (100, 120), (100, 53248), (100, 12), (101, 20), (100, 6), (100, 4), (100, 4), (100, 240), (100, 60), (100, 760), (100, 5)]
def gMR (a k : Nat) : Option Nat := match a with
  | 0 => match k with
    | 0 => some 1
    | 1 => some 54
    | 2 => some 107
    | 3 => some 110
    | 4 => some 127
    | 5 => some 132
    | 6 => some 138
    | 7 => some 147
    | _ => none
  | 1 => match k with
    | 4 => some 2
    | 5 => some 3
    | 6 => some 4
    | 7 => some 5
    | 8 => some 6
    | 9 => some 7
    | 10 => some 11
    | _ => none
  | 2 => if k < 12 then some (12 + k) else none
  | 3 => if k < 24 then some (24 + k) else none
  | 6 => match k with
    | 0 => some 48
    | 1 => some 51
    | _ => none
  | 7 => match k with
    | 4 => some 8
    | 5 => some 9
    | 6 => some 10
    | _ => none
  | 48 => match k with
    | 2 => some 49
    | 3 => some 50
    | _ => none
  | 51 => match k with
    | 2 => some 52
    | 3 => some 53
    | _ => none
  | 54 => match k with
    | 4 => some 55
    | 5 => some 56
    | 6 => some 57
    | 7 => some 58
    | 8 => some 59
    | 9 => some 60
    | 10 => some 64
    | _ => none
  | 55 => if k < 12 then some (65 + k) else none
  | 56 => if k < 24 then some (77 + k) else none
  | 59 => match k with
    | 0 => some 101
    | 1 => some 104
    | _ => none
  | 60 => match k with
    | 4 => some 61
    | 5 => some 62
    | 6 => some 63
    | _ => none
  | 101 => match k with
    | 2 => some 102
    | 3 => some 103
    | _ => none
  | 104 => match k with
    | 2 => some 105
    | 3 => some 106
    | _ => none
  | 107 => match k with
    | 0 => some 108
    | 1 => some 109
    | _ => none
  | 110 => match k with
    | 0 => some 1
    | 1 => some 107
    | 3 => some 111
    | 4 => some 112
    | 5 => some 113
    | 6 => some 114
    | 7 => some 115
    | 8 => some 120
    | 9 => some 125
    | 10 => some 126
    | _ => none
  | 115 => if k < 4 then some (116 + k) else none
  | 120 => if k < 4 then some (121 + k) else none
  | 127 => match k with
    | 0 => some 1
    | 2 => some 128
    | 3 => some 129
    | 4 => some 130
    | 5 => some 131
    | _ => none
  | 132 => match k with
    | 4 => some 133
    | 5 => some 134
    | 6 => some 135
    | 7 => some 136
    | 8 => some 137
    | _ => none
  | 138 => match k with
    | 0 => some 139
    | 1 => some 141
    | 2 => some 143
    | 3 => some 145
    | _ => none
  | 139 => match k with
    | 2 => some 140
    | _ => none
  | 141 => match k with
    | 2 => some 142
    | _ => none
  | 143 => match k with
    | 2 => some 144
    | _ => none
  | 145 => match k with
    | 2 => some 146
    | _ => none
  | 148 => match k with
    | 3 => some 149
    | 4 => some 150
    | 5 => some 151
    | 7 => some 152
    | 8 => some 153
    | 10 => some 154
    | 11 => some 155
    | 12 => some 156
    | 13 => some 157
    | 14 => some 158
    | 15 => some 159
    | 16 => some 160
    | 17 => some 161
    | 18 => some 162
    | 19 => some 163
    | 21 => some 164
    | 27 => some 165
    | 28 => some 166
    | 33 => some 167
    | 34 => some 168
    | 35 => some 169
    | 36 => some 170
    | 37 => some 171
    | 38 => some 172
    | 39 => some 173
    | 40 => some 174
    | 41 => some 175
    | 43 => some 176
    | 45 => some 177
    | _ => none
  | _ => none
def gE0 : gMe := ([], fun _ _ => 0, fun _ _ => 0, fun _ _ => none)
def gE1 : gMe := mN gE0 [(10, 9)]
def gX1 : gRs := gex 1836 102 0 (gpad 2 (garg [gr 0])) [] gE1
def gM1 : gMe := match gX1 with
  | some q => q.2.1
  | none => gE0
set_option maxRecDepth 1000000 in
theorem gX1_n : gX1.map (fun q => (q.1.isNone, q.2.2)) = some (true, 147, 3238, 3) := by decide +kernel
theorem gX1_eq : gX1 = some (none, gM1, 147, 3238, 3) := by
  have h := gX1_n
  unfold gM1
  generalize gX1 = X at h ⊢
  cases X with
  | none => cases h
  | some q =>
    obtain ⟨r, M, a, b, d⟩ := q
    simp only [Option.map_some, Option.some.injEq, Prod.mk.injEq] at h
    obtain ⟨h1, rfl, rfl, rfl⟩ := h
    cases r with
    | none => rfl
    | some v => cases h1
def gE2 : gMe := mN gM1 [(11, 46)]
def gX2 : gRs := gex 185 152 0 (gpad 1 (garg [gr 148])) [] gE2
def gM2 : gMe := match gX2 with
  | some q => q.2.1
  | none => gE0
set_option maxRecDepth 1000000 in
theorem gX2_n : gX2.map (fun q => (q.1.isNone, q.2.2)) = some (true, 29, 55670, 1) := by decide +kernel
theorem gX2_eq : gX2 = some (none, gM2, 29, 55670, 1) := by
  have h := gX2_n
  unfold gM2
  generalize gX2 = X at h ⊢
  cases X with
  | none => cases h
  | some q =>
    obtain ⟨r, M, a, b, d⟩ := q
    simp only [Option.map_some, Option.some.injEq, Prod.mk.injEq] at h
    obtain ⟨h1, rfl, rfl, rfl⟩ := h
    cases r with
    | none => rfl
    | some v => cases h1
set_option maxRecDepth 1000000 in
theorem gM1_len : gM1.1.length = 148 := by decide +kernel
set_option maxRecDepth 1000000 in
theorem gM2_sh : gM2.1 = gSH := by decide +kernel
def grefs : List (Nat × Nat) := [(0, 9), (1, 11), (2, 12), (3, 24), (6, 2), (7, 7), (12, 10), (13, 10), (14, 10), (15, 10), (16, 10), (17, 10), (18, 10), (19, 10), (20, 10), (21, 10), (22, 10), (23, 10), (24, 14), (25, 14), (26, 14), (27, 14), (28, 14), (29, 14), (30, 14), (31, 14), (32, 14), (33, 14), (34, 14), (35, 14), (36, 14), (37, 14), (38, 14), (39, 14), (40, 14), (41, 14), (42, 14), (43, 14), (44, 14), (45, 14), (46, 14), (47, 14), (48, 4), (51, 4), (54, 11), (55, 12), (56, 24), (59, 2), (60, 7), (65, 10), (66, 10), (67, 10), (68, 10), (69, 10), (70, 10), (71, 10), (72, 10), (73, 10), (74, 10), (75, 10), (76, 10), (77, 14), (78, 14), (79, 14), (80, 14), (81, 14), (82, 14), (83, 14), (84, 14), (85, 14), (86, 14), (87, 14), (88, 14), (89, 14), (90, 14), (91, 14), (92, 14), (93, 14), (94, 14), (95, 14), (96, 14), (97, 14), (98, 14), (99, 14), (100, 14), (101, 4), (104, 4), (107, 2), (110, 14), (115, 4), (120, 4), (127, 7), (132, 11), (138, 4), (139, 3), (141, 3), (143, 3), (145, 3), (148, 46)]
set_option maxRecDepth 1000000 in
theorem gM2_mr : grefs.all (fun q => (List.range q.2).all (fun k => decide (gM2.2.2.2 q.1 k = gMR q.1 k))) = true := by decide +kernel

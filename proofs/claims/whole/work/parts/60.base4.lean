theorem gfS2 {mi : Nat → Nat → Int} {ml : Nat → Nat → Int64} {i : Int} (h0 : 0 ≤ i) (h : i < 4) : gfld (gw mi ml) (139 + 2 * i.toNat) 6 2 = gr (140 + 2 * i.toNat) := by
  rcases (show i = 0 ∨ i = 1 ∨ i = 2 ∨ i = 3 by omega) with rfl | rfl | rfl | rfl <;> rfl
theorem gfL2 {mi : Nat → Nat → Int} {ml : Nat → Nat → Int64} {i : Int} (h0 : 0 ≤ i) (h : i < 2) : gfld (gw mi ml) (48 + 3 * i.toNat) 1 2 = gr (49 + 3 * i.toNat) := by
  rcases (show i = 0 ∨ i = 1 by omega) with rfl | rfl <;> rfl
theorem gfL3 {mi : Nat → Nat → Int} {ml : Nat → Nat → Int64} {i : Int} (h0 : 0 ≤ i) (h : i < 2) : gfld (gw mi ml) (48 + 3 * i.toNat) 1 3 = gr (50 + 3 * i.toNat) := by
  rcases (show i = 0 ∨ i = 1 by omega) with rfl | rfl <;> rfl

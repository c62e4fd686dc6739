/-! ===== words for contracts ===== -/
def b2 (p : Prop) [Decidable p] : Int := if p then 1 else 0
theorem b2_01 (p : Prop) [Decidable p] : b2 p = 0 ∨ b2 p = 1 := by unfold b2; split <;> simp
theorem b2_rng (p : Prop) [Decidable p] : rng (b2 p) := by rcases b2_01 p with h | h <;> rw [h] <;> exact ⟨by decide, by decide⟩
theorem b2_pos {p : Prop} [Decidable p] (h : ¬ b2 p = 0) : p := by
  unfold b2 at h
  split at h
  · assumption
  · exact absurd rfl h
theorem b2_neg {p : Prop} [Decidable p] (h : b2 p = 0) : ¬ p := by
  unfold b2 at h
  split at h
  · cases h
  · assumption
set_option maxRecDepth 1000000 in
theorem gcn : ∀ j, j < 253 → ((gH j).1.cls ≠ "java/lang/invoke/MethodHandle" ∧ (gH j).1.cls ≠ "java/lang/invoke/VarHandle") ∧ (gH j).2.2.1 ≤ 40 := by decide +kernel
set_option maxRecDepth 1000000 in
theorem gcp : ∀ j, j < 248 → plainName (gH j).1.cls = true ∧ gown (gH j).2.2.2.2 = (gH j).1.cls := by decide +kernel
/-- what all ints of the world keep to -/
def gR32 (mi : Nat → Nat → Int) : Prop := ∀ a k, rng (mi a k)
/-- the reference's cells: of a party, of a pitch -/
def mOf (mi : Nat → Nat → Int) (a w : Int) : Int := mi 152 (12 * a + w).toNat
def mPi (mi : Nat → Nat → Int) (p w : Int) : Int := mi 149 (8 * p + w).toNat

/-! ===== words for contracts ===== -/
def b2 (p : Prop) [Decidable p] : Int := if p then 1 else 0
theorem b2_01 (p : Prop) [Decidable p] : b2 p = 0 ∨ b2 p = 1 := by unfold b2; split <;> simp
theorem b2_rng (p : Prop) [Decidable p] : rng (b2 p) := by rcases b2_01 p with h | h <;> rw [h] <;> exact ⟨by decide, by decide⟩
theorem b2_pos {p : Prop} [Decidable p] (h : ¬ b2 p = 0) : p := by
  unfold b2 at h
  split at h
  · assumption
  · exact absurd rfl h
theorem b2_neg {p : Prop} [Decidable p] (h : b2 p = 0) : ¬ p := by
  unfold b2 at h
  split at h
  · cases h
  · assumption
set_option maxRecDepth 1000000 in
theorem gcn : ∀ j, j < 253 → ((gH j).1.cls ≠ "java/lang/invoke/MethodHandle" ∧ (gH j).1.cls ≠ "java/lang/invoke/VarHandle") ∧ (gH j).2.2.1 ≤ 40 := by decide +kernel
set_option maxRecDepth 1000000 in
theorem gcp : ∀ j, j < 248 → plainName (gH j).1.cls = true ∧ gown (gH j).2.2.2.2 = (gH j).1.cls := by decide +kernel
/-- what all ints of the world keep to -/
def gR32 (mi : Nat → Nat → Int) : Prop := ∀ a k, rng (mi a k)
/-- the reference's cells: of a party, of a pitch -/
def mOf (mi : Nat → Nat → Int) (a w : Int) : Int := mi 152 (12 * a + w).toNat
def mPi (mi : Nat → Nat → Int) (p w : Int) : Int := mi 149 (8 * p + w).toNat
def andI (a b : Int) : Int := (iI a &&& iI b).toInt
def orI (a b : Int) : Int := (iI a ||| iI b).toInt
def xorI (a b : Int) : Int := (iI a ^^^ iI b).toInt
def shlI (a b : Int) : Int := (iI a <<< (iI b &&& 31)).toInt
def shrI (a b : Int) : Int := (iI a >>> (iI b &&& 31)).toInt
/-- the reference's answers, as functions of what it holds -/
def mLacks (mi : Nat → Nat → Int) (a p f : Int) : Int := b2 (¬ andI (mOf mi a 3) f = 0 ∧ andI (mPi mi p 6) f = 0)
def mStays (mi : Nat → Nat → Int) (a x : Int) : Int := b2 (mOf mi a 4 ≤ x ∧ x < mOf mi a 4 + mOf mi a 5)
def mMeet (mi : Nat → Nat → Int) (a b : Int) : Int := b2 (mOf mi a 4 < mOf mi b 4 + mOf mi b 5 ∧ mOf mi b 4 < mOf mi a 4 + mOf mi a 5)
def mHere (mi : Nat → Nat → Int) (a : Int) : Int := b2 (0 ≤ mOf mi a 6 ∧ ¬ mStays mi a (mi 148 0) = 0)
def mWhy (mi : Nat → Nat → Int) (a p : Int) : Int := if mPi mi p 2 < mOf mi a 1 then 1 else if ¬ mLacks mi a p 1 = 0 then 2 else if ¬ mLacks mi a p 2 = 0 then 3 else if mOf mi a 0 = 1 then (if 6 < mPi mi p 4 then 4 else 0) else if mOf mi a 0 = 0 then 0 else if mPi mi p 5 < mOf mi a 2 then 5 else if ¬ mLacks mi a p 4 = 0 ∨ (mOf mi a 0 = 4 ∧ andI (mPi mi p 6) 4 = 0) then 6 else if mOf mi a 0 = 3 ∧ mPi mi p 2 < mOf mi a 1 + 3 then 7 else 0
theorem mWhy_b (mi : Nat → Nat → Int) (a p : Int) : 0 ≤ mWhy mi a p ∧ mWhy mi a p ≤ 7 := by
  unfold mWhy
  (repeat' split) <;> omega
/-- what the reference's parties and pitches keep to -/
def PV (mi : Nat → Nat → Int) (a : Int) : Prop := (0 ≤ mOf mi a 0 ∧ mOf mi a 0 ≤ 4) ∧ (1 ≤ mOf mi a 1 ∧ mOf mi a 1 ≤ 30) ∧ (0 ≤ mOf mi a 2 ∧ mOf mi a 2 ≤ 32) ∧ (0 ≤ mOf mi a 3 ∧ mOf mi a 3 ≤ 7) ∧ (0 ≤ mOf mi a 4 ∧ mOf mi a 4 ≤ 99) ∧ (1 ≤ mOf mi a 5 ∧ mOf mi a 5 ≤ 30) ∧ mOf mi a 4 + mOf mi a 5 ≤ 100 ∧ (-2 ≤ mOf mi a 6 ∧ mOf mi a 6 < mi 148 2) ∧ (-1 ≤ mOf mi a 7 ∧ mOf mi a 7 < mi 148 6) ∧ (-1 ≤ mOf mi a 8 ∧ mOf mi a 8 ≤ 299970) ∧ (0 ≤ mOf mi a 9 ∧ mOf mi a 9 ≤ 16777215) ∧ (0 ≤ mOf mi a 10 ∧ mOf mi a 10 ≤ 40) ∧ (mOf mi a 11 = 0 ∨ mOf mi a 11 = 1)
def QV (mi : Nat → Nat → Int) (p : Int) : Prop := (0 ≤ mPi mi p 0 ∧ mPi mi p 0 ≤ 99) ∧ (0 ≤ mPi mi p 1 ∧ mPi mi p 1 ≤ 99) ∧ (1 ≤ mPi mi p 2 ∧ mPi mi p 2 ≤ 30) ∧ (0 ≤ mPi mi p 3 ∧ mPi mi p 3 ≤ 99) ∧ (0 ≤ mPi mi p 4 ∧ mPi mi p 4 ≤ 9) ∧ (0 ≤ mPi mi p 5 ∧ mPi mi p 5 ≤ 32) ∧ (0 ≤ mPi mi p 6 ∧ mPi mi p 6 ≤ 7) ∧ (0 ≤ mPi mi p 7 ∧ mPi mi p 7 ≤ 3)
/-- what the reference's scalars keep to -/
def SV (mi : Nat → Nat → Int) : Prop := gR32 mi ∧ (0 ≤ mi 148 0 ∧ mi 148 0 ≤ 99) ∧ (0 ≤ mi 148 2 ∧ mi 148 2 ≤ 12) ∧ (0 ≤ mi 148 6 ∧ mi 148 6 ≤ 24) ∧ (∀ a : Int, 0 ≤ a → a < mi 148 6 → PV mi a) ∧ ∀ p : Int, 0 ≤ p → p < mi 148 2 → QV mi p

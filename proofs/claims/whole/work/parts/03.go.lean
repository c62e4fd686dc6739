/-! ===== ints as numbers ===== -/
def iI (z : Int) : Int32 := Int32.ofInt z
def rng (z : Int) : Prop := -2147483648 ≤ z ∧ z < 2147483648
theorem iI_add (a b : Int) : iI a + iI b = iI (a + b) := by unfold iI; rw [Int32.ofInt_add]
theorem iI_sub (a b : Int) : iI a - iI b = iI (a - b) := by unfold iI; rw [Int32.ofInt_sub]
theorem iI_mul (a b : Int) : iI a * iI b = iI (a * b) := by unfold iI; rw [Int32.ofInt_mul]
theorem iI_neg (a : Int) : - iI a = iI (- a) := by unfold iI; rw [Int32.ofInt_neg]
theorem iI_toInt {z : Int} (h : rng z) : (iI z).toInt = z := by unfold iI; exact Int32.toInt_ofInt_of_le h.1 h.2
theorem iI_of (x : Int32) : iI x.toInt = x := by unfold iI; simp
theorem rng_of (x : Int32) : rng x.toInt := ⟨Int32.le_toInt x, Int32.toInt_lt x⟩
theorem iI_inj {a b : Int} (ha : rng a) (hb : rng b) : iI a = iI b ↔ a = b := ⟨fun h => by rw [← iI_toInt ha, ← iI_toInt hb, h], fun h => by rw [h]⟩
theorem iI_lt {a b : Int} (ha : rng a) (hb : rng b) : iI a < iI b ↔ a < b := by rw [Int32.lt_iff_toInt_lt, iI_toInt ha, iI_toInt hb]
theorem iI_le {a b : Int} (ha : rng a) (hb : rng b) : iI a ≤ iI b ↔ a ≤ b := by rw [Int32.le_iff_toInt_le, iI_toInt ha, iI_toInt hb]
theorem iI_div {a b : Int} (ha : rng a) (hb : rng b) (hr : rng (a.tdiv b)) : iI a / iI b = iI (a.tdiv b) := by
  apply Int32.toInt_inj.mp
  rw [iI_toInt hr, Int32.toInt_div, iI_toInt ha, iI_toInt hb]
  exact Int.bmod_eq_of_le (by have := hr.1; simpa using this) (by have := hr.2; simpa using this)
theorem iI_mod {a b : Int} (ha : rng a) (hb : rng b) (hr : rng (a.tmod b)) : iI a % iI b = iI (a.tmod b) := by
  apply Int32.toInt_inj.mp
  rw [iI_toInt hr, Int32.toInt_mod, iI_toInt ha, iI_toInt hb]
theorem iI_clamp {z : Int} (h : rng z) : (iI z).toNatClampNeg = z.toNat := by
  show (iI z).toInt.toNat = z.toNat
  rw [iI_toInt h]
theorem iI_in {z : Int} {n : Nat} (h0 : 0 ≤ z) (h1 : z < n) (hn : n < 2147483648) : vp_in (iI z) n := by
  have hr : rng z := ⟨by omega, by omega⟩
  unfold vp_in
  rintro (h | h)
  · rw [show (0 : Int32) = iI 0 from rfl, iI_lt hr ⟨by omega, by omega⟩] at h
    omega
  · rw [iI_clamp hr] at h
    omega

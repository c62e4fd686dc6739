/-! ===== comparisons of longs; numbers of a sheet; the tape as a list ===== -/
def cmpI (x y : Int) : Int := if y < x then 1 else if x = y then 0 else -1
theorem cmpI_f (x y : Int) : (cmpI x y = 1 ∧ y < x) ∨ (cmpI x y = 0 ∧ x = y) ∨ (cmpI x y = -1 ∧ x < y) := by
  unfold cmpI
  (repeat' split) <;> omega
theorem cmpI_rng (x y : Int) : rng (cmpI x y) := by
  have := cmpI_f x y
  exact ⟨by omega, by omega⟩
theorem lg_cmpI {X Y : Int64} {x y : Int} (hx : X.toInt = x) (hy : Y.toInt = y) : (lg_cmp X Y).toInt = cmpI x y := by
  subst hx
  subst hy
  unfold lg_cmp cmpI
  simp only [gt_iff_lt, Int64.lt_iff_toInt_lt, ← Int64.toInt_inj]
  (repeat' split) <;> rfl
theorem lg_eq0 (X Y : Int64) : (lg_cmp X Y).toInt = 0 ↔ X = Y := by
  rw [lg_cmpI rfl rfl, ← Int64.toInt_inj]
  have := cmpI_f X.toInt Y.toInt
  omega
theorem i64_of {a : Int} (h : rng a) : (iI a).toInt64.toInt = a := by
  rw [Int32.toInt_toInt64, iI_toInt h]
theorem i64_add {a b : Int} (ha : rng a) (hb : rng b) : ((iI a).toInt64 + (iI b).toInt64).toInt = a + b := by
  have h1 := ha.1
  have h2 := ha.2
  have h3 := hb.1
  have h4 := hb.2
  rw [Int64.toInt_add, i64_of ha, i64_of hb]
  exact Int.bmod_eq_of_le (by omega) (by omega)
theorem i2b_eq (v : Int) : (iI v).toInt8.toInt32.toInt = v.bmod 256 := by
  rw [Int8.toInt_toInt32]
  unfold iI
  rw [Int32.toInt8_ofInt, Int8.toInt_ofInt]
theorem i2s_eq (v : Int) : (iI v).toInt16.toInt32.toInt = v.bmod 65536 := by
  rw [Int16.toInt_toInt32]
  unfold iI
  rw [Int32.toInt16_ofInt, Int16.toInt_ofInt]
theorem shl8 : shlI 1 8 - 1 = 255 := by decide
theorem shl16 : shlI 1 16 - 1 = 65535 := by decide
theorem shRel_8 (v : Int) : shRel 8 (andI v 255) (v.bmod 256) := by
  rw [andI_255]
  refine ⟨fun _ => ?_, fun h => by omega, fun h => by omega⟩
  have h1 := Int.bmod_def v 256
  have e : ((256 : Nat) : Int) = 256 := rfl
  rw [e] at h1
  split at h1 <;> omega
theorem shRel_16 (v : Int) : shRel 16 (andI v 65535) (v.bmod 65536) := by
  rw [andI_65535]
  refine ⟨fun h => by omega, fun _ => ?_, fun h => by omega⟩
  have h1 := Int.bmod_def v 65536
  have e : ((65536 : Nat) : Int) = 65536 := rfl
  rw [e] at h1
  split at h1 <;> omega
theorem shRel_32 (v : Int) : shRel 32 v v := ⟨fun h => by omega, fun h => by omega, fun _ => rfl⟩
theorem shRel_0 (b : Int) : shRel b 0 0 := ⟨fun _ => by omega, fun _ => by omega, fun _ => rfl⟩
/-- the tapes as lists -/
def cTp (mi : Nat → Nat → Int) (l : List Int) : Prop := mi 132 0 = l.length ∧ ∀ i : Nat, i < l.length → mi 134 i = l.getD i 0
def mTp (mi : Nat → Nat → Int) (l : List Int) : Prop := mi 148 22 = l.length ∧ ∀ i : Nat, i < l.length → mi 164 i = l.getD i 0
section TP
variable {mi mi' : Nat → Nat → Int} {l : List Int} {z b : Int}
theorem getD_snoc_lt {i : Nat} (h : i < l.length) : (l ++ [b]).getD i 0 = l.getD i 0 := by
  simp only [List.getD_eq_getElem?_getD]
  rw [List.getElem?_append_left h]
theorem getD_snoc_eq : (l ++ [b]).getD l.length 0 = b := by
  simp only [List.getD_eq_getElem?_getD]
  rw [List.getElem?_append_right (Nat.le_refl _)]
  simp
theorem cTp_add (h : cTp mi l) (hz : z = l.length) : cTp (gu (gu mi 134 z.toNat b) 132 0 (z + 1)) (l ++ [b]) := by
  refine ⟨?_, fun i hi => ?_⟩
  · rw [gu_self]
    simp only [List.length_append, List.length_cons, List.length_nil]
    omega
  · rw [gu_other (by decide), gu_eq]
    simp only [List.length_append, List.length_cons, List.length_nil] at hi
    by_cases e : i = l.length
    · rw [if_pos ⟨rfl, by omega⟩, e, getD_snoc_eq]
    · rw [if_neg (by omega), getD_snoc_lt (by omega)]
      exact h.2 i (by omega)
theorem mTp_add (h : mTp mi l) (hz : z = l.length) : mTp (gu (gu mi 164 z.toNat b) 148 22 (z + 1)) (l ++ [b]) := by
  refine ⟨?_, fun i hi => ?_⟩
  · rw [gu_self]
    simp only [List.length_append, List.length_cons, List.length_nil]
    omega
  · rw [gu_other (by decide), gu_eq]
    simp only [List.length_append, List.length_cons, List.length_nil] at hi
    by_cases e : i = l.length
    · rw [if_pos ⟨rfl, by omega⟩, e, getD_snoc_eq]
    · rw [if_neg (by omega), getD_snoc_lt (by omega)]
      exact h.2 i (by omega)
theorem cTp.fr (h : cTp mi l) (h1 : mi' 132 0 = mi 132 0) (h2 : ∀ k, mi' 134 k = mi 134 k) : cTp mi' l := ⟨h1.trans h.1, fun i hi => (h2 i).trans (h.2 i hi)⟩
theorem mTp.fr (h : mTp mi l) (h1 : mi' 148 22 = mi 148 22) (h2 : ∀ k, mi' 164 k = mi 164 k) : mTp mi' l := ⟨h1.trans h.1, fun i hi => (h2 i).trans (h.2 i hi)⟩
theorem getD_tab (f : Nat → Int) (n i : Nat) (h : i < n) : ((List.range n).map f).getD i 0 = f i := by
  simp only [List.getD_eq_getElem?_getD]
  rw [List.getElem?_map, List.getElem?_range h]
  rfl
theorem Itp.list (h : Itp mi) : ∃ l : List Int, cTp mi l ∧ mTp mi l ∧ l.length ≤ 120 ∧ (∀ i : Nat, i < l.length → 0 ≤ l.getD i 0 ∧ l.getD i 0 ≤ 255) ∧ mi 148 22 = l.length := by
  obtain ⟨h1, h2, h3⟩ := h
  refine ⟨(List.range (mi 148 22).toNat).map (fun i => mi 164 i), ⟨?_, fun i hi => ?_⟩, ⟨?_, fun i hi => ?_⟩, ?_, fun i hi => ?_, ?_⟩ <;> simp only [List.length_map, List.length_range] at *
  · omega
  · rw [getD_tab _ _ _ hi]; exact (h3 i (by omega)).1
  · omega
  · rw [getD_tab _ _ _ hi]
  · omega
  · rw [getD_tab _ _ _ hi]; exact (h3 i (by omega)).2
  · omega
theorem Itp.of (hc : cTp mi l) (hm : mTp mi l) (hl : l.length ≤ 120) (hb : ∀ i : Nat, i < l.length → 0 ≤ l.getD i 0 ∧ l.getD i 0 ≤ 255) : Itp mi := by
  refine ⟨by rw [hc.1, hm.1], by rw [hm.1]; omega, fun i hi => ?_⟩
  rw [hm.1] at hi
  have hi : i < l.length := by omega
  rw [hc.2 i hi, hm.2 i hi]
  exact ⟨rfl, hb i hi⟩
theorem getD_snoc_b (h : ∀ i : Nat, i < l.length → 0 ≤ l.getD i 0 ∧ l.getD i 0 ≤ 255) (hb : 0 ≤ b ∧ b ≤ 255) : ∀ i : Nat, i < (l ++ [b]).length → 0 ≤ (l ++ [b]).getD i 0 ∧ (l ++ [b]).getD i 0 ≤ 255 := fun i hi => by
  simp only [List.length_append, List.length_cons, List.length_nil] at hi
  by_cases e : i = l.length
  · rw [e, getD_snoc_eq]; exact hb
  · rw [getD_snoc_lt (by omega)]; exact h i (by omega)
end TP

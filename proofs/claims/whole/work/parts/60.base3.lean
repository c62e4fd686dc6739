/-! ===== bits of an int below 2^k; rows filled with zeros, rows copied ===== -/
theorem andI_255 (a : Int) : andI a 255 = a % 256 := by
  unfold andI
  have h1 : (iI a &&& iI 255).toInt = ((iI a).toBitVec &&& 255#32).toInt := by
    rw [← Int32.toInt_toBitVec, Int32.toBitVec_and]
    rfl
  have h2 : (iI a).toBitVec = BitVec.ofInt 32 a := rfl
  rw [h1, h2]
  have hn : (BitVec.ofInt 32 a &&& 255#32).toNat = (BitVec.ofInt 32 a).toNat % 256 := by
    rw [BitVec.toNat_and]
    exact Nat.and_two_pow_sub_one_eq_mod _ 8
  rw [BitVec.toInt_eq_toNat_of_lt (by rw [hn]; omega), hn, BitVec.toNat_ofInt]
  omega
theorem andI_65535 (a : Int) : andI a 65535 = a % 65536 := by
  unfold andI
  have h1 : (iI a &&& iI 65535).toInt = ((iI a).toBitVec &&& 65535#32).toInt := by
    rw [← Int32.toInt_toBitVec, Int32.toBitVec_and]
    rfl
  have h2 : (iI a).toBitVec = BitVec.ofInt 32 a := rfl
  rw [h1, h2]
  have hn : (BitVec.ofInt 32 a &&& 65535#32).toNat = (BitVec.ofInt 32 a).toNat % 65536 := by
    rw [BitVec.toNat_and]
    exact Nat.and_two_pow_sub_one_eq_mod _ 16
  rw [BitVec.toInt_eq_toNat_of_lt (by rw [hn]; omega), hn, BitVec.toNat_ofInt]
  omega
/-- the i-th byte -/
def gby (x : Int) (i : Int) : Int := andI (shrI x (8 * i)) 255
theorem gby_b (x i : Int) : 0 ≤ gby x i ∧ gby x i ≤ 255 := by
  unfold gby
  rw [andI_255]
  omega
theorem bv_by (b : BitVec 32) (s : Nat) (hs : s ≤ 24) : (b >>> s) &&& 255#32 = (b.sshiftRight s) &&& 255#32 := by
  apply BitVec.eq_of_getLsbD_eq
  intro i hi
  simp only [BitVec.getLsbD_and, BitVec.getLsbD_ushiftRight, BitVec.getLsbD_sshiftRight]
  by_cases h8 : i < 8
  · rw [if_pos (by omega)]
    have : decide (32 ≤ i) = false := decide_eq_false (by omega)
    rw [this]
    simp
  · have : (255#32).getLsbD i = false := by
      have tab : ∀ i, i < 32 → 8 ≤ i → (255#32).getLsbD i = false := by decide
      exact tab i hi (by omega)
    rw [this, Bool.and_false, Bool.and_false]
theorem ush_by (x : Int) (i : Int) (h : i = 0 ∨ i = 1 ∨ i = 2 ∨ i = 3) : andI (((iI x).toUInt32 >>> ((iI (8 * i)).toUInt32 &&& Int32.toUInt32 31)).toInt32.toInt) 255 = gby x i := by
  unfold gby andI shrI
  rw [iI_of, iI_of]
  congr 1
  rcases h with rfl | rfl | rfl | rfl <;> exact Int32.toBitVec_inj.mp (bv_by (iI x).toBitVec _ (by decide))
/-- zeros in a row -/
def gfl (mi : Nat → Nat → Int) (c lo k : Nat) : Nat → Nat → Int := fun b j => if b = c ∧ lo ≤ j ∧ j < lo + k then 0 else mi b j
theorem gfl_0 (mi : Nat → Nat → Int) (c lo : Nat) : gfl mi c lo 0 = mi := by
  funext b j
  unfold gfl
  rw [if_neg (by omega)]
theorem gfl_s (mi : Nat → Nat → Int) (c lo k : Nat) : gu (gfl mi c lo k) c (lo + k) 0 = gfl mi c lo (k + 1) := by
  funext b j
  rw [gu_eq]
  unfold gfl
  by_cases h : b = c ∧ j = lo + k
  · rw [if_pos h, if_pos (by omega)]
  · rw [if_neg h]
    by_cases h2 : b = c ∧ lo ≤ j ∧ j < lo + k
    · rw [if_pos h2, if_pos (by omega)]
    · rw [if_neg h2, if_neg (by omega)]
theorem gfl_off {mi : Nat → Nat → Int} {c lo k b j : Nat} (h : b ≠ c ∨ j < lo ∨ lo + k ≤ j) : gfl mi c lo k b j = mi b j := if_neg (by omega)
theorem gfl_in {mi : Nat → Nat → Int} {c lo k j : Nat} (h : lo ≤ j) (h2 : j < lo + k) : gfl mi c lo k c j = 0 := if_pos ⟨rfl, h, h2⟩
theorem gfl_R {mi : Nat → Nat → Int} {c lo k : Nat} (h : gR32 mi) : gR32 (gfl mi c lo k) := fun b j => by
  unfold gfl
  split
  · exact ⟨by decide, by decide⟩
  · exact h b j
/-- a row copied: k numbers of cell a from place u into cell c at place lo -/
def gcpy (mi : Nat → Nat → Int) (a u c lo k : Nat) : Nat → Nat → Int := fun b j => if b = c ∧ lo ≤ j ∧ j < lo + k then mi a (u + (j - lo)) else mi b j
theorem gcpy_0 (mi : Nat → Nat → Int) (a u c lo : Nat) : gcpy mi a u c lo 0 = mi := by
  funext b j
  unfold gcpy
  rw [if_neg (by omega)]
theorem gcpy_s (mi : Nat → Nat → Int) (a u c lo k : Nat) : gu (gcpy mi a u c lo k) c (lo + k) (mi a (u + k)) = gcpy mi a u c lo (k + 1) := by
  funext b j
  rw [gu_eq]
  unfold gcpy
  by_cases h : b = c ∧ j = lo + k
  · rw [if_pos h, if_pos (by omega), show u + (j - lo) = u + k by omega]
  · rw [if_neg h]
    by_cases h2 : b = c ∧ lo ≤ j ∧ j < lo + k
    · rw [if_pos h2, if_pos (by omega)]
    · rw [if_neg h2, if_neg (by omega)]
theorem gcpy_off {mi : Nat → Nat → Int} {a u c lo k b j : Nat} (h : b ≠ c ∨ j < lo ∨ lo + k ≤ j) : gcpy mi a u c lo k b j = mi b j := if_neg (by omega)
theorem gcpy_in {mi : Nat → Nat → Int} {a u c lo k j : Nat} (h : lo ≤ j) (h2 : j < lo + k) : gcpy mi a u c lo k c j = mi a (u + (j - lo)) := if_pos ⟨rfl, h, h2⟩
theorem gcpy_R {mi : Nat → Nat → Int} {a u c lo k : Nat} (h : gR32 mi) : gR32 (gcpy mi a u c lo k) := fun b j => by
  unfold gcpy
  split <;> exact h _ _
theorem mC_gw {mi : Nat → Nat → Int} {ml : Nat → Nat → Int64} {a u c lo k : Nat} : mC (gw mi ml) a u c lo k = gw (gcpy mi a u c lo k) ml := by
  unfold mC gw gcpy
  congr 2
  funext b j
  dsimp only
  by_cases h : b = c
  · by_cases h2 : lo ≤ j ∧ j < lo + k
    · rw [if_pos h, if_pos h2, if_pos ⟨h, h2⟩]
    · rw [if_pos h, if_neg h2, if_neg (fun q => h2 q.2)]
  · rw [if_neg h, if_neg (fun q => h q.1)]
section GC
variable {G : gG} {mt : gMt} {n mc ms pc nx x y N N1 a b : Nat} {z u v w : Int} {lv : List (Option gV)} {st : List gV} {P : Option gV → gMe → Prop} {mi : Nat → Nat → Int} {ml : Nat → Nat → Int64}
theorem Go.copyW (hi : gat mt pc = some (85, z, x, y, nx)) (hn : 1 ≤ n) (hcat : gcats st ≤ 8) (ha : gSH[a]? = some (100, N)) (hb : gSH[b]? = some (100, N1)) (hN : N < 2147483648) (hN1 : N1 < 2147483648) (h0 : 0 ≤ u) (h1 : 0 ≤ v) (h2 : 0 ≤ w) (h3 : u + w ≤ N) (h4 : v + w ≤ N1) (kk : Go G mt n mc ms nx lv st (gw (gcpy mi a u.toNat b v.toNat w.toNat) ml) P) : Go G mt n mc ms pc lv (gi w :: gi v :: gr b :: gi u :: gr a :: st) (gw mi ml) P := by
  refine Go.copy hi hn hcat ha hb hN hN1 h0 h1 h2 h3 h4 ?_
  rw [mC_gw]
  exact kk
end GC

/-! ===== how many bits: the JDK's way of counting them ===== -/
def popN (x : Nat) : Nat → Nat
  | 0 => 0
  | k + 1 => popN x k + (x.testBit k).toNat
theorem tb_lane (a : Nat) {b : Nat} (hb : b < 256) (j : Nat) : (256 * a + b).testBit j = if j < 8 then b.testBit j else a.testBit (j - 8) := Nat.testBit_two_pow_mul_add a (i := 8) hb j
theorem popN_low (a : Nat) {b : Nat} (hb : b < 256) : ∀ k, k ≤ 8 → popN (256 * a + b) k = popN b k
  | 0, _ => rfl
  | k + 1, h => by
    show popN (256 * a + b) k + _ = popN b k + _
    rw [popN_low a hb k (by omega), tb_lane a hb, if_pos (by omega)]
theorem popN_lane (a : Nat) {b : Nat} (hb : b < 256) : ∀ k, popN (256 * a + b) (8 + k) = popN b 8 + popN a k
  | 0 => popN_low a hb 8 (Nat.le_refl _)
  | k + 1 => by
    show popN (256 * a + b) (8 + k) + ((256 * a + b).testBit (8 + k)).toNat = popN b 8 + (popN a k + (a.testBit k).toNat)
    rw [popN_lane a hb k, tb_lane a hb, if_neg (by omega), show 8 + k - 8 = k by omega]
    omega
theorem land_lane (a c : Nat) {b d : Nat} (hb : b < 256) (hd : d < 256) : (256 * a + b) &&& (256 * c + d) = 256 * (a &&& c) + (b &&& d) := by
  have h9 : b &&& d < 256 := Nat.lt_of_le_of_lt Nat.and_le_left hb
  apply Nat.eq_of_testBit_eq
  intro j
  rw [Nat.testBit_and, tb_lane a hb, tb_lane c hd, tb_lane _ h9]
  by_cases h : j < 8
  · rw [if_pos h, if_pos h, if_pos h, Nat.testBit_and]
  · rw [if_neg h, if_neg h, if_neg h, Nat.testBit_and]
def sw1 (x M : Nat) : Nat := x - ((x / 2) &&& M)
def sw2 (y M : Nat) : Nat := (y &&& M) + ((y / 4) &&& M)
def sw3 (z M : Nat) : Nat := (z + z / 16) &&& M
def swr (d : Nat) : Nat → Nat
  | 0 => 0
  | n + 1 => 256 * swr d n + d
def popW : Nat → Nat → Nat
  | 0, _ => 0
  | n + 1, x => 256 * popW n (x / 256) + popN (x % 256) 8
def st1 (b : Nat) : Nat := b - ((b / 2) &&& 85)
def st2 (b : Nat) : Nat := (b &&& 51) + ((b / 4) &&& 51)
theorem swT1 : ∀ r, r < 2 → ∀ b, b < 256 → (128 * r + b / 2) &&& 85 = (b / 2) &&& 85 := by decide +kernel
theorem swT2 : ∀ r, r < 4 → ∀ b, b < 256 → (64 * r + b / 4) &&& 51 = (b / 4) &&& 51 := by decide +kernel
theorem swT3 : ∀ r, r < 5 → ∀ b, b < 256 → 16 * r + st2 (st1 b) + st2 (st1 b) / 16 < 256 ∧ (16 * r + st2 (st1 b) + st2 (st1 b) / 16) &&& 15 = popN b 8 := by decide +kernel
theorem swT4 : ∀ b, b < 256 → st2 (st1 b) % 16 ≤ 4 ∧ st2 (st1 b) < 256 ∧ popN b 8 ≤ 8 := by decide +kernel
theorem sw1_lane (a c : Nat) {b : Nat} (hb : b < 256) : sw1 (256 * a + b) (256 * c + 85) = 256 * sw1 a c + st1 b := by
  unfold sw1 st1
  have e : (256 * a + b) / 2 = 256 * (a / 2) + (128 * (a % 2) + b / 2) := by omega
  rw [e, land_lane _ _ (by omega) (by decide), swT1 (a % 2) (by omega) b hb]
  have h1 : (a / 2) &&& c ≤ a / 2 := Nat.and_le_left
  have h2 : (b / 2) &&& 85 ≤ b / 2 := Nat.and_le_left
  omega
theorem sw2_lane (a c : Nat) {b : Nat} (hb : b < 256) : sw2 (256 * a + b) (256 * c + 51) = 256 * sw2 a c + st2 b := by
  unfold sw2 st2
  have e : (256 * a + b) / 4 = 256 * (a / 4) + (64 * (a % 4) + b / 4) := by omega
  rw [e, land_lane _ _ hb (by decide), land_lane _ _ (by omega) (by decide), swT2 (a % 4) (by omega) b hb]
  omega
theorem swar : ∀ n x : Nat, x < 256 ^ n → sw3 (sw2 (sw1 x (swr 85 n)) (swr 51 n)) (swr 15 n) = popW n x ∧ sw2 (sw1 x (swr 85 n)) (swr 51 n) % 16 ≤ 4
  | 0, x, h => by
    have h : x < 1 := h
    obtain rfl : x = 0 := by omega
    exact ⟨by decide, by decide⟩
  | n + 1, x, h => by
    have hx : x = 256 * (x / 256) + x % 256 := by omega
    have hb : x % 256 < 256 := by omega
    rw [Nat.pow_succ] at h
    obtain ⟨i1, i2⟩ := swar n (x / 256) (by omega)
    have ew : popW (n + 1) x = 256 * popW n (x / 256) + popN (x % 256) 8 := rfl
    rw [ew]
    generalize x / 256 = a at *
    generalize x % 256 = b at *
    subst hx
    have t4 := swT4 b hb
    have hs1 : st1 b < 256 := by unfold st1; omega
    have e2 : sw2 (sw1 (256 * a + b) (swr 85 (n + 1))) (swr 51 (n + 1)) = 256 * sw2 (sw1 a (swr 85 n)) (swr 51 n) + st2 (st1 b) := by
      show sw2 (sw1 (256 * a + b) (256 * swr 85 n + 85)) (256 * swr 51 n + 51) = _
      rw [sw1_lane a _ hb, sw2_lane _ _ hs1]
    rw [e2]
    generalize sw2 (sw1 a (swr 85 n)) (swr 51 n) = y at *
    have t3 := swT3 (y % 16) (by omega) b hb
    refine ⟨?_, by omega⟩
    rw [← i1]
    show ((256 * y + st2 (st1 b)) + (256 * y + st2 (st1 b)) / 16) &&& (256 * swr 15 n + 15) = 256 * ((y + y / 16) &&& swr 15 n) + popN b 8
    have e : (256 * y + st2 (st1 b)) + (256 * y + st2 (st1 b)) / 16 = 256 * (y + y / 16) + (16 * (y % 16) + st2 (st1 b) + st2 (st1 b) / 16) := by omega
    rw [e, land_lane _ _ t3.1 (by decide), t3.2]
theorem popW_le : ∀ _ x : Nat, popN (x % 256) 8 ≤ 8 := fun _ x => (swT4 (x % 256) (by omega)).2.2
theorem popN_step (x k : Nat) : popN x (8 + k) = popN (x % 256) 8 + popN (x / 256) k := by
  have h := popN_lane (x / 256) (b := x % 256) (by omega) k
  rw [show 256 * (x / 256) + x % 256 = x by omega] at h
  exact h
theorem popW_s (n x : Nat) : popW (n + 1) x = 256 * popW n (x / 256) + popN (x % 256) 8 := rfl
theorem popW_8 (x : Nat) : ∃ p0 p1 p2 p3 p4 p5 p6 p7 : Nat, p0 ≤ 8 ∧ p1 ≤ 8 ∧ p2 ≤ 8 ∧ p3 ≤ 8 ∧ p4 ≤ 8 ∧ p5 ≤ 8 ∧ p6 ≤ 8 ∧ p7 ≤ 8 ∧ popW 8 x = 256 * (256 * (256 * (256 * (256 * (256 * (256 * (256 * 0 + p7) + p6) + p5) + p4) + p3) + p2) + p1) + p0 ∧ popN x 64 = p0 + (p1 + (p2 + (p3 + (p4 + (p5 + (p6 + p7)))))) := by
  refine ⟨popN (x % 256) 8, popN (x / 256 % 256) 8, popN (x / 256 / 256 % 256) 8, popN (x / 256 / 256 / 256 % 256) 8, popN (x / 256 / 256 / 256 / 256 % 256) 8, popN (x / 256 / 256 / 256 / 256 / 256 % 256) 8, popN (x / 256 / 256 / 256 / 256 / 256 / 256 % 256) 8, popN (x / 256 / 256 / 256 / 256 / 256 / 256 / 256 % 256) 8, popW_le 0 (x), popW_le 0 (x / 256), popW_le 0 (x / 256 / 256), popW_le 0 (x / 256 / 256 / 256), popW_le 0 (x / 256 / 256 / 256 / 256), popW_le 0 (x / 256 / 256 / 256 / 256 / 256), popW_le 0 (x / 256 / 256 / 256 / 256 / 256 / 256), popW_le 0 (x / 256 / 256 / 256 / 256 / 256 / 256 / 256), ?_, ?_⟩
  · rw [popW_s 7, popW_s 6, popW_s 5, popW_s 4, popW_s 3, popW_s 2, popW_s 1, popW_s 0]
    have z : ∀ y, popW 0 y = 0 := fun _ => rfl
    rw [z]
  · have a0 : popN (x) 64 = popN (x % 256) 8 + popN (x / 256) 56 := popN_step (x) 56
    have a1 : popN (x / 256) 56 = popN (x / 256 % 256) 8 + popN (x / 256 / 256) 48 := popN_step (x / 256) 48
    have a2 : popN (x / 256 / 256) 48 = popN (x / 256 / 256 % 256) 8 + popN (x / 256 / 256 / 256) 40 := popN_step (x / 256 / 256) 40
    have a3 : popN (x / 256 / 256 / 256) 40 = popN (x / 256 / 256 / 256 % 256) 8 + popN (x / 256 / 256 / 256 / 256) 32 := popN_step (x / 256 / 256 / 256) 32
    have a4 : popN (x / 256 / 256 / 256 / 256) 32 = popN (x / 256 / 256 / 256 / 256 % 256) 8 + popN (x / 256 / 256 / 256 / 256 / 256) 24 := popN_step (x / 256 / 256 / 256 / 256) 24
    have a5 : popN (x / 256 / 256 / 256 / 256 / 256) 24 = popN (x / 256 / 256 / 256 / 256 / 256 % 256) 8 + popN (x / 256 / 256 / 256 / 256 / 256 / 256) 16 := popN_step (x / 256 / 256 / 256 / 256 / 256) 16
    have a6 : popN (x / 256 / 256 / 256 / 256 / 256 / 256) 16 = popN (x / 256 / 256 / 256 / 256 / 256 / 256 % 256) 8 + popN (x / 256 / 256 / 256 / 256 / 256 / 256 / 256) 8 := popN_step (x / 256 / 256 / 256 / 256 / 256 / 256) 8
    have a7 : popN (x / 256 / 256 / 256 / 256 / 256 / 256 / 256) 8 = popN (x / 256 / 256 / 256 / 256 / 256 / 256 / 256 % 256) 8 + popN (x / 256 / 256 / 256 / 256 / 256 / 256 / 256 / 256) 0 := popN_step (x / 256 / 256 / 256 / 256 / 256 / 256 / 256) 0
    have a8 : popN (x / 256 / 256 / 256 / 256 / 256 / 256 / 256 / 256) 0 = 0 := rfl
    rw [a0, a1, a2, a3, a4, a5, a6, a7, a8, Nat.add_zero]
theorem dv_256 (A : Nat) {p : Nat} (h : p ≤ 8) : (256 * A + p) / 256 = A := by omega
theorem dv_64k (V : Nat) {s : Nat} (h : s < 65536) : (65536 * V + s) / 65536 = V := by omega
theorem dv_4g (V : Nat) {s : Nat} (h : s < 4294967296) : (4294967296 * V + s) / 4294967296 = V := by omega
theorem swE {a0 u a4 r y : Nat} (h : y = a0 + 256 * u + (a4 + 256 * r)) (b : a0 + a4 < 128) : y % 128 = a0 + a4 := by omega
theorem swar64 {x y1 y2 y3 y4 y5 y6 : Nat} (hx : x < 256 ^ 8) (h1 : y1 = x - ((x / 2) &&& 6148914691236517205)) (h2 : y2 = (y1 &&& 3689348814741910323) + ((y1 / 4) &&& 3689348814741910323)) (h3 : y3 = (y2 + y2 / 16) &&& 1085102592571150095) (h4 : y4 = y3 + y3 / 256) (h5 : y5 = y4 + y4 / 65536) (h6 : y6 = y5 + y5 / 4294967296) : y6 % 128 = popN x 64 := by
  have hs := (swar 8 x hx).1
  have e5 : swr 85 8 = 6148914691236517205 := by decide
  have e3 : swr 51 8 = 3689348814741910323 := by decide
  have e0 : swr 15 8 = 1085102592571150095 := by decide
  rw [e5, e3, e0] at hs
  unfold sw3 sw2 sw1 at hs
  rw [← h1, ← h2, ← h3] at hs
  obtain ⟨p0, p1, p2, p3, p4, p5, p6, p7, b0, b1, b2, b3, b4, b5, b6, b7, p, q⟩ := popW_8 x
  rw [p] at hs
  rw [q]
  clear p q h1 h2 h3 e5 e3 e0 hx
  obtain ⟨A, hA⟩ : ∃ A, A = 256 * (256 * (256 * (256 * (256 * (256 * (256 * 0 + p7) + p6) + p5) + p4) + p3) + p2) + p1 := ⟨_, rfl⟩
  rw [← hA] at hs
  rw [hs, dv_256 A b0] at h4
  clear hs
  obtain ⟨V, hV⟩ : ∃ V, V = (p2 + p3) + 256 * ((p3 + p4) + 256 * ((p4 + p5) + 256 * ((p5 + p6) + 256 * ((p6 + p7) + 256 * p7)))) := ⟨_, rfl⟩
  have g4 : y4 = 65536 * V + ((p0 + p1) + 256 * (p1 + p2)) := by rw [h4, hA, hV]; omega
  rw [g4, dv_64k V (by omega)] at h5
  clear h4 g4 hA
  obtain ⟨W, hW⟩ : ∃ W, W = (p4 + p5 + (p6 + p7)) + 256 * ((p5 + p6 + p7) + 256 * ((p6 + p7) + 256 * p7)) := ⟨_, rfl⟩
  have g5 : y5 = 4294967296 * W + ((p0 + p1 + (p2 + p3)) + 256 * ((p1 + p2 + (p3 + p4)) + 256 * ((p2 + p3 + (p4 + p5)) + 256 * (p3 + p4 + (p5 + p6))))) := by rw [h5, hV, hW]; omega
  rw [g5, dv_4g W (by omega)] at h6
  have := swE (a0 := p0 + p1 + (p2 + p3)) (u := 16777216 * W + ((p1 + p2 + (p3 + p4)) + 256 * ((p2 + p3 + (p4 + p5)) + 256 * (p3 + p4 + (p5 + p6))))) (a4 := p4 + p5 + (p6 + p7)) (r := (p5 + p6 + p7) + 256 * ((p6 + p7) + 256 * p7)) (y := y6) (by rw [h6]; omega) (by omega)
  rw [this]
  omega
/-! longs as numbers without a sign -/
def un (x : Int64) : Nat := x.toBitVec.toNat
theorem un_lt (x : Int64) : un x < 18446744073709551616 := x.toBitVec.isLt
theorem un_and (x y : Int64) : un (x &&& y) = un x &&& un y := by unfold un; rw [Int64.toBitVec_and, BitVec.toNat_and]
theorem un_or (x y : Int64) : un (x ||| y) = un x ||| un y := by unfold un; rw [Int64.toBitVec_or, BitVec.toNat_or]
theorem un_add (x y : Int64) : un (x + y) = (un x + un y) % 18446744073709551616 := by unfold un; rw [Int64.toBitVec_add, BitVec.toNat_add]
theorem un_sub (x y : Int64) (h : un y ≤ un x) : un (x - y) = un x - un y := by
  have h1 := un_lt x
  have h2 := un_lt y
  have : un (x - y) = (18446744073709551616 - un y + un x) % 18446744073709551616 := by unfold un; rw [Int64.toBitVec_sub, BitVec.toNat_sub]
  rw [this]
  omega
theorem un_ushr (x : Int64) (s : UInt64) (k : Nat) (hs : s.toNat % 64 = k) : un ((x.toUInt64 >>> s).toInt64) = un x / 2 ^ k := by
  have h := UInt64.toNat_shiftRight x.toUInt64 s
  rw [hs, Nat.shiftRight_eq_div_pow] at h
  exact h
theorem andI_127 (X : Int32) : andI X.toInt 127 = ((X.toBitVec.toNat % 128 : Nat) : Int) := by
  unfold andI
  rw [iI_of]
  have h1 : (X &&& iI 127).toInt = (X.toBitVec &&& 127#32).toInt := by
    rw [← Int32.toInt_toBitVec, Int32.toBitVec_and]
    rfl
  rw [h1]
  have hn : (X.toBitVec &&& 127#32).toNat = X.toBitVec.toNat % 128 := by
    rw [BitVec.toNat_and]
    exact Nat.and_two_pow_sub_one_eq_mod _ 7
  rw [BitVec.toInt_eq_toNat_of_lt (by rw [hn]; omega), hn]
theorem un_l2i (x : Int64) : x.toInt32.toBitVec.toNat = un x % 4294967296 := by
  unfold un
  rw [Int64.toBitVec_toInt32, BitVec.signExtend_eq_setWidth_of_le _ (by decide), BitVec.toNat_setWidth]
/-- the long's bits -/
def popL (x : Int64) : Int := (popN (un x) 64 : Nat)
theorem popL_ok {x y1 y2 y3 y4 y5 y6 : Int64} {a1 a2 a3 a4 a5 a6 : Int64} {c5 c3 c0 : Int64} (k5 : un c5 = 6148914691236517205) (k3 : un c3 = 3689348814741910323) (k0 : un c0 = 1085102592571150095)
    (u1 : un a1 = un x / 2) (h1 : x - (a1 &&& c5) = y1) (u2 : un a2 = un y1 / 4) (h2 : (y1 &&& c3) + (a2 &&& c3) = y2) (u3 : un a3 = un y2 / 16) (h3 : (y2 + a3) &&& c0 = y3) (u4 : un a4 = un y3 / 256) (h4 : y3 + a4 = y4) (u5 : un a5 = un y4 / 65536) (h5 : y4 + a5 = y5) (u6 : un a6 = un y5 / 4294967296) (h6 : y5 + a6 = y6) : andI y6.toInt32.toInt 127 = popL x := by
  have l0 := un_lt x
  have l1 := un_lt y1
  have l2 := un_lt y2
  have l3 := un_lt y3
  have l4 := un_lt y4
  have l5 := un_lt y5
  have l6 := un_lt y6
  have e1 : un y1 = un x - ((un x / 2) &&& 6148914691236517205) := by
    have hle : (un x / 2) &&& 6148914691236517205 ≤ un x / 2 := Nat.and_le_left
    rw [← h1, un_sub, un_and, u1, k5]
    rw [un_and, u1, k5]
    omega
  have e2 : un y2 = (un y1 &&& 3689348814741910323) + ((un y1 / 4) &&& 3689348814741910323) := by
    have q1 : un y1 &&& 3689348814741910323 ≤ 3689348814741910323 := Nat.and_le_right
    have q2 : (un y1 / 4) &&& 3689348814741910323 ≤ 3689348814741910323 := Nat.and_le_right
    rw [← h2, un_add, un_and, un_and, u2, k3]
    omega
  have q3 : un y2 ≤ 7378697629483820646 := by
    have q1 : un y1 &&& 3689348814741910323 ≤ 3689348814741910323 := Nat.and_le_right
    have q2 : (un y1 / 4) &&& 3689348814741910323 ≤ 3689348814741910323 := Nat.and_le_right
    omega
  have e3 : un y3 = (un y2 + un y2 / 16) &&& 1085102592571150095 := by
    rw [← h3, un_and, un_add, u3, k0, Nat.mod_eq_of_lt (by omega)]
  have q4 : un y3 ≤ 1085102592571150095 := by
    rw [e3]
    exact Nat.and_le_right
  have e4 : un y4 = un y3 + un y3 / 256 := by
    rw [← h4, un_add, u4]
    omega
  have e5 : un y5 = un y4 + un y4 / 65536 := by
    rw [← h5, un_add, u5]
    omega
  have e6 : un y6 = un y5 + un y5 / 4294967296 := by
    rw [← h6, un_add, u6]
    omega
  have hs := swar64 (show un x < 256 ^ 8 from l0) e1 e2 e3 e4 e5 e6
  rw [andI_127, un_l2i]
  unfold popL
  rw [← hs]
  congr 1
  omega
theorem popL_b (x : Int64) : 0 ≤ popL x ∧ popL x ≤ 64 := by
  have : ∀ k, popN (un x) k ≤ k := fun k => by
    induction k with
    | zero => exact Nat.le_refl _
    | succ k ih =>
      show popN (un x) k + _ ≤ k + 1
      have : ((un x).testBit k).toNat ≤ 1 := Bool.toNat_le _
      omega
  have := this 64
  unfold popL
  omega
/-- a long's bits, one by one -/
def lbit (x : Int64) (i : Nat) : Bool := (un x).testBit i
theorem lbit_and (x y : Int64) (i : Nat) : lbit (x &&& y) i = (lbit x i && lbit y i) := by unfold lbit; rw [un_and, Nat.testBit_and]
theorem lbit_or (x y : Int64) (i : Nat) : lbit (x ||| y) i = (lbit x i || lbit y i) := by unfold lbit; rw [un_or, Nat.testBit_or]
theorem lbit_hi (x : Int64) {i : Nat} (h : 64 ≤ i) : lbit x i = false := by
  unfold lbit
  exact Nat.testBit_lt_two_pow (Nat.lt_of_lt_of_le (un_lt x) (Nat.pow_le_pow_right (n := 2) (by decide) h))
theorem lbit_ext {x y : Int64} (h : ∀ i, i < 64 → lbit x i = lbit y i) : x = y := by
  have : un x = un y := by
    apply Nat.eq_of_testBit_eq
    intro i
    by_cases hi : i < 64
    · exact h i hi
    · have h1 := lbit_hi x (i := i) (by omega)
      have h2 := lbit_hi y (i := i) (by omega)
      unfold lbit at h1 h2
      rw [h1, h2]
  apply Int64.toBitVec_inj.mp
  exact BitVec.eq_of_toNat_eq this
theorem lbit_bv (x : Int64) (i : Nat) : lbit x i = x.toBitVec.getLsbD i := rfl
theorem lbit_not (x : Int64) {i : Nat} (h : i < 64) : lbit (x ^^^ Int64.ofInt (-1)) i = !lbit x i := by
  rw [lbit_bv, lbit_bv, Int64.toBitVec_xor, BitVec.getLsbD_xor]
  have tab : ∀ i, i < 64 → (Int64.ofInt (-1)).toBitVec.getLsbD i = true := by decide +kernel
  rw [tab i h]
  cases x.toBitVec.getLsbD i <;> rfl
theorem lbit_zero (i : Nat) : lbit (Int64.ofInt 0) i = false := by
  rw [lbit_bv]
  exact BitVec.getLsbD_zero

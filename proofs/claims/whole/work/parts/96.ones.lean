/-! ===== how many of the set ===== -/
theorem popW_4 (x : Nat) : ∃ p0 p1 p2 p3 : Nat, p0 ≤ 8 ∧ p1 ≤ 8 ∧ p2 ≤ 8 ∧ p3 ≤ 8 ∧ popW 4 x = 256 * (256 * (256 * (256 * 0 + p3) + p2) + p1) + p0 ∧ popN x 32 = p0 + (p1 + (p2 + p3)) := by
  refine ⟨popN (x % 256) 8, popN (x / 256 % 256) 8, popN (x / 256 / 256 % 256) 8, popN (x / 256 / 256 / 256 % 256) 8, popW_le 0 (x), popW_le 0 (x / 256), popW_le 0 (x / 256 / 256), popW_le 0 (x / 256 / 256 / 256), ?_, ?_⟩
  · rw [popW_s 3, popW_s 2, popW_s 1, popW_s 0]
    have z : ∀ y, popW 0 y = 0 := fun _ => rfl
    rw [z]
  · have a0 : popN (x) 32 = popN (x % 256) 8 + popN (x / 256) 24 := popN_step (x) 24
    have a1 : popN (x / 256) 24 = popN (x / 256 % 256) 8 + popN (x / 256 / 256) 16 := popN_step (x / 256) 16
    have a2 : popN (x / 256 / 256) 16 = popN (x / 256 / 256 % 256) 8 + popN (x / 256 / 256 / 256) 8 := popN_step (x / 256 / 256) 8
    have a3 : popN (x / 256 / 256 / 256) 8 = popN (x / 256 / 256 / 256 % 256) 8 + popN (x / 256 / 256 / 256 / 256) 0 := popN_step (x / 256 / 256 / 256) 0
    have a8 : popN (x / 256 / 256 / 256 / 256) 0 = 0 := rfl
    rw [a0, a1, a2, a3, a8, Nat.add_zero]
theorem swar32 {x y1 y2 y3 y4 y5 : Nat} (hx : x < 256 ^ 4) (h1 : y1 = x - ((x / 2) &&& 1431655765)) (h2 : y2 = (y1 &&& 858993459) + ((y1 / 4) &&& 858993459)) (h3 : y3 = (y2 + y2 / 16) &&& 252645135) (h4 : y4 = y3 + y3 / 256) (h5 : y5 = y4 + y4 / 65536) : y5 % 64 = popN x 32 := by
  have hs := (swar 4 x hx).1
  have e5 : swr 85 4 = 1431655765 := by decide
  have e3 : swr 51 4 = 858993459 := by decide
  have e0 : swr 15 4 = 252645135 := by decide
  rw [e5, e3, e0] at hs
  unfold sw3 sw2 sw1 at hs
  rw [← h1, ← h2, ← h3] at hs
  obtain ⟨p0, p1, p2, p3, b0, b1, b2, b3, p, q⟩ := popW_4 x
  rw [p] at hs
  rw [q]
  clear p q h1 h2 h3 e5 e3 e0 hx
  obtain ⟨A, hA⟩ : ∃ A, A = 256 * (256 * (256 * 0 + p3) + p2) + p1 := ⟨_, rfl⟩
  rw [← hA] at hs
  rw [hs, dv_256 A b0] at h4
  clear hs
  obtain ⟨V, hV⟩ : ∃ V, V = (p2 + p3) + 256 * p3 := ⟨_, rfl⟩
  have g4 : y4 = 65536 * V + ((p0 + p1) + 256 * (p1 + p2)) := by rw [h4, hA, hV]; omega
  rw [g4, dv_64k V (by omega)] at h5
  have g5 : y5 = 64 * (1024 * V + 4 * (p1 + p2) + 4 * p3) + (p0 + p1 + p2 + p3) := by rw [h5]; omega
  rw [g5]
  omega
theorem iI_natBv {a : Nat} (h : a < 4294967296) : (iI (a : Int)).toBitVec.toNat = a := by
  show (BitVec.ofInt 32 ((a : Nat) : Int)).toNat = _
  rw [BitVec.toNat_ofInt]
  omega
theorem andI_nat {a b : Nat} (ha : a < 2147483648) (hb : b < 2147483648) : andI (a : Int) (b : Int) = ((a &&& b : Nat) : Int) := by
  unfold andI
  have hle : a &&& b ≤ a := Nat.and_le_left
  have hn3 : (iI (a : Int) &&& iI (b : Int)).toBitVec.toNat = a &&& b := by
    rw [Int32.toBitVec_and, BitVec.toNat_and, iI_natBv (by omega), iI_natBv (by omega)]
  rw [← Int32.toInt_toBitVec, BitVec.toInt_eq_toNat_of_lt (by rw [hn3]; omega), hn3]
theorem ushN {a : Nat} (ha : a < 2147483648) {s : UInt32} (D : Nat) (hs : 2 ^ (s.toNat % 32) = D) : ((iI (a : Int)).toUInt32 >>> s).toInt32.toInt = ((a / D : Nat) : Int) := by
  have e : (((iI (a : Int)).toUInt32 >>> s).toInt32).toBitVec.toNat = a / D := by
    show ((iI (a : Int)).toUInt32 >>> s).toNat = _
    rw [UInt32.toNat_shiftRight, Nat.shiftRight_eq_div_pow, hs]
    show (iI (a : Int)).toBitVec.toNat / D = _
    rw [iI_natBv (by omega)]
  have hl : a / D ≤ a := Nat.div_le_self _ _
  rw [← Int32.toInt_toBitVec, BitVec.toInt_eq_toNat_of_lt (by rw [e]; omega), e]
theorem popN_24 {x : Nat} (h : x < 16777216) : popN x 32 = popN x 24 := by
  have : ∀ j, popN x (24 + j) = popN x 24 := fun j => by
    induction j with
    | zero => rfl
    | succ j ih =>
      show popN x (24 + j) + (x.testBit (24 + j)).toNat = popN x 24
      rw [ih, Nat.testBit_lt_two_pow (Nat.lt_of_lt_of_le (show x < 2 ^ 24 from h) (Nat.pow_le_pow_right (by decide) (by omega)))]
      rfl
  exact this 8
set_option maxRecDepth 100000 in
set_option maxHeartbeats 4000000 in
theorem cJ_ibits {G : gG} (hsz : G.2.2.2.2.2.2 = true) {n : Nat} (hn : 1 ≤ n) (mi : Nat → Nat → Int) (ml : Nat → Nat → Int64) (x : Nat) (hx : x < 16777216) : gM G 248 n 0 0 [gi ((x : Nat) : Int)] (gw mi ml) (gret ((popN x 24 : Nat) : Int) (gw mi ml)) := by

  have u0 := ushN (a := x) (by omega) (s := (iI 1).toUInt32 &&& Int32.toUInt32 31) 2 (by decide)
  have v0 := andI_nat (a := x / 2) (b := 1431655765) (by omega) (by decide)
  have l0 : (x / 2) &&& 1431655765 ≤ x / 2 := Nat.and_le_left
  refine gM.of mJ6_bitCount_0f7a4 okJ6_bitCount_0f7a4 (by decide +kernel) (by decide +kernel) (Nat.le_of_ble_eq_true rfl) ?_
  refine Go.run hsz hn 8 (pc' := 10) (lv' := [some (gi (((x : Nat) : Int) - (andI (((iI ((x : Nat) : Int)).toUInt32 >>> ((iI 1).toUInt32 &&& Int32.toUInt32 31)).toInt32.toInt) 1431655765)))]) (st' := []) (M' := gw mi ml) rfl ?_
  obtain ⟨y1, hy1⟩ : ∃ y1 : Nat, y1 = x - ((x / 2) &&& 1431655765) := ⟨_, rfl⟩
  have ey1 : ((x : Nat) : Int) - (andI (((iI ((x : Nat) : Int)).toUInt32 >>> ((iI 1).toUInt32 &&& Int32.toUInt32 31)).toInt32.toInt) 1431655765) = ((y1 : Nat) : Int) := (by rw [u0]; rw [show (1431655765 : Int) = ((1431655765 : Nat) : Int) from rfl, v0]; omega)
  rw [ey1]
  have l1 : y1 ≤ x := by omega
  have u1 := ushN (a := y1) (by omega) (s := (iI 2).toUInt32 &&& Int32.toUInt32 31) 4 (by decide)
  have v1 := andI_nat (a := y1 / 4) (b := 858993459) (by omega) (by decide)
  have w1 := andI_nat (a := y1) (b := 858993459) (by omega) (by decide)
  have l2 : (y1 / 4) &&& 858993459 ≤ 858993459 := Nat.and_le_right
  have l3 : y1 &&& 858993459 ≤ 858993459 := Nat.and_le_right
  refine Go.run hsz hn 10 (pc' := 24) (lv' := [some (gi ((andI ((y1 : Nat) : Int) 858993459) + (andI (((iI ((y1 : Nat) : Int)).toUInt32 >>> ((iI 2).toUInt32 &&& Int32.toUInt32 31)).toInt32.toInt) 858993459)))]) (st' := []) (M' := gw mi ml) rfl ?_
  obtain ⟨y2, hy2⟩ : ∃ y2 : Nat, y2 = (y1 &&& 858993459) + ((y1 / 4) &&& 858993459) := ⟨_, rfl⟩
  have ey2 : (andI ((y1 : Nat) : Int) 858993459) + (andI (((iI ((y1 : Nat) : Int)).toUInt32 >>> ((iI 2).toUInt32 &&& Int32.toUInt32 31)).toInt32.toInt) 858993459) = ((y2 : Nat) : Int) := (by rw [u1]; rw [show (858993459 : Int) = ((858993459 : Nat) : Int) from rfl, v1, w1]; omega)
  rw [ey2]
  have u2 := ushN (a := y2) (by omega) (s := (iI 4).toUInt32 &&& Int32.toUInt32 31) 16 (by decide)
  have v2 := andI_nat (a := y2 + y2 / 16) (b := 252645135) (by omega) (by decide)
  have l4 : (y2 + y2 / 16) &&& 252645135 ≤ 252645135 := Nat.and_le_right
  refine Go.run hsz hn 8 (pc' := 34) (lv' := [some (gi (andI (((y2 : Nat) : Int) + (((iI ((y2 : Nat) : Int)).toUInt32 >>> ((iI 4).toUInt32 &&& Int32.toUInt32 31)).toInt32.toInt)) 252645135))]) (st' := []) (M' := gw mi ml) rfl ?_
  obtain ⟨y3, hy3⟩ : ∃ y3 : Nat, y3 = (y2 + y2 / 16) &&& 252645135 := ⟨_, rfl⟩
  have ey3 : andI (((y2 : Nat) : Int) + (((iI ((y2 : Nat) : Int)).toUInt32 >>> ((iI 4).toUInt32 &&& Int32.toUInt32 31)).toInt32.toInt)) 252645135 = ((y3 : Nat) : Int) := (by rw [u2, show ((y2 : Nat) : Int) + ((y2 / 16 : Nat) : Int) = ((y2 + y2 / 16 : Nat) : Int) by omega, show (252645135 : Int) = ((252645135 : Nat) : Int) from rfl, v2]; omega)
  rw [ey3]
  have u3 := ushN (a := y3) (by omega) (s := (iI 8).toUInt32 &&& Int32.toUInt32 31) 256 (by decide)
  refine Go.run hsz hn 6 (pc' := 41) (lv' := [some (gi (((y3 : Nat) : Int) + (((iI ((y3 : Nat) : Int)).toUInt32 >>> ((iI 8).toUInt32 &&& Int32.toUInt32 31)).toInt32.toInt)))]) (st' := []) (M' := gw mi ml) rfl ?_
  obtain ⟨y4, hy4⟩ : ∃ y4 : Nat, y4 = y3 + y3 / 256 := ⟨_, rfl⟩
  have ey4 : ((y3 : Nat) : Int) + (((iI ((y3 : Nat) : Int)).toUInt32 >>> ((iI 8).toUInt32 &&& Int32.toUInt32 31)).toInt32.toInt) = ((y4 : Nat) : Int) := (by rw [u3]; omega)
  rw [ey4]
  have u4 := ushN (a := y4) (by omega) (s := (iI 16).toUInt32 &&& Int32.toUInt32 31) 65536 (by decide)
  refine Go.run hsz hn 6 (pc' := 48) (lv' := [some (gi (((y4 : Nat) : Int) + (((iI ((y4 : Nat) : Int)).toUInt32 >>> ((iI 16).toUInt32 &&& Int32.toUInt32 31)).toInt32.toInt)))]) (st' := []) (M' := gw mi ml) rfl ?_
  obtain ⟨y5, hy5⟩ : ∃ y5 : Nat, y5 = y4 + y4 / 65536 := ⟨_, rfl⟩
  have ey5 : ((y4 : Nat) : Int) + (((iI ((y4 : Nat) : Int)).toUInt32 >>> ((iI 16).toUInt32 &&& Int32.toUInt32 31)).toInt32.toInt) = ((y5 : Nat) : Int) := (by rw [u4]; omega)
  rw [ey5]
  have v5 := andI_nat (a := y5) (b := 63) (by omega) (by decide)
  refine Go.run hsz hn 3 (pc' := 52) (lv' := [some (gi ((y5 : Nat) : Int))]) (st' := [gi (andI ((y5 : Nat) : Int) 63)]) (M' := gw mi ml) rfl ?_
  exact Go.iret (by rfl) ⟨congrArg (fun z => some (gi z)) (show andI ((y5 : Nat) : Int) 63 = ((popN x 24 : Nat) : Int) by rw [show (63 : Int) = ((63 : Nat) : Int) from rfl, v5, show y5 &&& 63 = y5 % 64 from Nat.and_two_pow_sub_one_eq_mod _ 6, swar32 (show x < 256 ^ 4 by omega) hy1 hy2 hy3 hy4 hy5, popN_24 hx]), rfl⟩

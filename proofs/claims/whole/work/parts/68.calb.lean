/-! ===== the nights on a pitch as two longs ===== -/
def cntB (f : Nat → Bool) : Nat → Nat
  | 0 => 0
  | k + 1 => cntB f k + (f k).toNat
theorem cntB_congr {f g : Nat → Bool} : ∀ {n : Nat}, (∀ k, k < n → f k = g k) → cntB f n = cntB g n
  | 0, _ => rfl
  | n + 1, h => by
    show cntB f n + _ = cntB g n + _
    rw [cntB_congr (fun k hk => h k (by omega)), h n (by omega)]
theorem cntB_add (f : Nat → Bool) (a : Nat) : ∀ b, cntB f (a + b) = cntB f a + cntB (fun i => f (a + i)) b
  | 0 => rfl
  | b + 1 => by
    show cntB f (a + b) + (f (a + b)).toNat = cntB f a + (cntB (fun i => f (a + i)) b + (f (a + b)).toNat)
    rw [cntB_add f a b]
    omega
theorem cntB_false {f : Nat → Bool} : ∀ {n : Nat}, (∀ k, k < n → f k = false) → cntB f n = 0
  | 0, _ => rfl
  | n + 1, h => by
    show cntB f n + _ = 0
    rw [cntB_false (fun k hk => h k (by omega)), h n (by omega)]
    rfl
theorem cntB_le (f : Nat → Bool) : ∀ n, cntB f n ≤ n
  | 0 => Nat.le_refl _
  | n + 1 => by
    have := cntB_le f n
    have : (f n).toNat ≤ 1 := Bool.toNat_le _
    show cntB f n + _ ≤ n + 1
    omega
theorem popN_cnt (x : Nat) : ∀ k, popN x k = cntB x.testBit k
  | 0 => rfl
  | k + 1 => by
    show popN x k + _ = cntB x.testBit k + _
    rw [popN_cnt x k]
theorem popL_cnt (x : Int64) : popL x = (cntB (lbit x) 64 : Nat) := by
  unfold popL
  rw [popN_cnt]
  rfl
/-- a night of a pair of longs -/
def nb (L H : Int64) (n : Nat) : Bool := if n < 64 then lbit L n else lbit H (n - 64)
theorem nb_low (L H : Int64) {n : Nat} (h : n < 64) : nb L H n = lbit L n := if_pos h
theorem nb_high (L H : Int64) (n : Nat) : nb L H (64 + n) = lbit H n := by
  unfold nb
  rw [if_neg (by omega), show 64 + n - 64 = n by omega]
theorem nb_or (L H L' H' : Int64) (n : Nat) : nb (L ||| L') (H ||| H') n = (nb L H n || nb L' H' n) := by
  unfold nb
  split <;> exact lbit_or _ _ _
theorem nb_zero (n : Nat) : nb (Int64.ofInt 0) (Int64.ofInt 0) n = false := by
  unfold nb
  split <;> exact lbit_zero _
theorem nb_free (L H L' H' : Int64) : (L &&& L' = Int64.ofInt 0 ∧ H &&& H' = Int64.ofInt 0) ↔ ∀ n, n < 128 → ¬ (nb L H n = true ∧ nb L' H' n = true) := by
  constructor
  · rintro ⟨h1, h2⟩ n hn ⟨a, b⟩
    unfold nb at a b
    split at a
    · have := congrArg (fun x => lbit x n) h1
      simp only [lbit_and, lbit_zero, a] at this
      rw [if_pos (by assumption)] at b
      rw [b] at this
      cases this
    · have := congrArg (fun x => lbit x (n - 64)) h2
      simp only [lbit_and, lbit_zero, a] at this
      rw [if_neg (by assumption)] at b
      rw [b] at this
      cases this
  · intro h
    refine ⟨lbit_ext (fun i hi => ?_), lbit_ext (fun i hi => ?_)⟩
    · have := h i (by omega)
      rw [nb_low _ _ hi, nb_low _ _ hi] at this
      rw [lbit_and, lbit_zero]
      cases h1 : lbit L i <;> cases h2 : lbit L' i <;> simp_all
    · have := h (64 + i) (by omega)
      rw [nb_high, nb_high] at this
      rw [lbit_and, lbit_zero]
      cases h1 : lbit H i <;> cases h2 : lbit H' i <;> simp_all
theorem lBelow_tab : ∀ m, m < 65 → ∀ i, i < 64 → lbit (lBelow (m : Nat)) i = decide (i < m) := by decide +kernel
theorem lBelow_bit (m : Int) {i : Nat} (hi : i < 64) : lbit (lBelow m) i = decide ((i : Int) < m) := by
  by_cases h0 : m ≤ 0
  · have e : lBelow m = lBelow ((0 : Nat) : Int) := by unfold lBelow; rw [if_pos h0, if_pos (by omega)]
    rw [e, lBelow_tab 0 (by omega) i hi]
    have : decide ((i : Int) < m) = false := decide_eq_false (by omega)
    rw [this]
    exact decide_eq_false (by omega)
  · by_cases h1 : 64 ≤ m
    · have e : lBelow m = lBelow ((64 : Nat) : Int) := by unfold lBelow; rw [if_neg h0, if_pos h1, if_neg (by omega), if_pos (by omega)]
      rw [e, lBelow_tab 64 (by omega) i hi, decide_eq_true (show i < 64 from hi), decide_eq_true (show (i : Int) < m by omega)]
    · have e : m = ((m.toNat : Nat) : Int) := by omega
      rw [e, lBelow_tab m.toNat (by omega) i hi]
      by_cases h2 : i < m.toNat
      · rw [decide_eq_true h2, decide_eq_true (by omega)]
      · rw [decide_eq_false h2, decide_eq_false (by omega)]
theorem lone : (-1 : Int64) = Int64.ofInt (-1) := by decide
theorem nb_stay {f k : Int} (n : Nat) (hn : n < 128) : nb (lLow f k) (lHigh f k) n = decide (f ≤ n ∧ (n : Int) < f + k) := by
  unfold nb lLow lHigh
  rw [lone]
  split
  · rename_i h
    rw [lbit_and, lbit_not _ h, lBelow_bit _ h, lBelow_bit _ h]
    by_cases h1 : (n : Int) < f + k <;> by_cases h2 : (n : Int) < f
    · rw [decide_eq_true h1, decide_eq_true h2, decide_eq_false (by omega)]; rfl
    · rw [decide_eq_true h1, decide_eq_false h2, decide_eq_true (by omega)]; rfl
    · rw [decide_eq_false h1, decide_eq_true h2, decide_eq_false (by omega)]; rfl
    · rw [decide_eq_false h1, decide_eq_false h2, decide_eq_false (by omega)]; rfl
  · rename_i h
    have h' : n - 64 < 64 := by omega
    rw [lbit_and, lbit_not _ h', lBelow_bit _ h', lBelow_bit _ h']
    by_cases h1 : (n : Int) < f + k <;> by_cases h2 : (n : Int) < f
    · rw [decide_eq_true (show ((n - 64 : Nat) : Int) < f + k - 64 by omega), decide_eq_true (show ((n - 64 : Nat) : Int) < f - 64 by omega), decide_eq_false (by omega)]; rfl
    · rw [decide_eq_true (show ((n - 64 : Nat) : Int) < f + k - 64 by omega), decide_eq_false (show ¬ ((n - 64 : Nat) : Int) < f - 64 by omega), decide_eq_true (by omega)]; rfl
    · rw [decide_eq_false (show ¬ ((n - 64 : Nat) : Int) < f + k - 64 by omega), decide_eq_true (show ((n - 64 : Nat) : Int) < f - 64 by omega), decide_eq_false (by omega)]; rfl
    · rw [decide_eq_false (show ¬ ((n - 64 : Nat) : Int) < f + k - 64 by omega), decide_eq_false (show ¬ ((n - 64 : Nat) : Int) < f - 64 by omega), decide_eq_false (by omega)]; rfl
/-! shifts -/
theorem lbit_shl1 (x : Int64) {i : Nat} (hi : i < 64) : lbit (x <<< ((iI 1).toInt64 &&& 63)) i = (decide (1 ≤ i) && lbit x (i - 1)) := by
  rw [lbit_bv, lbit_bv, Int64.toBitVec_shiftLeft]
  have e : ((iI 1).toInt64 &&& 63).toBitVec.smod 64 = 1#64 := by decide
  rw [e]
  show (x.toBitVec <<< (1#64).toNat).getLsbD i = _
  rw [BitVec.getLsbD_shiftLeft]
  have e1 : (1#64).toNat = 1 := rfl
  rw [e1, decide_eq_true hi, Bool.true_and]
  by_cases h : i < 1
  · rw [decide_eq_true h, decide_eq_false (by omega)]; rfl
  · rw [decide_eq_false h, decide_eq_true (by omega)]; rfl
theorem lbit_shl63 (x : Int64) {i : Nat} (hi : i < 64) : lbit (x <<< ((iI 63).toInt64 &&& 63)) i = (decide (63 ≤ i) && lbit x (i - 63)) := by
  rw [lbit_bv, lbit_bv, Int64.toBitVec_shiftLeft]
  have e : ((iI 63).toInt64 &&& 63).toBitVec.smod 64 = 63#64 := by decide
  rw [e]
  show (x.toBitVec <<< (63#64).toNat).getLsbD i = _
  rw [BitVec.getLsbD_shiftLeft]
  have e1 : (63#64).toNat = 63 := rfl
  rw [e1, decide_eq_true hi, Bool.true_and]
  by_cases h : i < 63
  · rw [decide_eq_true h, decide_eq_false (by omega)]; rfl
  · rw [decide_eq_false h, decide_eq_true (by omega)]; rfl
theorem lbit_ushr (x : Int64) (s : UInt64) (k : Nat) (hs : s.toNat % 64 = k) (i : Nat) : lbit ((x.toUInt64 >>> s).toInt64) i = lbit x (k + i) := by
  unfold lbit
  rw [un_ushr x s k hs, ← Nat.shiftRight_eq_div_pow, Nat.testBit_shiftRight]
/-- gaps -/
def gapN (T : Nat → Bool) : Nat := cntB (fun i => T i && !T (i + 1) && T (i + 2)) 98
def lLon (L H : Int64) : Int := popL (((L <<< ((iI 1).toInt64 &&& 63)) &&& ((((L).toUInt64 >>> ((iI 1).toInt64.toUInt64 &&& Int64.toUInt64 63)).toInt64) ||| (H <<< ((iI 63).toInt64 &&& 63)))) &&& (L ^^^ (Int64.ofInt (-1)))) + popL ((((H <<< ((iI 1).toInt64 &&& 63)) ||| (((L).toUInt64 >>> ((iI 63).toInt64.toUInt64 &&& Int64.toUInt64 63)).toInt64)) &&& (((H).toUInt64 >>> ((iI 1).toInt64.toUInt64 &&& Int64.toUInt64 63)).toInt64)) &&& (H ^^^ (Int64.ofInt (-1))))
theorem lLon_gap (L H : Int64) (hz : ∀ n, 100 ≤ n → n < 128 → nb L H n = false) : lLon L H = (gapN (nb L H) : Nat) := by
  have s1 : ((iI 1).toInt64.toUInt64 &&& Int64.toUInt64 63).toNat % 64 = 1 := by decide
  have s63 : ((iI 63).toInt64.toUInt64 &&& Int64.toUInt64 63).toNat % 64 = 63 := by decide
  let g : Nat → Bool := fun n => decide (1 ≤ n) && nb L H (n - 1) && decide (n < 127) && nb L H (n + 1) && !nb L H n
  have e1 : popL (((L <<< ((iI 1).toInt64 &&& 63)) &&& ((((L).toUInt64 >>> ((iI 1).toInt64.toUInt64 &&& Int64.toUInt64 63)).toInt64) ||| (H <<< ((iI 63).toInt64 &&& 63)))) &&& (L ^^^ (Int64.ofInt (-1)))) = (cntB g 64 : Nat) := by
    rw [popL_cnt]
    congr 1
    refine cntB_congr (fun i hi => ?_)
    rw [lbit_and, lbit_and, lbit_or, lbit_not _ hi, lbit_shl1 _ hi, lbit_shl63 _ hi, lbit_ushr _ _ 1 s1]
    show _ = (decide (1 ≤ i) && nb L H (i - 1) && decide (i < 127) && nb L H (i + 1) && !nb L H i)
    rw [nb_low _ _ hi, nb_low L H (n := i - 1) (by omega), decide_eq_true (show i < 127 by omega), Bool.and_true]
    have e : (lbit L (1 + i) || (decide (63 ≤ i) && lbit H (i - 63))) = nb L H (i + 1) := by
      by_cases h : i < 63
      · rw [decide_eq_false (by omega), Bool.false_and, Bool.or_false, nb_low _ _ (by omega), Nat.add_comm]
      · have : i = 63 := by omega
        subst this
        rw [lbit_hi L (by omega)]
        rfl
    rw [e]
  have e2 : popL ((((H <<< ((iI 1).toInt64 &&& 63)) ||| (((L).toUInt64 >>> ((iI 63).toInt64.toUInt64 &&& Int64.toUInt64 63)).toInt64)) &&& (((H).toUInt64 >>> ((iI 1).toInt64.toUInt64 &&& Int64.toUInt64 63)).toInt64)) &&& (H ^^^ (Int64.ofInt (-1)))) = (cntB (fun i => g (64 + i)) 64 : Nat) := by
    rw [popL_cnt]
    congr 1
    refine cntB_congr (fun i hi => ?_)
    rw [lbit_and, lbit_and, lbit_or, lbit_not _ hi, lbit_shl1 _ hi, lbit_ushr _ _ 1 s1, lbit_ushr _ _ 63 s63]
    show _ = (decide (1 ≤ 64 + i) && nb L H (64 + i - 1) && decide (64 + i < 127) && nb L H (64 + i + 1) && !nb L H (64 + i))
    rw [nb_high, decide_eq_true (show 1 ≤ 64 + i by omega), Bool.true_and]
    have e : (decide (1 ≤ i) && lbit H (i - 1) || lbit L (63 + i)) = nb L H (64 + i - 1) := by
      by_cases h : 1 ≤ i
      · rw [decide_eq_true h, Bool.true_and, lbit_hi L (by omega), Bool.or_false, show 64 + i - 1 = 64 + (i - 1) by omega, nb_high]
      · have : i = 0 := by omega
        subst this
        rfl
    rw [e]
    have e3 : lbit H (1 + i) = (decide (64 + i < 127) && nb L H (64 + i + 1)) := by
      by_cases h : i < 63
      · rw [decide_eq_true (by omega), Bool.true_and, show 64 + i + 1 = 64 + (1 + i) by omega, nb_high]
      · rw [decide_eq_false (by omega), Bool.false_and, lbit_hi H (by omega)]
    rw [e3]
    simp only [Bool.and_assoc]
  unfold lLon
  rw [e1, e2]
  have h9 := cntB_add g 64 64
  have h8 := cntB_add g 1 127
  have h7 := cntB_add (fun i => g (1 + i)) 98 29
  have z1 : cntB g 1 = 0 := cntB_false (fun k hk => by
    obtain rfl : k = 0 := by omega
    rfl)
  have z2 : cntB (fun i => g (1 + (98 + i))) 29 = 0 := cntB_false (fun k hk => by
    show (decide (1 ≤ 1 + (98 + k)) && nb L H (1 + (98 + k) - 1) && decide (1 + (98 + k) < 127) && nb L H (1 + (98 + k) + 1) && !nb L H (1 + (98 + k))) = false
    by_cases hk2 : 1 + (98 + k) < 127
    · rw [hz (1 + (98 + k) + 1) (by omega) (by omega)]
      simp only [Bool.and_false, Bool.false_and]
    · rw [decide_eq_false hk2]
      simp only [Bool.and_false, Bool.false_and])
  have z3 : cntB (fun i => g (1 + i)) 98 = gapN (nb L H) := cntB_congr (fun k hk => by
    show (decide (1 ≤ 1 + k) && nb L H (1 + k - 1) && decide (1 + k < 127) && nb L H (1 + k + 1) && !nb L H (1 + k)) = (nb L H k && !nb L H (k + 1) && nb L H (k + 2))
    rw [decide_eq_true (show 1 ≤ 1 + k by omega), decide_eq_true (show 1 + k < 127 by omega), show 1 + k - 1 = k by omega, show 1 + k + 1 = k + 2 by omega, show 1 + k = k + 1 by omega]
    cases nb L H k <;> cases nb L H (k + 1) <;> cases nb L H (k + 2) <;> rfl)
  have h10 : cntB g (64 + 64) = cntB g (1 + 127) := rfl
  have h11 : cntB (fun i => g (1 + i)) 127 = cntB (fun i => g (1 + i)) (98 + 29) := rfl
  omega
theorem gapN_congr {S T : Nat → Bool} (h : ∀ n, n < 100 → S n = T n) : gapN S = gapN T := cntB_congr (fun k hk => by rw [h k (by omega), h (k + 1) (by omega), h (k + 2) (by omega)])
theorem gapN_le (T : Nat → Bool) : gapN T ≤ 98 := cntB_le _ _

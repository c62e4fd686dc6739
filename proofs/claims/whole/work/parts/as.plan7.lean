/-! ===== plan: the base in which the members wait ===== -/
def mZr (mi : Nat → Nat → Int) (mem : Nat → Nat) : Nat → Nat → Nat → Int
  | 0 => mi
  | k + 1 => gu (mZr mi mem k) 152 (12 * mem k + 6) (-1)
theorem mZr_F {mi : Nat → Nat → Int} (hR : gR32 mi) (mem : Nat → Nat) : ∀ k : Nat, gR32 (mZr mi mem k) ∧ (∀ c j : Nat, c ≠ 152 → mZr mi mem k c j = mi c j) ∧ (∀ j : Nat, (∀ i, i < k → j ≠ 12 * mem i + 6) → mZr mi mem k 152 j = mi 152 j) ∧ ∀ i, i < k → mZr mi mem k 152 (12 * mem i + 6) = -1
  | 0 => ⟨hR, fun _ _ _ => rfl, fun _ _ => rfl, fun i hi => absurd hi (Nat.not_lt_zero _)⟩
  | k + 1 => by
    obtain ⟨h1, h2, h3, h4⟩ := mZr_F hR mem k
    refine ⟨gR32_gu h1 ⟨by decide, by decide⟩, fun c j w => ?_, fun j hj => ?_, fun i hi => ?_⟩
    · show gu _ 152 _ _ c j = _
      rw [gu_other w]
      exact h2 c j w
    · show gu _ 152 _ _ 152 j = _
      rw [gu_ne (Or.inr (hj k (by omega)))]
      exact h3 j (fun i hi => hj i (by omega))
    · show gu _ 152 _ _ 152 _ = _
      by_cases e : mem i = mem k
      · rw [e, gu_self]
      · rw [gu_ne (Or.inr (by omega))]
        exact h4 i (by
          by_cases w : i = k
          · exact absurd (by rw [w]) e
          · omega)
theorem mZr_pF {mi : Nat → Nat → Int} (hR : gR32 mi) (mem : Nat → Nat) (z : Nat) : pF mi (mZr mi mem z) mem z (fun _ => -1) := by
  obtain ⟨h1, h2, h3, h4⟩ := mZr_F hR mem z
  exact ⟨h1, fun c j w1 _ _ _ _ => h2 c j w1, h3, h4⟩
section ZR
variable {mi : Nat → Nat → Int} {X N z : Nat}
theorem mBn_mem (hz : z = popN X N) {b : Nat} (hb : b < N) (hX : X.testBit b = true) : ∃ i, i < z ∧ mBn X N i = b := ⟨popN X b, by rw [hz]; exact popN_up hb hX, mBn_at hb hX⟩
theorem mZr_on (hR : gR32 mi) (hz : z = popN X N) (b : Nat) (hb : b < N) : (X.testBit b = true → pOn (mZr mi (mBn X N) z) b = -1) ∧ (X.testBit b = false → pOn (mZr mi (mBn X N) z) b = mOf mi b 6) := by
  obtain ⟨h1, h2, h3, h4⟩ := mZr_F hR (mBn X N) z
  constructor
  · intro hX
    obtain ⟨i, hi, e⟩ := mBn_mem hz hb hX
    have := h4 i hi
    rw [e] at this
    unfold pOn mOf
    rw [show (12 * ((b : Nat) : Int) + 6).toNat = 12 * b + 6 by omega]
    exact this
  · intro hX
    unfold pOn mOf
    refine h3 _ (fun i hi w => ?_)
    have hm := mBn_in (show i < popN X N by omega)
    have : mBn X N i = b := by omega
    rw [this, hX] at hm
    exact absurd hm.2.1 (by decide)
theorem mZr_of (hR : gR32 mi) (mem : Nat → Nat) (z : Nat) {a w : Int} (a0 : 0 ≤ a) (w0 : 0 ≤ w) (w1 : w < 12) (hw : w ≠ 6) : mOf (mZr mi mem z) a w = mOf mi a w := by
  unfold mOf
  exact (mZr_F hR mem z).2.2.1 _ (fun i _ => by omega)
end ZR
theorem lMark_c {mi m : Nat → Nat → Int} (h : cKp mi m) (ml : Nat → Nat → Int64) (x : Int) : ∀ k : Nat, k ≤ 24 → lMark m ml x k = lMark mi ml x k
  | 0, _ => rfl
  | k + 1, hk => by
    have ih := lMark_c h ml x k (by omega)
    show (if 0 ≤ m (24 + k) 8 ∧ andI (shrI x (k : Int)) 1 = 0 then lTake (lMark m ml x k) (m (24 + k) 8) (lMark m ml x k (24 + k) 6) (lMark m ml x k (24 + k) 7) else lMark m ml x k) = if 0 ≤ mi (24 + k) 8 ∧ andI (shrI x (k : Int)) 1 = 0 then lTake (lMark mi ml x k) (mi (24 + k) 8) (lMark mi ml x k (24 + k) 6) (lMark mi ml x k (24 + k) 7) else lMark mi ml x k
    rw [ih, h.2 (24 + k) 8 (by omega)]
/-- all that the class's search wants of the base -/
theorem cUb_of {t : Nat} {mi : Nat → Nat → Int} {ml : Nat → Nat → Int64} (hI : Inv t mi ml) {X z : Nat} (hX : X < 16777216) (hz : z = popN X (mi 148 6).toNat) (hz4 : z ≤ 4) : cUb mi (mZr mi (mBn X (mi 148 6).toNat) z) ml (mBn X (mi 148 6).toNat) z X ∧ calR (mZr mi (mBn X (mi 148 6).toNat) z) (pOn (mZr mi (mBn X (mi 148 6).toNat) z)) (lMark mi ml ((X : Nat) : Int) (mi 1 3).toNat) := by
  have hR := hI.1
  have hv := hI.SV
  have hrep := hI.2.1
  have e2 : mi 1 2 = mi 148 2 := hrep.1.2.2.1
  have e3 : mi 1 3 = mi 148 6 := hrep.1.2.2.2.1
  have hP : 0 ≤ mi 148 2 ∧ mi 148 2 ≤ 12 := hv.2.2.1
  have hN : 0 ≤ mi 148 6 ∧ mi 148 6 ≤ 24 := hv.2.2.2.1
  obtain ⟨f1, f2, f3, f4⟩ := mZr_F hR (mBn X (mi 148 6).toNat) z
  have hpF := mZr_pF hR (mBn X (mi 148 6).toNat) z
  have hon := mZr_on (mi := mi) (X := X) (N := (mi 148 6).toNat) hR hz
  have hof := fun (a w : Int) a0 w0 w1 hw => mZr_of (a := a) (w := w) hR (mBn X (mi 148 6).toNat) z a0 w0 w1 hw
  generalize hu : mZr mi (mBn X (mi 148 6).toNat) z = u at *
  have u2 : u 148 2 = mi 148 2 := f2 148 2 (by decide)
  have u6 : u 148 6 = mi 148 6 := f2 148 6 (by decide)
  have hvu : SV u := hpF.SV hv (fun i _ => by show (-2 : Int) ≤ -1 ∧ (-1 : Int) < _; omega)
  have hpi : ∀ p w, mPi u p w = mPi mi p w := fun p w => f2 149 _ (by decide)
  have hM : wM u (mBn X (mi 148 6).toNat) (pOn u) z := by
    refine ⟨fun i hi => ?_, fun i j hi hj he => mBn_inj (by omega) (by omega) he, fun b hb => ?_⟩
    · have := mBn_in (show i < popN X (mi 148 6).toNat by omega)
      rw [u6]
      exact ⟨this.1, (hon _ this.1).1 this.2.1⟩
    · rw [u6] at hb
      rw [u2]
      cases e : X.testBit b with
      | true => rw [(hon b hb).1 e]; omega
      | false =>
        rw [(hon b hb).2 e]
        exact (hv.2.2.2.2.1 b (by omega) (by omega)).2.2.2.2.2.2.2.1.2
  refine ⟨⟨⟨hI.CV, hvu, hz4, hM⟩, ⟨by rw [u2]; exact e2, by rw [u6]; exact e3⟩, fun b hb => ?_, fun i hi => (mBn_in (show i < popN X (mi 148 6).toNat by omega)).2.1, fun b p hb p0 p1 => ?_, fun p q p0 p1 q0 q1 => ?_⟩, fun p hp n hn => ?_⟩
  · rw [u6] at hb
    obtain ⟨c0, c1, c2, c3, c4, c5, c8, c9, -⟩ := hrep.cA (a := (b : Int)) (by omega) hb
    obtain ⟨-, -, -, d4, d5⟩ := hrep.2.2.1 (b : Int) (by omega) hb
    rw [hof b 7 (by omega) (by decide) (by decide) (by decide), hof b 5 (by omega) (by decide) (by decide) (by decide), hof b 4 (by omega) (by decide) (by decide) (by decide)]
    refine ⟨⟨c9, c5⟩, ⟨?_, ?_⟩, fun e => by rw [(hon b (by omega)).2 e]; exact c8, fun e => (hon b (by omega)).1 e⟩
    · rw [show ((b : Nat) : Int).toNat = b by omega] at d4
      exact d4
    · rw [show ((b : Nat) : Int).toNat = b by omega] at d5
      exact d5
  · rw [u6] at hb
    rw [u2] at p1
    rw [eq_reason hrep (a := (b : Int)) (by omega) hb p0 p1]
    unfold mWhy mLacks
    simp only [hpi, hof b 0 (by omega) (by decide) (by decide) (by decide), hof b 1 (by omega) (by decide) (by decide) (by decide), hof b 2 (by omega) (by decide) (by decide) (by decide), hof b 3 (by omega) (by decide) (by decide) (by decide)]
  · rw [u2] at p1 q1
    rw [eq_far hrep p0 p1 q0 q1]
    unfold mFar mPx
    rw [f2 149 _ (by decide), f2 149 _ (by decide), hpi, hpi]
  · rw [u2] at hp
    rw [Bool.eq_iff_iff, oTk_iff, u6]
    have h9 := lMark_nb hrep ((X : Nat) : Int) (p : Int) (by omega) (by omega) n hn (mi 1 3).toNat (by omega)
    rw [show ((p : Nat) : Int).toNat = p by omega] at h9
    rw [h9, e3]
    constructor
    · rintro ⟨b, hb, q1, q2, q3, q4⟩
      have hb2 := bit_nat hX (k := (b : Int)) (by omega) (by omega)
      rw [show ((b : Nat) : Int).toNat = b by omega, q2] at hb2
      have hf : X.testBit b = false := by
        cases e : X.testBit b with
        | false => rfl
        | true => rw [e] at hb2; exact absurd hb2 (by decide)
      refine ⟨b, hb, by rw [(hon b hb).2 hf]; exact q1, ?_⟩
      rw [hof b 4 (by omega) (by decide) (by decide) (by decide), hof b 5 (by omega) (by decide) (by decide) (by decide)]
      exact ⟨q3, q4⟩
    · rintro ⟨b, hb, q1, q3⟩
      rw [hof b 4 (by omega) (by decide) (by decide) (by decide), hof b 5 (by omega) (by decide) (by decide) (by decide)] at q3
      cases e : X.testBit b with
      | true =>
        rw [(hon b hb).1 e] at q1
        omega
      | false =>
        rw [(hon b hb).2 e] at q1
        have hb2 := bit_nat hX (k := (b : Int)) (by omega) (by omega)
        rw [show ((b : Nat) : Int).toNat = b by omega, e] at hb2
        exact ⟨b, hb, q1, hb2, q3.1, q3.2⟩
/-! two memories alike where ways are weighed -/
def wEq (m u : Nat → Nat → Int) : Prop := (∀ j, m 149 j = u 149 j) ∧ (∀ j, m 152 j = u 152 j) ∧ m 148 2 = u 148 2 ∧ m 148 6 = u 148 6
section WEQ
variable {m u : Nat → Nat → Int} {mem : Nat → Nat} {on : Nat → Int}
theorem wEq.of (h : wEq m u) (a w : Int) : mOf m a w = mOf u a w := h.2.1 _
theorem wEq.pi (h : wEq m u) (a w : Int) : mPi m a w = mPi u a w := h.1 _
theorem wEq.far (h : wEq m u) (p q : Int) : mFar m p q = mFar u p q := by
  unfold mFar mPx
  simp only [h.pi, h.1]
theorem wEq.why (h : wEq m u) (a p : Int) : mWhy m a p = mWhy u a p := by
  unfold mWhy mLacks
  simp only [h.pi, h.of]
theorem wEq.meet (h : wEq m u) (a b : Int) : mMeet m a b = mMeet u a b := by
  unfold mMeet
  simp only [h.of]
theorem wEq.gs (h : wEq m u) (N : Nat) : ∀ k, oGs m on N k = oGs u on N k
  | 0 => rfl
  | k + 1 => by
    show oGs m on N k + oG m on N k = oGs u on N k + oG u on N k
    rw [wEq.gs h N k]
    have : oG m on N k = oG u on N k := by
      unfold oG
      congr 1
      funext n
      rw [Bool.eq_iff_iff, oTk_iff, oTk_iff]
      simp only [h.of]
    rw [this]
theorem wEq.a (h : wEq m u) : ∀ k, oA m on k = oA u on k
  | 0 => rfl
  | k + 1 => by
    show oA m on k + oW m on k = oA u on k + oW u on k
    rw [wEq.a h k]
    have : oW m on k = oW u on k := by
      unfold oW
      simp only [h.of, h.far]
    rw [this]
theorem wEq.onn (h : wEq m u) : pOn m = pOn u := funext fun b => h.of b 6
theorem wEq.v (h : wEq m u) (i : Nat) (d : Nat → Int) : wV m mem on i d ↔ wV u mem on i d := by
  unfold wV wOk oFr
  simp only [h.why, h.meet, h.2.2.2]
/-- both searches find the same way -/
theorem wEq.best (h : wEq m u) {z : Nat} {d e : Nat → Int} (hd : pB (m 148 2).toNat z (wW m mem (pOn m) z) (fun _ => True) d) (he : pB (u 148 2).toNat z (wW u mem (pOn u) z) (fun _ => True) e) : ∀ k, k < z → d k = e k := by
  rw [h.2.2.1, h.onn] at hd
  refine pB_u hd he (fun _ _ => ⟨trivial, trivial⟩) (fun d' _ => h.v z d') (a := 0) (b := 0) (fun _ _ => rfl) (fun d' _ => ?_) (fun d' _ => ?_)
  · rw [Int.add_zero]
    show wGp m mem (pOn u) z d' = wGp u mem (pOn u) z d'
    unfold wGp
    rw [h.2.2.1, h.2.2.2, h.gs]
  · rw [Int.add_zero]
    show wFa m mem (pOn u) z d' = wFa u mem (pOn u) z d'
    unfold wFa
    rw [h.2.2.2, h.a]
end WEQ
theorem mask_iff {x : Int} (rx : rng x) {N : Nat} (hN : N ≤ 24) : andI x (xorI (shlI 1 (N : Nat) - 1) (-1)) = 0 ↔ 0 ≤ x ∧ x < ((2 ^ N : Nat) : Int) := by
  have hp1 : 1 ≤ 2 ^ N := Nat.one_le_pow _ _ (by decide)
  have hp2 : 2 ^ N ≤ 2 ^ 24 := Nat.pow_le_pow_right (by decide) hN
  have hp3 : (2 : Nat) ^ 24 = 16777216 := by decide
  have hm : ∀ i, i < 32 → ib (andI x (xorI (shlI 1 (N : Nat) - 1) (-1))) i = (ib x i && !decide (i < N)) := fun i hi => by
    rw [ib_and, ib_not _ hi, shl_pow24 N (by omega), show (((2 ^ N : Nat) : Int) - 1) = ((2 ^ N - 1 : Nat) : Int) by omega, ib_nat (by omega), Nat.testBit_two_pow_sub_one]
  constructor
  · intro h
    have hb : ∀ i, N ≤ i → (iI x).toBitVec.toNat.testBit i = false := fun i hi => by
      by_cases h32 : i < 32
      · have h9 := hm i h32
        rw [h, ib_z, decide_eq_false (by omega), Bool.not_false, Bool.and_true] at h9
        exact h9.symm
      · exact Nat.testBit_lt_two_pow (Nat.lt_of_lt_of_le (iI x).toBitVec.isLt (Nat.pow_le_pow_right (by decide) (by omega)))
    have hlt := Nat.lt_pow_two_of_testBit _ hb
    have hx : x = (((iI x).toBitVec.toNat : Nat) : Int) := by
      have h1 := iI_toInt rx
      have h2 : (iI x).toInt = (iI x).toBitVec.toInt := rfl
      rw [BitVec.toInt_eq_toNat_of_lt (by omega)] at h2
      omega
    omega
  · rintro ⟨h0, h1⟩
    have hz : ∀ i, i < 32 → ib (andI x (xorI (shlI 1 (N : Nat) - 1) (-1))) i = false := fun i hi => by
      rw [hm i hi]
      by_cases hiN : i < N
      · rw [decide_eq_true hiN]
        simp
      · have h9 := ib_nat (x := x.toNat) (by omega) i
        rw [show ((x.toNat : Nat) : Int) = x by omega] at h9
        rw [h9, Nat.testBit_lt_two_pow (Nat.lt_of_lt_of_le (show x.toNat < 2 ^ N by omega) (Nat.pow_le_pow_right (by decide) (by omega)))]
        rfl
    have h8 : iI (andI x (xorI (shlI 1 (N : Nat) - 1) (-1))) = iI 0 := by
      apply Int32.toBitVec_inj.mp
      apply BitVec.eq_of_getLsbD_eq
      intro i hi
      have a := hz i hi
      have b := ib_z i
      unfold ib at a b
      rw [a, b]
    have h7 : (iI (andI x (xorI (shlI 1 (N : Nat) - 1) (-1)))).toInt = (iI 0).toInt := by rw [h8]
    unfold andI at h7 ⊢
    rw [iI_of] at h7
    rw [h7]
    decide
theorem popN_pos {X : Nat} (h0 : 0 < X) (h1 : X < 16777216) : 1 ≤ popN X 24 := by
  obtain ⟨i, hi⟩ : ∃ i, X.testBit i = true := by
    by_cases c : ∃ i, X.testBit i = true
    · exact c
    · exfalso
      have : X = 0 := Nat.eq_of_testBit_eq (fun i => by
        rw [Nat.zero_testBit]
        cases e : X.testBit i with
        | false => rfl
        | true => exact absurd ⟨i, e⟩ c)
      omega
  have hi24 : i < 24 := by
    rcases Nat.lt_or_ge i 24 with w | w
    · exact w
    · have := Nat.testBit_lt_two_pow (Nat.lt_of_lt_of_le (show X < 2 ^ 24 by omega) (Nat.pow_le_pow_right (by decide) w))
      rw [this] at hi
      exact absurd hi (by decide)
  have := popN_up hi24 hi
  omega

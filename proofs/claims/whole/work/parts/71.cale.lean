/-! ===== nights: class and reference alike ===== -/
theorem bit_one : ∀ a, a < 24 → ∀ b, b < 24 → (andI (shrI (shlI 1 (a : Nat)) (b : Nat)) 1 = 0 ↔ a ≠ b) := by decide +kernel
theorem bit_nil : ∀ b, b < 24 → andI (shrI 0 (b : Nat)) 1 = 0 := by decide +kernel
theorem Inv.lm {t : Nat} {mi : Nat → Nat → Int} {ml ml' : Nat → Nat → Int64} (h : Inv t mi ml) (hl : ∀ a k : Nat, a ≠ 108 → a ≠ 109 → ml' a k = ml a k) : Inv t mi ml' := h.fr (Nat.le_refl _) h.1 (fun _ _ _ => rfl) (fun a k hk => hl a k (by omega) (by omega))
theorem lTake_off {ml : Nat → Nat → Int64} {p : Int} {L H : Int64} {a k : Nat} (h : a ≠ 108) (h2 : a ≠ 109) : lTake ml p L H a k = ml a k := by
  unfold lTake
  rw [gu_other h2, gu_other h]
theorem lMark_off {mi : Nat → Nat → Int} {ml : Nat → Nat → Int64} {but : Int} {a j : Nat} (h : a ≠ 108) (h2 : a ≠ 109) : ∀ k, lMark mi ml but k a j = ml a j
  | 0 => if_neg (by omega)
  | k + 1 => by
    show (if 0 ≤ mi (24 + k) 8 ∧ andI (shrI but (k : Int)) 1 = 0 then lTake (lMark mi ml but k) (mi (24 + k) 8) (lMark mi ml but k (24 + k) 6) (lMark mi ml but k (24 + k) 7) else lMark mi ml but k) a j = ml a j
    split
    · rw [lTake_off h h2, lMark_off h h2 k]
    · exact lMark_off h h2 k
theorem lTake_nb {ml : Nat → Nat → Int64} {p q : Int} {L H : Int64} (p0 : 0 ≤ p) (q0 : 0 ≤ q) (n : Nat) : nb (lTake ml q L H 108 p.toNat) (lTake ml q L H 109 p.toNat) n = (nb (ml 108 p.toNat) (ml 109 p.toNat) n || (decide (p = q) && nb L H n)) := by
  unfold lTake
  by_cases e : p = q
  · subst e
    rw [gu_ne (Or.inl (by decide)), gu_self, gu_self, nb_or, decide_eq_true rfl, Bool.true_and]
  · rw [gu_ne (Or.inl (by decide)), gu_ne (Or.inr (by omega)), gu_ne (Or.inr (by omega)), gu_ne (Or.inl (by decide)), decide_eq_false e, Bool.false_and, Bool.or_false]
theorem b2_nz {p : Prop} [Decidable p] : (¬ b2 p = 0) ↔ p := ⟨b2_pos, fun h q => b2_neg q h⟩
theorem mStays_iff (mi : Nat → Nat → Int) (a x : Int) : (¬ mStays mi a x = 0) ↔ (mOf mi a 4 ≤ x ∧ x < mOf mi a 4 + mOf mi a 5) := b2_nz
section CE
variable {t : Nat} {mi : Nat → Nat → Int} {ml : Nat → Nat → Int64}
/-- which nights are marked -/
theorem lMark_nb (h : Rep t 1 mi ml (sg mi)) (but p : Int) (p0 : 0 ≤ p) (p1 : p < 12) (n : Nat) (hn : n < 128) : ∀ k : Nat, (k : Int) ≤ mi 148 6 → (nb (lMark mi ml but k 108 p.toNat) (lMark mi ml but k 109 p.toNat) n = true ↔ ∃ b : Nat, b < k ∧ mOf mi b 6 = p ∧ andI (shrI but (b : Nat)) 1 = 0 ∧ mOf mi b 4 ≤ n ∧ (n : Int) < mOf mi b 4 + mOf mi b 5)
  | 0, _ => by
    have e : nb (lMark mi ml but 0 108 p.toNat) (lMark mi ml but 0 109 p.toNat) n = false := by
      show nb (lEmp ml 12 108 p.toNat) (lEmp ml 12 109 p.toNat) n = false
      unfold lEmp
      rw [if_pos (by omega), if_pos (by omega), nb_zero]
    rw [e]
    constructor
    · intro h; cases h
    · rintro ⟨b, hb, -⟩; omega
  | k + 1, hk => by
    have ih := lMark_nb h but p p0 p1 n hn k (by omega)
    have b6 : mi 148 6 ≤ 24 := h.1.2.2.2.2.2.2.1.2
    obtain ⟨d1, d2, d3, d4, d5⟩ := h.2.2.1 (k : Int) (by omega) (show (k : Int) < mi 148 6 by omega)
    have e8 : mi (24 + k) 8 = mOf mi k 6 := d2 6 (by decide) (by decide)
    have e6 : lMark mi ml but k (24 + k) 6 = lLow (mOf mi k 4) (mOf mi k 5) := (lMark_off (by omega) (by omega) k).trans d4
    have e7 : lMark mi ml but k (24 + k) 7 = lHigh (mOf mi k 4) (mOf mi k 5) := (lMark_off (by omega) (by omega) k).trans d5
    have step : nb (lMark mi ml but (k + 1) 108 p.toNat) (lMark mi ml but (k + 1) 109 p.toNat) n = true ↔ (nb (lMark mi ml but k 108 p.toNat) (lMark mi ml but k 109 p.toNat) n = true ∨ (mOf mi k 6 = p ∧ andI (shrI but (k : Nat)) 1 = 0 ∧ mOf mi k 4 ≤ n ∧ (n : Int) < mOf mi k 4 + mOf mi k 5)) := by
      show nb ((if 0 ≤ mi (24 + k) 8 ∧ andI (shrI but (k : Int)) 1 = 0 then lTake (lMark mi ml but k) (mi (24 + k) 8) (lMark mi ml but k (24 + k) 6) (lMark mi ml but k (24 + k) 7) else lMark mi ml but k) 108 p.toNat) ((if 0 ≤ mi (24 + k) 8 ∧ andI (shrI but (k : Int)) 1 = 0 then lTake (lMark mi ml but k) (mi (24 + k) 8) (lMark mi ml but k (24 + k) 6) (lMark mi ml but k (24 + k) 7) else lMark mi ml but k) 109 p.toNat) n = true ↔ _
      rw [e8, e6, e7]
      by_cases c : 0 ≤ mOf mi k 6 ∧ andI (shrI but (k : Int)) 1 = 0
      · rw [if_pos c, lTake_nb p0 c.1, nb_stay n hn, Bool.or_eq_true, Bool.and_eq_true, decide_eq_true_eq, decide_eq_true_eq]
        constructor
        · rintro (q | ⟨q1, q2, q3⟩)
          · exact Or.inl q
          · exact Or.inr ⟨q1.symm, c.2, q2, q3⟩
        · rintro (q | ⟨q1, q2, q3⟩)
          · exact Or.inl q
          · exact Or.inr ⟨q1.symm, q3⟩
      · rw [if_neg c]
        constructor
        · exact Or.inl
        · rintro (q | ⟨q1, q2, q3⟩)
          · exact q
          · exact absurd ⟨by omega, q2⟩ c
    rw [step, ih]
    constructor
    · rintro (⟨b, hb, q⟩ | q)
      · exact ⟨b, by omega, q⟩
      · exact ⟨k, by omega, q⟩
    · rintro ⟨b, hb, q⟩
      by_cases e : b = k
      · subst e; exact Or.inr q
      · exact Or.inl ⟨b, by omega, q⟩
theorem mMeet_iff (a b : Int) : (¬ mMeet mi a b = 0) ↔ (mOf mi a 4 < mOf mi b 4 + mOf mi b 5 ∧ mOf mi b 4 < mOf mi a 4 + mOf mi a 5) := b2_nz
theorem eq_put (h : Inv t mi ml) {a p : Int} (a0 : 0 ≤ a) (a1 : a < mi 148 6) (p0 : 0 ≤ p) (p1 : p < mi 148 2) : cPutF mi ml a p = mFree mi a p := by
  have hrep := h.2.1
  have e3 : mi 1 3 = mi 148 6 := hrep.1.2.2.2.1
  have b6 : 0 ≤ mi 148 6 ∧ mi 148 6 ≤ 24 := hrep.1.2.2.2.2.2.2.1
  have bq : 0 ≤ mi 148 2 ∧ mi 148 2 ≤ 12 := hrep.1.2.2.2.2.2.1
  obtain ⟨-, -, -, d4, d5⟩ := hrep.2.2.1 a a0 a1
  have e6 : lMark mi ml (shlI 1 a) (mi 1 3).toNat (24 + a.toNat) 6 = lLow (mOf mi a 4) (mOf mi a 5) := (lMark_off (by omega) (by omega) _).trans d4
  have e7 : lMark mi ml (shlI 1 a) (mi 1 3).toNat (24 + a.toNat) 7 = lHigh (mOf mi a 4) (mOf mi a 5) := (lMark_off (by omega) (by omega) _).trans d5
  have hpa : PV mi a := h.SV.2.2.2.2.1 a a0 a1
  have key : (lMark mi ml (shlI 1 a) (mi 1 3).toNat 108 p.toNat &&& lLow (mOf mi a 4) (mOf mi a 5) = Int64.ofInt 0 ∧ lMark mi ml (shlI 1 a) (mi 1 3).toNat 109 p.toNat &&& lHigh (mOf mi a 4) (mOf mi a 5) = Int64.ofInt 0) ↔ (∀ b : Nat, b < (mi 148 6).toNat → ¬ ((b : Int) ≠ a ∧ mOf mi b 6 = p ∧ ¬ mMeet mi a b = 0)) := by
    rw [nb_free]
    constructor
    · intro hf b hb
      rintro ⟨q1, q2, q3⟩
      rw [mMeet_iff] at q3
      have hpb : PV mi b := h.SV.2.2.2.2.1 b (by omega) (by omega)
      obtain ⟨-, -, -, -, u4, u5, u6, -⟩ := hpa
      obtain ⟨-, -, -, -, v4, v5, v6, -⟩ := hpb
      have hbit := (bit_one a.toNat (by omega) b (by omega)).mpr (by omega)
      rw [show ((a.toNat : Nat) : Int) = a by omega] at hbit
      by_cases hc : mOf mi a 4 ≤ mOf mi b 4
      · refine hf (mOf mi b 4).toNat (by omega) ⟨?_, ?_⟩
        · rw [lMark_nb hrep _ p p0 (by omega) _ (by omega) _ (by omega)]
          exact ⟨b, by omega, q2, hbit, by omega, by omega⟩
        · rw [nb_stay _ (by omega), decide_eq_true_eq]
          omega
      · refine hf (mOf mi a 4).toNat (by omega) ⟨?_, ?_⟩
        · rw [lMark_nb hrep _ p p0 (by omega) _ (by omega) _ (by omega)]
          exact ⟨b, by omega, q2, hbit, by omega, by omega⟩
        · rw [nb_stay _ (by omega), decide_eq_true_eq]
          omega
    · rintro hf n hn ⟨g1, g2⟩
      rw [lMark_nb hrep _ p p0 (by omega) _ (by omega) _ (by omega)] at g1
      rw [nb_stay _ hn, decide_eq_true_eq] at g2
      obtain ⟨b, hb, c1, c2, c3, c4⟩ := g1
      have hne : a.toNat ≠ b := (bit_one a.toNat (by omega) b (by omega)).mp (by rw [show ((a.toNat : Nat) : Int) = a by omega]; exact c2)
      refine hf b (by omega) ⟨by omega, c1, ?_⟩
      rw [mMeet_iff]
      omega
  unfold cPutF lFree mFree
  rw [e6, e7]
  unfold b2
  by_cases c : (∀ b : Nat, b < (mi 148 6).toNat → ¬ ((b : Int) ≠ a ∧ mOf mi b 6 = p ∧ ¬ mMeet mi a b = 0))
  · rw [if_pos c, if_pos (key.mpr c)]
  · rw [if_neg c, if_neg (fun q => c (key.mp q))]
theorem Rep.uni (h : Rep t 1 mi ml (sg mi)) : ∀ p : Int, 0 ≤ p → p < mi 1 2 → cUni mi p := by
  intro p p0 _ x a b a0 a1 b0 b1 ha hb
  have e3 : mi 1 3 = mi 148 6 := h.1.2.2.2.1
  have a1 : a < mi 148 6 := by omega
  have b1 : b < mi 148 6 := by omega
  by_cases e : a = b
  · exact e
  · exfalso
    obtain ⟨h1, h2⟩ := ha
    obtain ⟨h3, h4⟩ := hb
    rw [eq_stays h a0 a1, mStays_iff] at h2
    rw [eq_stays h b0 b1, mStays_iff] at h4
    obtain ⟨-, -, -, -, -, -, c8, -⟩ := h.cA a0 a1
    obtain ⟨-, -, -, -, -, -, d8, -⟩ := h.cA b0 b1
    have hd := h.2.2.2.1 a b a0 a1 b0 b1 e (show 0 ≤ mOf mi a 6 by omega) (show mOf mi a 6 = mOf mi b 6 by omega)
    have hd : mOf mi a 4 + mOf mi a 5 ≤ mOf mi b 4 ∨ mOf mi b 4 + mOf mi b 5 ≤ mOf mi a 4 := hd
    omega
theorem eq_who (h : Rep t 1 mi ml (sg mi)) (p x : Int) : cWho mi p x (mi 1 3).toNat = mWho mi p x (mi 148 6).toNat := by
  have e3 : mi 1 3 = mi 148 6 := h.1.2.2.2.1
  rw [e3]
  unfold cWho mWho
  refine gfold_congr (fun k hk acc => ?_)
  obtain ⟨-, -, -, -, -, -, c8, -⟩ := h.cA (a := k) (by omega) (show (k : Int) < mi 148 6 by omega)
  rw [c8, eq_stays h (by omega) (show (k : Int) < mi 148 6 by omega)]
theorem who_b (p x : Int) : ∀ k : Nat, -1 ≤ mWho mi p x k ∧ mWho mi p x k < k ∨ mWho mi p x k = -1
  | 0 => Or.inr rfl
  | k + 1 => by
    have ih := who_b p x k
    show -1 ≤ (if mOf mi k 6 = p ∧ ¬ mStays mi k x = 0 then (k : Int) else mWho mi p x k) ∧ (if mOf mi k 6 = p ∧ ¬ mStays mi k x = 0 then (k : Int) else mWho mi p x k) < ((k + 1 : Nat) : Int) ∨ (if mOf mi k 6 = p ∧ ¬ mStays mi k x = 0 then (k : Int) else mWho mi p x k) = -1
    split <;> omega
theorem mTkn_iff (p : Int) (x : Nat) : ∀ k : Nat, (¬ mTkn mi p x k = 0) ↔ ∃ b : Nat, b < k ∧ mOf mi b 6 = p ∧ mOf mi b 4 ≤ x ∧ (x : Int) < mOf mi b 4 + mOf mi b 5
  | 0 => ⟨fun h => absurd rfl h, fun ⟨b, hb, _⟩ => by omega⟩
  | k + 1 => by
    have ih := mTkn_iff p x k
    have e : mTkn mi p x (k + 1) = if mOf mi k 6 = p ∧ ¬ mStays mi k x = 0 then 1 else mTkn mi p x k := rfl
    have hs := mStays_iff mi k x
    rw [e]
    by_cases c : mOf mi k 6 = p ∧ mOf mi k 4 ≤ x ∧ (x : Int) < mOf mi k 4 + mOf mi k 5
    · rw [if_pos ⟨c.1, hs.mpr c.2⟩]
      exact ⟨fun _ => ⟨k, by omega, c⟩, fun _ => by omega⟩
    · rw [if_neg (fun q => c ⟨q.1, hs.mp q.2⟩), ih]
      constructor
      · rintro ⟨b, hb, q⟩
        exact ⟨b, by omega, q⟩
      · rintro ⟨b, hb, q⟩
        by_cases e : b = k
        · subst e; exact absurd q c
        · exact ⟨b, by omega, q⟩
/-- which nights of a pitch are taken -/
def mT (mi : Nat → Nat → Int) (p : Int) (n : Nat) : Bool := decide (¬ mTkn mi p n (mi 148 6).toNat = 0)
theorem mGapM_cnt (m : Nat → Nat → Int) : ∀ k : Nat, mGapM m k = (cntB (fun i => decide (¬ m 160 i = 0) && !decide (¬ m 160 (i + 1) = 0) && decide (¬ m 160 (i + 2) = 0)) k : Nat)
  | 0 => rfl
  | k + 1 => by
    have ih := mGapM_cnt m k
    have e : mGapM m (k + 1) = if ¬ m 160 (k : Int).toNat = 0 ∧ m 160 ((k : Int) + 1).toNat = 0 ∧ ¬ m 160 ((k : Int) + 2).toNat = 0 then mGapM m k + 1 else mGapM m k + 0 := rfl
    rw [e, show (k : Int).toNat = k by omega, show ((k : Int) + 1).toNat = k + 1 by omega, show ((k : Int) + 2).toNat = k + 2 by omega, ih]
    show _ = ((cntB (fun i => decide (¬ m 160 i = 0) && !decide (¬ m 160 (i + 1) = 0) && decide (¬ m 160 (i + 2) = 0)) k + (decide (¬ m 160 k = 0) && !decide (¬ m 160 (k + 1) = 0) && decide (¬ m 160 (k + 2) = 0)).toNat : Nat) : Int)
    by_cases c : ¬ m 160 k = 0 ∧ m 160 (k + 1) = 0 ∧ ¬ m 160 (k + 2) = 0
    · rw [if_pos c, decide_eq_true c.1, decide_eq_false (show ¬ ¬ m 160 (k + 1) = 0 from fun q => q c.2.1), decide_eq_true c.2.2]
      simp only [Bool.not_false, Bool.and_true, Bool.toNat_true]
      omega
    · rw [if_neg c]
      have : (decide (¬ m 160 k = 0) && !decide (¬ m 160 (k + 1) = 0) && decide (¬ m 160 (k + 2) = 0)) = false := by
        by_cases c1 : m 160 k = 0
        · rw [decide_eq_false (show ¬ ¬ m 160 k = 0 from fun q => q c1)]; rfl
        · by_cases c2 : m 160 (k + 1) = 0
          · have c3 : m 160 (k + 2) = 0 := by
              by_cases c3 : m 160 (k + 2) = 0
              · exact c3
              · exact absurd ⟨c1, c2, c3⟩ c
            rw [decide_eq_false (show ¬ ¬ m 160 (k + 2) = 0 from fun q => q c3)]
            exact Bool.and_false _
          · rw [decide_eq_true c2]
            simp only [Bool.not_true, Bool.and_false, Bool.false_and]
      rw [this]
      simp only [Bool.toNat_false]
      omega
theorem mGapOf_gap (mi : Nat → Nat → Int) (p : Int) : mGapOf mi p = (gapN (mT mi p) : Nat) := by
  unfold mGapOf
  rw [mGapM_cnt]
  refine congrArg (fun n : Nat => (n : Int)) ?_
  have e : ∀ n, n < 100 → decide (¬ mTkA mi p (mi 148 6).toNat 160 n = 0) = mT mi p n := fun n hn => by
    unfold mTkA mT
    rw [if_pos ⟨rfl, hn⟩]
  exact gapN_congr (S := fun n => decide (¬ mTkA mi p (mi 148 6).toNat 160 n = 0)) e
theorem eq_gap (h : Rep t 1 mi ml (sg mi)) {p : Int} (p0 : 0 ≤ p) (p1 : p < mi 148 2) : lLon (lMark mi ml 0 (mi 1 3).toNat 108 p.toNat) (lMark mi ml 0 (mi 1 3).toNat 109 p.toNat) = mGapOf mi p := by
  have e3 : mi 1 3 = mi 148 6 := h.1.2.2.2.1
  have b6 : 0 ≤ mi 148 6 ∧ mi 148 6 ≤ 24 := h.1.2.2.2.2.2.2.1
  have bq : 0 ≤ mi 148 2 ∧ mi 148 2 ≤ 12 := h.1.2.2.2.2.2.1
  have nbt : ∀ n, n < 128 → (nb (lMark mi ml 0 (mi 1 3).toNat 108 p.toNat) (lMark mi ml 0 (mi 1 3).toNat 109 p.toNat) n = true ↔ ∃ b : Nat, b < (mi 148 6).toNat ∧ mOf mi b 6 = p ∧ mOf mi b 4 ≤ n ∧ (n : Int) < mOf mi b 4 + mOf mi b 5) := fun n hn => by
    rw [lMark_nb h 0 p p0 (by omega) n hn _ (by omega), e3]
    constructor
    · rintro ⟨b, hb, q1, q2, q3⟩
      exact ⟨b, hb, q1, q3⟩
    · rintro ⟨b, hb, q1, q3⟩
      exact ⟨b, hb, q1, bit_nil b (by omega), q3⟩
  rw [lLon_gap, mGapOf_gap]
  · refine congrArg (fun n : Nat => (n : Int)) ?_
    refine gapN_congr (fun n hn => ?_)
    rw [Bool.eq_iff_iff, nbt n (by omega)]
    unfold mT
    rw [decide_eq_true_eq, mTkn_iff]
  · intro n hn hn2
    rw [Bool.eq_false_iff]
    intro q
    obtain ⟨b, hb, -, q2, q3⟩ := (nbt n hn2).mp q
    have := (h.2.2.1 (b : Int) (by omega) (show (b : Int) < mi 148 6 by omega)).2.2.1.2.2.2.2.2.2.1
    have this : mOf mi b 4 + mOf mi b 5 ≤ 100 := this
    omega
theorem mGapOf_b (mi : Nat → Nat → Int) (p : Int) : 0 ≤ mGapOf mi p ∧ mGapOf mi p ≤ 98 := by
  rw [mGapOf_gap]
  have := gapN_le (mT mi p)
  omega
theorem mGaps_one (mi : Nat → Nat → Int) (p : Int) (hp : ¬ p = -1) : ∀ k : Nat, mGaps mi p k = if 0 ≤ p ∧ p < k then mGapOf mi p else 0
  | 0 => by rw [if_neg (by omega)]; rfl
  | k + 1 => by
    have ih := mGaps_one mi p hp k
    show (if p = -1 ∨ (k : Int) = p then mGaps mi p k + mGapOf mi k else mGaps mi p k + 0) = _
    rw [ih]
    by_cases e : (k : Int) = p
    · rw [if_pos (Or.inr e), if_neg (by omega), if_pos (by omega), e]
      omega
    · rw [if_neg (by omega)]
      by_cases c : 0 ≤ p ∧ p < k
      · rw [if_pos c, if_pos (by omega)]; omega
      · rw [if_neg c, if_neg (by omega)]; rfl
theorem mGaps_b (mi : Nat → Nat → Int) (p : Int) : ∀ k : Nat, 0 ≤ mGaps mi p k ∧ mGaps mi p k ≤ 98 * k
  | 0 => ⟨Int.le_refl _, Int.le_refl _⟩
  | k + 1 => by
    have ih := mGaps_b mi p k
    have := mGapOf_b mi k
    show 0 ≤ (if p = -1 ∨ (k : Int) = p then mGaps mi p k + mGapOf mi k else mGaps mi p k + 0) ∧ (if p = -1 ∨ (k : Int) = p then mGaps mi p k + mGapOf mi k else mGaps mi p k + 0) ≤ 98 * ((k + 1 : Nat) : Int)
    split <;> omega
theorem eq_gaps (h : Rep t 1 mi ml (sg mi)) : cGapS (lMark mi ml 0 (mi 1 3).toNat) (mi 1 2).toNat = mGaps mi (-1) (mi 148 2).toNat := by
  have e2 : mi 1 2 = mi 148 2 := h.1.2.2.1
  rw [e2]
  unfold cGapS mGaps
  refine gfold_congr (fun k hk acc => ?_)
  rw [if_pos (Or.inl rfl), eq_gap h (by omega) (by omega)]
/-- a party put where it is free -/
theorem inv_put {a p : Int} (h : Inv t mi ml) (a0 : 0 ≤ a) (a1 : a < mi 148 6) (p0 : 0 ≤ p) (p1 : p < mi 148 2) (hf : ¬ mFree mi a p = 0) : Inv (t + 1) (gu (gu mi (24 + a.toNat) 8 p) 152 (12 * a + 6).toNat p) ml := by
  have b6 : 0 ≤ mi 148 6 ∧ mi 148 6 ≤ 24 := h.2.1.1.2.2.2.2.2.2.1
  have bq : 0 ≤ mi 148 2 ∧ mi 148 2 ≤ 12 := h.2.1.1.2.2.2.2.2.1
  have hf := b2_pos hf
  refine h.setA (a := a) (w := 6) (v := p) (by omega) a0 a1 (by omega) (by omega) ⟨by omega, by omega⟩ (fun c c0 c1 => stA_PV a0 (by omega) (by omega) c0 (h.SV.2.2.2.2.1 c c0 c1) (Or.inr (Or.inr (Or.inl ⟨rfl, by omega, by omega⟩)))) ?_
  have e3 : sg (stA mi a 6 p) 0 3 = mi 148 6 := stA_off 148 6 (by omega) (by omega)
  intro b c b0 b1 c0 c1 hne
  rw [e3] at b1 c1
  have ev := fun b x b0 x0 hx => stA_vOf (mi := mi) (v := p) a0 (show (6 : Nat) < 12 by omega) (show a < 24 by omega) b x b0 x0 hx
  rw [ev b 6 b0 (by omega) (by omega), ev c 6 c0 (by omega) (by omega), ev b 4 b0 (by omega) (by omega), ev c 4 c0 (by omega) (by omega), ev b 5 b0 (by omega) (by omega), ev c 5 c0 (by omega) (by omega), if_neg (show ¬ (b = a ∧ (4 : Int) = (6 : Nat)) by omega), if_neg (show ¬ (c = a ∧ (4 : Int) = (6 : Nat)) by omega), if_neg (show ¬ (b = a ∧ (5 : Int) = (6 : Nat)) by omega), if_neg (show ¬ (c = a ∧ (5 : Int) = (6 : Nat)) by omega)]
  intro q0 q1
  have f1 : ∀ d : Int, d = a → (if d = a ∧ (6 : Int) = ((6 : Nat) : Int) then p else mOf mi d 6) = p := fun d hd => if_pos ⟨hd, rfl⟩
  have f2 : ∀ d : Int, ¬ d = a → (if d = a ∧ (6 : Int) = ((6 : Nat) : Int) then p else mOf mi d 6) = mOf mi d 6 := fun d hd => if_neg (fun q => hd q.1)
  by_cases eb : b = a
  · have ec : ¬ c = a := fun q => hne (eb.trans q.symm)
    rw [f1 b eb, f2 c ec] at q1
    have := hf c.toNat (by omega)
    rw [show ((c.toNat : Nat) : Int) = c by omega, mMeet_iff] at this
    rw [eb]
    omega
  · by_cases ec : c = a
    · rw [f2 b eb, f1 c ec] at q1
      have := hf b.toNat (by omega)
      rw [show ((b.toNat : Nat) : Int) = b by omega, mMeet_iff] at this
      rw [ec]
      omega
    · rw [f2 b eb] at q0
      rw [f2 b eb, f2 c ec] at q1
      exact h.2.1.2.2.2.1 b c b0 b1 c0 c1 hne q0 q1
end CE

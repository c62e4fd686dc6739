/-! ===== plan: the reference's memory while it tries the ways ===== -/
/-- the members' base: they wait, and are listed -/
def pBs (mi : Nat → Nat → Int) (mem : Nat → Nat) (n : Nat) : Prop := SV mi ∧ n ≤ 4 ∧ mi 148 20 = n ∧ (∀ i, i < n → mi 161 i = mem i ∧ (mem i : Int) < mi 148 6 ∧ mi 152 (12 * mem i + 6) = -1) ∧ ∀ i j, i < n → j < n → mem i = mem j → i = j
def pOn (mi : Nat → Nat → Int) (b : Nat) : Int := mOf mi b 6
def pMo (mi : Nat → Nat → Int) (mem : Nat → Nat) (n : Nat) (d : Nat → Int) (m : Nat → Nat → Int) : Prop := gR32 m ∧ (∀ c j : Nat, c ≠ 152 → c ≠ 160 → m c j = mi c j) ∧ (∀ j : Nat, (∀ i, i < n → j ≠ 12 * mem i + 6) → m 152 j = mi 152 j) ∧ ∀ i, i < n → m 152 (12 * mem i + 6) = d i
section PM
variable {mi m : Nat → Nat → Int} {mem : Nat → Nat} {n : Nat} {d : Nat → Int}
theorem pBs.wM (h : pBs mi mem n) : wM mi mem (pOn mi) n := by
  obtain ⟨h1, h2, h3, h4, h5⟩ := h
  refine ⟨fun i hi => ⟨by have := (h4 i hi).2.1; omega, ?_⟩, h5, fun b hb => ?_⟩
  · have := (h4 i hi).2.2
    unfold pOn mOf
    rw [show (12 * ((mem i : Nat) : Int) + 6).toNat = 12 * mem i + 6 by omega]
    exact this
  · exact ((h1.2.2.2.2.1 b (by omega) (by omega)).2.2.2.2.2.2.2.1).2
theorem pMo.of (hm : pMo mi mem n d m) {a w : Int} (a0 : 0 ≤ a) (w0 : 0 ≤ w) (w1 : w < 12) (hw : w ≠ 6) : mOf m a w = mOf mi a w := by
  unfold mOf
  exact hm.2.2.1 _ (fun i _ => by omega)
theorem pMo.on (hb : pBs mi mem n) (hm : pMo mi mem n d m) {b : Nat} : mOf m b 6 = wAs mem (pOn mi) d n b := by
  have hM := hb.wM
  by_cases c : ∃ j, j < n ∧ mem j = b
  · obtain ⟨j, hj, rfl⟩ := c
    rw [wAs_at hM (Nat.le_refl _) hj, ← hm.2.2.2 j hj]
    unfold mOf
    congr 1
  · rw [wAs_off (fun k hk q => c ⟨k, hk, q⟩)]
    unfold pOn mOf
    exact hm.2.2.1 _ (fun i hi q => c ⟨i, hi, by omega⟩)
theorem pMo.pi (hm : pMo mi mem n d m) (p w : Int) : mPi m p w = mPi mi p w := hm.2.1 149 _ (by decide) (by decide)
theorem pMo.SV (hb : pBs mi mem n) (hd : inr (mi 148 2).toNat d n) (hm : pMo mi mem n d m) : SV m := by
  obtain ⟨hR, h0, h2, h6, hP, hQ⟩ := id hb.1
  have e0 := hm.2.1 148 0 (by decide) (by decide)
  have e2 := hm.2.1 148 2 (by decide) (by decide)
  have e6 := hm.2.1 148 6 (by decide) (by decide)
  refine ⟨hm.1, by rw [e0]; exact h0, by rw [e2]; exact h2, by rw [e6]; exact h6, fun a a0 a1 => ?_, fun p p0 p1 => ?_⟩
  · rw [e6] at a1
    have hp := hP a a0 a1
    have hon : -2 ≤ mOf m a 6 ∧ mOf m a 6 < mi 148 2 := by
      have e := hm.on hb (b := a.toNat)
      rw [show ((a.toNat : Nat) : Int) = a by omega] at e
      rw [e]
      by_cases c : ∃ j, j < n ∧ mem j = a.toNat
      · obtain ⟨j, hj, ej⟩ := c
        rw [← ej, wAs_at hb.wM (Nat.le_refl _) hj]
        have := hd j hj
        omega
      · rw [wAs_off (fun k hk q => c ⟨k, hk, q⟩)]
        unfold pOn
        rw [show ((a.toNat : Nat) : Int) = a by omega]
        exact hp.2.2.2.2.2.2.2.1
    unfold PV at hp ⊢
    rw [hm.of a0 (w := 0) (by decide) (by decide) (by decide), hm.of a0 (w := 1) (by decide) (by decide) (by decide), hm.of a0 (w := 2) (by decide) (by decide) (by decide), hm.of a0 (w := 3) (by decide) (by decide) (by decide), hm.of a0 (w := 4) (by decide) (by decide) (by decide), hm.of a0 (w := 5) (by decide) (by decide) (by decide), hm.of a0 (w := 7) (by decide) (by decide) (by decide), hm.of a0 (w := 8) (by decide) (by decide) (by decide), hm.of a0 (w := 9) (by decide) (by decide) (by decide), hm.of a0 (w := 10) (by decide) (by decide) (by decide), hm.of a0 (w := 11) (by decide) (by decide) (by decide), e2, e6]
    obtain ⟨p1, p2, p3, p4, p5, p6, p7, p8, p9⟩ := hp
    exact ⟨p1, p2, p3, p4, p5, p6, p7, hon, p9⟩
  · rw [e2] at p1
    have hq := hQ p p0 p1
    unfold QV at hq ⊢
    simp only [hm.pi]
    exact hq
theorem pMo.why (hm : pMo mi mem n d m) {a p : Int} (a0 : 0 ≤ a) : mWhy m a p = mWhy mi a p := by
  unfold mWhy mLacks
  simp only [hm.pi, hm.of a0 (w := 0) (by decide) (by decide) (by decide), hm.of a0 (w := 1) (by decide) (by decide) (by decide), hm.of a0 (w := 2) (by decide) (by decide) (by decide), hm.of a0 (w := 3) (by decide) (by decide) (by decide)]
theorem pMo.free (hb : pBs mi mem n) (hm : pMo mi mem n d m) {a : Nat} {p : Int} : ¬ mFree m a p = 0 ↔ oFr mi (wAs mem (pOn mi) d n) (mi 148 6).toNat a p := by
  have e6 := hm.2.1 148 6 (by decide) (by decide)
  have em : ∀ b : Nat, mMeet m a b = mMeet mi a b := fun b => by
    unfold mMeet
    simp only [hm.of (a := a) (by omega) (w := 4) (by decide) (by decide) (by decide), hm.of (a := a) (by omega) (w := 5) (by decide) (by decide) (by decide), hm.of (a := b) (by omega) (w := 4) (by decide) (by decide) (by decide), hm.of (a := b) (by omega) (w := 5) (by decide) (by decide) (by decide)]
  unfold mFree
  rw [b2_nz, e6]
  constructor
  · intro h b hbn hne e
    by_cases c : mMeet mi a b = 0
    · exact c
    · exact absurd ⟨by omega, (hm.on hb).trans e, by rw [em]; exact c⟩ (h b hbn)
  · intro h b hbn q
    refine q.2.2 ?_
    rw [em]
    exact h b hbn (by omega) ((hm.on hb).symm.trans q.2.1)
theorem pMo.gap (hb : pBs mi mem n) (hm : pMo mi mem n d m) (p : Int) : mGapOf m p = (oG mi (wAs mem (pOn mi) d n) (mi 148 6).toNat p : Nat) := by
  have e6 := hm.2.1 148 6 (by decide) (by decide)
  rw [mGapOf_gap]
  unfold oG
  congr 2
  funext k
  unfold mT
  rw [e6, Bool.eq_iff_iff, decide_eq_true_eq, mTkn_iff, oTk_iff]
  constructor
  · rintro ⟨b, h1, h2, h3, h4⟩
    rw [hm.on hb] at h2
    rw [hm.of (a := b) (by omega) (w := 4) (by decide) (by decide) (by decide)] at h3 h4
    rw [hm.of (a := b) (by omega) (w := 5) (by decide) (by decide) (by decide)] at h4
    exact ⟨b, h1, h2, h3, h4⟩
  · rintro ⟨b, h1, h2, h3, h4⟩
    refine ⟨b, h1, ?_⟩
    rw [hm.on hb, hm.of (a := b) (by omega) (w := 4) (by decide) (by decide) (by decide), hm.of (a := b) (by omega) (w := 5) (by decide) (by decide) (by decide)]
    exact ⟨h2, h3, h4⟩
theorem pMo.apart (hb : pBs mi mem n) (hm : pMo mi mem n d m) : ∀ k : Nat, mApart m k = oA mi (wAs mem (pOn mi) d n) k
  | 0 => rfl
  | k + 1 => by
    have ih := pMo.apart hb hm k
    show (if 0 ≤ mOf m k 7 ∧ 0 ≤ mOf m k 6 ∧ 0 ≤ mOf m (mOf m k 7) 6 then mApart m k + mFar m (mOf m k 6) (mOf m (mOf m k 7) 6) else mApart m k + 0) = oA mi (wAs mem (pOn mi) d n) k + oW mi (wAs mem (pOn mi) d n) k
    rw [ih]
    unfold oW
    rw [hm.of (a := k) (by omega) (w := 7) (by decide) (by decide) (by decide), hm.on hb]
    have ef : ∀ p q, mFar m p q = mFar mi p q := fun p q => by
      unfold mFar
      rw [mPx_eq, mPx_eq, mPx_eq, mPx_eq]
      simp only [hm.pi]
    rw [ef]
    by_cases c : 0 ≤ mOf mi k 7
    · have e := hm.on hb (b := (mOf mi k 7).toNat)
      rw [show (((mOf mi k 7).toNat : Nat) : Int) = mOf mi k 7 by omega] at e
      rw [e]
      split <;> rfl
    · rw [if_neg (fun q => c q.1), if_neg (fun q => c q.1)]
end PM

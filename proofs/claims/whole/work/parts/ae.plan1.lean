/-! ===== plan: the reference's members ===== -/
def mBn (x : Nat) : Nat → Nat → Nat
  | 0, _ => 0
  | N + 1, i => if x.testBit N = true ∧ popN x N = i then N else mBn x N i
theorem popN_s (x k : Nat) : popN x (k + 1) = popN x k + (x.testBit k).toNat := rfl
theorem popN_mono (x : Nat) {a b : Nat} (h : a ≤ b) : popN x a ≤ popN x b := by
  induction b with
  | zero => obtain rfl : a = 0 := by omega
            exact Nat.le_refl _
  | succ b ih =>
    by_cases e : a = b + 1
    · rw [e]; exact Nat.le_refl _
    · have := ih (by omega)
      rw [popN_s]
      omega
theorem popN_up {x a b : Nat} (h : a < b) (ha : x.testBit a = true) : popN x a < popN x b := by
  have := popN_mono x (show a + 1 ≤ b by omega)
  rw [popN_s, ha] at this
  simp only [Bool.toNat_true] at this
  omega
theorem mBn_at {x : Nat} : ∀ {N b : Nat}, b < N → x.testBit b = true → mBn x N (popN x b) = b
  | N + 1, b, h, hb => by
    unfold mBn
    by_cases e : b = N
    · subst e
      rw [if_pos ⟨hb, rfl⟩]
    · have := popN_up (show b < N by omega) hb
      rw [if_neg (fun q => by omega)]
      exact mBn_at (by omega) hb
theorem mBn_ex {x : Nat} : ∀ {N i : Nat}, i < popN x N → ∃ b, b < N ∧ x.testBit b = true ∧ popN x b = i
  | 0, i, h => absurd h (by show ¬ i < 0; omega)
  | N + 1, i, h => by
    by_cases c : i < popN x N
    · obtain ⟨b, h1, h2⟩ := mBn_ex c
      exact ⟨b, by omega, h2⟩
    · rw [popN_s] at h
      cases e : x.testBit N with
      | false => rw [e] at h; simp only [Bool.toNat_false] at h; omega
      | true => rw [e] at h; simp only [Bool.toNat_true] at h; exact ⟨N, by omega, e, by omega⟩
theorem mBn_in {x N i : Nat} (h : i < popN x N) : mBn x N i < N ∧ x.testBit (mBn x N i) = true ∧ popN x (mBn x N i) = i := by
  obtain ⟨b, h1, h2, h3⟩ := mBn_ex h
  have := mBn_at h1 h2
  rw [h3] at this
  rw [this]
  exact ⟨h1, h2, h3⟩
theorem mBn_inj {x N i j : Nat} (hi : i < popN x N) (hj : j < popN x N) (h : mBn x N i = mBn x N j) : i = j := by
  have a := (mBn_in hi).2.2
  have b := (mBn_in hj).2.2
  rw [h, b] at a
  exact a.symm
def pF (mi m : Nat → Nat → Int) (mem : Nat → Nat) (z : Nat) (v : Nat → Int) : Prop := gR32 m ∧ (∀ c j : Nat, c ≠ 152 → c ≠ 160 → c ≠ 161 → c ≠ 162 → (c ≠ 148 ∨ j ≠ 20) → m c j = mi c j) ∧ (∀ j : Nat, (∀ i, i < z → j ≠ 12 * mem i + 6) → m 152 j = mi 152 j) ∧ ∀ i, i < z → m 152 (12 * mem i + 6) = v i
theorem pF.SV {mi m : Nat → Nat → Int} {mem : Nat → Nat} {z : Nat} {v : Nat → Int} (hv : SV mi) (h : pF mi m mem z v) (hz : ∀ i, i < z → -2 ≤ v i ∧ v i < mi 148 2) : SV m := by
  obtain ⟨hR, h0, h2, h6, hP, hQ⟩ := id hv
  have e0 := h.2.1 148 0 (by decide) (by decide) (by decide) (by decide) (by decide)
  have e2 := h.2.1 148 2 (by decide) (by decide) (by decide) (by decide) (by decide)
  have e6 := h.2.1 148 6 (by decide) (by decide) (by decide) (by decide) (by decide)
  have of : ∀ {a w : Int}, 0 ≤ a → 0 ≤ w → w < 12 → w ≠ 6 → mOf m a w = mOf mi a w := fun a0 w0 w1 hw => by
    unfold mOf
    exact h.2.2.1 _ (fun i _ => by omega)
  refine ⟨h.1, by rw [e0]; exact h0, by rw [e2]; exact h2, by rw [e6]; exact h6, fun a a0 a1 => ?_, fun p p0 p1 => ?_⟩
  · rw [e6] at a1
    have hp := hP a a0 a1
    have hon : -2 ≤ mOf m a 6 ∧ mOf m a 6 < mi 148 2 := by
      by_cases c : ∃ j, j < z ∧ mem j = a.toNat
      · obtain ⟨j, hj, ej⟩ := c
        unfold mOf
        rw [show (12 * a + 6).toNat = 12 * mem j + 6 by omega, h.2.2.2 j hj]
        exact hz j hj
      · have : mOf m a 6 = mOf mi a 6 := by
          unfold mOf
          exact h.2.2.1 _ (fun i hi q => c ⟨i, hi, by omega⟩)
        rw [this]
        exact hp.2.2.2.2.2.2.2.1
    unfold PV at hp ⊢
    rw [of a0 (w := 0) (by decide) (by decide) (by decide), of a0 (w := 1) (by decide) (by decide) (by decide), of a0 (w := 2) (by decide) (by decide) (by decide), of a0 (w := 3) (by decide) (by decide) (by decide), of a0 (w := 4) (by decide) (by decide) (by decide), of a0 (w := 5) (by decide) (by decide) (by decide), of a0 (w := 7) (by decide) (by decide) (by decide), of a0 (w := 8) (by decide) (by decide) (by decide), of a0 (w := 9) (by decide) (by decide) (by decide), of a0 (w := 10) (by decide) (by decide) (by decide), of a0 (w := 11) (by decide) (by decide) (by decide), e2, e6]
    obtain ⟨p1, p2, p3, p4, p5, p6, p7, p8, p9⟩ := hp
    exact ⟨p1, p2, p3, p4, p5, p6, p7, hon, p9⟩
  · rw [e2] at p1
    have hq := hQ p p0 p1
    have pi : ∀ p w, mPi m p w = mPi mi p w := fun p w => h.2.1 149 _ (by decide) (by decide) (by decide) (by decide) (Or.inl (by decide))
    unfold QV at hq ⊢
    simp only [pi]
    exact hq
theorem gap_on (m : Nat → Nat → Int) (p : Int) : mGapOf m p = (oG m (pOn m) (m 148 6).toNat p : Nat) := by
  rw [mGapOf_gap]
  unfold oG
  congr 2
  funext k
  unfold mT
  rw [Bool.eq_iff_iff, decide_eq_true_eq, mTkn_iff, oTk_iff]
  rfl
theorem oG_152 {m m' : Nat → Nat → Int} (h : ∀ j, m' 152 j = m 152 j) (N : Nat) (p : Int) : oG m' (pOn m') N p = oG m (pOn m) N p := by
  have e : ∀ a w, mOf m' a w = mOf m a w := fun a w => h _
  unfold oG
  congr 1
  funext n
  rw [Bool.eq_iff_iff, oTk_iff, oTk_iff]
  unfold pOn
  simp only [e]
/-- gathered so far: the set x's first q -/
def pgM (mi m : Nat → Nat → Int) (mem : Nat → Nat) (x q : Nat) : Prop := pF mi m mem 0 (fun _ => -1) ∧ m 148 20 = popN x q ∧ ∀ b, b < q → x.testBit b = true → m 161 (popN x b) = b
theorem pgM_0 {mi : Nat → Nat → Int} (hR : gR32 mi) (mem : Nat → Nat) (x : Nat) : pgM mi (gu mi 148 20 0) mem x 0 := ⟨⟨gR32_gu hR ⟨by decide, by decide⟩, fun c j _ _ _ _ h => gu_ne h, fun j _ => gu_other (by decide), fun i hi => by omega⟩, gu_self _ _ _ _, fun b hb => by omega⟩
theorem pgM_no {mi m : Nat → Nat → Int} {mem : Nat → Nat} {x q : Nat} (h : pgM mi m mem x q) (hb : x.testBit q = false) : pgM mi m mem x (q + 1) := by
  refine ⟨h.1, ?_, fun b hb2 hb3 => ?_⟩
  · rw [popN_s, hb]
    exact h.2.1
  · by_cases e : b = q
    · rw [e, hb] at hb3
      exact absurd hb3 (by decide)
    · exact h.2.2 b (by omega) hb3
theorem pgM_add {mi m : Nat → Nat → Int} {mem : Nat → Nat} {x q : Nat} (h : pgM mi m mem x q) (hb : x.testBit q = true) (hq : q < 100) {i : Nat} {v w : Int} (hi : i = popN x q) (hv : v = q) (hw : w = popN x q + 1) (hp : popN x q < 100) : pgM mi (gu (gu m 161 i v) 148 20 w) mem x (q + 1) := by
  subst hi
  obtain ⟨⟨h1, h2, h3, h4⟩, h5, h6⟩ := h
  refine ⟨⟨gR32_gu (gR32_gu h1 ⟨by omega, by omega⟩) ⟨by omega, by omega⟩, fun c j q1 q2 q3 q4 q5 => by rw [gu_ne q5, gu_other q3]; exact h2 c j q1 q2 q3 q4 q5, fun j hj => by rw [gu_other (by decide), gu_other (by decide)]; exact h3 j hj, fun k hk => by omega⟩, ?_, fun b hb2 hb3 => ?_⟩
  · rw [gu_self, popN_s, hb]
    simp only [Bool.toNat_true]
    omega
  · rw [gu_other (by decide)]
    by_cases e : b = q
    · rw [e, gu_self]
      exact hv
    · have := popN_up (show b < q by omega) hb3
      rw [gu_ne (Or.inr (by omega))]
      exact h6 b (by omega) hb3
/-- the first k members wait -/
def pQ (mi m : Nat → Nat → Int) (mem : Nat → Nat) (z k : Nat) : Prop := pF mi m mem k (fun _ => -1) ∧ m 148 20 = z ∧ ∀ i, i < z → m 161 i = mem i
theorem pgM_Q {mi m : Nat → Nat → Int} {x N : Nat} (h : pgM mi m (mBn x N) x N) : pQ mi m (mBn x N) (popN x N) 0 := ⟨h.1, h.2.1, fun i hi => by
  have := mBn_in hi
  have h2 := h.2.2 _ this.1 this.2.1
  rw [this.2.2] at h2
  exact h2⟩
theorem pQ_s {mi m : Nat → Nat → Int} {mem : Nat → Nat} {z k : Nat} (h : pQ mi m mem z k) (hk : k < z) {j : Nat} (hj : j = 12 * mem k + 6) : pQ mi (gu m 152 j (-1)) mem z (k + 1) := by
  subst hj
  obtain ⟨⟨h1, h2, h3, h4⟩, h5, h6⟩ := h
  refine ⟨⟨gR32_gu h1 ⟨by decide, by decide⟩, fun c j q1 q2 q3 q4 q5 => by rw [gu_other q1]; exact h2 c j q1 q2 q3 q4 q5, fun j hj => by rw [gu_ne (Or.inr (hj k (by omega)))]; exact h3 j (fun i hi => hj i (by omega)), fun i hi => ?_⟩, by rw [gu_other (by decide)]; exact h5, fun i hi => by rw [gu_other (by decide)]; exact h6 i hi⟩
  by_cases e : mem i = mem k
  · rw [e, gu_self]
  · rw [gu_ne (Or.inr (by omega))]
    exact h4 i (by
      by_cases w : i = k
      · exact absurd (by rw [w]) e
      · omega)
theorem plN_s (P k : Nat) : plN P (k + 1) = plN P k * (P + 1) := Nat.pow_succ _ _
theorem plN_b {P k : Nat} (hP : P ≤ 12) (hk : k ≤ 4) : 1 ≤ plN P k ∧ plN P k ≤ 28561 := by
  unfold plN
  refine ⟨Nat.one_le_pow _ _ (by omega), ?_⟩
  calc (P + 1) ^ k ≤ 13 ^ k := Nat.pow_le_pow_left (by omega) k
    _ ≤ 13 ^ 4 := Nat.pow_le_pow_right (by omega) hk
    _ = 28561 := by decide
theorem pQ_bs {mi m : Nat → Nat → Int} {mem : Nat → Nat} {z : Nat} (hv : SV mi) (hz : z ≤ 4) (hmem : ∀ i, i < z → (mem i : Int) < mi 148 6) (hinj : ∀ i j, i < z → j < z → mem i = mem j → i = j) (h : pQ mi m mem z z) : pBs m mem z := by
  have hP : 0 ≤ mi 148 2 ∧ mi 148 2 ≤ 12 := hv.2.2.1
  exact ⟨h.1.SV hv (fun i _ => by show (-2 : Int) ≤ -1 ∧ (-1 : Int) < _; omega), hz, h.2.1, fun i hi => ⟨h.2.2 i hi, by rw [h.1.2.1 148 6 (by decide) (by decide) (by decide) (by decide) (by decide)]; exact hmem i hi, h.1.2.2.2 i hi⟩, hinj⟩
/-- the gaps of the first q pitches are noted -/
def pGq (m : Nat → Nat → Int) (q : Nat) : Prop := ∀ p : Nat, p < q → m 162 p = oG m (pOn m) (m 148 6).toNat p
theorem pGq_s {m m1 : Nat → Nat → Int} {q : Nat} {v : Int} (h : pGq m q) (ho : off160 m1 m) (hv : v = oG m (pOn m) (m 148 6).toNat q) : pGq (gu m1 162 q v) (q + 1) := by
  intro p hp
  rw [oG_152 (m := m) (fun j => by rw [gu_other (by decide)]; exact ho 152 j (by decide)), show gu m1 162 q v 148 6 = m 148 6 from (gu_other (by decide)).trans (ho 148 6 (by decide))]
  by_cases e : p = q
  · rw [e, gu_self]
    exact hv
  · rw [gu_ne (Or.inr e), ho 162 p (by decide)]
    exact h p (by omega)
theorem pQ_162 {mi m m1 : Nat → Nat → Int} {mem : Nat → Nat} {z k q : Nat} {v : Int} (h : pQ mi m mem z k) (ho : off160 m1 m) (hR : gR32 m1) (hv : rng v) : pQ mi (gu m1 162 q v) mem z k := by
  obtain ⟨⟨h1, h2, h3, h4⟩, h5, h6⟩ := h
  exact ⟨⟨gR32_gu hR hv, fun c j q1 q2 q3 q4 q5 => by rw [gu_other q4, ho c j q2]; exact h2 c j q1 q2 q3 q4 q5, fun j hj => by rw [gu_other (by decide), ho 152 j (by decide)]; exact h3 j hj, fun i hi => by rw [gu_other (by decide), ho 152 _ (by decide)]; exact h4 i hi⟩, by rw [gu_other (by decide), ho 148 20 (by decide)]; exact h5, fun i hi => by rw [gu_other (by decide), ho 161 i (by decide)]; exact h6 i hi⟩
theorem oG_b (m : Nat → Nat → Int) (on : Nat → Int) (N : Nat) (p : Int) : oG m on N p ≤ 98 := gapN_le _
theorem plN_i {W p : Int} {k : Nat} (hp : 0 ≤ p) (h : W = plN p.toNat k) : W * (p + 1) = plN p.toNat (k + 1) := by
  rw [plN_s, h, Int.natCast_mul]
  congr 1
  omega
theorem shl_pow24 : ∀ p, p < 25 → shlI 1 (p : Nat) = ((2 ^ p : Nat) : Int) := by decide +kernel
def plFin (mi : Nat → Nat → Int) (mem : Nat → Nat) (z : Nat) (ml : Nat → Nat → Int64) (r : Option gV) (M : gMe) : Prop := ∃ (mB m1 : Nat → Nat → Int) (o : Int), M = gw m1 ml ∧ r = some (gi o) ∧ pBs mB mem z ∧ pF mi mB mem z (fun _ => -1) ∧ plE mB mem z m1 o
/-- may be planned -/
def plOk (mi : Nat → Nat → Int) (b : Nat) : Prop := ¬ mOf mi b 6 = -2 ∧ ¬ mOf mi b 4 ≤ mi 148 0

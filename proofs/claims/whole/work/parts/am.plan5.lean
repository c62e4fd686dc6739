/-! ===== plan: the class: what it prepares ===== -/
def cKp (mi m : Nat → Nat → Int) : Prop := gR32 m ∧ ∀ a k : Nat, a < 110 ∨ 126 < a → m a k = mi a k
theorem cKp.CV {mi m : Nat → Nat → Int} (hv : CV mi) (h : cKp mi m) : CV m := by
  obtain ⟨h1, h2, h3, h4, h5, h6⟩ := hv
  have e0 := h.2 1 0 (by decide)
  have e2 := h.2 1 2 (by decide)
  have e3 := h.2 1 3 (by decide)
  refine ⟨h.1, by rw [e0]; exact h2, by rw [e2]; exact h3, by rw [e3]; exact h4, fun a a0 a1 => ?_, fun p p0 p1 => ?_⟩
  · have hc : ∀ w, cA m a w = cA mi a w := fun w => h.2 _ _ (by omega)
    have := h5 a a0 (by omega)
    unfold CPV at this ⊢
    simp only [hc, e2, e3]
    exact this
  · have hc : ∀ w, cP m p w = cP mi p w := fun w => h.2 _ _ (by omega)
    have := h6 p p0 (by omega)
    unfold CQV at this ⊢
    simp only [hc]
    exact this
/-- the class's site and the base u -/
def cUb (mi u : Nat → Nat → Int) (ml : Nat → Nat → Int64) (mem : Nat → Nat) (z X : Nat) : Prop := (CV mi ∧ SV u ∧ z ≤ 4 ∧ wM u mem (pOn u) z) ∧ (mi 1 2 = u 148 2 ∧ mi 1 3 = u 148 6) ∧ (∀ b : Nat, (b : Int) < u 148 6 → (cA mi b 9 = mOf u b 7 ∧ cA mi b 5 = mOf u b 5) ∧ (ml (24 + b) 6 = lLow (mOf u b 4) (mOf u b 5) ∧ ml (24 + b) 7 = lHigh (mOf u b 4) (mOf u b 5)) ∧ (X.testBit b = false → cA mi b 8 = pOn u b) ∧ (X.testBit b = true → pOn u b = -1)) ∧ (∀ i, i < z → X.testBit (mem i) = true) ∧ (∀ b : Nat, ∀ p : Int, (b : Int) < u 148 6 → 0 ≤ p → p < u 148 2 → cReason mi b p = mWhy u b p) ∧ ∀ p q : Int, 0 ≤ p → p < u 148 2 → 0 ≤ q → q < u 148 2 → cFar mi p q = mFar u p q
def cgM (mi m : Nat → Nat → Int) (x q : Nat) : Prop := (gR32 m ∧ ∀ a k : Nat, a ≠ 111 → (a ≠ 110 ∨ k ≠ 2) → m a k = mi a k) ∧ m 110 2 = popN x q ∧ ∀ b, b < q → x.testBit b = true → m 111 (popN x b) = b
theorem cgM_0 {mi : Nat → Nat → Int} (hR : gR32 mi) (x : Nat) : cgM mi (gu mi 110 2 0) x 0 := ⟨⟨gR32_gu hR ⟨by decide, by decide⟩, fun c j _ h => gu_ne h⟩, gu_self _ _ _ _, fun b hb => by omega⟩
theorem cgM_no {mi m : Nat → Nat → Int} {x q : Nat} (h : cgM mi m x q) (hb : x.testBit q = false) : cgM mi m x (q + 1) := by
  refine ⟨h.1, ?_, fun b hb2 hb3 => ?_⟩
  · rw [popN_s, hb]
    exact h.2.1
  · by_cases e : b = q
    · rw [e, hb] at hb3
      exact absurd hb3 (by decide)
    · exact h.2.2 b (by omega) hb3
theorem cgM_add {mi m : Nat → Nat → Int} {x q : Nat} (h : cgM mi m x q) (hb : x.testBit q = true) (hq : q < 100) {i : Nat} {v w : Int} (hi : i = popN x q) (hv : v = q) (hw : w = popN x q + 1) (hp : popN x q < 100) : cgM mi (gu (gu m 111 i v) 110 2 w) x (q + 1) := by
  subst hi
  obtain ⟨⟨h1, h2⟩, h5, h6⟩ := h
  refine ⟨⟨gR32_gu (gR32_gu h1 ⟨by omega, by omega⟩) ⟨by omega, by omega⟩, fun c j q1 q5 => by rw [gu_ne q5, gu_other q1]; exact h2 c j q1 q5⟩, ?_, fun b hb2 hb3 => ?_⟩
  · rw [gu_self, popN_s, hb]
    simp only [Bool.toNat_true]
    omega
  · rw [gu_other (by decide)]
    by_cases e : b = q
    · rw [e, gu_self]
      exact hv
    · have := popN_up (show b < q by omega) hb3
      rw [gu_ne (Or.inr (by omega))]
      exact h6 b (by omega) hb3
def cWs (m : Nat → Nat → Int) (a b : Int) : Int := (if m (24 + a.toNat) 9 = b then 1 else 0) + (if m (24 + b.toNat) 9 = a then 1 else 0)
/-- while one member is looked at -/
def lk0 (mi m0 m : Nat → Nat → Int) (i : Nat) : Prop := cKp mi m ∧ (∀ a k : Nat, a ≠ 112 → a ≠ 116 + i → a ≠ 121 + i → m a k = m0 a k) ∧ ∀ k, k ≠ i → m 112 k = m0 112 k
def lkB (u m : Nat → Nat → Int) (mem : Nat → Nat) (i q : Nat) : Prop := ∀ p : Nat, p < 12 → (ib (m 112 i) p = true ↔ p < q ∧ wOk u mem (pOn u) i p)
def lkW (u m : Nat → Nat → Int) (mem : Nat → Nat) (i q : Nat) : Prop := ∀ p : Nat, (p : Int) < u 148 2 → m (116 + i) p = oY u (pOn u) (mem i) p q
def lkD (u m : Nat → Nat → Int) (mem : Nat → Nat) (i q : Nat) : Prop := ∀ j, j < q → m (121 + i) j = oWi u (mem i) (mem j)
section LK
variable {mi m0 m u : Nat → Nat → Int} {mem : Nat → Nat} {i q : Nat}
theorem lk0_w (h : lk0 mi m0 m i) (hi : i < 4) {j : Nat} {v : Int} (hv : rng v) : lk0 mi m0 (gu m (116 + i) j v) i := ⟨⟨gR32_gu h.1.1 hv, fun a k w => by rw [gu_other (by omega)]; exact h.1.2 a k w⟩, fun a k h1 h2 h3 => by rw [gu_other h2]; exact h.2.1 a k h1 h2 h3, fun k hk => by rw [gu_other (by omega)]; exact h.2.2 k hk⟩
theorem lk0_d (h : lk0 mi m0 m i) (hi : i < 4) {j : Nat} {v : Int} (hv : rng v) : lk0 mi m0 (gu m (121 + i) j v) i := ⟨⟨gR32_gu h.1.1 hv, fun a k w => by rw [gu_other (by omega)]; exact h.1.2 a k w⟩, fun a k h1 h2 h3 => by rw [gu_other h3]; exact h.2.1 a k h1 h2 h3, fun k hk => by rw [gu_other (by omega)]; exact h.2.2 k hk⟩
theorem lk0_o (h : lk0 mi m0 m i) {j : Nat} (hj : j = i) {v : Int} (hv : rng v) : lk0 mi m0 (gu m 112 j v) i := by
  subst hj
  exact ⟨⟨gR32_gu h.1.1 hv, fun a k w => by rw [gu_other (by omega)]; exact h.1.2 a k w⟩, fun a k h1 h2 h3 => by rw [gu_other h1]; exact h.2.1 a k h1 h2 h3, fun k hk => by rw [gu_ne (Or.inr hk)]; exact h.2.2 k hk⟩
theorem lkB_no (h : lkB u m mem i q) (hq : q < 12) (hno : ¬ wOk u mem (pOn u) i q) : lkB u m mem i (q + 1) := fun p hp => by
  rw [h p hp]
  by_cases e : p = q
  · subst e
    exact ⟨fun w => by omega, fun w => absurd w.2 hno⟩
  · exact ⟨fun w => ⟨by omega, w.2⟩, fun w => ⟨by omega, w.2⟩⟩
theorem lkB_yes (h : lkB u m mem i q) (hq : q < 12) (hok : wOk u mem (pOn u) i q) {j : Nat} (hj : j = i) : lkB u (gu m 112 j (orI (m 112 i) (shlI 1 (q : Nat)))) mem i (q + 1) := fun p hp => by
  subst hj
  rw [gu_self, ib_add _ hq hp, Bool.or_eq_true, h p hp, decide_eq_true_eq]
  by_cases e : p = q
  · subst e
    exact ⟨fun _ => ⟨by omega, hok⟩, fun _ => Or.inr rfl⟩
  · constructor
    · rintro (w | w)
      · exact ⟨by omega, w.2⟩
      · exact absurd w e
    · intro w
      exact Or.inl ⟨by omega, w.2⟩
theorem lkB_off (h : lkB u m mem i q) (hi : i < 4) {c j : Nat} {v : Int} (hc : c ≠ 112) : lkB u (gu m c j v) mem i q := fun p hp => by
  rw [gu_other (fun w => hc w.symm)]
  exact h p hp
theorem lkD_s (h : lkD u m mem i q) (hi : i < 4) {v : Int} (hv : v = oWi u (mem i) (mem q)) {j : Nat} (hj : j = q) : lkD u (gu m (121 + i) j v) mem i (q + 1) := fun k hk => by
  subst hj
  by_cases e : k = j
  · rw [e, gu_self]
    exact hv
  · rw [gu_ne (Or.inr e)]
    exact h k (by omega)
end LK

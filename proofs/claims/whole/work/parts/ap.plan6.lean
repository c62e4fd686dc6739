/-! ===== plan: the class: bounds, all prepared, what it leaves ===== -/
theorem ib_z (p : Nat) : ib 0 p = false := by
  have := ib_nat (x := 0) (by decide) p
  rw [Nat.zero_testBit] at this
  exact this
def bdS (u : Nat → Nat → Int) (mem : Nat → Nat) (mo mf : Nat → Int) (i : Nat) : Prop := mo (i + 1) ≤ mo i ∧ mf (i + 1) ≤ mf i ∧ ((∃ p : Int, (0 ≤ p ∧ p < u 148 2) ∧ wOk u mem (pOn u) i p) → mo i = mo (i + 1) + 1 ∧ mf i = mf (i + 1) + if mOf u (mem i) 5 = 1 then 1 else 0)
def bdM (u m0 m : Nat → Nat → Int) (mem : Nat → Nat) (z : Nat) (q : Int) : Prop := (gR32 m ∧ ∀ a k : Nat, a ≠ 113 → a ≠ 114 → m a k = m0 a k) ∧ (m 113 z = 0 ∧ m 114 z = 0) ∧ (∀ i : Nat, q < i → i < z → bdS u mem (m 113) (m 114) i) ∧ ∀ i : Nat, q < i → i ≤ z → (0 ≤ m 113 i ∧ m 113 i ≤ z - i) ∧ (0 ≤ m 114 i ∧ m 114 i ≤ z - i)
theorem bdM_s {u m0 m : Nat → Nat → Int} {mem : Nat → Nat} {z : Nat} {q : Int} (h : bdM u m0 m mem z q) (q0 : 0 ≤ q) (q1 : q < z) (hz : z ≤ 4) {j : Nat} (hj : j = q.toNat) {v1 v2 : Int} (h1 : m 113 (q + 1).toNat ≤ v1 ∧ v1 ≤ m 113 (q + 1).toNat + 1) (h2 : m 114 (q + 1).toNat ≤ v2 ∧ v2 ≤ m 114 (q + 1).toNat + 1) (h3 : (∃ p : Int, (0 ≤ p ∧ p < u 148 2) ∧ wOk u mem (pOn u) q.toNat p) → v1 = m 113 (q + 1).toNat + 1 ∧ v2 = m 114 (q + 1).toNat + if mOf u (mem q.toNat) 5 = 1 then 1 else 0) : bdM u m0 (gu (gu m 113 j v1) 114 j v2) mem z (q - 1) := by
  subst hj
  obtain ⟨⟨a1, a2⟩, ⟨a3, a4⟩, a5, a6⟩ := h
  have hb := a6 (q + 1).toNat (by omega) (by omega)
  have e3 : ∀ k : Nat, gu (gu m 113 q.toNat v1) 114 q.toNat v2 113 k = if k = q.toNat then v1 else m 113 k := fun k => by
    rw [gu_other (by decide)]
    split
    · rename_i w; rw [w, gu_self]
    · rename_i w; rw [gu_ne (Or.inr w)]
  have e4 : ∀ k : Nat, gu (gu m 113 q.toNat v1) 114 q.toNat v2 114 k = if k = q.toNat then v2 else m 114 k := fun k => by
    split
    · rename_i w; rw [w, gu_self]
    · rename_i w; rw [gu_ne (Or.inr w), gu_other (by decide)]
  refine ⟨⟨gR32_gu (gR32_gu a1 ⟨by omega, by omega⟩) ⟨by omega, by omega⟩, fun a k w1 w2 => by rw [gu_other w2, gu_other w1]; exact a2 a k w1 w2⟩, ⟨by rw [e3, if_neg (by omega)]; exact a3, by rw [e4, if_neg (by omega)]; exact a4⟩, fun i hi hi2 => ?_, fun i hi hi2 => ?_⟩
  · unfold bdS
    rw [e3, e3, e4, e4]
    by_cases e : i = q.toNat
    · rw [if_pos e, if_pos e, if_neg (by omega), if_neg (by omega), e, show q.toNat + 1 = (q + 1).toNat by omega]
      exact ⟨h1.1, h2.1, h3⟩
    · rw [if_neg e, if_neg e, if_neg (by omega), if_neg (by omega)]
      exact a5 i (by omega) hi2
  · rw [e3, e4]
    by_cases e : i = q.toNat
    · rw [if_pos e, if_pos e]
      omega
    · rw [if_neg e, if_neg e]
      exact a6 i (by omega) hi2
/-- all members looked at -/
def lkA (mi u m : Nat → Nat → Int) (mem : Nat → Nat) (z q : Nat) : Prop := cKp mi m ∧ (m 110 2 = z ∧ ∀ k, k < z → m 111 k = mem k) ∧ ∀ k, k < q → lkB u m mem k (u 148 2).toNat ∧ lkW u m mem k (u 148 6).toNat ∧ lkD u m mem k z
theorem lkA_s {mi u m m1 : Nat → Nat → Int} {mem : Nat → Nat} {z q : Nat} (h : lkA mi u m mem z q) (hq : q < 4) (h0 : lk0 mi m m1 q) (hB : lkB u m1 mem q (u 148 2).toNat) (hW : lkW u m1 mem q (u 148 6).toNat) (hD : lkD u m1 mem q z) : lkA mi u m1 mem z (q + 1) := by
  refine ⟨h0.1, ⟨(h0.2.1 110 2 (by decide) (by omega) (by omega)).trans h.2.1.1, fun k hk => (h0.2.1 111 k (by decide) (by omega) (by omega)).trans (h.2.1.2 k hk)⟩, fun k hk => ?_⟩
  by_cases e : k = q
  · subst e
    exact ⟨hB, hW, hD⟩
  · obtain ⟨b1, b2, b3⟩ := h.2.2 k (by omega)
    refine ⟨fun p hp => ?_, fun p hp => ?_, fun j hj => ?_⟩
    · rw [h0.2.2 k e]; exact b1 p hp
    · rw [h0.2.1 (116 + k) p (by omega) (by omega) (by omega)]; exact b2 p hp
    · rw [h0.2.1 (121 + k) j (by omega) (by omega) (by omega)]; exact b3 j hj
theorem cPr_of {mi u m m1 : Nat → Nat → Int} {mlb ml1 : Nat → Nat → Int64} {mem : Nat → Nat} {z X : Nat} (hU : cUb mi u mlb mem z X) (hml : ∀ a k : Nat, a ≠ 108 → a ≠ 109 → ml1 a k = mlb a k) (h : lkA mi u m mem z z) (hb : bdM u m m1 mem z (-1)) : cPr u m1 ml1 mem z := by
  have hz4 := hU.1.2.2.1
  have hv := hU.1.2.1
  have hM := hU.1.2.2.2
  have hP : 0 ≤ u 148 2 ∧ u 148 2 ≤ 12 := hv.2.2.1
  have hN : 0 ≤ u 148 6 ∧ u 148 6 ≤ 24 := hv.2.2.2.1
  have e : ∀ a k : Nat, a ≠ 113 → a ≠ 114 → m1 a k = m a k := hb.1.2
  have eo : ∀ a k : Nat, a < 110 → m1 a k = mi a k := fun a k ha => by rw [e a k (by omega) (by omega)]; exact h.1.2 a k (Or.inl ha)
  refine ⟨⟨hb.1.1, hv, hz4, hM⟩, ⟨(e 110 2 (by decide) (by decide)).trans h.2.1.1, (eo 1 2 (by decide)).trans hU.2.1.1⟩, fun i hi => ?_, fun i hi p hp => ?_, ⟨⟨hb.2.1.1, hb.2.1.2, fun i hi => hb.2.2.1 i (by omega) hi⟩, fun i hi => ?_⟩, fun i hi => ⟨fun p hp => ?_, fun j hj => ?_⟩, fun p p0 p1 => ⟨?_, fun q q0 q1 => ?_⟩⟩
  · have hm := (hM.1 i hi).1
    have h2 := (hU.2.2.1 (mem i) (by omega)).2.1
    exact ⟨(e 111 i (by decide) (by decide)).trans (h.2.1.2 i hi), by rw [hml _ _ (by omega) (by omega)]; exact h2.1, by rw [hml _ _ (by omega) (by omega)]; exact h2.2⟩
  · rw [e 112 i (by decide) (by decide), (h.2.2 i hi).1 p hp]
    exact ⟨fun w => ⟨by omega, w.2⟩, fun w => ⟨by omega, w.2⟩⟩
  · have := hb.2.2.2 i (by omega) hi
    omega
  · rw [e (116 + i) p (by omega) (by omega)]
    exact (h.2.2 i hi).2.1 p hp
  · rw [e (121 + i) j (by omega) (by omega)]
    exact (h.2.2 i hi).2.2 j hj
  · have w9 := hU.1.1.2.2.2.2.2 p p0 (by rw [hU.2.1.1]; exact p1)
    unfold CQV cP at w9 ⊢
    simp only [eo (12 + p.toNat) _ (show 12 + p.toNat < 110 by omega)]
    exact w9
  · rw [← hU.2.2.2.2.2 p q p0 p1 q0 q1]
    unfold cFar cP
    rw [eo _ _ (by omega), eo _ _ (by omega), eo _ _ (by omega), eo _ _ (by omega)]
theorem tAll_start {u mp m : Nat → Nat → Int} {ml1 : Nat → Nat → Int64} {mem : Nat → Nat} {z : Nat} (hm : tM mp m) (h11 : m 110 11 = -1) (hcal : calR u (pOn u) ml1) : tAll u mp ml1 mem z (sLt (u 148 2).toNat (fun _ => -1) 0) m ml1 (fun _ => -1) 0 0 0 0 := ⟨⟨hm, fun k hk => absurd hk (Nat.not_lt_zero _), Or.inl ⟨h11, fun d _ hs => absurd hs (Nat.not_lt_zero _)⟩⟩, ⟨fun _ _ _ _ => rfl, hcal⟩, ⟨fun k hk => absurd hk (Nat.not_lt_zero _), fun k hk => absurd hk (Nat.not_lt_zero _)⟩, rfl, (Int.sub_self _).symm, (Int.sub_self _).symm⟩
theorem bJ_fin {u m : Nat → Nat → Int} {mem : Nat → Nat} {z : Nat} {d : Nat → Int} (h : bJ u mem z (sLe' (u 148 2).toNat d 0) m) : ∃ e : Nat → Int, pB (u 148 2).toNat z (wW u mem (pOn u) z) (fun _ => True) e ∧ (∀ k, k < z → m 126 k = e k) ∧ m 110 11 = wO e z := by
  rcases h with ⟨_, h⟩ | ⟨e, h1, h2, h3, _⟩
  · exfalso
    exact h (fun _ => -1) (fun k _ => ⟨by show (-1 : Int) ≤ -1; decide, by show (-1 : Int) < _; omega⟩) (Nat.le_refl 0) (fun k _ w => absurd w (by show ¬ (0 : Int) ≤ -1; decide))
  · exact ⟨e, pB_iff h1 (fun d' _ => ⟨fun _ => trivial, fun _ => Nat.le_refl 0⟩), h2, h3⟩
/-- what make leaves -/
def mkM (mi m : Nat → Nat → Int) (mem : Nat → Nat) (q : Nat) (e : Nat → Int) : Prop := gR32 m ∧ (∀ a k : Nat, a < 110 ∨ 126 < a → (∀ i, i < q → ¬ (a = 24 + mem i ∧ k = 8)) → m a k = mi a k) ∧ ∀ i, i < q → m (24 + mem i) 8 = e i
def mkR (m : Nat → Nat → Int) (mem : Nat → Nat) (z : Nat) (e : Nat → Int) (b : Int) : Prop := m 110 2 = z ∧ (∀ k, k < z → m 111 k = mem k) ∧ (∀ k, k < z → m 126 k = e k) ∧ m 110 11 = b
theorem mkM_s {mi m : Nat → Nat → Int} {mem : Nat → Nat} {z q : Nat} {e : Nat → Int} {b : Int} (h : mkM mi m mem q e) (hr : mkR m mem z e b) (hq : q < z) (hm : ∀ k, k < z → mem k < 24) (hinj : ∀ i j, i < z → j < z → mem i = mem j → i = j) {c : Nat} {v : Int} (hc : c = 24 + mem q) (hv : v = e q) (hrv : rng v) : mkM mi (gu m c 8 v) mem (q + 1) e ∧ mkR (gu m c 8 v) mem z e b := by
  subst hc
  have hmq := hm q hq
  refine ⟨⟨gR32_gu h.1 hrv, fun a k w1 w2 => ?_, fun i hi => ?_⟩, ?_⟩
  · have := w2 q (by omega)
    rw [gu_ne (by omega)]
    exact h.2.1 a k w1 (fun i hi => w2 i (by omega))
  · by_cases w : mem i = mem q
    · by_cases w2 : i = q
      · rw [w2, gu_self]; exact hv
      · exact absurd (hinj i q (by omega) hq w) w2
    · rw [gu_ne (Or.inl (by omega))]
      exact h.2.2 i (by
        by_cases w2 : i = q
        · exact absurd (by rw [w2]) w
        · omega)
  · obtain ⟨r1, r2, r3, r4⟩ := hr
    exact ⟨by rw [gu_other (by omega)]; exact r1, fun k hk => by rw [gu_other (by omega)]; exact r2 k hk, fun k hk => by rw [gu_other (by omega)]; exact r3 k hk, by rw [gu_other (by omega)]; exact r4⟩

/-! ===== plan: the class: one member's pitches ===== -/
def tAll (u mp : Nat → Nat → Int) (mlb : Nat → Nat → Int64) (mem : Nat → Nat) (z : Nat) (S : (Nat → Int) → Prop) (m : Nat → Nat → Int) (ml1 : Nat → Nat → Int64) (d : Nat → Int) (i : Nat) (on g f : Int) : Prop := (tM mp m ∧ (∀ k, k < i → m 125 k = d k) ∧ bJ u mem z S m) ∧ ((∀ a k : Nat, a ≠ 108 → a ≠ 109 → ml1 a k = mlb a k) ∧ calR u (wAs mem (pOn u) d i) ml1) ∧ (inr (u 148 2).toNat d i ∧ wV u mem (pOn u) i d) ∧ (on = wO d i ∧ g = wGp u mem (pOn u) i d - pG0 u ∧ f = wFa u mem (pOn u) i d - pF0 u)
def tPost (u mp : Nat → Nat → Int) (mem : Nat → Nat) (z : Nat) (ml1 : Nat → Nat → Int64) (d : Nat → Int) (i : Nat) (r : Option gV) (M : gMe) : Prop := r = none ∧ ∃ m1 : Nat → Nat → Int, M = gw m1 ml1 ∧ tM mp m1 ∧ (∀ k, k < i → m1 125 k = d k) ∧ bJ u mem z (sLe' (u 148 2).toNat d i) m1
def gTry (G : gG) (n : Nat) (u mp : Nat → Nat → Int) (mlb : Nat → Nat → Int64) (mem : Nat → Nat) (z i : Nat) : Prop := ∀ (x : Int) (m : Nat → Nat → Int) (ml1 : Nat → Nat → Int64) (d : Nat → Int) (on g f : Int), x = i → tAll u mp mlb mem z (sLt (u 148 2).toNat d i) m ml1 d i on g f → gM G 40 n 0 0 [gr 110, gi x, gi on, gi g, gi f] (gw m ml1) (tPost u mp mem z ml1 d i)
section TL
variable {u mp m : Nat → Nat → Int} {mlb ml1 : Nat → Nat → Int64} {mem : Nat → Nat} {z i : Nat} {d : Nat → Int} {on g f : Int}
theorem tM_125 (h : tM mp m) {j : Nat} {v : Int} (hv : rng v) : tM mp (gu m 125 j v) := ⟨gR32_gu h.1 hv, fun a k h1 h2 h3 => by rw [gu_other h1]; exact h.2 a k h1 h2 h3⟩
theorem bJ_125 {S : (Nat → Int) → Prop} (h : bJ u mem z S m) (j : Nat) (v : Int) : bJ u mem z S (gu m 125 j v) := bI_m h (fun k _ => gu_other (by decide)) (gu_other (by decide)) (gu_other (by decide)) (gu_other (by decide))
theorem tM_rm {m1 : Nat → Nat → Int} (h : tM mp m) {o1 g1 f1 : Int} {q : Nat} (hr : rmM m m1 o1 g1 f1 q) : tM mp m1 := ⟨hr.1, fun a k h1 h2 h3 => (hr.2.1 a k h2 h3).trans (h.2 a k h1 h2 h3)⟩
theorem d_congr (v : Int) : ∀ k, k < i → dAt d i v k = d k := fun k hk => dAt_lt v hk
theorem tAll_0 (h : tAll u mp mlb mem z (sLt (u 148 2).toNat d i) m ml1 d i on g f) : tAll u mp mlb mem z (sQ (u 148 2).toNat d i 0) m ml1 d i on g f := ⟨⟨h.1.1, h.1.2.1, bI_iff h.1.2.2 (fun _ _ => sQ_0)⟩, h.2⟩
theorem tAll_no {q : Nat} (h : tAll u mp mlb mem z (sQ (u 148 2).toNat d i q) m ml1 d i on g f) (hi : i < z) (hq : (q : Int) < u 148 2) (hno : ¬ wOk u mem (wAs mem (pOn u) d i) i q) : tAll u mp mlb mem z (sQ (u 148 2).toNat d i (q + 1)) m ml1 d i on g f := ⟨⟨h.1.1, h.1.2.1, bJ_no hi h.2.2.1.1 h.1.2.2 hq hno⟩, h.2⟩
theorem tAll_wait (hM : wM u mem (pOn u) z) (h : tAll u mp mlb mem z (sQ (u 148 2).toNat d i (u 148 2).toNat) m ml1 d i on g f) (hi : i < z) (hP : 0 ≤ u 148 2) {j : Nat} (hj : j = i) : tAll u mp mlb mem z (sLt (u 148 2).toNat (dAt d i (-1)) (i + 1)) (gu m 125 j (-1)) ml1 (dAt d i (-1)) (i + 1) on g f := by
  subst hj
  obtain ⟨⟨h1, h2, h3⟩, ⟨h4, h5⟩, ⟨h6, h7⟩, h8, h9, h10⟩ := h
  have hc := d_congr (d := d) (i := j) (-1)
  have hw := way_wait hM hi (dAt_i (d := d) j (-1))
  have ea : wAs mem (pOn u) (dAt d j (-1)) j = wAs mem (pOn u) d j := wAs_congr hc
  refine ⟨⟨tM_125 h1 ⟨by decide, by decide⟩, fun k hk => ?_, bJ_125 (bI_iff h3 (fun e he => (sQ_lt h6 ⟨by decide, by omega⟩ (by unfold dig; rw [if_pos (by decide)]) (inr_le he (show j + 1 ≤ z by omega))).1)) _ _⟩, ⟨h4, by rw [hw.2.2.2, ea]; exact h5⟩, ⟨dAt_inr h6 ⟨by decide, by omega⟩, fun k hk k0 => ?_⟩, ?_, ?_, ?_⟩
  · by_cases e : k = j
    · rw [e, gu_self, dAt_i]
    · rw [gu_ne (Or.inr e), dAt_lt _ (by omega)]
      exact h2 k (by omega)
  · by_cases e : k = j
    · rw [e, dAt_i] at k0
      exact absurd k0 (by decide)
    · have := wV_congr (fun q hq => (hc q hq).symm) h7 k (by omega) k0
      exact this
  · rw [hw.1, wO_congr hc]; exact h8
  · rw [hw.2.1]; unfold wGp; rw [ea]; exact h9
  · rw [hw.2.2.1]; unfold wFa; rw [ea]; exact h10
theorem tAll_on (hv : SV u) (hM : wM u mem (pOn u) z) {q g1 g2 wy : Int} (h : tAll u mp mlb mem z (sQ (u 148 2).toNat d i q.toNat) m ml1 d i on g f) (hi : i < z) (q0 : 0 ≤ q) (hq : q < u 148 2) (hok : wOk u mem (wAs mem (pOn u) d i) i q) (hg1 : g1 = (oG u (wAs mem (pOn u) d i) (u 148 6).toNat q : Nat)) (hg2 : g2 = (oG u (wAs mem (pOn u) (dAt d i q) (i + 1)) (u 148 6).toNat q : Nat)) (hwy : wy = oY u (pOn u) (mem i) (dAt d i q i) (u 148 6).toNat + wYs u mem (dAt d i q) (mem i) (dAt d i q i) i) {j : Nat} (hj : j = i) : tAll u mp mlb mem z (sLt (u 148 2).toNat (dAt d i q) (i + 1)) (gu m 125 j q) (lTake ml1 q (lLow (mOf u (mem i) 4) (mOf u (mem i) 5)) (lHigh (mOf u (mem i) 4) (mOf u (mem i) 5))) (dAt d i q) (i + 1) (on + 1) (g + (g2 - g1)) (f + wy) := by
  subst hj
  obtain ⟨⟨h1, h2, h3⟩, ⟨h4, h5⟩, ⟨h6, h7⟩, h8, h9, h10⟩ := h
  have hP : 0 ≤ u 148 2 ∧ u 148 2 ≤ 12 := hv.2.2.1
  have hc := d_congr (d := d) (i := j) q
  have di := dAt_i (d := d) j q
  have hw := way_on hv hM (d := dAt d j q) hi (by rw [di]; exact q0) (by rw [di]; exact hq)
  have ea : wAs mem (pOn u) (dAt d j q) j = wAs mem (pOn u) d j := wAs_congr hc
  have eb : wAs mem (pOn u) (dAt d j q) (j + 1) = oUp (wAs mem (pOn u) d j) (mem j) q := by
    show oUp (wAs mem (pOn u) (dAt d j q) j) (mem j) (dAt d j q j) = _
    rw [ea, di]
  have hl := wAs_late hM (d := d) (Nat.le_refl j) hi
  rw [di] at hw
  refine ⟨⟨tM_125 h1 ⟨by omega, by omega⟩, fun k hk => ?_, bJ_125 (bI_iff h3 (fun e he => (sQ_lt h6 ⟨by omega, by omega⟩ (by unfold dig; rw [if_neg (by omega)]) (inr_le he (show j + 1 ≤ z by omega))).1)) _ _⟩, ⟨fun a k a1 a2 => by rw [lTake_off a1 a2]; exact h4 a k a1 a2, by rw [eb]; exact calR_take h5 (hM.1 j hi).1 (by omega) q0⟩, ⟨dAt_inr h6 ⟨by omega, by omega⟩, fun k hk k0 => ?_⟩, ?_, ?_, ?_⟩
  · by_cases e : k = j
    · rw [e, gu_self, di]
    · rw [gu_ne (Or.inr e), dAt_lt _ (by omega)]
      exact h2 k (by omega)
  · by_cases e : k = j
    · rw [e, di, ea]
      exact hok
    · exact wV_congr (fun q hq => (hc q hq).symm) h7 k (by omega) k0
  · rw [hw.1, wO_congr hc, h8]
  · rw [hw.2.1, hg2, hg1, h9, ea]
    unfold wGp
    rw [ea]
    omega
  · rw [hw.2.2, hwy, h10, di]
    unfold wFa
    rw [ea]
    omega
/-- back from a try -/
theorem tAll_back {q : Nat} {v : Int} (h : tAll u mp mlb mem z (sQ (u 148 2).toNat d i q) m ml1 d i on g f) (hi : i < z) (hvv : -1 ≤ v ∧ v < ((u 148 2).toNat : Nat)) (hdg : dig (u 148 2).toNat v = q) {m1 : Nat → Nat → Int} (h1 : tM mp m1) (h2 : ∀ k, k < i + 1 → m1 125 k = dAt d i v k) (h3 : bJ u mem z (sLe' (u 148 2).toNat (dAt d i v) (i + 1)) m1) : tAll u mp mlb mem z (sQ (u 148 2).toNat d i (q + 1)) m1 ml1 d i on g f := ⟨⟨h1, fun k hk => by rw [h2 k (by omega), dAt_lt v hk], bI_iff h3 (fun e he => (sQ_lt h.2.2.1.1 hvv hdg (inr_le he (show i + 1 ≤ z by omega))).2)⟩, h.2⟩
theorem tAll_end (h : tAll u mp mlb mem z (sQ (u 148 2).toNat d i ((u 148 2).toNat + 1)) m ml1 d i on g f) (hi : i < z) : tM mp m ∧ (∀ k, k < i → m 125 k = d k) ∧ bJ u mem z (sLe' (u 148 2).toNat d i) m := ⟨h.1.1, h.1.2.1, bI_iff h.1.2.2 (fun e he => sQ_end (inr_le he (show i + 1 ≤ z by omega)))⟩
end TL

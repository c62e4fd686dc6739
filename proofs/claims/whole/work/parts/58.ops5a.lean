/-! ===== pitch and party: both sides' new ones ===== -/
section N1
variable {mi m : Nat → Nat → Int} {ml : Nat → Nat → Int64} {x y z w n : Int}
theorem cPit_off {p : Int} {c k : Nat} (h : c ≠ 12 + p.toNat) : cPit mi p x y z w c k = mi c k := by
  unfold cPit
  repeat rw [gu_other h]
theorem cPar_off {p : Int} {c k : Nat} (h : c ≠ 24 + p.toNat) : cPar mi p x y z w c k = mi c k := by
  unfold cPar
  repeat rw [gu_other h]
theorem cPit_v  : cPit mi n x y z w (12 + n.toNat) 0 = x / 100 ∧ cPit mi n x y z w (12 + n.toNat) 1 = x % 100 ∧ cPit mi n x y z w (12 + n.toNat) 2 = y / 100 ∧ cPit mi n x y z w (12 + n.toNat) 3 = y % 100 ∧ cPit mi n x y z w (12 + n.toNat) 4 = z / 100 ∧ cPit mi n x y z w (12 + n.toNat) 5 = z % 100 ∧ cPit mi n x y z w (12 + n.toNat) 6 = w / 10 ∧ cPit mi n x y z w (12 + n.toNat) 7 = w % 10 ∧ cPit mi n x y z w (12 + n.toNat) 8 = 0 ∧ cPit mi n x y z w (12 + n.toNat) 9 = 0 := by
  unfold cPit
  refine ⟨?_, ?_, ?_, ?_, ?_, ?_, ?_, ?_, ?_, ?_⟩
  · (repeat (first | rw [gu_ne (by omega)] | rw [gu_self]))
  · (repeat (first | rw [gu_ne (by omega)] | rw [gu_self]))
  · (repeat (first | rw [gu_ne (by omega)] | rw [gu_self]))
  · (repeat (first | rw [gu_ne (by omega)] | rw [gu_self]))
  · (repeat (first | rw [gu_ne (by omega)] | rw [gu_self]))
  · (repeat (first | rw [gu_ne (by omega)] | rw [gu_self]))
  · (repeat (first | rw [gu_ne (by omega)] | rw [gu_self]))
  · (repeat (first | rw [gu_ne (by omega)] | rw [gu_self]))
  · (repeat (first | rw [gu_ne (by omega)] | rw [gu_self]))
  · (repeat (first | rw [gu_ne (by omega)] | rw [gu_self]))
theorem cPar_v  : cPar mi n x y z w (24 + n.toNat) 0 = x ∧ cPar mi n x y z w (24 + n.toNat) 1 = y / 100 ∧ cPar mi n x y z w (24 + n.toNat) 2 = y % 100 ∧ cPar mi n x y z w (24 + n.toNat) 3 = z ∧ cPar mi n x y z w (24 + n.toNat) 4 = w / 100 ∧ cPar mi n x y z w (24 + n.toNat) 5 = w % 100 ∧ cPar mi n x y z w (24 + n.toNat) 8 = -1 ∧ cPar mi n x y z w (24 + n.toNat) 9 = -1 ∧ cPar mi n x y z w (24 + n.toNat) 10 = -1 ∧ cPar mi n x y z w (24 + n.toNat) 11 = 0 ∧ cPar mi n x y z w (24 + n.toNat) 12 = 0 ∧ cPar mi n x y z w (24 + n.toNat) 13 = 0 := by
  unfold cPar
  refine ⟨?_, ?_, ?_, ?_, ?_, ?_, ?_, ?_, ?_, ?_, ?_, ?_⟩
  · (repeat (first | rw [gu_ne (by omega)] | rw [gu_self]))
  · (repeat (first | rw [gu_ne (by omega)] | rw [gu_self]))
  · (repeat (first | rw [gu_ne (by omega)] | rw [gu_self]))
  · (repeat (first | rw [gu_ne (by omega)] | rw [gu_self]))
  · (repeat (first | rw [gu_ne (by omega)] | rw [gu_self]))
  · (repeat (first | rw [gu_ne (by omega)] | rw [gu_self]))
  · (repeat (first | rw [gu_ne (by omega)] | rw [gu_self]))
  · (repeat (first | rw [gu_ne (by omega)] | rw [gu_self]))
  · (repeat (first | rw [gu_ne (by omega)] | rw [gu_self]))
  · (repeat (first | rw [gu_ne (by omega)] | rw [gu_self]))
  · (repeat (first | rw [gu_ne (by omega)] | rw [gu_self]))
  · (repeat (first | rw [gu_ne (by omega)] | rw [gu_self]))
theorem mPit_v (n0 : 0 ≤ n) (hn : m 148 2 = n) : (∀ a k : Nat, (a = 149 → (k : Int) < 8 * n ∨ 8 * n + 8 ≤ k) → (a = 150 ∨ a = 151 → k ≠ n.toNat) → (a = 148 → k ≠ 2) → mPit m x y z w a k = m a k) ∧ mPit m x y z w 148 2 = n + 1 ∧ mPit m x y z w 150 n.toNat = 0 ∧ mPit m x y z w 151 n.toNat = 0 ∧ mPit m x y z w 149 (8 * n).toNat = x / 100 ∧ mPit m x y z w 149 (8 * n + 1).toNat = x % 100 ∧ mPit m x y z w 149 (8 * n + 2).toNat = y / 100 ∧ mPit m x y z w 149 (8 * n + 3).toNat = y % 100 ∧ mPit m x y z w 149 (8 * n + 4).toNat = z / 100 ∧ mPit m x y z w 149 (8 * n + 5).toNat = z % 100 ∧ mPit m x y z w 149 (8 * n + 6).toNat = w / 10 ∧ mPit m x y z w 149 (8 * n + 7).toNat = w % 10 := by
  refine ⟨?_, ?_, ?_, ?_, ?_, ?_, ?_, ?_, ?_, ?_, ?_, ?_⟩
  · intro a k h1 h2 h3
    unfold mPit
    rw [hn]
    (repeat (rw [gu_ne (by omega)]))
  · unfold mPit
    rw [hn]
    (repeat (first | rw [gu_ne (by omega)] | rw [gu_self]))
  · unfold mPit
    rw [hn]
    (repeat (first | rw [gu_ne (by omega)] | rw [gu_self]))
  · unfold mPit
    rw [hn]
    (repeat (first | rw [gu_ne (by omega)] | rw [gu_self]))
  · unfold mPit
    rw [hn]
    (repeat (first | rw [gu_ne (by omega)] | rw [gu_self]))
  · unfold mPit
    rw [hn]
    (repeat (first | rw [gu_ne (by omega)] | rw [gu_self]))
  · unfold mPit
    rw [hn]
    (repeat (first | rw [gu_ne (by omega)] | rw [gu_self]))
  · unfold mPit
    rw [hn]
    (repeat (first | rw [gu_ne (by omega)] | rw [gu_self]))
  · unfold mPit
    rw [hn]
    (repeat (first | rw [gu_ne (by omega)] | rw [gu_self]))
  · unfold mPit
    rw [hn]
    (repeat (first | rw [gu_ne (by omega)] | rw [gu_self]))
  · unfold mPit
    rw [hn]
    (repeat (first | rw [gu_ne (by omega)] | rw [gu_self]))
  · unfold mPit
    rw [hn]
    (repeat (first | rw [gu_ne (by omega)] | rw [gu_self]))
theorem mPar_v (n0 : 0 ≤ n) (hn : m 148 6 = n) : (∀ a k : Nat, (a = 152 → (k : Int) < 12 * n ∨ 12 * n + 12 ≤ k) → (a = 148 → k ≠ 6) → mPar m x y z w a k = m a k) ∧ mPar m x y z w 148 6 = n + 1 ∧ mPar m x y z w 152 (12 * n).toNat = x ∧ mPar m x y z w 152 (12 * n + 1).toNat = y / 100 ∧ mPar m x y z w 152 (12 * n + 2).toNat = y % 100 ∧ mPar m x y z w 152 (12 * n + 3).toNat = z ∧ mPar m x y z w 152 (12 * n + 4).toNat = w / 100 ∧ mPar m x y z w 152 (12 * n + 5).toNat = w % 100 ∧ mPar m x y z w 152 (12 * n + 6).toNat = -1 ∧ mPar m x y z w 152 (12 * n + 7).toNat = -1 ∧ mPar m x y z w 152 (12 * n + 8).toNat = -1 ∧ mPar m x y z w 152 (12 * n + 9).toNat = 0 ∧ mPar m x y z w 152 (12 * n + 10).toNat = 0 ∧ mPar m x y z w 152 (12 * n + 11).toNat = 0 := by
  refine ⟨?_, ?_, ?_, ?_, ?_, ?_, ?_, ?_, ?_, ?_, ?_, ?_, ?_, ?_⟩
  · intro a k h1 h2
    unfold mPar
    rw [hn]
    (repeat (rw [gu_ne (by omega)]))
  · unfold mPar
    rw [hn]
    (repeat (first | rw [gu_ne (by omega)] | rw [gu_self]))
  · unfold mPar
    rw [hn]
    (repeat (first | rw [gu_ne (by omega)] | rw [gu_self]))
  · unfold mPar
    rw [hn]
    (repeat (first | rw [gu_ne (by omega)] | rw [gu_self]))
  · unfold mPar
    rw [hn]
    (repeat (first | rw [gu_ne (by omega)] | rw [gu_self]))
  · unfold mPar
    rw [hn]
    (repeat (first | rw [gu_ne (by omega)] | rw [gu_self]))
  · unfold mPar
    rw [hn]
    (repeat (first | rw [gu_ne (by omega)] | rw [gu_self]))
  · unfold mPar
    rw [hn]
    (repeat (first | rw [gu_ne (by omega)] | rw [gu_self]))
  · unfold mPar
    rw [hn]
    (repeat (first | rw [gu_ne (by omega)] | rw [gu_self]))
  · unfold mPar
    rw [hn]
    (repeat (first | rw [gu_ne (by omega)] | rw [gu_self]))
  · unfold mPar
    rw [hn]
    (repeat (first | rw [gu_ne (by omega)] | rw [gu_self]))
  · unfold mPar
    rw [hn]
    (repeat (first | rw [gu_ne (by omega)] | rw [gu_self]))
  · unfold mPar
    rw [hn]
    (repeat (first | rw [gu_ne (by omega)] | rw [gu_self]))
  · unfold mPar
    rw [hn]
    (repeat (first | rw [gu_ne (by omega)] | rw [gu_self]))
theorem cPit_R {p : Int} (h : gR32 mi) (hx : 0 ≤ x ∧ x ≤ 9999) (hy : 0 ≤ y ∧ y ≤ 9999) (hz : 0 ≤ z ∧ z ≤ 9999) (hw : 0 ≤ w ∧ w ≤ 9999) : gR32 (cPit mi p x y z w) := by
  unfold cPit
  have r0 : rng (x / 100) := ⟨by omega, by omega⟩
  have r1 : rng (x % 100) := ⟨by omega, by omega⟩
  have r2 : rng (y / 100) := ⟨by omega, by omega⟩
  have r3 : rng (y % 100) := ⟨by omega, by omega⟩
  have r4 : rng (z / 100) := ⟨by omega, by omega⟩
  have r5 : rng (z % 100) := ⟨by omega, by omega⟩
  have r6 : rng (w / 10) := ⟨by omega, by omega⟩
  have r7 : rng (w % 10) := ⟨by omega, by omega⟩
  have r8 : rng 0 := ⟨by decide, by decide⟩
  exact gR32_gu (gR32_gu (gR32_gu (gR32_gu (gR32_gu (gR32_gu (gR32_gu (gR32_gu (gR32_gu (gR32_gu h r0) r1) r2) r3) r4) r5) r6) r7) r8) r8
theorem mPit_R (h : gR32 m) (hn : -10 ≤ m 148 2 ∧ m 148 2 ≤ 100) (hx : 0 ≤ x ∧ x ≤ 9999) (hy : 0 ≤ y ∧ y ≤ 9999) (hz : 0 ≤ z ∧ z ≤ 9999) (hw : 0 ≤ w ∧ w ≤ 9999) : gR32 (mPit m x y z w) := by
  unfold mPit
  have r0 : rng (x / 100) := ⟨by omega, by omega⟩
  have r1 : rng (x % 100) := ⟨by omega, by omega⟩
  have r2 : rng (y / 100) := ⟨by omega, by omega⟩
  have r3 : rng (y % 100) := ⟨by omega, by omega⟩
  have r4 : rng (z / 100) := ⟨by omega, by omega⟩
  have r5 : rng (z % 100) := ⟨by omega, by omega⟩
  have r6 : rng (w / 10) := ⟨by omega, by omega⟩
  have r7 : rng (w % 10) := ⟨by omega, by omega⟩
  have r8 : rng 0 := ⟨by decide, by decide⟩
  have r9 : rng (m 148 2 + 1) := ⟨by omega, by omega⟩
  exact gR32_gu (gR32_gu (gR32_gu (gR32_gu (gR32_gu (gR32_gu (gR32_gu (gR32_gu (gR32_gu (gR32_gu (gR32_gu h r0) r1) r2) r3) r4) r5) r6) r7) r8) r8) r9
theorem cPar_R {p : Int} (h : gR32 mi) (hx : 0 ≤ x ∧ x ≤ 9999) (hy : 0 ≤ y ∧ y ≤ 9999) (hz : 0 ≤ z ∧ z ≤ 9999) (hw : 0 ≤ w ∧ w ≤ 9999) : gR32 (cPar mi p x y z w) := by
  unfold cPar
  have r0 : rng x := ⟨by omega, by omega⟩
  have r2 : rng (y / 100) := ⟨by omega, by omega⟩
  have r3 : rng (y % 100) := ⟨by omega, by omega⟩
  have r4 : rng z := ⟨by omega, by omega⟩
  have r6 : rng (w / 100) := ⟨by omega, by omega⟩
  have r7 : rng (w % 100) := ⟨by omega, by omega⟩
  have r8 : rng 0 := ⟨by decide, by decide⟩
  have r9 : rng (-1) := ⟨by decide, by decide⟩
  exact gR32_gu (gR32_gu (gR32_gu (gR32_gu (gR32_gu (gR32_gu (gR32_gu (gR32_gu (gR32_gu (gR32_gu (gR32_gu (gR32_gu h r0) r2) r3) r4) r6) r7) r9) r9) r9) r8) r8) r8
theorem mPar_R (h : gR32 m) (hn : -10 ≤ m 148 6 ∧ m 148 6 ≤ 100) (hx : 0 ≤ x ∧ x ≤ 9999) (hy : 0 ≤ y ∧ y ≤ 9999) (hz : 0 ≤ z ∧ z ≤ 9999) (hw : 0 ≤ w ∧ w ≤ 9999) : gR32 (mPar m x y z w) := by
  unfold mPar
  have r0 : rng x := ⟨by omega, by omega⟩
  have r2 : rng (y / 100) := ⟨by omega, by omega⟩
  have r3 : rng (y % 100) := ⟨by omega, by omega⟩
  have r4 : rng z := ⟨by omega, by omega⟩
  have r6 : rng (w / 100) := ⟨by omega, by omega⟩
  have r7 : rng (w % 100) := ⟨by omega, by omega⟩
  have r8 : rng 0 := ⟨by decide, by decide⟩
  have r9 : rng (-1) := ⟨by decide, by decide⟩
  have r5 : rng (m 148 6 + 1) := ⟨by omega, by omega⟩
  exact gR32_gu (gR32_gu (gR32_gu (gR32_gu (gR32_gu (gR32_gu (gR32_gu (gR32_gu (gR32_gu (gR32_gu (gR32_gu (gR32_gu (gR32_gu h r0) r2) r3) r4) r6) r7) r9) r9) r9) r8) r8) r8) r5
theorem fin_pitch {t : Nat} (h : Inv t mi ml) (h12 : mi 148 2 < 12) (hx : 0 ≤ x ∧ x ≤ 9999) (hy : 100 ≤ y ∧ y ≤ 3099) (hz : 0 ≤ z ∧ z ≤ 932) (hz2 : z % 100 ≤ 32) (hw : 0 ≤ w ∧ w ≤ 73) (hw2 : w % 10 < 4) : Inv (t + 1) (mPit (gu (cPit mi (mi 148 2) x y z w) 1 2 (mi 148 2 + 1)) x y z w) ml := by
  have b2 : 0 ≤ mi 148 2 ∧ mi 148 2 ≤ 12 := h.2.1.1.2.2.2.2.2.1
  obtain ⟨n, hn⟩ : ∃ n, n = mi 148 2 := ⟨_, rfl⟩
  rw [← hn]
  rw [← hn] at b2 h12
  have e : gu (cPit mi n x y z w) 1 2 (n + 1) 148 2 = n := by rw [gu_other (by decide), cPit_off (by omega)]; exact hn.symm
  have hR0 : gR32 (gu (cPit mi n x y z w) 1 2 (n + 1)) := gR32_gu (cPit_R h.1 hx (by omega) (by omega) (by omega)) ⟨by omega, by omega⟩
  have hR1 := mPit_R hR0 (x := x) (y := y) (z := z) (w := w) (by rw [e]; omega) hx (by omega) (by omega) (by omega)
  have q0 : 0 ≤ x / 100 ∧ x / 100 ≤ 99 := by omega
  have q1 : 0 ≤ x % 100 ∧ x % 100 ≤ 99 := by omega
  have q2 : 1 ≤ y / 100 ∧ y / 100 ≤ 30 := by omega
  have q3 : 0 ≤ y % 100 ∧ y % 100 ≤ 99 := by omega
  have q4 : 0 ≤ z / 100 ∧ z / 100 ≤ 9 := by omega
  have q5 : 0 ≤ z % 100 ∧ z % 100 ≤ 32 := by omega
  have q6 : 0 ≤ w / 10 ∧ w / 10 ≤ 7 := by omega
  have q7 : 0 ≤ w % 10 ∧ w % 10 ≤ 3 := by omega
  obtain ⟨c0, c1, c2, c3, c4, c5, c6, c7, c8, c9⟩ := cPit_v (mi := mi) (n := n) (x := x) (y := y) (z := z) (w := w)
  obtain ⟨off, g2, g150, g151, d0, d1, d2, d3, d4, d5, d6, d7⟩ := mPit_v (x := x) (y := y) (z := z) (w := w) b2.1 e
  clear hx hy hz hz2 hw hw2
  have oc : ∀ k, mPit (gu (cPit mi n x y z w) 1 2 (n + 1)) x y z w (12 + n.toNat) k = cPit mi n x y z w (12 + n.toNat) k := fun k => by
    rw [off _ _ (by omega) (by omega) (by omega), gu_other (by omega)]
  have oa : ∀ a k : Nat, a ≠ 12 + n.toNat → (a = 149 → (k : Int) < 8 * n ∨ 8 * n + 8 ≤ k) → (a = 150 ∨ a = 151 → k ≠ n.toNat) → (a = 1 ∨ a = 148 → k ≠ 2) → mPit (gu (cPit mi n x y z w) 1 2 (n + 1)) x y z w a k = mi a k := by
    intro a k h1 h2 h3 h4
    rw [off a k h2 h3 (by omega), gu_ne (by omega), cPit_off h1]
  have o1 : mPit (gu (cPit mi n x y z w) 1 2 (n + 1)) x y z w 1 2 = n + 1 := by
    rw [off _ _ (by omega) (by omega) (by omega), gu_self]
  clear off
  generalize mPit (gu (cPit mi n x y z w) 1 2 (n + 1)) x y z w = m2 at *
  refine inv_pitch (n := n) h hn h12 hR1 ?_ ?_ g2 ?_ ?_ ?_ g150 g151 ?_
  · exact oa
  · exact o1
  · intro v hv
    rw [oc]
    rcases (show v = 0 ∨ v = 1 ∨ v = 2 ∨ v = 3 ∨ v = 4 ∨ v = 5 ∨ v = 6 ∨ v = 7 by omega) with rfl | rfl | rfl | rfl | rfl | rfl | rfl | rfl
    · rw [c0, show 8 * n + ((0 : Nat) : Int) = 8 * n by omega, d0]
    · exact c1.trans d1.symm
    · exact c2.trans d2.symm
    · exact c3.trans d3.symm
    · exact c4.trans d4.symm
    · exact c5.trans d5.symm
    · exact c6.trans d6.symm
    · exact c7.trans d7.symm
  · rw [oc]; exact c8
  · rw [oc]; exact c9
  · have v0 : vPi (sg m2) n 0 = x / 100 := by
      show m2 149 (8 * n + 0).toNat = _
      rw [Int.add_zero]; exact d0
    have v1 : vPi (sg m2) n 1 = x % 100 := d1
    have v2 : vPi (sg m2) n 2 = y / 100 := d2
    have v3 : vPi (sg m2) n 3 = y % 100 := d3
    have v4 : vPi (sg m2) n 4 = z / 100 := d4
    have v5 : vPi (sg m2) n 5 = z % 100 := d5
    have v6 : vPi (sg m2) n 6 = w / 10 := d6
    have v7 : vPi (sg m2) n 7 = w % 10 := d7
    unfold QVs
    rw [v0, v1, v2, v3, v4, v5, v6, v7]
    exact ⟨q0, q1, q2, q3, q4, q5, q6, q7⟩
theorem fin_party {t : Nat} (h : Inv t mi ml) (h24 : mi 148 6 < 24) (hx : 0 ≤ x ∧ x ≤ 4) (hy : 100 ≤ y ∧ y ≤ 3032) (hy2 : y % 100 ≤ 32) (hz : 0 ≤ z ∧ z ≤ 7) (hw : 0 ≤ w ∧ w / 100 ≤ 99) (hw2 : 1 ≤ w % 100 ∧ w % 100 ≤ 30) (hw3 : w / 100 + w % 100 ≤ 100) : Inv (t + 1) (mPar (gu (cPar mi (mi 148 6) x y z w) 1 3 (mi 148 6 + 1)) x y z w) (cParL ml (mi 148 6) w) := by
  have b2 : 0 ≤ mi 148 6 ∧ mi 148 6 ≤ 24 := h.2.1.1.2.2.2.2.2.2.1
  have b3 : 0 ≤ mi 148 2 := h.2.1.1.2.2.2.2.2.1.1
  obtain ⟨n, hn⟩ : ∃ n, n = mi 148 6 := ⟨_, rfl⟩
  rw [← hn]
  rw [← hn] at b2 h24
  have e : gu (cPar mi n x y z w) 1 3 (n + 1) 148 6 = n := by rw [gu_other (by decide), cPar_off (by omega)]; exact hn.symm
  have hR0 : gR32 (gu (cPar mi n x y z w) 1 3 (n + 1)) := gR32_gu (cPar_R h.1 (by omega) (by omega) (by omega) (by omega)) ⟨by omega, by omega⟩
  have hR1 := mPar_R hR0 (x := x) (y := y) (z := z) (w := w) (by rw [e]; omega) (by omega) (by omega) (by omega) (by omega)
  have q1 : 1 ≤ y / 100 ∧ y / 100 ≤ 30 := by omega
  have q2 : 0 ≤ y % 100 ∧ y % 100 ≤ 32 := by omega
  have q4 : 0 ≤ w / 100 ∧ w / 100 ≤ 99 := by omega
  obtain ⟨c0, c1, c2, c3, c4, c5, c8, c9, c10, c11, c12, c13⟩ := cPar_v (mi := mi) (n := n) (x := x) (y := y) (z := z) (w := w)
  obtain ⟨off, g6, d0, d1, d2, d3, d4, d5, d6, d7, d8, d9, d10, d11⟩ := mPar_v (x := x) (y := y) (z := z) (w := w) b2.1 e
  clear hy hy2 hw
  have oc : ∀ k, mPar (gu (cPar mi n x y z w) 1 3 (n + 1)) x y z w (24 + n.toNat) k = cPar mi n x y z w (24 + n.toNat) k := fun k => by
    rw [off _ _ (by omega) (by omega), gu_other (by omega)]
  have d0 : mPar (gu (cPar mi n x y z w) 1 3 (n + 1)) x y z w 152 (12 * n + 0).toNat = x := by rw [Int.add_zero]; exact d0
  have e2 : mPar (gu (cPar mi n x y z w) 1 3 (n + 1)) x y z w 148 2 = mi 148 2 := by rw [off _ _ (by omega) (by omega), gu_other (by omega), cPar_off (by omega)]
  have oa : ∀ a k : Nat, a ≠ 24 + n.toNat → (a = 152 → (k : Int) < 12 * n ∨ 12 * n + 12 ≤ k) → (a = 1 → k ≠ 3) → (a = 148 → k ≠ 6) → mPar (gu (cPar mi n x y z w) 1 3 (n + 1)) x y z w a k = mi a k := by
    intro a k h1 h2 h3 h4
    rw [off a k h2 h4, gu_ne (by omega), cPar_off h1]
  have o1 : mPar (gu (cPar mi n x y z w) 1 3 (n + 1)) x y z w 1 3 = n + 1 := by
    rw [off _ _ (by omega) (by omega), gu_self]
  clear off
  generalize mPar (gu (cPar mi n x y z w) 1 3 (n + 1)) x y z w = m2 at *
  have v0 : mOf m2 n 0 = x := d0
  have v1 : mOf m2 n 1 = y / 100 := d1
  have v2 : mOf m2 n 2 = y % 100 := d2
  have v3 : mOf m2 n 3 = z := d3
  have v4 : mOf m2 n 4 = w / 100 := d4
  have v5 : mOf m2 n 5 = w % 100 := d5
  have v6 : mOf m2 n 6 = -1 := d6
  have v7 : mOf m2 n 7 = -1 := d7
  have v8 : mOf m2 n 8 = -1 := d8
  have v9 : mOf m2 n 9 = 0 := d9
  have v10 : mOf m2 n 10 = 0 := d10
  have v11 : mOf m2 n 11 = 0 := d11
  refine inv_party (n := n) h hn h24 hR1 ?_ ?_ ?_ g6 ?_ ?_ ?_ ?_ v6 ?_
  · exact oa
  · intro a k h1
    unfold cParL
    rw [gu_other h1, gu_other h1]
  · exact o1
  · intro v hv
    rw [oc]
    rcases (show v = 0 ∨ v = 1 ∨ v = 2 ∨ v = 3 ∨ v = 4 ∨ v = 5 by omega) with rfl | rfl | rfl | rfl | rfl | rfl
    · exact c0.trans d0.symm
    · exact c1.trans d1.symm
    · exact c2.trans d2.symm
    · exact c3.trans d3.symm
    · exact c4.trans d4.symm
    · exact c5.trans d5.symm
  · intro v hv6 hv
    rw [oc]
    rcases (show v = 6 ∨ v = 7 ∨ v = 8 ∨ v = 9 ∨ v = 10 ∨ v = 11 by omega) with rfl | rfl | rfl | rfl | rfl | rfl
    · exact c8.trans d6.symm
    · exact c9.trans d7.symm
    · exact c10.trans d8.symm
    · exact c11.trans d9.symm
    · exact c12.trans d10.symm
    · exact c13.trans d11.symm
  · rw [v4, v5]
    unfold cParL
    rw [gu_ne (by omega), gu_self]
  · rw [v4, v5]
    unfold cParL
    rw [gu_self]
  · show PV m2 n
    unfold PV
    rw [v0, v1, v2, v3, v4, v5, v6, v7, v8, v9, v10, v11, g6, e2]
    refine ⟨hx, q1, q2, hz, q4, hw2, hw3, ⟨by omega, by omega⟩, ⟨by omega, by omega⟩, ⟨by omega, by omega⟩, ⟨by omega, by omega⟩, ⟨by omega, by omega⟩, Or.inl rfl⟩
end N1

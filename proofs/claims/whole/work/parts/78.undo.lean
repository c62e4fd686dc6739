/-! ===== image, undo: what holds again ===== -/
def Mv (D S : Nat) (m : Nat → Nat → Int) (l : Nat → Nat → Int64) (mi : Nat → Nat → Int) (ml : Nat → Nat → Int64) : Prop := (m D 0 = mi S 0 ∧ m D 1 = mi S 1 ∧ m D 2 = mi S 2 ∧ m D 3 = mi S 3) ∧ (∀ p j : Nat, (p : Int) < mi S 2 → j < 10 → m (D + 11 + p) j = mi (S + 11 + p) j) ∧ (∀ a : Nat, (a : Int) < mi S 3 → (∀ j, j < 6 ∨ (8 ≤ j ∧ j < 14) → m (D + 23 + a) j = mi (S + 23 + a) j) ∧ l (D + 23 + a) 6 = ml (S + 23 + a) 6 ∧ l (D + 23 + a) 7 = ml (S + 23 + a) 7) ∧ (∀ i, i < 4 → m (D + 3) i = mi (S + 3) i) ∧ (∀ i, i < 10 → m (D + 4) i = mi (S + 4) i) ∧ (∀ q, q < 2 → m (D + 47 + 3 * q) 0 = mi (S + 47 + 3 * q) 0 ∧ m (D + 47 + 3 * q) 1 = mi (S + 47 + 3 * q) 1 ∧ ∀ i : Nat, (i : Int) < mi (S + 47 + 3 * q) 1 → m (D + 48 + 3 * q) i = mi (S + 48 + 3 * q) i) ∧ m (D + 6) 0 = mi (S + 6) 0 ∧ ∀ i : Nat, (i : Int) < mi (S + 6) 0 → m (D + 7) i = mi (S + 7) i ∧ m (D + 8) i = mi (S + 8) i
theorem Rep.mv {t D S : Nat} {m mi σ : Nat → Nat → Int} {l ml : Nat → Nat → Int64} (h : Rep t S mi ml σ) (hm : Mv D S m l mi ml) : Rep t D m l σ := by
  obtain ⟨⟨c0, c1, c2, c3, c4, c5, c6, c7⟩, hpi, hpa, hdj, hli, hsp, hlw, hwa⟩ := h
  obtain ⟨⟨m0, m1, m2, m3⟩, mp, ma, ml4, ms, mw, mz, mq⟩ := hm
  refine ⟨⟨m0.trans c0, m1.trans c1, m2.trans c2, m3.trans c3, c4, c5, c6, c7⟩, fun p p0 p1 => ?_, fun a a0 a1 => ?_, hdj, fun i hi => ?_, fun i hi => ?_, fun q hq => ?_, ?_⟩
  · obtain ⟨d1, d2, d3, d4⟩ := hpi p p0 p1
    have e := fun j hj => mp p.toNat j (by omega) hj
    exact ⟨fun w hw => (e w (by omega)).trans (d1 w hw), (e 8 (by omega)).trans d2, (e 9 (by omega)).trans d3, d4⟩
  · obtain ⟨d1, d2, d3, d4, d5⟩ := hpa a a0 a1
    obtain ⟨e, e6, e7⟩ := ma a.toNat (by omega)
    exact ⟨fun w hw => (e w (by omega)).trans (d1 w hw), fun w h6 hw => (e (w + 2) (by omega)).trans (d2 w h6 hw), d3, e6.trans d4, e7.trans d5⟩
  · rw [ml4 i hi]; exact hli i hi
  · rw [ms i hi]; exact hsp i hi
  · obtain ⟨d1, d2, d3⟩ := hlw q hq
    obtain ⟨e0, e1, e2⟩ := mw q hq
    refine ⟨e0.trans d1, by rw [e1]; exact d2, fun hz => ?_⟩
    obtain ⟨f1, f2, f3⟩ := d3 hz
    refine ⟨e1.trans f1, fun i hi => ?_, f3⟩
    rw [e2 i (by omega)]
    exact f2 i hi
  · obtain ⟨d1, d2, d3, f, d4, d5⟩ := hwa
    refine ⟨mz.trans d1, d2, d3, f, fun i hi => ?_, d5⟩
    obtain ⟨x1, x2, x3⟩ := d4 i hi
    obtain ⟨y1, y2⟩ := mq i (by omega)
    exact ⟨x1, y1.trans x2, y2.trans x3⟩
theorem vDep_c {σ σ' : Nat → Nat → Int} {l : Nat} (hl : l < 2) (h : ∀ k, k < 240 → σ' 10 k = σ 10 k) {k : Nat} (hk : k ≤ 120) : vDep σ' l k = vDep σ l k := by
  unfold vDep
  refine gfold_congr (fun i hi acc => ?_)
  rw [h (120 * l + (i : Int).toNat) (by omega)]
theorem Rep.sc {t s : Nat} {mi σ σ' : Nat → Nat → Int} {ml : Nat → Nat → Int64} (h : Rep t s mi ml σ) (h0 : ∀ k, k < 5 → σ' 0 k = σ 0 k) (h1 : ∀ k, k < 96 → σ' 1 k = σ 1 k) (h2 : ∀ k, k < 12 → σ' 2 k = σ 2 k) (h3 : ∀ k, k < 12 → σ' 3 k = σ 3 k) (h4 : ∀ k, k < 288 → σ' 4 k = σ 4 k) (h5 : ∀ k, k < 4 → σ' 5 k = σ 5 k) (h6 : ∀ k, k < 20 → σ' 6 k = σ 6 k) (h7 : ∀ k, k < 20 → σ' 7 k = σ 7 k) (h8 : ∀ k, k < 10 → σ' 8 k = σ 8 k) (h9 : ∀ k, k < 2 → σ' 9 k = σ 9 k) (h10 : ∀ k, k < 240 → σ' 10 k = σ 10 k) : Rep t s mi ml σ' := by
  obtain ⟨hsc, hpi, hpa, hdj, hli, hsp, hlw, hwa⟩ := h
  have a0 := h0 0 (by decide)
  have a1 := h0 1 (by decide)
  have a2 := h0 2 (by decide)
  have a3 := h0 3 (by decide)
  have a4 := h0 4 (by decide)
  have b2 := hsc.2.2.2.2.2.1
  have b3 := hsc.2.2.2.2.2.2.1
  have ep : ∀ p x : Int, 0 ≤ p → p < 12 → 0 ≤ x → x < 8 → vPi σ' p x = vPi σ p x := fun p x p0 p1 x0 x1 => h1 _ (by omega)
  have ea : ∀ p x : Int, 0 ≤ p → p < 24 → 0 ≤ x → x < 12 → vOf σ' p x = vOf σ p x := fun p x p0 p1 x0 x1 => h4 _ (by omega)
  refine ⟨?_, fun p p0 p1 => ?_, fun a p0 p1 => ?_, fun a b x0 x1 y0 y1 hne => ?_, fun i hi => ?_, fun i hi => ?_, fun q hq => ?_, ?_⟩
  · unfold Rsc
    rw [a0, a1, a2, a3]
    exact hsc
  · rw [a2] at p1
    obtain ⟨d1, d2, d3, d4, d5, d6⟩ := hpi p p0 p1
    rw [h3 _ (by omega), h2 _ (by omega)]
    refine ⟨fun w hw => by rw [ep p w p0 (by omega) (by omega) (by omega)]; exact d1 w hw, d2, d3, ?_, d5, d6⟩
    unfold QVs at d4 ⊢
    rw [ep p 0 p0 (by omega) (by omega) (by omega), ep p 1 p0 (by omega) (by omega) (by omega), ep p 2 p0 (by omega) (by omega) (by omega), ep p 3 p0 (by omega) (by omega) (by omega), ep p 4 p0 (by omega) (by omega) (by omega), ep p 5 p0 (by omega) (by omega) (by omega), ep p 6 p0 (by omega) (by omega) (by omega), ep p 7 p0 (by omega) (by omega) (by omega)]
    exact d4
  · rw [a3] at p1
    obtain ⟨d1, d2, d3, d4, d5⟩ := hpa a p0 p1
    rw [ea a 4 p0 (by omega) (by omega) (by omega), ea a 5 p0 (by omega) (by omega) (by omega)]
    refine ⟨fun w hw => by rw [ea a w p0 (by omega) (by omega) (by omega)]; exact d1 w hw, fun w h6' hw => by rw [ea a w p0 (by omega) (by omega) (by omega)]; exact d2 w h6' hw, ?_, d4, d5⟩
    unfold PVs at d3 ⊢
    rw [a2, a3, ea a 0 p0 (by omega) (by omega) (by omega), ea a 1 p0 (by omega) (by omega) (by omega), ea a 2 p0 (by omega) (by omega) (by omega), ea a 3 p0 (by omega) (by omega) (by omega), ea a 4 p0 (by omega) (by omega) (by omega), ea a 5 p0 (by omega) (by omega) (by omega), ea a 6 p0 (by omega) (by omega) (by omega), ea a 7 p0 (by omega) (by omega) (by omega), ea a 8 p0 (by omega) (by omega) (by omega), ea a 9 p0 (by omega) (by omega) (by omega), ea a 10 p0 (by omega) (by omega) (by omega), ea a 11 p0 (by omega) (by omega) (by omega)]
    exact d3
  · rw [a3] at x1 y1
    rw [ea a 4 x0 (by omega) (by omega) (by omega), ea a 5 x0 (by omega) (by omega) (by omega), ea a 6 x0 (by omega) (by omega) (by omega), ea b 4 y0 (by omega) (by omega) (by omega), ea b 5 y0 (by omega) (by omega) (by omega), ea b 6 y0 (by omega) (by omega) (by omega)]
    exact hdj a b x0 x1 y0 y1 hne
  · rw [h5 i hi]; exact hli i hi
  · rw [h8 i hi, a3]; exact hsp i hi
  · obtain ⟨d1, d2, d3⟩ := hlw q hq
    rw [h9 q hq]
    refine ⟨d1, d2, fun hz => ?_⟩
    obtain ⟨f1, f2, f3⟩ := d3 hz
    refine ⟨f1, fun i hi => ?_, by rw [vDep_c hq h10 (by omega)]; exact f3⟩
    rw [h10 (120 * q + i) (by omega), vDep_c hq h10 (by omega)]
    exact f2 i hi
  · obtain ⟨d1, d2, d3, f, d4, d5⟩ := hwa
    unfold Rwa
    rw [a4]
    refine ⟨d1, d2, fun i hi => by rw [h6 i (by omega), h7 i (by omega)]; exact d3 i hi, f, fun i hi => ?_, fun i j hij hj => ?_⟩
    · obtain ⟨x1, x2, x3⟩ := d4 i hi
      rw [h6 (f i) (by omega), h7 (f i) (by omega)]
      exact ⟨x1, x2, x3⟩
    · have x1 := (d4 i (by omega)).1
      have y1 := (d4 j hj).1
      rw [h6 (f i) (by omega), h6 (f j) (by omega)]
      exact d5 i j hij hj
theorem cpPs_R {mi : Nat → Nat → Int} {D S k : Nat} (h : gR32 mi) : gR32 (cpPs mi D S k) := fun c j => by unfold cpPs; split <;> exact h _ _
theorem cpAi_R {mi : Nat → Nat → Int} {D S k : Nat} (h : gR32 mi) : gR32 (cpAi mi D S k) := fun c j => by unfold cpAi; split <;> exact h _ _
theorem bcIK_R {mi : Nat → Nat → Int} (h : gR32 mi) : gR32 (bcIK mi) := by
  unfold bcIK bc1K
  (repeat' first | exact h | refine gcpy_R ?_ | refine cpAi_R ?_ | refine cpPs_R ?_ | refine gR32_gu ?_ (h _ _))
theorem bcIK_off {mi : Nat → Nat → Int} {c j : Nat} (h : c < 54 ∨ 107 ≤ c) : bcIK mi c j = mi c j := by
  unfold bcIK
  (repeat first | rw [gu_ne (by omega)] | rw [gcpy_off (by omega)] | rw [cpAi_off (by omega)] | rw [cpPs_off (by omega)])
  unfold bc1K
  (repeat first | rw [gu_ne (by omega)] | rw [gcpy_off (by omega)] | rw [cpAi_off (by omega)] | rw [cpPs_off (by omega)])
theorem bcLK_off {mi : Nat → Nat → Int} {ml : Nat → Nat → Int64} {c j : Nat} (h : c < 77 ∨ 101 ≤ c) : bcLK mi ml c j = ml c j := cpAl_off (by omega)
set_option maxHeartbeats 4000000 in
theorem bcK_mv {mi : Nat → Nat → Int} {ml : Nat → Nat → Int64} (hq2 : 0 ≤ mi 1 2 ∧ mi 1 2 ≤ 12) (hq3 : 0 ≤ mi 1 3 ∧ mi 1 3 ≤ 24) : Mv 54 1 (bcIK mi) (bcLK mi ml) mi ml := by
  refine ⟨⟨rfl, rfl, rfl, rfl⟩, fun p j hp hj => ?_, fun a ha => ⟨fun j hj => ?_, ?_, ?_⟩, fun i hi => ?_, fun i hi => ?_, fun q hq => ?_, rfl, fun i hi => ⟨?_, ?_⟩⟩
  · unfold bcIK
    (repeat first | rw [gu_ne (by omega)] | rw [gcpy_off (by omega)] | rw [cpAi_off (by omega)] | rw [cpPs_off (by omega)])
    unfold cpPs
    rw [if_pos (by omega), show 54 + 11 + p - 54 + 1 = 1 + 11 + p by omega]
    unfold bc1K
    (repeat first | rw [gu_ne (by omega)] | rw [gcpy_off (by omega)] | rw [cpAi_off (by omega)] | rw [cpPs_off (by omega)])
  · unfold bcIK
    (repeat first | rw [gu_ne (by omega)] | rw [gcpy_off (by omega)] | rw [cpAi_off (by omega)] | rw [cpPs_off (by omega)])
    unfold cpAi
    rw [if_pos (by omega), show 54 + 23 + a - 54 + 1 = 1 + 23 + a by omega, cpPs_off (by omega)]
    unfold bc1K
    (repeat first | rw [gu_ne (by omega)] | rw [gcpy_off (by omega)] | rw [cpAi_off (by omega)] | rw [cpPs_off (by omega)])
  · unfold bcLK cpAl
    rw [if_pos (by omega), show 54 + 23 + a - 54 + 1 = 1 + 23 + a by omega]
  · unfold bcLK cpAl
    rw [if_pos (by omega), show 54 + 23 + a - 54 + 1 = 1 + 23 + a by omega]
  · unfold bcIK
    (repeat first | rw [gu_ne (by omega)] | rw [gcpy_off (by omega)] | rw [cpAi_off (by omega)] | rw [cpPs_off (by omega)])
    rw [gcpy_in (by omega) (by omega), show 0 + (i - 0) = i by omega]
    (repeat first | rw [gu_ne (by omega)] | rw [gcpy_off (by omega)] | rw [cpAi_off (by omega)] | rw [cpPs_off (by omega)])
    unfold bc1K
    (repeat first | rw [gu_ne (by omega)] | rw [gcpy_off (by omega)] | rw [cpAi_off (by omega)] | rw [cpPs_off (by omega)])
  · unfold bcIK
    (repeat first | rw [gu_ne (by omega)] | rw [gcpy_off (by omega)] | rw [cpAi_off (by omega)] | rw [cpPs_off (by omega)])
    rw [gcpy_in (by omega) (by omega), show 0 + (i - 0) = i by omega]
    (repeat first | rw [gu_ne (by omega)] | rw [gcpy_off (by omega)] | rw [cpAi_off (by omega)] | rw [cpPs_off (by omega)])
    unfold bc1K
    (repeat first | rw [gu_ne (by omega)] | rw [gcpy_off (by omega)] | rw [cpAi_off (by omega)] | rw [cpPs_off (by omega)])
  · rcases (show q = 0 ∨ q = 1 by omega) with rfl | rfl
    · refine ⟨rfl, rfl, fun i hi => ?_⟩
      have hi : (i : Int) < mi 48 1 := hi
      show bcIK mi 102 i = mi 49 i
      unfold bcIK
      (repeat first | rw [gu_ne (by omega)] | rw [gcpy_off (by omega)] | rw [cpAi_off (by omega)] | rw [cpPs_off (by omega)])
      rw [gcpy_in (by omega) (by omega), show 0 + (i - 0) = i by omega]
      (repeat first | rw [gu_ne (by omega)] | rw [gcpy_off (by omega)] | rw [cpAi_off (by omega)] | rw [cpPs_off (by omega)])
      unfold bc1K
      (repeat first | rw [gu_ne (by omega)] | rw [gcpy_off (by omega)] | rw [cpAi_off (by omega)] | rw [cpPs_off (by omega)])
    · refine ⟨rfl, rfl, fun i hi => ?_⟩
      have hi : (i : Int) < mi 51 1 := hi
      show bcIK mi 105 i = mi 52 i
      unfold bcIK
      (repeat first | rw [gu_ne (by omega)] | rw [gcpy_off (by omega)] | rw [cpAi_off (by omega)] | rw [cpPs_off (by omega)])
      rw [gcpy_in (by omega) (by omega), show 0 + (i - 0) = i by omega]
      (repeat first | rw [gu_ne (by omega)] | rw [gcpy_off (by omega)] | rw [cpAi_off (by omega)] | rw [cpPs_off (by omega)])
      unfold bc1K
      (repeat first | rw [gu_ne (by omega)] | rw [gcpy_off (by omega)] | rw [cpAi_off (by omega)] | rw [cpPs_off (by omega)])
  · have hi : (i : Int) < mi 7 0 := hi
    show bcIK mi 61 i = mi 8 i
    unfold bcIK
    (repeat first | rw [gu_ne (by omega)] | rw [gcpy_off (by omega)] | rw [cpAi_off (by omega)] | rw [cpPs_off (by omega)])
    rw [gcpy_in (by omega) (by omega), show 0 + (i - 0) = i by omega]
    (repeat first | rw [gu_ne (by omega)] | rw [gcpy_off (by omega)] | rw [cpAi_off (by omega)] | rw [cpPs_off (by omega)])
    unfold bc1K
    (repeat first | rw [gu_ne (by omega)] | rw [gcpy_off (by omega)] | rw [cpAi_off (by omega)] | rw [cpPs_off (by omega)])
  · have hi : (i : Int) < mi 7 0 := hi
    show bcIK mi 62 i = mi 9 i
    unfold bcIK
    (repeat first | rw [gu_ne (by omega)] | rw [gcpy_off (by omega)] | rw [cpAi_off (by omega)] | rw [cpPs_off (by omega)])
    rw [gcpy_in (by omega) (by omega), show 0 + (i - 0) = i by omega]
    (repeat first | rw [gu_ne (by omega)] | rw [gcpy_off (by omega)] | rw [cpAi_off (by omega)] | rw [cpPs_off (by omega)])
    unfold bc1K
    (repeat first | rw [gu_ne (by omega)] | rw [gcpy_off (by omega)] | rw [cpAi_off (by omega)] | rw [cpPs_off (by omega)])
theorem bcIU_R {mi : Nat → Nat → Int} (h : gR32 mi) : gR32 (bcIU mi) := by
  unfold bcIU bc1U
  (repeat' first | exact h | refine gcpy_R ?_ | refine cpAi_R ?_ | refine cpPs_R ?_ | refine gR32_gu ?_ (h _ _))
theorem bcIU_off {mi : Nat → Nat → Int} {c j : Nat} (h : c < 1 ∨ 54 ≤ c) : bcIU mi c j = mi c j := by
  unfold bcIU
  (repeat first | rw [gu_ne (by omega)] | rw [gcpy_off (by omega)] | rw [cpAi_off (by omega)] | rw [cpPs_off (by omega)])
  unfold bc1U
  (repeat first | rw [gu_ne (by omega)] | rw [gcpy_off (by omega)] | rw [cpAi_off (by omega)] | rw [cpPs_off (by omega)])
theorem bcLU_off {mi : Nat → Nat → Int} {ml : Nat → Nat → Int64} {c j : Nat} (h : c < 24 ∨ 48 ≤ c) : bcLU mi ml c j = ml c j := cpAl_off (by omega)
set_option maxHeartbeats 4000000 in
theorem bcU_mv {mi : Nat → Nat → Int} {ml : Nat → Nat → Int64} (hq2 : 0 ≤ mi 54 2 ∧ mi 54 2 ≤ 12) (hq3 : 0 ≤ mi 54 3 ∧ mi 54 3 ≤ 24) : Mv 1 54 (bcIU mi) (bcLU mi ml) mi ml := by
  refine ⟨⟨rfl, rfl, rfl, rfl⟩, fun p j hp hj => ?_, fun a ha => ⟨fun j hj => ?_, ?_, ?_⟩, fun i hi => ?_, fun i hi => ?_, fun q hq => ?_, rfl, fun i hi => ⟨?_, ?_⟩⟩
  · unfold bcIU
    (repeat first | rw [gu_ne (by omega)] | rw [gcpy_off (by omega)] | rw [cpAi_off (by omega)] | rw [cpPs_off (by omega)])
    unfold cpPs
    rw [if_pos (by omega), show 1 + 11 + p - 1 + 54 = 54 + 11 + p by omega]
    unfold bc1U
    (repeat first | rw [gu_ne (by omega)] | rw [gcpy_off (by omega)] | rw [cpAi_off (by omega)] | rw [cpPs_off (by omega)])
  · unfold bcIU
    (repeat first | rw [gu_ne (by omega)] | rw [gcpy_off (by omega)] | rw [cpAi_off (by omega)] | rw [cpPs_off (by omega)])
    unfold cpAi
    rw [if_pos (by omega), show 1 + 23 + a - 1 + 54 = 54 + 23 + a by omega, cpPs_off (by omega)]
    unfold bc1U
    (repeat first | rw [gu_ne (by omega)] | rw [gcpy_off (by omega)] | rw [cpAi_off (by omega)] | rw [cpPs_off (by omega)])
  · unfold bcLU cpAl
    rw [if_pos (by omega), show 1 + 23 + a - 1 + 54 = 54 + 23 + a by omega]
  · unfold bcLU cpAl
    rw [if_pos (by omega), show 1 + 23 + a - 1 + 54 = 54 + 23 + a by omega]
  · unfold bcIU
    (repeat first | rw [gu_ne (by omega)] | rw [gcpy_off (by omega)] | rw [cpAi_off (by omega)] | rw [cpPs_off (by omega)])
    rw [gcpy_in (by omega) (by omega), show 0 + (i - 0) = i by omega]
    (repeat first | rw [gu_ne (by omega)] | rw [gcpy_off (by omega)] | rw [cpAi_off (by omega)] | rw [cpPs_off (by omega)])
    unfold bc1U
    (repeat first | rw [gu_ne (by omega)] | rw [gcpy_off (by omega)] | rw [cpAi_off (by omega)] | rw [cpPs_off (by omega)])
  · unfold bcIU
    (repeat first | rw [gu_ne (by omega)] | rw [gcpy_off (by omega)] | rw [cpAi_off (by omega)] | rw [cpPs_off (by omega)])
    rw [gcpy_in (by omega) (by omega), show 0 + (i - 0) = i by omega]
    (repeat first | rw [gu_ne (by omega)] | rw [gcpy_off (by omega)] | rw [cpAi_off (by omega)] | rw [cpPs_off (by omega)])
    unfold bc1U
    (repeat first | rw [gu_ne (by omega)] | rw [gcpy_off (by omega)] | rw [cpAi_off (by omega)] | rw [cpPs_off (by omega)])
  · rcases (show q = 0 ∨ q = 1 by omega) with rfl | rfl
    · refine ⟨rfl, rfl, fun i hi => ?_⟩
      have hi : (i : Int) < mi 101 1 := hi
      show bcIU mi 49 i = mi 102 i
      unfold bcIU
      (repeat first | rw [gu_ne (by omega)] | rw [gcpy_off (by omega)] | rw [cpAi_off (by omega)] | rw [cpPs_off (by omega)])
      rw [gcpy_in (by omega) (by omega), show 0 + (i - 0) = i by omega]
      (repeat first | rw [gu_ne (by omega)] | rw [gcpy_off (by omega)] | rw [cpAi_off (by omega)] | rw [cpPs_off (by omega)])
      unfold bc1U
      (repeat first | rw [gu_ne (by omega)] | rw [gcpy_off (by omega)] | rw [cpAi_off (by omega)] | rw [cpPs_off (by omega)])
    · refine ⟨rfl, rfl, fun i hi => ?_⟩
      have hi : (i : Int) < mi 104 1 := hi
      show bcIU mi 52 i = mi 105 i
      unfold bcIU
      (repeat first | rw [gu_ne (by omega)] | rw [gcpy_off (by omega)] | rw [cpAi_off (by omega)] | rw [cpPs_off (by omega)])
      rw [gcpy_in (by omega) (by omega), show 0 + (i - 0) = i by omega]
      (repeat first | rw [gu_ne (by omega)] | rw [gcpy_off (by omega)] | rw [cpAi_off (by omega)] | rw [cpPs_off (by omega)])
      unfold bc1U
      (repeat first | rw [gu_ne (by omega)] | rw [gcpy_off (by omega)] | rw [cpAi_off (by omega)] | rw [cpPs_off (by omega)])
  · have hi : (i : Int) < mi 60 0 := hi
    show bcIU mi 8 i = mi 61 i
    unfold bcIU
    (repeat first | rw [gu_ne (by omega)] | rw [gcpy_off (by omega)] | rw [cpAi_off (by omega)] | rw [cpPs_off (by omega)])
    rw [gcpy_in (by omega) (by omega), show 0 + (i - 0) = i by omega]
    (repeat first | rw [gu_ne (by omega)] | rw [gcpy_off (by omega)] | rw [cpAi_off (by omega)] | rw [cpPs_off (by omega)])
    unfold bc1U
    (repeat first | rw [gu_ne (by omega)] | rw [gcpy_off (by omega)] | rw [cpAi_off (by omega)] | rw [cpPs_off (by omega)])
  · have hi : (i : Int) < mi 60 0 := hi
    show bcIU mi 9 i = mi 62 i
    unfold bcIU
    (repeat first | rw [gu_ne (by omega)] | rw [gcpy_off (by omega)] | rw [cpAi_off (by omega)] | rw [cpPs_off (by omega)])
    rw [gcpy_in (by omega) (by omega), show 0 + (i - 0) = i by omega]
    (repeat first | rw [gu_ne (by omega)] | rw [gcpy_off (by omega)] | rw [cpAi_off (by omega)] | rw [cpPs_off (by omega)])
    unfold bc1U
    (repeat first | rw [gu_ne (by omega)] | rw [gcpy_off (by omega)] | rw [cpAi_off (by omega)] | rw [cpPs_off (by omega)])
theorem mAllK_off {mi : Nat → Nat → Int} {c j : Nat} (h : c ≠ 176) (h2 : c ≠ 177) (h3 : c ≠ 148 ∨ j ≠ 44) : mAllK mi c j = mi c j := by
  unfold mAllK
  (repeat first | rw [gu_ne (by omega)] | rw [gcpy_off (by omega)])
theorem mAllK_R {mi : Nat → Nat → Int} (h : gR32 mi) : gR32 (mAllK mi) := by
  unfold mAllK
  (repeat' first | exact h | refine gcpy_R ?_ | refine gR32_gu ?_ (h _ _) | refine gR32_gu ?_ ⟨by decide, by decide⟩)
theorem mAllK_0 (mi : Nat → Nat → Int) : mAllK mi 176 0 = mi 148 0 ∧ mAllK mi 176 1 = mi 148 1 ∧ mAllK mi 176 2 = mi 148 2 ∧ mAllK mi 176 3 = mi 148 6 ∧ mAllK mi 176 4 = mi 148 9 := by
  unfold mAllK
  refine ⟨?_, ?_, ?_, ?_, ?_⟩ <;> ((repeat first | rw [gu_ne (by omega)] | rw [gcpy_off (by omega)]); rw [gcpy_in (by omega) (by omega)]; rfl)
theorem mAllK_1 {mi : Nat → Nat → Int} {k : Nat} (h : k < 96) : mAllK mi 176 (5 + k) = mi 149 k := by
  unfold mAllK
  (repeat first | rw [gu_ne (by omega)] | rw [gcpy_off (by omega)])
  rw [gcpy_in (by omega) (by omega), show 0 + (5 + k - 5) = k by omega]
  (repeat first | rw [gu_ne (by omega)] | rw [gcpy_off (by omega)])
theorem mAllK_2 {mi : Nat → Nat → Int} {k : Nat} (h : k < 12) : mAllK mi 176 (101 + k) = mi 150 k := by
  unfold mAllK
  (repeat first | rw [gu_ne (by omega)] | rw [gcpy_off (by omega)])
  rw [gcpy_in (by omega) (by omega), show 0 + (101 + k - 101) = k by omega]
  (repeat first | rw [gu_ne (by omega)] | rw [gcpy_off (by omega)])
theorem mAllK_3 {mi : Nat → Nat → Int} {k : Nat} (h : k < 12) : mAllK mi 176 (113 + k) = mi 151 k := by
  unfold mAllK
  (repeat first | rw [gu_ne (by omega)] | rw [gcpy_off (by omega)])
  rw [gcpy_in (by omega) (by omega), show 0 + (113 + k - 113) = k by omega]
  (repeat first | rw [gu_ne (by omega)] | rw [gcpy_off (by omega)])
theorem mAllK_4 {mi : Nat → Nat → Int} {k : Nat} (h : k < 288) : mAllK mi 176 (125 + k) = mi 152 k := by
  unfold mAllK
  (repeat first | rw [gu_ne (by omega)] | rw [gcpy_off (by omega)])
  rw [gcpy_in (by omega) (by omega), show 0 + (125 + k - 125) = k by omega]
  (repeat first | rw [gu_ne (by omega)] | rw [gcpy_off (by omega)])
theorem mAllK_5 {mi : Nat → Nat → Int} {k : Nat} (h : k < 4) : mAllK mi 176 (413 + k) = mi 153 k := by
  unfold mAllK
  (repeat first | rw [gu_ne (by omega)] | rw [gcpy_off (by omega)])
  rw [gcpy_in (by omega) (by omega), show 0 + (413 + k - 413) = k by omega]
  (repeat first | rw [gu_ne (by omega)] | rw [gcpy_off (by omega)])
theorem mAllK_6 {mi : Nat → Nat → Int} {k : Nat} (h : k < 20) : mAllK mi 176 (417 + k) = mi 154 k := by
  unfold mAllK
  (repeat first | rw [gu_ne (by omega)] | rw [gcpy_off (by omega)])
  rw [gcpy_in (by omega) (by omega), show 0 + (417 + k - 417) = k by omega]
  (repeat first | rw [gu_ne (by omega)] | rw [gcpy_off (by omega)])
theorem mAllK_7 {mi : Nat → Nat → Int} {k : Nat} (h : k < 20) : mAllK mi 176 (437 + k) = mi 155 k := by
  unfold mAllK
  (repeat first | rw [gu_ne (by omega)] | rw [gcpy_off (by omega)])
  rw [gcpy_in (by omega) (by omega), show 0 + (437 + k - 437) = k by omega]
  (repeat first | rw [gu_ne (by omega)] | rw [gcpy_off (by omega)])
theorem mAllK_8 {mi : Nat → Nat → Int} {k : Nat} (h : k < 10) : mAllK mi 176 (457 + k) = mi 156 k := by
  unfold mAllK
  (repeat first | rw [gu_ne (by omega)] | rw [gcpy_off (by omega)])
  rw [gcpy_in (by omega) (by omega), show 0 + (457 + k - 457) = k by omega]
  (repeat first | rw [gu_ne (by omega)] | rw [gcpy_off (by omega)])
theorem mAllK_9 {mi : Nat → Nat → Int} {k : Nat} (h : k < 2) : mAllK mi 176 (467 + k) = mi 157 k := by
  unfold mAllK
  (repeat first | rw [gu_ne (by omega)] | rw [gcpy_off (by omega)])
  rw [gcpy_in (by omega) (by omega), show 0 + (467 + k - 467) = k by omega]
  (repeat first | rw [gu_ne (by omega)] | rw [gcpy_off (by omega)])
theorem mAllK_10 {mi : Nat → Nat → Int} {k : Nat} (h : k < 240) : mAllK mi 176 (469 + k) = mi 158 k := by
  unfold mAllK
  (repeat first | rw [gu_ne (by omega)] | rw [gcpy_off (by omega)])
  rw [gcpy_in (by omega) (by omega), show 0 + (469 + k - 469) = k by omega]
  (repeat first | rw [gu_ne (by omega)] | rw [gcpy_off (by omega)])
theorem mUnd_off {mi : Nat → Nat → Int} {c j : Nat} (h : c < 148 ∨ 159 ≤ c) (h2 : c ≠ 177) : mUnd mi c j = mi c j := by
  unfold mUnd mAllU
  (repeat first | rw [gu_ne (by omega)] | rw [gcpy_off (by omega)])
theorem mUnd_148 {mi : Nat → Nat → Int} {j : Nat} (h : j ≠ 0 ∧ j ≠ 1 ∧ j ≠ 2 ∧ j ≠ 6 ∧ j ≠ 9 ∧ j ≠ 44) : mUnd mi 148 j = mi 148 j := by
  unfold mUnd mAllU
  (repeat first | rw [gu_ne (by omega)] | rw [gcpy_off (by omega)])
theorem mAllU_R {mi : Nat → Nat → Int} (h : gR32 mi) : gR32 (mAllU mi) := by
  unfold mAllU
  (repeat' first | exact h | refine gcpy_R ?_ | refine gR32_gu ?_ (h _ _) | refine gR32_gu ?_ ⟨by decide, by decide⟩)
theorem mUnd_R {mi : Nat → Nat → Int} (h : gR32 mi) : gR32 (mUnd mi) := by
  have h9 := mAllU_R h
  unfold mUnd
  (repeat' first | exact h9 | refine gR32_gu ?_ (h9 _ _))
theorem mUnd_0 (mi : Nat → Nat → Int) : mUnd mi 148 0 = mi 176 0 ∧ mUnd mi 148 1 = mi 176 1 ∧ mUnd mi 148 2 = mi 176 2 ∧ mUnd mi 148 6 = mi 176 3 ∧ mUnd mi 148 9 = mi 176 4 := by
  have e : ∀ k, k < 5 → mAllU mi 177 k = mi 176 k := fun k hk => by
    unfold mAllU
    (repeat first | rw [gu_ne (by omega)] | rw [gcpy_off (by omega)])
    rw [gcpy_in (by omega) (by omega), show 0 + (k - 0) = k by omega]
    (repeat first | rw [gu_ne (by omega)] | rw [gcpy_off (by omega)])
  refine ⟨e 0 (by decide), e 1 (by decide), e 2 (by decide), e 3 (by decide), e 4 (by decide)⟩
theorem mUnd_r1 {mi : Nat → Nat → Int} {k : Nat} (h : k < 96) : mUnd mi 149 k = mi 176 (5 + k) := by
  unfold mUnd mAllU
  (repeat first | rw [gu_ne (by omega)] | rw [gcpy_off (by omega)])
  rw [gcpy_in (by omega) (by omega), show 5 + (k - 0) = 5 + k by omega]
  (repeat first | rw [gu_ne (by omega)] | rw [gcpy_off (by omega)])
theorem mUnd_r2 {mi : Nat → Nat → Int} {k : Nat} (h : k < 12) : mUnd mi 150 k = mi 176 (101 + k) := by
  unfold mUnd mAllU
  (repeat first | rw [gu_ne (by omega)] | rw [gcpy_off (by omega)])
  rw [gcpy_in (by omega) (by omega), show 101 + (k - 0) = 101 + k by omega]
  (repeat first | rw [gu_ne (by omega)] | rw [gcpy_off (by omega)])
theorem mUnd_r3 {mi : Nat → Nat → Int} {k : Nat} (h : k < 12) : mUnd mi 151 k = mi 176 (113 + k) := by
  unfold mUnd mAllU
  (repeat first | rw [gu_ne (by omega)] | rw [gcpy_off (by omega)])
  rw [gcpy_in (by omega) (by omega), show 113 + (k - 0) = 113 + k by omega]
  (repeat first | rw [gu_ne (by omega)] | rw [gcpy_off (by omega)])
theorem mUnd_r4 {mi : Nat → Nat → Int} {k : Nat} (h : k < 288) : mUnd mi 152 k = mi 176 (125 + k) := by
  unfold mUnd mAllU
  (repeat first | rw [gu_ne (by omega)] | rw [gcpy_off (by omega)])
  rw [gcpy_in (by omega) (by omega), show 125 + (k - 0) = 125 + k by omega]
  (repeat first | rw [gu_ne (by omega)] | rw [gcpy_off (by omega)])
theorem mUnd_r5 {mi : Nat → Nat → Int} {k : Nat} (h : k < 4) : mUnd mi 153 k = mi 176 (413 + k) := by
  unfold mUnd mAllU
  (repeat first | rw [gu_ne (by omega)] | rw [gcpy_off (by omega)])
  rw [gcpy_in (by omega) (by omega), show 413 + (k - 0) = 413 + k by omega]
  (repeat first | rw [gu_ne (by omega)] | rw [gcpy_off (by omega)])
theorem mUnd_r6 {mi : Nat → Nat → Int} {k : Nat} (h : k < 20) : mUnd mi 154 k = mi 176 (417 + k) := by
  unfold mUnd mAllU
  (repeat first | rw [gu_ne (by omega)] | rw [gcpy_off (by omega)])
  rw [gcpy_in (by omega) (by omega), show 417 + (k - 0) = 417 + k by omega]
  (repeat first | rw [gu_ne (by omega)] | rw [gcpy_off (by omega)])
theorem mUnd_r7 {mi : Nat → Nat → Int} {k : Nat} (h : k < 20) : mUnd mi 155 k = mi 176 (437 + k) := by
  unfold mUnd mAllU
  (repeat first | rw [gu_ne (by omega)] | rw [gcpy_off (by omega)])
  rw [gcpy_in (by omega) (by omega), show 437 + (k - 0) = 437 + k by omega]
  (repeat first | rw [gu_ne (by omega)] | rw [gcpy_off (by omega)])
theorem mUnd_r8 {mi : Nat → Nat → Int} {k : Nat} (h : k < 10) : mUnd mi 156 k = mi 176 (457 + k) := by
  unfold mUnd mAllU
  (repeat first | rw [gu_ne (by omega)] | rw [gcpy_off (by omega)])
  rw [gcpy_in (by omega) (by omega), show 457 + (k - 0) = 457 + k by omega]
  (repeat first | rw [gu_ne (by omega)] | rw [gcpy_off (by omega)])
theorem mUnd_r9 {mi : Nat → Nat → Int} {k : Nat} (h : k < 2) : mUnd mi 157 k = mi 176 (467 + k) := by
  unfold mUnd mAllU
  (repeat first | rw [gu_ne (by omega)] | rw [gcpy_off (by omega)])
  rw [gcpy_in (by omega) (by omega), show 467 + (k - 0) = 467 + k by omega]
  (repeat first | rw [gu_ne (by omega)] | rw [gcpy_off (by omega)])
theorem mUnd_r10 {mi : Nat → Nat → Int} {k : Nat} (h : k < 240) : mUnd mi 158 k = mi 176 (469 + k) := by
  unfold mUnd mAllU
  (repeat first | rw [gu_ne (by omega)] | rw [gcpy_off (by omega)])
  rw [gcpy_in (by omega) (by omega), show 469 + (k - 0) = 469 + k by omega]
  (repeat first | rw [gu_ne (by omega)] | rw [gcpy_off (by omega)])
theorem Inv.hyC {t : Nat} {mi : Nat → Nat → Int} {ml : Nat → Nat → Int64} {s : Nat} {σ : Nat → Nat → Int} (h : Rep t s mi ml σ) : (0 ≤ mi s 2 ∧ mi s 2 ≤ 12) ∧ (0 ≤ mi s 3 ∧ mi s 3 ≤ 24) ∧ (∀ a : Nat, (a : Int) < mi s 3 → mi (s + 23 + a) 13 = 0 ∨ mi (s + 23 + a) 13 = 1) ∧ (∀ q : Nat, q < 2 → (mi (s + 47 + 3 * q) 0 = 0 ∨ mi (s + 47 + 3 * q) 0 = 1) ∧ (0 ≤ mi (s + 47 + 3 * q) 1 ∧ mi (s + 47 + 3 * q) 1 ≤ 120)) ∧ (0 ≤ mi (s + 6) 0 ∧ mi (s + 6) 0 ≤ 20) := by
  obtain ⟨⟨c0, c1, c2, c3, c4, c5, c6, c7⟩, hpi, hpa, hdj, hli, hsp, hlw, hwa⟩ := h
  refine ⟨by rw [c2]; exact c5, by rw [c3]; exact c6, fun a ha => ?_, fun q hq => ?_, ?_⟩
  · obtain ⟨d1, d2, d3, -⟩ := hpa a (by omega) (by omega)
    have e : mi (s + 23 + a) 13 = vOf σ a 11 := d2 11 (by decide) (by decide)
    rw [e]
    exact d3.2.2.2.2.2.2.2.2.2.2.2.2
  · obtain ⟨d1, d2, -⟩ := hlw q hq
    exact ⟨by rw [d1]; exact b2_01 _, d2.2⟩
  · rw [hwa.1]; exact hwa.2.1
theorem sg_eq {mi m : Nat → Nat → Int} (h : ∀ c k : Nat, (c = 148 ∧ (k = 0 ∨ k = 1 ∨ k = 2 ∨ k = 6 ∨ k = 9)) ∨ (149 ≤ c ∧ c ≤ 158) → m c k = mi c k) : sg m = sg mi := by
  funext c k
  unfold sg
  split
  · split <;> exact h _ _ (by omega)
  all_goals exact h _ _ (by omega)
theorem inv_image {t : Nat} {mi : Nat → Nat → Int} {ml : Nat → Nat → Int64} (h : Inv t mi ml) : Inv (t + 1) (gu (mAllK (gu (bcIK mi) 0 8 1)) 148 42 1) (bcLK mi ml) := by
  obtain ⟨hR, hrep, htp, hfd, hsh, hkp⟩ := h
  obtain ⟨q2, q3, -⟩ := Inv.hyC hrep
  have r1 : rng 1 := ⟨by decide, by decide⟩
  have off : ∀ c j : Nat, (c < 54 ∨ 107 ≤ c) → c ≠ 0 → c ≠ 176 → c ≠ 177 → (c ≠ 148 ∨ (j ≠ 42 ∧ j ≠ 44)) → gu (mAllK (gu (bcIK mi) 0 8 1)) 148 42 1 c j = mi c j := fun c j h1 h2 h3 h4 h5 => by
    rw [gu_ne (by omega), mAllK_off h3 h4 (by omega), gu_other h2, bcIK_off h1]
  have site : ∀ d k : Nat, d < 53 → gu (mAllK (gu (bcIK mi) 0 8 1)) 148 42 1 (54 + d) k = bcIK mi (54 + d) k := fun d k hd => by
    rw [gu_other (by omega), mAllK_off (by omega) (by omega) (by omega), gu_other (by omega)]
  have kept : ∀ k, gu (mAllK (gu (bcIK mi) 0 8 1)) 148 42 1 176 k = mAllK (gu (bcIK mi) 0 8 1) 176 k := fun k => gu_other (by decide)
  have low : ∀ c j : Nat, 107 ≤ c → gu (bcIK mi) 0 8 1 c j = mi c j := fun c j hc => by rw [gu_other (by omega), bcIK_off (by omega)]
  refine ⟨gR32_gu (mAllK_R (gR32_gu (bcIK_R hR) r1)) r1, ?_, htp.fr (fun a k hk => off a k (by omega) (by omega) (by omega) (by omega) (by omega)), fun i hi => ?_, hsh.fr (fun a k hk => off a k (by omega) (by omega) (by omega) (by omega) (by omega)), rfl, Or.inr rfl, fun _ => ?_⟩
  · rw [sg_eq (fun c k hk => off c k (by omega) (by omega) (by omega) (by omega) (by omega))]
    exact hrep.fr (by omega) (fun d k hd _ => off _ _ (by omega) (by omega) (by omega) (by omega) (by omega)) (fun d k h1 h2 => bcLK_off (by omega))
  · rw [off 147 i (by omega) (by omega) (by omega) (by omega) (by omega), off 159 i (by omega) (by omega) (by omega) (by omega) (by omega)]
    have := hfd i hi
    omega
  · have h9 : Rep t 54 (bcIK mi) (bcLK mi ml) (sg mi) := hrep.mv (bcK_mv q2 q3)
    have h8 := h9.fr (t' := t + 1) (mi' := gu (mAllK (gu (bcIK mi) 0 8 1)) 148 42 1) (ml' := bcLK mi ml) (by omega) (fun d k hd _ => site d k hd) (fun _ _ _ _ => rfl)
    obtain ⟨z0, z1, z2, z3, z4⟩ := mAllK_0 (gu (bcIK mi) 0 8 1)
    refine h8.sc (fun k hk => ?_) (fun k hk => ?_) (fun k hk => ?_) (fun k hk => ?_) (fun k hk => ?_) (fun k hk => ?_) (fun k hk => ?_) (fun k hk => ?_) (fun k hk => ?_) (fun k hk => ?_) (fun k hk => ?_)
    · rcases (show k = 0 ∨ k = 1 ∨ k = 2 ∨ k = 3 ∨ k = 4 by omega) with rfl | rfl | rfl | rfl | rfl
      · exact (kept 0).trans (z0.trans (low _ _ (by omega)))
      · exact (kept 1).trans (z1.trans (low _ _ (by omega)))
      · exact (kept 2).trans (z2.trans (low _ _ (by omega)))
      · exact (kept 3).trans (z3.trans (low _ _ (by omega)))
      · exact (kept 4).trans (z4.trans (low _ _ (by omega)))
    · exact (kept _).trans ((mAllK_1 hk).trans (low _ _ (by omega)))
    · exact (kept _).trans ((mAllK_2 hk).trans (low _ _ (by omega)))
    · exact (kept _).trans ((mAllK_3 hk).trans (low _ _ (by omega)))
    · exact (kept _).trans ((mAllK_4 hk).trans (low _ _ (by omega)))
    · exact (kept _).trans ((mAllK_5 hk).trans (low _ _ (by omega)))
    · exact (kept _).trans ((mAllK_6 hk).trans (low _ _ (by omega)))
    · exact (kept _).trans ((mAllK_7 hk).trans (low _ _ (by omega)))
    · exact (kept _).trans ((mAllK_8 hk).trans (low _ _ (by omega)))
    · exact (kept _).trans ((mAllK_9 hk).trans (low _ _ (by omega)))
    · exact (kept _).trans ((mAllK_10 hk).trans (low _ _ (by omega)))
theorem inv_undo {t : Nat} {mi : Nat → Nat → Int} {ml : Nat → Nat → Int64} (h : Inv t mi ml) (hk : mi 148 42 = 1) : Inv (t + 1) (mUnd (bcIU mi)) (bcLU mi ml) := by
  obtain ⟨hR, hrep, htp, hfd, hsh, k1, k2, k3⟩ := h
  have hrk := k3 hk
  obtain ⟨q2, q3, -⟩ := Inv.hyC hrk
  have off : ∀ c j : Nat, (c = 0 ∨ 54 ≤ c) → (c < 148 ∨ 159 ≤ c) → c ≠ 177 → mUnd (bcIU mi) c j = mi c j := fun c j h1 h2 h3 => by
    rw [mUnd_off h2 h3, bcIU_off (by omega)]
  have site : ∀ d k : Nat, d < 53 → mUnd (bcIU mi) (1 + d) k = bcIU mi (1 + d) k := fun d k hd => mUnd_off (by omega) (by omega)
  have up : ∀ k, bcIU mi 176 k = mi 176 k := fun k => bcIU_off (by omega)
  have e22 : mUnd (bcIU mi) 148 22 = mi 148 22 := (mUnd_148 (by decide)).trans (bcIU_off (by omega))
  have e42 : mUnd (bcIU mi) 148 42 = mi 148 42 := (mUnd_148 (by decide)).trans (bcIU_off (by omega))
  refine ⟨mUnd_R (bcIU_R hR), ?_, htp.fr (fun a k hk => ?_), fun i hi => ?_, hsh.fr (fun a k hk => off a k (by omega) (by omega) (by omega)), ?_, ?_, fun _ => ?_⟩
  · have h9 : Rep t 1 (bcIU mi) (bcLU mi ml) (sk mi) := hrk.mv (bcU_mv q2 q3)
    have h8 := h9.fr (t' := t + 1) (mi' := mUnd (bcIU mi)) (ml' := bcLU mi ml) (by omega) (fun d k hd _ => site d k hd) (fun _ _ _ _ => rfl)
    obtain ⟨z0, z1, z2, z3, z4⟩ := mUnd_0 (bcIU mi)
    refine h8.sc (fun k hk => ?_) (fun k hk => ?_) (fun k hk => ?_) (fun k hk => ?_) (fun k hk => ?_) (fun k hk => ?_) (fun k hk => ?_) (fun k hk => ?_) (fun k hk => ?_) (fun k hk => ?_) (fun k hk => ?_)
    · rcases (show k = 0 ∨ k = 1 ∨ k = 2 ∨ k = 3 ∨ k = 4 by omega) with rfl | rfl | rfl | rfl | rfl
      · exact z0.trans (up 0)
      · exact z1.trans (up 1)
      · exact z2.trans (up 2)
      · exact z3.trans (up 3)
      · exact z4.trans (up 4)
    · exact (mUnd_r1 hk).trans (up _)
    · exact (mUnd_r2 hk).trans (up _)
    · exact (mUnd_r3 hk).trans (up _)
    · exact (mUnd_r4 hk).trans (up _)
    · exact (mUnd_r5 hk).trans (up _)
    · exact (mUnd_r6 hk).trans (up _)
    · exact (mUnd_r7 hk).trans (up _)
    · exact (mUnd_r8 hk).trans (up _)
    · exact (mUnd_r9 hk).trans (up _)
    · exact (mUnd_r10 hk).trans (up _)
  · rcases hk with ⟨rfl, rfl⟩ | rfl | rfl | ⟨rfl, rfl⟩
    · exact off 132 0 (by omega) (by omega) (by omega)
    · exact off 134 k (by omega) (by omega) (by omega)
    · exact off 164 k (by omega) (by omega) (by omega)
    · exact e22
  · rw [off 147 i (by omega) (by omega) (by omega), off 159 i (by omega) (by omega) (by omega)]
    have := hfd i hi
    omega
  · rw [off 0 8 (by omega) (by omega) (by omega), e42]; exact k1
  · rw [e42]; exact k2
  · rw [sk_congr (mi := mi) (fun k => off 176 k (by omega) (by omega) (by omega))]
    exact hrk.fr (by omega) (fun d k hd _ => off _ _ (by omega) (by omega) (by omega)) (fun d k h1 h2 => bcLU_off (by omega))
set_option maxHeartbeats 4000000 in
theorem op_image {G : gG} (hsz : G.2.2.2.2.2.2 = true) : gOp G Inv 142 243 0 := by
  intro t mi ml xs hlen hr ht hI
  match xs, hlen, hr with
  | [], _, hr =>
    have hrep := hI.2.1
    obtain ⟨q2, q3, q4, q5, q6⟩ := Inv.hyC hrep
    refine ⟨_, pC_image hsz (n := 399) (by decide) mi ml hI.CV q2 q3 q4 q5 q6, ?_⟩
    rintro r M1 ⟨-, rfl, rfl⟩
    have lowK : ∀ c k : Nat, 148 ≤ c → gu (bcIK mi) 0 8 1 c k = mi c k := fun c k hc => by rw [gu_other (by omega), bcIK_off (by omega)]
    refine ⟨_, rfl, (rB _ (by decide) (by decide)), _, _, rfl, _, pM_image hsz (n := 399) (by decide) (gu (bcIK mi) 0 8 1) (bcLK mi ml) (hI.SV.low (gR32_gu (bcIK_R hI.1) ⟨by decide, by decide⟩) lowK), ?_⟩
    rintro r2 M2 ⟨-, rfl, rfl⟩
    exact ⟨rfl, _, _, rfl, inv_image hI⟩
set_option maxHeartbeats 4000000 in
theorem op_undo {G : gG} (hsz : G.2.2.2.2.2.2 = true) : gOp G Inv 143 244 0 := by
  intro t mi ml xs hlen hr ht hI
  match xs, hlen, hr with
  | [], _, hr =>
    have k1 : mi 0 8 = mi 148 42 := hI.2.2.2.2.2.1
    have k2 := hI.2.2.2.2.2.2.1
    have k3 := hI.2.2.2.2.2.2.2
    refine ⟨_, pC_undo hsz (n := 399) (by decide) mi ml hI.CV (fun hz => Inv.hyC (k3 (by omega))), ?_⟩
    rintro r M1 (⟨c, rfl, rfl⟩ | ⟨c, rfl, rfl⟩)
    · have f42 : (cFd mi 3) 148 42 = mi 148 42 := rfl
      refine ⟨_, rfl, (rB _ (by decide) (by decide)), _, _, rfl, _, pM_undo hsz (n := 399) (by decide) (cFd mi 3) ml (SV.cFd hI ht (by decide)), ?_⟩
      rintro r2 M2 (⟨c2, rfl, rfl⟩ | ⟨c2, rfl, rfl⟩)
      · exact ⟨rfl, _, _, rfl, hI.find ht (by decide)⟩
      · exfalso; omega
    · have lowU : ∀ c k : Nat, 148 ≤ c → bcIU mi c k = mi c k := fun c k hc => bcIU_off (by omega)
      have f42 := lowU 148 42 (by decide)
      have hrk := k3 (by omega)
      have e0 : bcIU mi 1 0 = mi 54 0 := rfl
      have e1 : mi 54 0 = mi 176 0 := hrk.1.1
      refine ⟨_, rfl, (bcIU_R hI.1 _ _), _, _, rfl, _, pM_undo hsz (n := 399) (by decide) (bcIU mi) (bcLU mi ml) (hI.SV.low (bcIU_R hI.1) lowU), ?_⟩
      rintro r2 M2 (⟨c2, rfl, rfl⟩ | ⟨c2, rfl, rfl⟩)
      · exfalso; omega
      · refine ⟨congrArg (fun z => some (gi z)) ?_, _, _, rfl, inv_undo hI (by omega)⟩
        rw [e0, e1]
        exact ((mUnd_0 (bcIU mi)).1).trans (lowU 176 0 (by decide))

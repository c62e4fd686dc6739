/-! ===== a new pitch, a new party; tape and sheets ===== -/
section S4
variable {t t' : Nat} {mi mi' : Nat → Nat → Int} {ml ml' : Nat → Nat → Int64}
theorem Inv.side (h : Inv t mi ml) (ht : t ≤ t') (hR' : gR32 mi') (off : ∀ a k : Nat, (a < 107 ∨ a = 147 ∨ (149 ≤ a ∧ a ≤ 159) ∨ a = 176 ∨ (a = 148 ∧ k ≠ 22)) → mi' a k = mi a k) (htp : Itp mi') (hsh : Ish mi') : Inv t' mi' ml := by
  obtain ⟨hR, hrep, -, hfd, -, ⟨k1, k2, k3⟩⟩ := h
  have esg : sg mi' = sg mi := by
    funext c k
    unfold sg
    split
    · split <;> exact off 148 _ (by omega)
    all_goals exact off _ k (by omega)
  have e42 := off 148 42 (by omega)
  refine ⟨hR', ?_, htp, fun i hi => ?_, hsh, by rw [off 0 8 (by omega), e42]; exact k1, by rw [e42]; exact k2, fun hk => ?_⟩
  · rw [esg]
    exact hrep.fr ht (fun d k hd _ => off _ _ (by omega)) (fun _ _ _ _ => rfl)
  · rw [off 147 i (by omega), off 159 i (by omega)]
    have := hfd i hi
    omega
  · rw [e42] at hk
    rw [sk_congr (fun k => off 176 k (by omega))]
    exact (k3 hk).fr ht (fun d k hd _ => off _ _ (by omega)) (fun _ _ _ _ => rfl)
theorem Itp.fr (h : Itp mi) (off : ∀ a k : Nat, (a = 132 ∧ k = 0) ∨ a = 134 ∨ a = 164 ∨ (a = 148 ∧ k = 22) → mi' a k = mi a k) : Itp mi' := by
  obtain ⟨t1, t2, t3⟩ := h
  refine ⟨by rw [off 132 0 (by omega), off 148 22 (by omega)]; exact t1, by rw [off 148 22 (by omega)]; exact t2, fun i hi => ?_⟩
  rw [off 148 22 (by omega)] at hi
  rw [off 134 i (by omega), off 164 i (by omega)]
  exact t3 i hi
theorem Ish.fr (h : Ish mi) (off : ∀ a k : Nat, (139 ≤ a ∧ a ≤ 146) ∨ (172 ≤ a ∧ a ≤ 174) → mi' a k = mi a k) : Ish mi' := fun s hs => by
  have h9 := h s hs
  rw [off _ 0 (by omega), off _ 1 (by omega), off 172 s (by omega), off 173 s (by omega)]
  refine ⟨h9.1, h9.2.1, h9.2.2.1, h9.2.2.2.1, h9.2.2.2.2.1, fun i hi => ?_⟩
  rw [off _ i (by omega), off 174 _ (by omega)]
  exact h9.2.2.2.2.2 i hi
theorem inv_pitch {n : Int} (h : Inv t mi ml) (hn : n = mi 148 2) (h12 : n < 12) (hR' : gR32 mi')
    (off : ∀ a k : Nat, a ≠ 12 + n.toNat → (a = 149 → (k : Int) < 8 * n ∨ 8 * n + 8 ≤ k) → (a = 150 ∨ a = 151 → k ≠ n.toNat) → (a = 1 ∨ a = 148 → k ≠ 2) → mi' a k = mi a k)
    (h1 : mi' 1 2 = n + 1) (h2 : mi' 148 2 = n + 1) (hv : ∀ w : Nat, w < 8 → mi' (12 + n.toNat) w = mi' 149 (8 * n + w).toNat) (h8 : mi' (12 + n.toNat) 8 = 0) (h9 : mi' (12 + n.toNat) 9 = 0) (h150 : mi' 150 n.toNat = 0) (h151 : mi' 151 n.toNat = 0) (hq : QVs (sg mi') n) : Inv (t + 1) mi' ml := by
  obtain ⟨rsc, rpi, rpa, rdj, rli, rsp, rlw, rwa⟩ := h.2.1
  have b2 : 0 ≤ mi 148 2 ∧ mi 148 2 ≤ 12 := rsc.2.2.2.2.2.1
  have b3 : 0 ≤ mi 148 6 ∧ mi 148 6 ≤ 24 := rsc.2.2.2.2.2.2.1
  refine h.live (by omega) hR' (fun c k hk => off c k (by omega) (by omega) (by omega) (by omega)) (fun _ _ _ _ => rfl) ?_
  have g0 : sg mi' 0 0 = sg mi 0 0 := off 148 0 (by omega) (by omega) (by omega) (by omega)
  have g1 : sg mi' 0 1 = sg mi 0 1 := off 148 1 (by omega) (by omega) (by omega) (by omega)
  have g2 : sg mi' 0 2 = n + 1 := h2
  have g3 : sg mi' 0 3 = sg mi 0 3 := off 148 6 (by omega) (by omega) (by omega) (by omega)
  have g4 : sg mi' 0 4 = sg mi 0 4 := off 148 9 (by omega) (by omega) (by omega) (by omega)
  refine ⟨?_, fun p p0 p1 => ?_, fun a a0 a1 => ?_, rdj.fr g3 (fun k => off 152 k (by omega) (by omega) (by omega) (by omega)), rli.fr (fun k => off 4 k (by omega) (by omega) (by omega) (by omega)) (fun k => off 153 k (by omega) (by omega) (by omega) (by omega)), rsp.fr (by rw [g3]; exact Int.le_refl _) (fun k => off 5 k (by omega) (by omega) (by omega) (by omega)) (fun k => off 156 k (by omega) (by omega) (by omega) (by omega)), rlw.fr (fun l k hl => ⟨off _ _ (by omega) (by omega) (by omega) (by omega), off _ _ (by omega) (by omega) (by omega) (by omega)⟩) (fun k => off 157 k (by omega) (by omega) (by omega) (by omega)) (fun k => off 158 k (by omega) (by omega) (by omega) (by omega)), rwa.fr (off 7 0 (by omega) (by omega) (by omega) (by omega)) g4 (fun k => off 8 k (by omega) (by omega) (by omega) (by omega)) (fun k => off 9 k (by omega) (by omega) (by omega) (by omega)) (fun k => off 154 k (by omega) (by omega) (by omega) (by omega)) (fun k => off 155 k (by omega) (by omega) (by omega) (by omega))⟩
  · obtain ⟨c0, c1, c2, c3, c4, c5, c6, c7⟩ := rsc
    unfold Rsc
    rw [g0, g1, g2, g3, off 1 0 (by omega) (by omega) (by omega) (by omega), off 1 1 (by omega) (by omega) (by omega) (by omega), off 1 3 (by omega) (by omega) (by omega) (by omega)]
    exact ⟨c0, c1, h1, c3, c4, ⟨by omega, by omega⟩, c6, by omega, by omega⟩
  · rw [g2] at p1
    by_cases e : p = n
    · subst e
      refine ⟨fun w hw => hv w hw, ?_, ?_, hq, ?_, ?_⟩
      · show mi' (12 + p.toNat) 8 = mi' 151 p.toNat
        rw [h8, h151]
      · show mi' (12 + p.toNat) 9 = mi' 150 p.toNat
        rw [h9, h150]
      · show 0 ≤ mi' 151 p.toNat ∧ mi' 151 p.toNat ≤ _
        rw [h151]; omega
      · show mi' 151 p.toNat ≤ mi' 150 p.toNat ∧ mi' 150 p.toNat ≤ _
        rw [h151, h150]; omega
    · obtain ⟨d1, d2, d3, d4, d5, d6⟩ := rpi p p0 (show p < mi 148 2 by omega)
      have ec : ∀ k, mi' (1 + 11 + p.toNat) k = mi (1 + 11 + p.toNat) k := fun k => off _ _ (by omega) (by omega) (by omega) (by omega)
      have ev : ∀ x : Int, 0 ≤ x → x < 8 → vPi (sg mi') p x = vPi (sg mi) p x := fun x x0 x1 => off 149 _ (by omega) (by omega) (by omega) (by omega)
      have ea : sg mi' 3 p.toNat = sg mi 3 p.toNat := off 151 _ (by omega) (by omega) (by omega) (by omega)
      have eb : sg mi' 2 p.toNat = sg mi 2 p.toNat := off 150 _ (by omega) (by omega) (by omega) (by omega)
      rw [ea, eb]
      refine ⟨fun w hw => by rw [ec, ev w (by omega) (by omega)]; exact d1 w hw, by rw [ec]; exact d2, by rw [ec]; exact d3, ?_, by omega, by omega⟩
      unfold QVs at d4 ⊢
      rw [ev 0 (by omega) (by omega), ev 1 (by omega) (by omega), ev 2 (by omega) (by omega), ev 3 (by omega) (by omega), ev 4 (by omega) (by omega), ev 5 (by omega) (by omega), ev 6 (by omega) (by omega), ev 7 (by omega) (by omega)]
      exact d4
  · rw [g3] at a1
    have a1 : a < mi 148 6 := a1
    obtain ⟨d1, d2, d3, d4, d5⟩ := rpa a a0 a1
    have ec : ∀ k, mi' (1 + 23 + a.toNat) k = mi (1 + 23 + a.toNat) k := fun k => off _ _ (by omega) (by omega) (by omega) (by omega)
    have e4 : sg mi' 4 = sg mi 4 := by
      funext k
      exact off 152 k (by omega) (by omega) (by omega) (by omega)
    have ev : ∀ x : Int, vOf (sg mi') a x = vOf (sg mi) a x := fun x => by unfold vOf; rw [e4]
    refine ⟨fun w hw => by rw [ec, ev]; exact d1 w hw, fun w h6 hw => by rw [ec, ev]; exact d2 w h6 hw, ?_, by rw [ev, ev]; exact d4, by rw [ev, ev]; exact d5⟩
    unfold PVs at d3 ⊢
    simp only [ev]
    rw [g2, g3]
    have e2 : sg mi 0 2 = n := hn.symm
    rw [e2] at d3
    omega
theorem inv_party {n : Int} (h : Inv t mi ml) (hn : n = mi 148 6) (h24 : n < 24) (hR' : gR32 mi')
    (off : ∀ a k : Nat, a ≠ 24 + n.toNat → (a = 152 → (k : Int) < 12 * n ∨ 12 * n + 12 ≤ k) → (a = 1 → k ≠ 3) → (a = 148 → k ≠ 6) → mi' a k = mi a k) (offl : ∀ a k : Nat, a ≠ 24 + n.toNat → ml' a k = ml a k)
    (h1 : mi' 1 3 = n + 1) (h2 : mi' 148 6 = n + 1) (hv : ∀ w : Nat, w < 6 → mi' (24 + n.toNat) w = mi' 152 (12 * n + w).toNat) (hv2 : ∀ w : Nat, 6 ≤ w → w < 12 → mi' (24 + n.toNat) (w + 2) = mi' 152 (12 * n + w).toNat) (hl : ml' (24 + n.toNat) 6 = lLow (mOf mi' n 4) (mOf mi' n 5)) (hh : ml' (24 + n.toNat) 7 = lHigh (mOf mi' n 4) (mOf mi' n 5)) (hw : mOf mi' n 6 = -1) (hq : PVs (sg mi') n) : Inv (t + 1) mi' ml' := by
  obtain ⟨rsc, rpi, rpa, rdj, rli, rsp, rlw, rwa⟩ := h.2.1
  have b2 : 0 ≤ mi 148 2 ∧ mi 148 2 ≤ 12 := rsc.2.2.2.2.2.1
  have b3 : 0 ≤ mi 148 6 ∧ mi 148 6 ≤ 24 := rsc.2.2.2.2.2.2.1
  refine h.live (by omega) hR' (fun c k hk => off c k (by omega) (by omega) (by omega) (by omega)) (fun a k h1 h2 => offl a k (by omega)) ?_
  have g0 : sg mi' 0 0 = sg mi 0 0 := off 148 0 (by omega) (by omega) (by omega) (by omega)
  have g1 : sg mi' 0 1 = sg mi 0 1 := off 148 1 (by omega) (by omega) (by omega) (by omega)
  have g2 : sg mi' 0 2 = sg mi 0 2 := off 148 2 (by omega) (by omega) (by omega) (by omega)
  have g3 : sg mi' 0 3 = n + 1 := h2
  have g4 : sg mi' 0 4 = sg mi 0 4 := off 148 9 (by omega) (by omega) (by omega) (by omega)
  have ev : ∀ a x : Int, 0 ≤ a → a < n → 0 ≤ x → x < 12 → vOf (sg mi') a x = vOf (sg mi) a x := fun a x a0 a1 x0 x1 => off 152 _ (by omega) (by omega) (by omega) (by omega)
  refine ⟨?_, rpi.fr (by omega) g2 b2.2 (fun d k hd => off _ _ (by omega) (by omega) (by omega) (by omega)) (fun k => off 149 k (by omega) (by omega) (by omega) (by omega)) (fun k => off 150 k (by omega) (by omega) (by omega) (by omega)) (fun k => off 151 k (by omega) (by omega) (by omega) (by omega)), fun a a0 a1 => ?_, ?_, rli.fr (fun k => off 4 k (by omega) (by omega) (by omega) (by omega)) (fun k => off 153 k (by omega) (by omega) (by omega) (by omega)), rsp.fr (by rw [g3]; show mi 148 6 ≤ n + 1; omega) (fun k => off 5 k (by omega) (by omega) (by omega) (by omega)) (fun k => off 156 k (by omega) (by omega) (by omega) (by omega)), rlw.fr (fun l k hl => ⟨off _ _ (by omega) (by omega) (by omega) (by omega), off _ _ (by omega) (by omega) (by omega) (by omega)⟩) (fun k => off 157 k (by omega) (by omega) (by omega) (by omega)) (fun k => off 158 k (by omega) (by omega) (by omega) (by omega)), rwa.fr (off 7 0 (by omega) (by omega) (by omega) (by omega)) g4 (fun k => off 8 k (by omega) (by omega) (by omega) (by omega)) (fun k => off 9 k (by omega) (by omega) (by omega) (by omega)) (fun k => off 154 k (by omega) (by omega) (by omega) (by omega)) (fun k => off 155 k (by omega) (by omega) (by omega) (by omega))⟩
  · obtain ⟨c0, c1, c2, c3, c4, c5, c6, c7⟩ := rsc
    unfold Rsc
    rw [g0, g1, g2, g3, off 1 0 (by omega) (by omega) (by omega) (by omega), off 1 1 (by omega) (by omega) (by omega) (by omega), off 1 2 (by omega) (by omega) (by omega) (by omega)]
    exact ⟨c0, c1, c2, h1, c4, c5, ⟨by omega, by omega⟩, by omega, by omega⟩
  · rw [g3] at a1
    by_cases e : a = n
    · subst e
      exact ⟨fun w hw => hv w hw, fun w h6 hw => hv2 w h6 hw, hq, hl, hh⟩
    · obtain ⟨d1, d2, d3, d4, d5⟩ := rpa a a0 (show a < mi 148 6 by omega)
      have ec : ∀ k, mi' (1 + 23 + a.toNat) k = mi (1 + 23 + a.toNat) k := fun k => off _ _ (by omega) (by omega) (by omega) (by omega)
      have el : ∀ k, ml' (1 + 23 + a.toNat) k = ml (1 + 23 + a.toNat) k := fun k => offl _ _ (by omega)
      have ev := ev a
      refine ⟨fun w hw => by rw [ec, ev w a0 (by omega) (by omega) (by omega)]; exact d1 w hw, fun w h6 hw => by rw [ec, ev w a0 (by omega) (by omega) (by omega)]; exact d2 w h6 hw, ?_, by rw [el, ev 4 a0 (by omega) (by omega) (by omega), ev 5 a0 (by omega) (by omega) (by omega)]; exact d4, by rw [el, ev 4 a0 (by omega) (by omega) (by omega), ev 5 a0 (by omega) (by omega) (by omega)]; exact d5⟩
      unfold PVs at d3 ⊢
      rw [ev 0 a0 (by omega) (by omega) (by omega), ev 1 a0 (by omega) (by omega) (by omega), ev 2 a0 (by omega) (by omega) (by omega), ev 3 a0 (by omega) (by omega) (by omega), ev 4 a0 (by omega) (by omega) (by omega), ev 5 a0 (by omega) (by omega) (by omega), ev 6 a0 (by omega) (by omega) (by omega), ev 7 a0 (by omega) (by omega) (by omega), ev 8 a0 (by omega) (by omega) (by omega), ev 9 a0 (by omega) (by omega) (by omega), ev 10 a0 (by omega) (by omega) (by omega), ev 11 a0 (by omega) (by omega) (by omega)]
      rw [g2, g3]
      have e3 : sg mi 0 3 = n := hn.symm
      rw [e3] at d3
      omega
  · intro a b a0 a1 b0 b1 hne
    rw [g3] at a1 b1
    have hw : vOf (sg mi') n 6 = -1 := hw
    by_cases ea : a = n
    · subst ea
      intro h6
      omega
    · by_cases eb : b = n
      · subst eb
        intro h6 h7
        omega
      · rw [ev a 4 a0 (by omega) (by omega) (by omega), ev a 5 a0 (by omega) (by omega) (by omega), ev a 6 a0 (by omega) (by omega) (by omega), ev b 4 b0 (by omega) (by omega) (by omega), ev b 5 b0 (by omega) (by omega) (by omega), ev b 6 b0 (by omega) (by omega) (by omega)]
        exact rdj a b a0 (show a < mi 148 6 by omega) b0 (show b < mi 148 6 by omega) hne
end S4

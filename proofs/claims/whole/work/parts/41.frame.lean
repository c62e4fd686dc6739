/-! ===== what a call leaves as it was ===== -/
/-- the slots of a site that matter: by the cell's distance from the site -/
def gsr (d k : Nat) : Bool := !(decide (d = 9) || decide (d = 10) || decide (d = 49) || decide (d = 52)) && (!decide (d = 6) || decide (k = 0))
section FR
variable {t t' s : Nat} {mi mi' σ : Nat → Nat → Int} {ml ml' : Nat → Nat → Int64}
theorem Rep.fr (h : Rep t s mi ml σ) (ht : t ≤ t') (hm : ∀ d k : Nat, d < 53 → gsr d k = true → mi' (s + d) k = mi (s + d) k) (hl : ∀ d k : Nat, 23 ≤ d → d < 47 → ml' (s + d) k = ml (s + d) k) : Rep t' s mi' ml' σ := by
  obtain ⟨⟨c0, c1, c2, c3, c4, c5, c6, c7⟩, hpi, hpa, hdj, hli, hsp, hlw, hwa⟩ := h
  refine ⟨⟨?_, ?_, ?_, ?_, c4, c5, c6, by omega, by omega⟩, fun p p0 p1 => ?_, fun a a0 a1 => ?_, hdj, fun i hi => ?_, fun i hi => ?_, fun l hl2 => ?_, ?_⟩
  · have := hm 0 0 (by omega) rfl; rw [Nat.add_zero] at this; rw [this]; exact c0
  · have := hm 0 1 (by omega) rfl; rw [Nat.add_zero] at this; rw [this]; exact c1
  · have := hm 0 2 (by omega) rfl; rw [Nat.add_zero] at this; rw [this]; exact c2
  · have := hm 0 3 (by omega) rfl; rw [Nat.add_zero] at this; rw [this]; exact c3
  · obtain ⟨d1, d2, d3, d4, d5, d6⟩ := hpi p p0 p1
    have e : ∀ k, mi' (s + 11 + p.toNat) k = mi (s + 11 + p.toNat) k := fun k => by
      rw [Nat.add_assoc]
      refine hm (11 + p.toNat) k (by omega) ?_
      unfold gsr
      simp only [Bool.and_eq_true, Bool.not_eq_true', Bool.or_eq_false_iff, decide_eq_false_iff_not, Bool.or_eq_true, decide_eq_true_eq]
      omega
    refine ⟨fun w hw => by rw [e]; exact d1 w hw, by rw [e]; exact d2, by rw [e]; exact d3, d4, by omega, by omega⟩
  · obtain ⟨d1, d2, d3, d4, d5⟩ := hpa a a0 a1
    have e : ∀ k, mi' (s + 23 + a.toNat) k = mi (s + 23 + a.toNat) k := fun k => by
      rw [Nat.add_assoc]
      refine hm (23 + a.toNat) k (by omega) ?_
      unfold gsr
      simp only [Bool.and_eq_true, Bool.not_eq_true', Bool.or_eq_false_iff, decide_eq_false_iff_not, Bool.or_eq_true, decide_eq_true_eq]
      omega
    have e2 : ∀ k, ml' (s + 23 + a.toNat) k = ml (s + 23 + a.toNat) k := fun k => by
      rw [Nat.add_assoc]
      exact hl (23 + a.toNat) k (by omega) (by omega)
    exact ⟨fun w hw => by rw [e]; exact d1 w hw, fun w h6 hw => by rw [e]; exact d2 w h6 hw, d3, by rw [e2]; exact d4, by rw [e2]; exact d5⟩
  · rw [hm 3 i (by omega) rfl]
    exact hli i hi
  · rw [hm 4 i (by omega) rfl]
    exact hsp i hi
  · have e1 : ∀ k, mi' (s + 47 + 3 * l) k = mi (s + 47 + 3 * l) k := fun k => by
      rw [Nat.add_assoc]
      rcases (show l = 0 ∨ l = 1 by omega) with rfl | rfl
      · exact hm 47 k (by omega) rfl
      · exact hm 50 k (by omega) rfl
    have e2 : ∀ k, mi' (s + 48 + 3 * l) k = mi (s + 48 + 3 * l) k := fun k => by
      rw [Nat.add_assoc]
      rcases (show l = 0 ∨ l = 1 by omega) with rfl | rfl
      · exact hm 48 k (by omega) rfl
      · exact hm 51 k (by omega) rfl
    obtain ⟨d1, d2, d3⟩ := hlw l hl2
    refine ⟨by rw [e1]; exact d1, by rw [e1]; exact d2, fun h => ?_⟩
    obtain ⟨f1, f2, f3⟩ := d3 h
    exact ⟨by rw [e1]; exact f1, fun i hi => by rw [e2]; exact f2 i hi, f3⟩
  · obtain ⟨d1, d2, d3, f, d4, d5⟩ := hwa
    exact ⟨by rw [hm 6 0 (by omega) rfl]; exact d1, d2, d3, f, fun i hi => by rw [hm 7 i (by omega) rfl, hm 8 i (by omega) rfl]; exact d4 i hi, d5⟩
end FR
/-- the slots that matter, of both -/
def grel (a k : Nat) : Bool := (decide (a = 0) && decide (k = 8)) || (decide (1 ≤ a) && decide (a < 54) && gsr (a - 1) k) || (decide (54 ≤ a) && decide (a < 107) && gsr (a - 54) k) || (decide (a = 132) && decide (k = 0)) || decide (a = 134) || (decide (139 ≤ a) && decide (a ≤ 147)) || (decide (a = 148) && (decide (k = 0) || decide (k = 1) || decide (k = 2) || decide (k = 6) || decide (k = 9) || decide (k = 22) || decide (k = 42))) || (decide (149 ≤ a) && decide (a ≤ 159)) || decide (a = 164) || (decide (172 ≤ a) && decide (a ≤ 174)) || decide (a = 176)
theorem sg_congr {mi mi' : Nat → Nat → Int} (hm : ∀ a k, grel a k = true → mi' a k = mi a k) : sg mi' = sg mi := by
  funext c k
  unfold sg
  split
  · split
    · exact hm 148 0 rfl
    · exact hm 148 1 rfl
    · exact hm 148 2 rfl
    · exact hm 148 6 rfl
    · exact hm 148 9 rfl
  all_goals exact hm _ k rfl
theorem sk_congr {mi mi' : Nat → Nat → Int} (hm : ∀ k, mi' 176 k = mi 176 k) : sk mi' = sk mi := by
  funext c k
  unfold sk
  split <;> exact hm _
theorem Inv.fr {t t' : Nat} {mi mi' : Nat → Nat → Int} {ml ml' : Nat → Nat → Int64} (h : Inv t mi ml) (ht : t ≤ t') (hR' : gR32 mi') (hm : ∀ a k, grel a k = true → mi' a k = mi a k) (hl : ∀ a k, (24 ≤ a ∧ a < 48) ∨ (77 ≤ a ∧ a < 101) → ml' a k = ml a k) : Inv t' mi' ml' := by
  obtain ⟨hR, hrep, ⟨t1, t2, t3⟩, hfd, hsh, ⟨k1, k2, k3⟩⟩ := h
  have site : ∀ s : Nat, (s = 1 ∨ s = 54) → ∀ d k : Nat, d < 53 → gsr d k = true → mi' (s + d) k = mi (s + d) k := fun s hs d k hd hg => by
    refine hm (s + d) k ?_
    rcases hs with rfl | rfl
    · have h9 : (decide (1 ≤ 1 + d) && decide (1 + d < 54) && gsr (1 + d - 1) k) = true := by
        rw [show 1 + d - 1 = d by omega, hg, decide_eq_true (show 1 ≤ 1 + d by omega), decide_eq_true (show 1 + d < 54 by omega)]
        rfl
      unfold grel
      rw [h9]
      simp only [Bool.or_true, Bool.true_or]
    · have h9 : (decide (54 ≤ 54 + d) && decide (54 + d < 107) && gsr (54 + d - 54) k) = true := by
        rw [show 54 + d - 54 = d by omega, hg, decide_eq_true (show 54 ≤ 54 + d by omega), decide_eq_true (show 54 + d < 107 by omega)]
        rfl
      unfold grel
      rw [h9]
      simp only [Bool.or_true, Bool.true_or]
  refine ⟨hR', ?_, ⟨?_, ?_, fun i hi => ?_⟩, fun i hi => ?_, fun s hs => ?_, ?_, ?_, fun hk => ?_⟩
  · rw [sg_congr hm]
    exact hrep.fr ht (site 1 (Or.inl rfl)) (fun d k h1 h2 => hl _ _ (by omega))
  · rw [hm 132 0 rfl, hm 148 22 rfl]; exact t1
  · rw [hm 148 22 rfl]; exact t2
  · rw [hm 148 22 rfl] at hi
    rw [hm 134 i rfl, hm 164 i rfl]
    exact t3 i hi
  · rw [hm 147 i rfl, hm 159 i rfl]
    have := hfd i hi
    omega
  · have e : ∀ d k, d < 9 → mi' (139 + d) k = mi (139 + d) k := fun d k hd => hm _ _ (by unfold grel; simp only [Bool.or_eq_true, Bool.and_eq_true, decide_eq_true_eq]; omega)
    have e2 : ∀ k, mi' (140 + 2 * s) k = mi (140 + 2 * s) k := fun k => by
      have := e (1 + 2 * s) k (by omega)
      rw [show 139 + (1 + 2 * s) = 140 + 2 * s by omega] at this
      exact this
    have h9 := hsh s hs
    rw [e _ _ (by omega), e _ _ (by omega), hm 172 s rfl, hm 173 s rfl]
    refine ⟨h9.1, h9.2.1, h9.2.2.1, h9.2.2.2.1, h9.2.2.2.2.1, fun i hi => ?_⟩
    rw [e2, hm 174 _ rfl]
    exact h9.2.2.2.2.2 i hi
  · rw [hm 0 8 rfl, hm 148 42 rfl]; exact k1
  · rw [hm 148 42 rfl]; exact k2
  · rw [hm 148 42 rfl] at hk
    rw [sk_congr (fun k => hm 176 k rfl)]
    exact (k3 hk).fr ht (site 54 (Or.inr rfl)) (fun d k h1 h2 => hl _ _ (by omega))
theorem Inv.mono {t : Nat} {mi : Nat → Nat → Int} {ml : Nat → Nat → Int64} (h : Inv t mi ml) : Inv (t + 1) mi ml := h.fr (by omega) h.1 (fun _ _ _ => rfl) (fun _ _ _ => rfl)
theorem gR32_gu {mi : Nat → Nat → Int} (h : gR32 mi) {a k : Nat} {v : Int} (hv : rng v) : gR32 (gu mi a k v) := fun b j => by
  rw [gu_eq]
  split
  · exact hv
  · exact h b j
/-- a finding on both sides -/
theorem Inv.find {t : Nat} {mi : Nat → Nat → Int} {ml : Nat → Nat → Int64} (h : Inv t mi ml) (ht : t < 64) {w : Nat} (hw : w < 7) : Inv (t + 1) (mFd (cFd mi w) w) ml := by
  obtain ⟨hR, hrep, ⟨t1, t2, t3⟩, hfd, hsh, ⟨k1, k2, k3⟩⟩ := h
  have hfw := hfd w hw
  have e159 : cFd mi w 159 w = mi 159 w := gu_other (by decide)
  have hR1 : gR32 (cFd mi w) := gR32_gu hR ⟨by omega, by omega⟩
  have hR2 : gR32 (mFd (cFd mi w) w) := gR32_gu hR1 (by rw [e159]; exact ⟨by omega, by omega⟩)
  have off : ∀ a k, a ≠ 147 → a ≠ 159 → mFd (cFd mi w) w a k = mi a k := fun a k h1 h2 => by
    unfold mFd
    rw [gu_other h2]
    exact gu_other h1
  have site : ∀ s : Nat, (s = 1 ∨ s = 54) → ∀ d k : Nat, d < 53 → mFd (cFd mi w) w (s + d) k = mi (s + d) k := fun s hs d k hd => off _ _ (by omega) (by omega)
  have esg : sg (mFd (cFd mi w) w) = sg mi := by
    funext c k
    unfold sg
    split
    · split <;> exact off _ _ (by decide) (by decide)
    all_goals exact off _ _ (by decide) (by decide)
  have esk : sk (mFd (cFd mi w) w) = sk mi := sk_congr (fun k => off _ _ (by decide) (by decide))
  refine ⟨hR2, ?_, ⟨?_, ?_, fun i hi => ?_⟩, fun i hi => ?_, fun s hs => ?_, ?_, ?_, fun hk => ?_⟩
  · rw [esg]
    exact hrep.fr (by omega) (fun d k hd _ => site 1 (Or.inl rfl) d k hd) (fun _ _ _ _ => rfl)
  · rw [off _ _ (by decide) (by decide), off _ _ (by decide) (by decide)]; exact t1
  · rw [off _ _ (by decide) (by decide)]; exact t2
  · rw [off _ _ (by decide) (by decide)] at hi
    rw [off _ _ (by decide) (by decide), off _ _ (by decide) (by decide)]
    exact t3 i hi
  · have e1 : mFd (cFd mi w) w 147 i = if i = w then mi 147 w + 1 else mi 147 i := by
      unfold mFd
      rw [gu_other (by decide)]
      unfold cFd
      rw [gu_eq]
      by_cases e : i = w <;> simp [e]
    have e2 : mFd (cFd mi w) w 159 i = if i = w then mi 159 w + 1 else mi 159 i := by
      unfold mFd
      rw [gu_eq, e159]
      by_cases e : i = w
      · simp [e]
      · simp only [e, and_false, if_false]
        exact gu_other (by decide)
    rw [e1, e2]
    have := hfd i hi
    split <;> omega
  · have e2 : ∀ d k, d < 8 → mFd (cFd mi w) w (139 + d) k = mi (139 + d) k := fun d k hd => off _ _ (by omega) (by omega)
    have e3 : ∀ k, mFd (cFd mi w) w (140 + 2 * s) k = mi (140 + 2 * s) k := fun k => off _ _ (by omega) (by omega)
    have h9 := hsh s hs
    rw [e2 _ _ (by omega), e2 _ _ (by omega), off _ _ (by decide) (by decide), off _ _ (by decide) (by decide)]
    refine ⟨h9.1, h9.2.1, h9.2.2.1, h9.2.2.2.1, h9.2.2.2.2.1, fun i hi => ?_⟩
    rw [e3, off _ _ (by decide) (by decide)]
    exact h9.2.2.2.2.2 i hi
  · rw [off _ _ (by decide) (by decide), off _ _ (by decide) (by decide)]; exact k1
  · rw [off _ _ (by decide) (by decide)]; exact k2
  · rw [off _ _ (by decide) (by decide)] at hk
    rw [esk]
    exact (k3 hk).fr (by omega) (fun d k hd _ => site 54 (Or.inr rfl) d k hd) (fun _ _ _ _ => rfl)

/-! ===== piece by piece ===== -/
section PC
variable {t t' s : Nat} {mi mi' σ σ' : Nat → Nat → Int} {ml ml' : Nat → Nat → Int64}
theorem Rpi.fr (h : Rpi t s mi σ) (ht : t ≤ t') (hn : σ' 0 2 = σ 0 2) (hb : σ 0 2 ≤ 12) (h1 : ∀ d k : Nat, d < 12 → mi' (s + 11 + d) k = mi (s + 11 + d) k) (h2 : ∀ k, σ' 1 k = σ 1 k) (h3 : ∀ k, σ' 2 k = σ 2 k) (h4 : ∀ k, σ' 3 k = σ 3 k) : Rpi t' s mi' σ' := by
  intro p p0 p1
  rw [hn] at p1
  obtain ⟨d1, d2, d3, d4, d5, d6⟩ := h p p0 p1
  have ev : ∀ w, vPi σ' p w = vPi σ p w := fun w => h2 _
  refine ⟨fun w hw => by rw [h1 _ _ (by omega), ev]; exact d1 w hw, by rw [h1 _ _ (by omega), h4]; exact d2, by rw [h1 _ _ (by omega), h3]; exact d3, ?_, by rw [h4]; omega, by rw [h4, h3]; omega⟩
  unfold QVs at d4 ⊢
  simp only [ev]
  exact d4
theorem Rpa.fr (h : Rpa s mi ml σ) (hn3 : σ' 0 3 = σ 0 3) (hn2 : σ' 0 2 = σ 0 2) (hb : σ 0 3 ≤ 24) (h1 : ∀ d k : Nat, d < 24 → mi' (s + 23 + d) k = mi (s + 23 + d) k) (hl : ∀ d k : Nat, d < 24 → ml' (s + 23 + d) k = ml (s + 23 + d) k) (h2 : ∀ k, σ' 4 k = σ 4 k) : Rpa s mi' ml' σ' := by
  intro a a0 a1
  rw [hn3] at a1
  obtain ⟨d1, d2, d3, d4, d5⟩ := h a a0 a1
  have ev : ∀ w, vOf σ' a w = vOf σ a w := fun w => h2 _
  refine ⟨fun w hw => by rw [h1 _ _ (by omega), ev]; exact d1 w hw, fun w h6 hw => by rw [h1 _ _ (by omega), ev]; exact d2 w h6 hw, ?_, by rw [hl _ _ (by omega), ev, ev]; exact d4, by rw [hl _ _ (by omega), ev, ev]; exact d5⟩
  unfold PVs at d3 ⊢
  simp only [ev, hn2, hn3]
  exact d3
theorem Rdj.fr (h : Rdj σ) (hn3 : σ' 0 3 = σ 0 3) (h2 : ∀ k, σ' 4 k = σ 4 k) : Rdj σ' := by
  have ev : ∀ a w, vOf σ' a w = vOf σ a w := fun a w => h2 _
  unfold Rdj
  simp only [ev, hn3]
  exact h
theorem Rli.fr (h : Rli s mi σ) (h1 : ∀ k, mi' (s + 3) k = mi (s + 3) k) (h2 : ∀ k, σ' 5 k = σ 5 k) : Rli s mi' σ' := fun i hi => by rw [h1, h2]; exact h i hi
theorem Rsp.fr (h : Rsp s mi σ) (hn3 : σ 0 3 ≤ σ' 0 3) (h1 : ∀ k, mi' (s + 4) k = mi (s + 4) k) (h2 : ∀ k, σ' 8 k = σ 8 k) : Rsp s mi' σ' := fun i hi => by
  rw [h1, h2]
  have := h i hi
  omega
theorem Rlw.fr (h : Rlw s mi σ) (h1 : ∀ l k : Nat, l < 2 → mi' (s + 47 + 3 * l) k = mi (s + 47 + 3 * l) k ∧ mi' (s + 48 + 3 * l) k = mi (s + 48 + 3 * l) k) (h2 : ∀ k, σ' 9 k = σ 9 k) (h3 : ∀ k, σ' 10 k = σ 10 k) : Rlw s mi' σ' := by
  have ed : ∀ l k, vDep σ' l k = vDep σ l k := fun l k => by unfold vDep; simp only [h3]
  intro l hl
  obtain ⟨d1, d2, d3⟩ := h l hl
  rw [h2, (h1 l 0 hl).1, (h1 l 1 hl).1]
  refine ⟨d1, d2, fun h9 => ?_⟩
  obtain ⟨f1, f2, f3⟩ := d3 h9
  refine ⟨f1, fun i hi => ?_, by rw [ed]; exact f3⟩
  rw [(h1 l i hl).2, h3, ed]
  exact f2 i hi
theorem Rwa.fr (h : Rwa s mi σ) (h0 : mi' (s + 6) 0 = mi (s + 6) 0) (hn : σ' 0 4 = σ 0 4) (h1 : ∀ k, mi' (s + 7) k = mi (s + 7) k) (h2 : ∀ k, mi' (s + 8) k = mi (s + 8) k) (h3 : ∀ k, σ' 6 k = σ 6 k) (h4 : ∀ k, σ' 7 k = σ 7 k) : Rwa s mi' σ' := by
  unfold Rwa
  simp only [h0, hn, h1, h2, h3, h4]
  exact h
end PC
/-- only the present site and the reference's present rows have changed -/
theorem Inv.live {t t' : Nat} {mi mi' : Nat → Nat → Int} {ml ml' : Nat → Nat → Int64} (h : Inv t mi ml) (ht : t ≤ t') (hR' : gR32 mi') (hoff : ∀ a k : Nat, (54 ≤ a ∧ a < 148) ∨ a = 0 ∨ 159 ≤ a ∨ (a = 148 ∧ (k = 22 ∨ k = 42)) → mi' a k = mi a k) (hl : ∀ a k, 77 ≤ a → a < 101 → ml' a k = ml a k) (hnew : Rep t' 1 mi' ml' (sg mi')) : Inv t' mi' ml' := by
  obtain ⟨hR, hrep, ⟨t1, t2, t3⟩, hfd, hsh, ⟨k1, k2, k3⟩⟩ := h
  have e22 := hoff 148 22 (by omega)
  have e42 := hoff 148 42 (by omega)
  refine ⟨hR', hnew, ⟨by rw [hoff 132 0 (by omega), e22]; exact t1, by rw [e22]; exact t2, fun i hi => ?_⟩, fun i hi => ?_, fun s hs => ?_, by rw [hoff 0 8 (by omega), e42]; exact k1, by rw [e42]; exact k2, fun hk => ?_⟩
  · rw [e22] at hi
    rw [hoff 134 i (by omega), hoff 164 i (by omega)]
    exact t3 i hi
  · rw [hoff 147 i (by omega), hoff 159 i (by omega)]
    have := hfd i hi
    omega
  · have h9 := hsh s hs
    rw [hoff _ 0 (by omega), hoff _ 1 (by omega), hoff 172 s (by omega), hoff 173 s (by omega)]
    refine ⟨h9.1, h9.2.1, h9.2.2.1, h9.2.2.2.1, h9.2.2.2.2.1, fun i hi => ?_⟩
    rw [hoff _ i (by omega), hoff 174 _ (by omega)]
    exact h9.2.2.2.2.2 i hi
  · rw [e42] at hk
    rw [sk_congr (fun k => hoff 176 k (by omega))]
    exact (k3 hk).fr ht (fun d k hd _ => hoff _ _ (by omega)) (fun d k h1 h2 => hl _ _ (by omega) (by omega))
theorem SV.low {mi m1 : Nat → Nat → Int} (h : SV mi) (hR : gR32 m1) (hm : ∀ a k : Nat, 148 ≤ a → m1 a k = mi a k) : SV m1 := by
  have eO : ∀ a w, mOf m1 a w = mOf mi a w := fun a w => hm _ _ (by decide)
  have eP : ∀ a w, mPi m1 a w = mPi mi a w := fun a w => hm _ _ (by decide)
  obtain ⟨-, h0, h2, h3, h4, h5⟩ := h
  refine ⟨hR, by rw [hm _ _ (by decide)]; exact h0, by rw [hm _ _ (by decide)]; exact h2, by rw [hm _ _ (by decide)]; exact h3, fun a a0 a1 => ?_, fun p p0 p1 => ?_⟩
  · rw [hm _ _ (by decide)] at a1
    have := h4 a a0 a1
    unfold PV at this ⊢
    simp only [eO, hm 148 2 (by decide), hm 148 6 (by decide)]
    exact this
  · rw [hm _ _ (by decide)] at p1
    have := h5 p p0 p1
    unfold QV at this ⊢
    simp only [eP]
    exact this
theorem cFd_low {mi : Nat → Nat → Int} {w a k : Nat} (h : 148 ≤ a) : cFd mi w a k = mi a k := gu_other (by omega)
theorem SV.cFd {mi : Nat → Nat → Int} {t : Nat} {ml : Nat → Nat → Int64} (h : Inv t mi ml) (ht : t < 64) {w : Nat} (hw : w < 7) : SV (cFd mi w) := h.SV.low (gR32_gu h.1 (by have := h.2.2.2.1 w hw; exact ⟨by omega, by omega⟩)) (fun _ _ h => cFd_low h)
theorem rB (k : Int) (h : -1000008 < k) (h2 : k < 1000008) : rng k := ⟨by omega, by omega⟩
/-! ===== the two sides' functions are one ===== -/
section EQ
variable {t : Nat} {mi : Nat → Nat → Int} {ml : Nat → Nat → Int64}
theorem eq_stays (h : Rep t 1 mi ml (sg mi)) {a x : Int} (a0 : 0 ≤ a) (a1 : a < mi 148 6) : cStays mi a x = mStays mi a x := by
  obtain ⟨-, -, -, -, c4, c5, -⟩ := h.cA a0 a1
  unfold cStays mStays b2
  rw [c4, c5]
  split <;> split <;> omega
theorem eq_here (h : Rep t 1 mi ml (sg mi)) {a : Int} (a0 : 0 ≤ a) (a1 : a < mi 148 6) : cHere mi a = mHere mi a := by
  obtain ⟨-, -, -, -, -, -, c8, -⟩ := h.cA a0 a1
  have e0 : mi 1 0 = mi 148 0 := h.1.1
  unfold cHere mHere
  rw [eq_stays h a0 a1, c8, e0]
theorem eq_reason (h : Rep t 1 mi ml (sg mi)) {a p : Int} (a0 : 0 ≤ a) (a1 : a < mi 148 6) (p0 : 0 ≤ p) (p1 : p < mi 148 2) : cReason mi a p = mWhy mi a p := by
  obtain ⟨c0, c1, c2, c3, -⟩ := h.cA a0 a1
  obtain ⟨d, -⟩ := h.cP p0 p1
  have hk := (h.2.2.1 a a0 a1).2.2.1.1
  have hk : 0 ≤ mOf mi a 0 ∧ mOf mi a 0 ≤ 4 := hk
  unfold cReason mWhy mLacks b2
  rw [c0, c1, c2, c3, d 2 (by decide), d 4 (by decide), d 5 (by decide), d 6 (by decide)]
  show _ = _
  have w2 : mPi mi p ((2 : Nat) : Int) = mPi mi p 2 := rfl
  have w4 : mPi mi p ((4 : Nat) : Int) = mPi mi p 4 := rfl
  have w5 : mPi mi p ((5 : Nat) : Int) = mPi mi p 5 := rfl
  have w6 : mPi mi p ((6 : Nat) : Int) = mPi mi p 6 := rfl
  rw [w2, w4, w5, w6]
  generalize andI (mOf mi a 3) 1 = x1
  generalize andI (mOf mi a 3) 2 = x2
  generalize andI (mOf mi a 3) 4 = x4
  generalize andI (mPi mi p 6) 1 = y1
  generalize andI (mPi mi p 6) 2 = y2
  generalize andI (mPi mi p 6) 4 = y4
  (repeat' split) <;> omega
theorem gfold_congr {f g : Int → Int → Int} {z : Int} : ∀ {n : Nat}, (∀ k : Nat, k < n → ∀ acc, f k acc = g k acc) → gfold f z n = gfold g z n
  | 0, _ => rfl
  | n + 1, h => by
    show f n (gfold f z n) = g n (gfold g z n)
    rw [gfold_congr (fun k hk => h k (by omega)), h n (by omega)]
theorem bit01 (x h : Int) : andI (shrI x h) 1 = 0 ∨ andI (shrI x h) 1 = 1 := by
  unfold andI
  generalize iI (shrI x h) = w
  have h1 : (w &&& iI 1).toInt = (w.toBitVec &&& 1#32).toInt := by
    show (w &&& 1).toInt = _
    rw [← Int32.toInt_toBitVec, Int32.toBitVec_and]
    rfl
  rw [h1]
  generalize w.toBitVec = b
  have hn : (b &&& 1#32).toNat = b.toNat % 2 := by
    rw [BitVec.toNat_and]
    exact Nat.and_one_is_mod _
  have : b &&& 1#32 = 0#32 ∨ b &&& 1#32 = 1#32 := by
    rcases Nat.mod_two_eq_zero_or_one b.toNat with h | h
    · exact Or.inl (BitVec.eq_of_toNat_eq (by rw [hn, h]; rfl))
    · exact Or.inr (BitVec.eq_of_toNat_eq (by rw [hn, h]; rfl))
  rcases this with h | h <;> rw [h]
  · exact Or.inl rfl
  · exact Or.inr rfl
theorem eq_load (h : Rep t 1 mi ml (sg mi)) (post hour : Int) : cLoad mi post hour (mi 1 3).toNat = mLoad mi post hour (mi 148 6).toNat := by
  have e3 : mi 1 3 = mi 148 6 := h.1.2.2.2.1
  rw [e3]
  unfold cLoad mLoad
  refine gfold_congr (fun k hk acc => ?_)
  have k1 : (k : Int) < mi 148 6 := by omega
  obtain ⟨-, -, -, -, -, -, c8, -, -, c11, c12, -⟩ := h.cA (a := k) (by omega) k1
  have e := eq_here h (a := k) (by omega) k1
  rw [c11, c12, c8, e]
  have hb := bit01 (mOf mi k 9) hour
  by_cases hh : mHere mi k = 0
  · simp only [hh, not_true_eq_false, false_and, and_false, if_false]
    omega
  · have h6 : 0 ≤ mOf mi k 6 := mHere_on hh
    have h7 := (h.2.2.1 k (by omega) k1).2.2.1.2.2.2.2.2.2.2.1
    have h7 : -2 ≤ mOf mi k 6 ∧ mOf mi k 6 < mi 148 2 := h7
    obtain ⟨d, -⟩ := h.cP h6 h7.2
    have d7 : cP mi (mOf mi k 6) 7 = mPost mi k := d 7 (by decide)
    rw [d7]
    generalize andI (shrI (mOf mi k 9) hour) 1 = x at hb ⊢
    (repeat' split) <;> omega
end EQ

/-! ===== feed, sheet, write, copy: what holds again ===== -/
section SH
variable {t : Nat} {mi mi' : Nat → Nat → Int} {ml : Nat → Nat → Int64}
theorem inv_tape {l : List Int} (h : Inv t mi ml) (hR' : gR32 mi') (off : ∀ a k : Nat, a ≠ 132 → a ≠ 134 → a ≠ 164 → (a ≠ 148 ∨ k ≠ 22) → mi' a k = mi a k) (hc : cTp mi' l) (hm : mTp mi' l) (hl : l.length ≤ 120) (hb : ∀ i : Nat, i < l.length → 0 ≤ l.getD i 0 ∧ l.getD i 0 ≤ 255) : Inv (t + 1) mi' ml :=
  h.side (by omega) hR' (fun a k hk => off a k (by omega) (by omega) (by omega) (by omega)) (Itp.of hc hm hl hb) (h.2.2.2.2.1.fr (fun a k hk => off a k (by omega) (by omega) (by omega) (by omega)))
theorem Inv.hzC (h : Inv t mi ml) : ∀ s : Int, 0 ≤ s → s < 4 → (0 ≤ mi (139 + 2 * s.toNat) 1 ∧ mi (139 + 2 * s.toNat) 1 ≤ 60) ∧ True := fun s s0 s1 => by
  obtain ⟨h1, h2, h3, h4, -⟩ := h.2.2.2.2.1 s.toNat (by omega)
  exact ⟨by omega, trivial⟩
theorem Inv.hzM (h : Inv t mi ml) : ∀ s : Int, 0 ≤ s → s < 4 → (0 ≤ mi 173 s.toNat ∧ mi 173 s.toNat ≤ 60) ∧ (mi 172 s.toNat = 0 ∨ mi 172 s.toNat = 8 ∨ mi 172 s.toNat = 16 ∨ mi 172 s.toNat = 32) := fun s s0 s1 => by
  obtain ⟨h1, h2, h3, h4, -⟩ := h.2.2.2.2.1 s.toNat (by omega)
  exact ⟨h4, h3⟩
theorem inv_sh (h : Inv t mi ml) (hR' : gR32 mi') (off : ∀ a k : Nat, (a < 139 ∨ 147 ≤ a) → a ≠ 172 → a ≠ 173 → a ≠ 174 → a ≠ 175 → mi' a k = mi a k) (hs : Ish mi') : Inv (t + 1) mi' ml :=
  h.side (by omega) hR' (fun a k hk => off a k (by omega) (by omega) (by omega) (by omega) (by omega)) (h.2.2.1.fr (fun a k hk => off a k (by omega) (by omega) (by omega) (by omega) (by omega))) hs
theorem cBeg_off {s b q : Int} {a k : Nat} (h1 : a ≠ 139 + 2 * s.toNat ∨ (k ≠ 0 ∧ k ≠ 1)) (h2 : a ≠ 140 + 2 * s.toNat) : cBeg mi s b q a k = mi a k := by
  unfold cBeg cBg0
  rw [gfl_off (Or.inl h2), gu_ne (by omega), gu_ne (by omega)]
theorem mBeg_off {s b q : Int} {a k : Nat} (h1 : a ≠ 172) (h2 : a ≠ 173) (h3 : a ≠ 174) : mBeg mi s b q a k = mi a k := by
  unfold mBeg mBg0
  rw [gfl_off (Or.inl h3), gu_other h2, gu_other h1]
theorem cBeg_R {s b q : Int} (h : gR32 mi) (hb : rng b) (hq : rng q) : gR32 (cBeg mi s b q) := gfl_R (gR32_gu (gR32_gu h hb) hq)
theorem mBeg_R {s b q : Int} (h : gR32 mi) (hb : rng b) (hq : rng q) : gR32 (mBeg mi s b q) := gfl_R (gR32_gu (gR32_gu h hb) hq)
theorem inv_sheet {s b q : Int} (h : Inv t mi ml) (hs : 0 ≤ s ∧ s ≤ 3) (hb : b = 0 ∨ b = 8 ∨ b = 16 ∨ b = 32) (hq : 0 ≤ q ∧ q ≤ 60) (hbq : b = 0 → q = 0) : Inv (t + 1) (mBeg (cBeg mi s b q) s b q) ml := by
  refine inv_sh h (mBeg_R (cBeg_R h.1 ⟨by omega, by omega⟩ ⟨by omega, by omega⟩) ⟨by omega, by omega⟩ ⟨by omega, by omega⟩) (fun a k h1 h2 h3 h4 h5 => by rw [mBeg_off h2 h3 h4, cBeg_off (by omega) (by omega)]) ?_
  intro r hr
  obtain ⟨g1, g2, g3, g4, g5, g6⟩ := h.2.2.2.2.1 r hr
  have e1 : ∀ k, mBeg (cBeg mi s b q) s b q (139 + 2 * r) k = cBeg mi s b q (139 + 2 * r) k := fun k => mBeg_off (by omega) (by omega) (by omega)
  have e2 : ∀ k, mBeg (cBeg mi s b q) s b q (140 + 2 * r) k = cBeg mi s b q (140 + 2 * r) k := fun k => mBeg_off (by omega) (by omega) (by omega)
  by_cases hrs : r = s.toNat
  · subst hrs
    have f0 : cBeg mi s b q (139 + 2 * s.toNat) 0 = b := by unfold cBeg cBg0; rw [gfl_off (by omega), gu_ne (by omega), gu_self]
    have f1 : cBeg mi s b q (139 + 2 * s.toNat) 1 = q := by unfold cBeg cBg0; rw [gfl_off (by omega), gu_self]
    have f2 : mBeg (cBeg mi s b q) s b q 172 s.toNat = b := by unfold mBeg mBg0; rw [gfl_off (by omega), gu_ne (by omega), gu_self]
    have f3 : mBeg (cBeg mi s b q) s b q 173 s.toNat = q := by unfold mBeg mBg0; rw [gfl_off (by omega), gu_self]
    rw [e1, e1, f0, f1, f2, f3]
    refine ⟨rfl, rfl, hb, hq, hbq, fun i hi => ?_⟩
    rw [e2]
    have f4 : cBeg mi s b q (140 + 2 * s.toNat) i = 0 := by unfold cBeg; rw [gfl_in (by omega) (by omega)]
    have f5 : mBeg (cBeg mi s b q) s b q 174 (60 * s.toNat + i) = 0 := by unfold mBeg; rw [gfl_in (by omega) (by omega)]
    rw [f4, f5]
    exact shRel_0 b
  · have f2 : mBeg (cBeg mi s b q) s b q 172 r = mi 172 r := by unfold mBeg mBg0; rw [gfl_off (by omega), gu_ne (by omega), gu_ne (by omega), cBeg_off (by omega) (by omega)]
    have f3 : mBeg (cBeg mi s b q) s b q 173 r = mi 173 r := by unfold mBeg mBg0; rw [gfl_off (by omega), gu_ne (by omega), gu_ne (by omega), cBeg_off (by omega) (by omega)]
    rw [e1, e1, f2, f3, cBeg_off (by omega) (by omega), cBeg_off (by omega) (by omega)]
    refine ⟨g1, g2, g3, g4, g5, fun i hi => ?_⟩
    rw [e2, cBeg_off (by omega) (by omega)]
    have f5 : mBeg (cBeg mi s b q) s b q 174 (60 * r + i) = mi 174 (60 * r + i) := by unfold mBeg mBg0; rw [gfl_off (by omega), gu_ne (by omega), gu_ne (by omega), cBeg_off (by omega) (by omega)]
    rw [f5]
    exact g6 i hi
/-- one number of a sheet on both sides -/
theorem inv_num {s i c m : Int} (h : Inv t mi ml) (hs : 0 ≤ s ∧ s ≤ 3) (hi : 0 ≤ i ∧ i < 60) (hc : rng c) (hm : rng m) (hr : shRel (mi 172 s.toNat) c m) : Inv (t + 1) (gu (gu mi (140 + 2 * s.toNat) i.toNat c) 174 (60 * s + i).toNat m) ml := by
  refine inv_sh h (gR32_gu (gR32_gu h.1 hc) hm) (fun a k h1 h2 h3 h4 h5 => by rw [gu_other h4, gu_other (by omega)]) ?_
  intro r hr4
  obtain ⟨g1, g2, g3, g4, g5, g6⟩ := h.2.2.2.2.1 r hr4
  rw [gu_other (by omega), gu_other (by omega), gu_other (by omega), gu_other (by omega), gu_other (by omega), gu_other (by omega), gu_other (by omega), gu_other (by omega)]
  refine ⟨g1, g2, g3, g4, g5, fun j hj => ?_⟩
  rw [gu_other (by omega)]
  by_cases e : r = s.toNat ∧ j = i.toNat
  · obtain ⟨rfl, rfl⟩ := e
    rw [gu_self, show 60 * s.toNat + i.toNat = (60 * s + i).toNat by omega, gu_self]
    exact hr
  · rw [gu_ne (by omega), gu_ne (by omega), gu_other (by omega)]
    exact g6 j hj
theorem inv_write {s i v : Int} (h : Inv t mi ml) (hs : 0 ≤ s ∧ s ≤ 3) (hi : 0 ≤ i ∧ i < 60) (hv : rng v) (h0 : ¬ mi 172 s.toNat = 0) : Inv (t + 1) (mChg (cChg mi s i v) s i v) ml := by
  obtain ⟨g1, g2, g3, g4, g5, g6⟩ := h.2.2.2.2.1 s.toNat (by omega)
  have e : cChg mi s i v 172 s.toNat = mi 172 s.toNat := gu_other (by omega)
  unfold mChg
  rw [e]
  unfold cChg
  rw [g1]
  rcases g3 with g | g | g | g
  · exact absurd g h0
  · rw [g, if_neg (by omega), if_pos rfl, shl8, i2b_eq]
    exact inv_num h hs hi (rng_toInt _) (by have := shRel_8 v; have := this.1 rfl; exact ⟨by omega, by omega⟩) (by rw [g]; exact shRel_8 v)
  · rw [g, if_neg (by omega), if_neg (by omega), if_pos rfl, shl16, i2s_eq]
    exact inv_num h hs hi (rng_toInt _) (by have := shRel_16 v; have := this.2.1 rfl; exact ⟨by omega, by omega⟩) (by rw [g]; exact shRel_16 v)
  · rw [g, if_pos rfl, if_neg (by omega), if_neg (by omega)]
    exact inv_num h hs hi hv hv (by rw [g]; exact shRel_32 v)
theorem mCpy_R {s u t' v n : Int} (h : gR32 mi) : gR32 (mCpy mi s u t' v n) := gcpy_R (gcpy_R h)
theorem inv_copy {s u r v n : Int} (h : Inv t mi ml) (hs : 0 ≤ s ∧ s ≤ 3) (hr : 0 ≤ r ∧ r ≤ 3) (hb : mi 172 s.toNat = mi 172 r.toNat) (hx : 0 ≤ u ∧ 0 ≤ v ∧ 0 ≤ n ∧ u + n ≤ 60 ∧ v + n ≤ 60) : Inv (t + 1) (mCpy (gcpy mi (140 + 2 * s.toNat) u.toNat (140 + 2 * r.toNat) v.toNat n.toNat) s u r v n) ml := by
  have off : ∀ a k : Nat, a ≠ 140 + 2 * r.toNat → a ≠ 174 → a ≠ 175 → mCpy (gcpy mi (140 + 2 * s.toNat) u.toNat (140 + 2 * r.toNat) v.toNat n.toNat) s u r v n a k = mi a k := fun a k h1 h2 h3 => by
    unfold mCpy mCp1
    rw [gcpy_off (Or.inl h2), gcpy_off (Or.inl h3), gcpy_off (Or.inl h1)]
  refine inv_sh h (mCpy_R (gcpy_R h.1)) (fun a k h1 h2 h3 h4 h5 => off a k (by omega) h4 h5) ?_
  intro q hq
  obtain ⟨g1, g2, g3, g4, g5, g6⟩ := h.2.2.2.2.1 q hq
  rw [off (139 + 2 * q) 0 (by omega) (by omega) (by omega), off (139 + 2 * q) 1 (by omega) (by omega) (by omega), off 172 q (by omega) (by omega) (by omega), off 173 q (by omega) (by omega) (by omega)]
  refine ⟨g1, g2, g3, g4, g5, fun i hi => ?_⟩
  have e1 : mCpy (gcpy mi (140 + 2 * s.toNat) u.toNat (140 + 2 * r.toNat) v.toNat n.toNat) s u r v n (140 + 2 * q) i = gcpy mi (140 + 2 * s.toNat) u.toNat (140 + 2 * r.toNat) v.toNat n.toNat (140 + 2 * q) i := by
    unfold mCpy mCp1
    rw [gcpy_off (Or.inl (by omega)), gcpy_off (Or.inl (by omega))]
  rw [e1]
  by_cases e : q = r.toNat ∧ v.toNat ≤ i ∧ i < v.toNat + n.toNat
  · obtain ⟨rfl, e2, e3⟩ := e
    rw [gcpy_in e2 e3]
    unfold mCpy mCp1
    rw [gcpy_in (by omega) (by omega), gcpy_in (by omega) (by omega), gcpy_off (Or.inl (by omega))]
    obtain ⟨-, -, -, -, -, k6⟩ := h.2.2.2.2.1 s.toNat (by omega)
    have k7 := k6 (u.toNat + (i - v.toNat)) (by omega)
    rw [hb] at k7
    rw [show (60 * s + u).toNat + (0 + (60 * r.toNat + i - (60 * r + v).toNat) - 0) = 60 * s.toNat + (u.toNat + (i - v.toNat)) by omega]
    exact k7
  · rw [gcpy_off (by omega)]
    unfold mCpy mCp1
    rw [gcpy_off (by omega), gcpy_off (by omega), gcpy_off (by omega)]
    exact g6 i hi
end SH

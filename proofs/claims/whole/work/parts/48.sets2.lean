/-! ===== a pitch's number, a scalar, is set on both sides ===== -/
def stP (mi : Nat → Nat → Int) (p : Int) (w : Nat) (v : Int) : Nat → Nat → Int := gu (gu mi (12 + p.toNat) w v) 149 (8 * p + w).toNat v
theorem stP_off {mi : Nat → Nat → Int} {p : Int} {w : Nat} {v : Int} (c k : Nat) (h1 : c ≠ 12 + p.toNat) (h2 : c ≠ 149) : stP mi p w v c k = mi c k := by unfold stP; rw [gu_other h2, gu_other h1]
theorem Inv.setP {t t' : Nat} {mi : Nat → Nat → Int} {ml : Nat → Nat → Int64} {p : Int} {w : Nat} {v : Int} (h : Inv t mi ml) (ht : t ≤ t') (p0 : 0 ≤ p) (p1 : p < mi 148 2) (hw : w < 8) (hrv : rng v) (hq : QVs (sg (stP mi p w v)) p) : Inv t' (stP mi p w v) ml := by
  have hb : mi 148 2 ≤ 12 := h.2.1.1.2.2.2.2.2.1.2
  refine h.live ht (gR32_gu (gR32_gu h.1 hrv) hrv) (fun c k hk => stP_off c k (by omega) (by omega)) (fun _ _ _ _ => rfl) ?_
  refine h.2.1.two (x := 12 + p.toNat) (y := 149) ht (fun c k h1 h2 => stP_off c k h1 h2) (by omega) (by omega) (Or.inr (fun q q0 q1 => ?_)) (Or.inl (by omega)) (Or.inl (by omega)) (Or.inl (by omega)) (Or.inl (by omega)) (Or.inl (by omega))
  have q1 : q < mi 148 2 := by
    have e : sg (stP mi p w v) 0 2 = mi 148 2 := stP_off 148 2 (by omega) (by omega)
    rw [e] at q1
    exact q1
  obtain ⟨d1, d2, d3, d4, d5, d6⟩ := h.2.1.2.1 q q0 q1
  have ev : ∀ x : Int, 0 ≤ x → x < 8 → vPi (sg (stP mi p w v)) q x = if q = p ∧ x = w then v else mPi mi q x := fun x x0 x1 => by
    show stP mi p w v 149 (8 * q + x).toNat = _
    unfold stP
    rw [gu_eq]
    by_cases e : q = p ∧ x = w
    · rw [if_pos e, if_pos ⟨rfl, by rw [e.1, e.2]⟩]
    · rw [if_neg e, if_neg (fun z => e (by have := z.2; omega))]
      exact gu_other (by omega)
  have ec : ∀ k, stP mi p w v (1 + 11 + q.toNat) k = if q = p ∧ k = w then v else mi (1 + 11 + q.toNat) k := fun k => by
    unfold stP
    rw [gu_other (by omega), gu_eq]
    by_cases e : q = p ∧ k = w
    · rw [if_pos e, if_pos ⟨by rw [e.1], e.2⟩]
    · rw [if_neg e, if_neg (fun z => e ⟨by have := z.1; omega, z.2⟩)]
  have e2 : ∀ k, sg (stP mi p w v) 2 k = mi 150 k := fun k => stP_off 150 k (by omega) (by omega)
  have e3 : ∀ k, sg (stP mi p w v) 3 k = mi 151 k := fun k => stP_off 151 k (by omega) (by omega)
  rw [e2, e3]
  refine ⟨fun x hx => ?_, ?_, ?_, ?_, ⟨d5.1, Int.le_trans d5.2 (by omega)⟩, ⟨d6.1, Int.le_trans d6.2 (by omega)⟩⟩
  · rw [ec, ev x (by omega) (by omega)]
    by_cases e : q = p ∧ x = w
    · rw [if_pos e, if_pos ⟨e.1, by omega⟩]
    · rw [if_neg e, if_neg (fun z => e ⟨z.1, by omega⟩)]
      exact d1 x hx
  · rw [ec, if_neg (by omega)]
    exact d2
  · rw [ec, if_neg (by omega)]
    exact d3
  · by_cases e : q = p
    · rw [e]; exact hq
    · unfold QVs at d4 ⊢
      rw [ev 0 (by omega) (by omega), ev 1 (by omega) (by omega), ev 2 (by omega) (by omega), ev 3 (by omega) (by omega), ev 4 (by omega) (by omega), ev 5 (by omega) (by omega), ev 6 (by omega) (by omega), ev 7 (by omega) (by omega)]
      simp only [e, false_and, if_false]
      exact d4
theorem inv_shade {t : Nat} {mi : Nat → Nat → Int} {ml : Nat → Nat → Int64} {p v : Int} (h : Inv t mi ml) (p0 : 0 ≤ p) (p1 : p < mi 148 2) (v0 : 0 ≤ v) (v1 : v ≤ 9) : Inv (t + 1) (gu (gu mi (12 + p.toNat) 4 v) 149 (8 * p + 4).toNat v) ml := by
  refine h.setP (w := 4) (by omega) p0 p1 (by omega) ⟨by omega, by omega⟩ ?_
  have hq := h.SV.2.2.2.2.2 p p0 p1
  have hb : mi 148 2 ≤ 12 := h.2.1.1.2.2.2.2.2.1.2
  unfold QV at hq
  unfold QVs
  have ev : ∀ x : Int, 0 ≤ x → x < 8 → vPi (sg (stP mi p 4 v)) p x = if x = 4 then v else mPi mi p x := fun x x0 x1 => by
    show stP mi p 4 v 149 (8 * p + x).toNat = _
    unfold stP
    rw [gu_eq]
    by_cases e : x = 4
    · rw [if_pos e, if_pos ⟨rfl, by rw [e]; rfl⟩]
    · rw [if_neg e, if_neg (fun z => e (by have := z.2; omega))]
      exact gu_other (by omega)
  rw [ev 0 (by omega) (by omega), ev 1 (by omega) (by omega), ev 2 (by omega) (by omega), ev 3 (by omega) (by omega), ev 4 (by omega) (by omega), ev 5 (by omega) (by omega), ev 6 (by omega) (by omega), ev 7 (by omega) (by omega)]
  simp only [show ¬ (0 : Int) = 4 by omega, show ¬ (1 : Int) = 4 by omega, show ¬ (2 : Int) = 4 by omega, show ¬ (3 : Int) = 4 by omega, show ¬ (5 : Int) = 4 by omega, show ¬ (6 : Int) = 4 by omega, show ¬ (7 : Int) = 4 by omega, if_false, if_true]
  obtain ⟨q0, q1, q2, q3, -, q5, q6, q7⟩ := hq
  exact ⟨q0, q1, q2, q3, ⟨v0, v1⟩, q5, q6, q7⟩
/-- today and till -/
def stT (mi : Nat → Nat → Int) (k : Nat) (v : Int) : Nat → Nat → Int := gu (gu mi 1 k v) 148 k v
theorem Inv.setT {t t' : Nat} {mi : Nat → Nat → Int} {ml : Nat → Nat → Int64} {k : Nat} {v : Int} (h : Inv t mi ml) (ht : t ≤ t') (hk : k < 2) (hrv : rng v) (hv : (k = 0 ∧ 0 ≤ v ∧ v ≤ 99) ∨ (k = 1 ∧ -(299970 * t') ≤ v ∧ v ≤ 299970 * t')) : Inv t' (stT mi k v) ml := by
  have off : ∀ a j : Nat, (a ≠ 1 ∧ a ≠ 148) ∨ j ≠ k → stT mi k v a j = mi a j := fun a j h => by
    unfold stT
    rw [gu_ne (by omega), gu_ne (by omega)]
  refine h.live ht (gR32_gu (gR32_gu h.1 hrv) hrv) (fun c k hk => off c k (by omega)) (fun _ _ _ _ => rfl) ?_
  obtain ⟨rsc, rpi, rpa, rdj, rli, rsp, rlw, rwa⟩ := h.2.1
  have e2 : sg (stT mi k v) 0 2 = sg mi 0 2 := off 148 2 (by omega)
  have e3 : sg (stT mi k v) 0 3 = sg mi 0 3 := off 148 6 (by omega)
  have e4 : sg (stT mi k v) 0 4 = sg mi 0 4 := off 148 9 (by omega)
  refine ⟨?_, rpi.fr ht e2 rsc.2.2.2.2.2.1.2 (fun d k hd => off _ _ (by omega)) (fun k => off 149 k (by omega)) (fun k => off 150 k (by omega)) (fun k => off 151 k (by omega)), rpa.fr e3 e2 rsc.2.2.2.2.2.2.1.2 (fun d k hd => off _ _ (by omega)) (fun _ _ _ => rfl) (fun k => off 152 k (by omega)), rdj.fr e3 (fun k => off 152 k (by omega)), rli.fr (fun k => off 4 k (by omega)) (fun k => off 153 k (by omega)), rsp.fr (by rw [e3]; exact Int.le_refl _) (fun k => off 5 k (by omega)) (fun k => off 156 k (by omega)), rlw.fr (fun l k hl => ⟨off _ _ (by omega), off _ _ (by omega)⟩) (fun k => off 157 k (by omega)) (fun k => off 158 k (by omega)), rwa.fr (off 7 0 (by omega)) e4 (fun k => off 8 k (by omega)) (fun k => off 9 k (by omega)) (fun k => off 154 k (by omega)) (fun k => off 155 k (by omega))⟩
  obtain ⟨c0, c1, c2, c3, c4, c5, c6, c7⟩ := rsc
  have a2 : stT mi k v 1 2 = mi 1 2 := off 1 2 (by omega)
  have a3 : stT mi k v 1 3 = mi 1 3 := off 1 3 (by omega)
  rcases hv with ⟨rfl, v0, v1⟩ | ⟨rfl, v0, v1⟩
  · have b0 : stT mi 0 v 1 0 = v := rfl
    have b1 : stT mi 0 v 1 1 = mi 1 1 := rfl
    refine ⟨rfl, c1, c2, c3, ⟨v0, v1⟩, c5, c6, ?_⟩
    show _ ≤ mi 148 1 ∧ mi 148 1 ≤ _
    have c7 : -(299970 * (t : Int)) ≤ mi 148 1 ∧ mi 148 1 ≤ 299970 * t := c7
    omega
  · refine ⟨c0, rfl, c2, c3, c4, c5, c6, ⟨v0, v1⟩⟩
/-- no washers -/
theorem inv_dry {t : Nat} {mi : Nat → Nat → Int} {ml : Nat → Nat → Int64} (h : Inv t mi ml) : Inv (t + 1) (gu (gu mi 7 0 0) 148 9 0) ml := by
  have r0 : rng 0 := ⟨by decide, by decide⟩
  have off : ∀ a j : Nat, (a ≠ 7 ∧ a ≠ 148) ∨ (a = 148 ∧ j ≠ 9) → gu (gu mi 7 0 0) 148 9 0 a j = mi a j := fun a j h => by
    rw [gu_ne (by omega), gu_ne (by omega)]
  refine h.live (by omega) (gR32_gu (gR32_gu h.1 r0) r0) (fun c k hk => off c k (by omega)) (fun _ _ _ _ => rfl) ?_
  obtain ⟨rsc, rpi, rpa, rdj, rli, rsp, rlw, rwa⟩ := h.2.1
  refine ⟨?_, rpi.fr (by omega) rfl rsc.2.2.2.2.2.1.2 (fun d k hd => off _ _ (by omega)) (fun k => off 149 k (by omega)) (fun k => off 150 k (by omega)) (fun k => off 151 k (by omega)), rpa.fr rfl rfl rsc.2.2.2.2.2.2.1.2 (fun d k hd => off _ _ (by omega)) (fun _ _ _ => rfl) (fun k => off 152 k (by omega)), rdj.fr rfl (fun k => off 152 k (by omega)), rli.fr (fun k => off 4 k (by omega)) (fun k => off 153 k (by omega)), rsp.fr (Int.le_refl _) (fun k => off 5 k (by omega)) (fun k => off 156 k (by omega)), rlw.fr (fun l k hl => ⟨off _ _ (by omega), off _ _ (by omega)⟩) (fun k => off 157 k (by omega)) (fun k => off 158 k (by omega)), ?_⟩
  · obtain ⟨c0, c1, c2, c3, c4, c5, c6, c7⟩ := rsc
    refine ⟨c0, c1, c2, c3, c4, c5, c6, ?_⟩
    show _ ≤ mi 148 1 ∧ mi 148 1 ≤ _
    have c7 : -(299970 * (t : Int)) ≤ mi 148 1 ∧ mi 148 1 ≤ 299970 * t := c7
    omega
  · refine ⟨rfl, ⟨(by show (0 : Int) ≤ 0; omega), (by show (0 : Int) ≤ 20; omega)⟩, fun i hi => ?_, id, fun i hi => ?_, fun i j _ hj => ?_⟩
    · have hi : (i : Int) < 0 := hi
      omega
    · have hi : (i : Int) < 0 := hi
      omega
    · have hj : (j : Int) < 0 := hj
      omega
theorem eq_far {t : Nat} {mi : Nat → Nat → Int} {ml : Nat → Nat → Int64} (h : Rep t 1 mi ml (sg mi)) {p q : Int} (p0 : 0 ≤ p) (p1 : p < mi 148 2) (q0 : 0 ≤ q) (q1 : q < mi 148 2) : cFar mi p q = mFar mi p q := by
  obtain ⟨d, -⟩ := h.cP p0 p1
  obtain ⟨e, -⟩ := h.cP q0 q1
  unfold cFar mFar
  rw [d 0 (by decide), d 1 (by decide), e 0 (by decide), e 1 (by decide), mPx_eq, mPx_eq]
  rfl
theorem mFar_b {mi : Nat → Nat → Int} {p q : Int} (hp : QV mi p) (hq : QV mi q) : 0 ≤ mFar mi p q ∧ mFar mi p q ≤ 198 := by
  obtain ⟨a, b, -⟩ := hp
  obtain ⟨c, d, -⟩ := hq
  unfold mFar absI
  rw [mPx_eq, mPx_eq]
  (repeat' split) <;> omega
theorem eq_apart {t : Nat} {mi : Nat → Nat → Int} {ml : Nat → Nat → Int64} (h : Rep t 1 mi ml (sg mi)) : cApart mi (mi 1 3).toNat = mApart mi (mi 148 6).toNat := by
  have e3 : mi 1 3 = mi 148 6 := h.1.2.2.2.1
  rw [e3]
  unfold cApart mApart
  refine gfold_congr (fun k hk acc => ?_)
  have k1 : (k : Int) < mi 148 6 := by omega
  obtain ⟨-, -, -, -, -, -, c8, c9, -⟩ := h.cA (a := k) (by omega) k1
  have hv := (h.2.2.1 k (by omega) k1).2.2.1.2.2.2.2.2.2.2
  have h8 : (-2 ≤ mOf mi k 6 ∧ mOf mi k 6 < mi 148 2) ∧ (-1 ≤ mOf mi k 7 ∧ mOf mi k 7 < mi 148 6) := ⟨hv.1, hv.2.1⟩
  rw [c8, c9]
  by_cases hn : mOf mi k 7 = -1
  · simp only [hn]
    simp
  · have n0 : 0 ≤ mOf mi k 7 := by omega
    obtain ⟨-, -, -, -, -, -, d8, -⟩ := h.cA n0 h8.2.2
    have hw := (h.2.2.1 _ n0 h8.2.2).2.2.1.2.2.2.2.2.2.2.1
    have hw : -2 ≤ mOf mi (mOf mi k 7) 6 ∧ mOf mi (mOf mi k 7) 6 < mi 148 2 := hw
    rw [d8]
    by_cases g1 : 0 ≤ mOf mi k 6
    · by_cases g2 : 0 ≤ mOf mi (mOf mi k 7) 6
      · rw [eq_far h g1 h8.1.2 g2 hw.2]
        rw [if_pos ⟨hn, g1, g2⟩, if_pos ⟨n0, g1, g2⟩]
      · rw [if_neg (fun z => g2 z.2.2), if_neg (fun z => g2 z.2.2)]
        omega
    · rw [if_neg (fun z => g1 z.2.1), if_neg (fun z => g1 z.2.1)]
      omega
theorem mApart_b {mi : Nat → Nat → Int} (hv : SV mi) : ∀ k : Nat, (k : Int) ≤ mi 148 6 → 0 ≤ mApart mi k ∧ mApart mi k ≤ 198 * k
  | 0, _ => ⟨Int.le_refl 0, Int.le_refl 0⟩
  | k + 1, h => by
    have ih := mApart_b hv k (by omega)
    obtain ⟨-, -, hp, hq, hP, hQ⟩ := hv
    have hb := (hP k (by omega) (by omega)).2.2.2.2.2.2.2
    have e : mApart mi (k + 1) = if 0 ≤ mOf mi k 7 ∧ 0 ≤ mOf mi k 6 ∧ 0 ≤ mOf mi (mOf mi k 7) 6 then mApart mi k + mFar mi (mOf mi k 6) (mOf mi (mOf mi k 7) 6) else mApart mi k + 0 := rfl
    rw [e]
    split
    · rename_i c
      have h2 := (hP _ c.1 hb.2.1.2).2.2.2.2.2.2.2.1
      have := mFar_b (hQ _ c.2.1 hb.1.2) (hQ _ c.2.2 h2.2)
      omega
    · omega

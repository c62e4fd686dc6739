/-! ===== reviews, laws repealed, and functions of both sides alike ===== -/
section S3
variable {t : Nat} {mi : Nat → Nat → Int} {ml : Nat → Nat → Int64}
theorem Inv.starsM (h : Inv t mi ml) (ht : t < 64) : ∀ p : Int, 0 ≤ p → p < mi 148 2 → (0 ≤ mi 151 p.toNat ∧ mi 151 p.toNat ≤ 100) ∧ (0 ≤ mi 150 p.toNat ∧ mi 150 p.toNat ≤ 500) := fun p p0 p1 => by
  obtain ⟨-, -, -, -, d5, d6⟩ := h.2.1.2.1 p p0 p1
  have d5 : 0 ≤ mi 151 p.toNat ∧ mi 151 p.toNat ≤ t := d5
  have d6 : mi 151 p.toNat ≤ mi 150 p.toNat ∧ mi 150 p.toNat ≤ 5 * t := d6
  omega
theorem Inv.starsC (h : Inv t mi ml) (ht : t < 64) : ∀ p : Int, 0 ≤ p → p < mi 1 2 → (0 ≤ cP mi p 8 ∧ cP mi p 8 ≤ 100) ∧ (0 ≤ cP mi p 9 ∧ cP mi p 9 ≤ 500) := fun p p0 p1 => by
  have e2 : mi 1 2 = mi 148 2 := h.2.1.1.2.2.1
  have := h.starsM ht p p0 (by omega)
  obtain ⟨-, d2, d3⟩ := h.2.1.cP p0 (by omega)
  omega
theorem inv_star {t' : Nat} {p r s : Int} (h : Inv t mi ml) (ht : t ≤ t') (p0 : 0 ≤ p) (p1 : p < mi 148 2) (hr0 : 0 ≤ r) (hr1 : r ≤ t') (hs0 : r ≤ s) (hs1 : s ≤ 5 * t') (ht' : t' ≤ 64) : Inv t' (gu (gu (gu (gu mi (12 + p.toNat) 8 r) (12 + p.toNat) 9 s) 150 p.toNat s) 151 p.toNat r) ml := by
  have hb : mi 148 2 ≤ 12 := h.2.1.1.2.2.2.2.2.1.2
  have rr : rng r := ⟨by omega, by omega⟩
  have rs : rng s := ⟨by omega, by omega⟩
  have off : ∀ a j : Nat, a ≠ 12 + p.toNat → a ≠ 150 → a ≠ 151 → gu (gu (gu (gu mi (12 + p.toNat) 8 r) (12 + p.toNat) 9 s) 150 p.toNat s) 151 p.toNat r a j = mi a j := fun a j x y z => by
    rw [gu_other z, gu_other y, gu_other x, gu_other x]
  refine h.live ht (gR32_gu (gR32_gu (gR32_gu (gR32_gu h.1 rr) rs) rs) rr) (fun c k hk => off c k (by omega) (by omega) (by omega)) (fun _ _ _ _ => rfl) ?_
  obtain ⟨rsc, rpi, rpa, rdj, rli, rsp, rlw, rwa⟩ := h.2.1
  have e0 : ∀ k, sg (gu (gu (gu (gu mi (12 + p.toNat) 8 r) (12 + p.toNat) 9 s) 150 p.toNat s) 151 p.toNat r) 0 k = sg mi 0 k := sg0 (fun k => off 148 k (by omega) (by omega) (by omega))
  refine ⟨rsc.fr ht (fun k => off 1 k (by omega) (by omega) (by omega)) e0, fun q q0 q1 => ?_, rpa.fr (e0 3) (e0 2) rsc.2.2.2.2.2.2.1.2 (fun d k hd => off _ _ (by omega) (by omega) (by omega)) (fun _ _ _ => rfl) (fun k => off 152 k (by omega) (by omega) (by omega)), rdj.fr (e0 3) (fun k => off 152 k (by omega) (by omega) (by omega)), rli.fr (fun k => off 4 k (by omega) (by omega) (by omega)) (fun k => off 153 k (by omega) (by omega) (by omega)), rsp.fr (by rw [e0 3]; exact Int.le_refl _) (fun k => off 5 k (by omega) (by omega) (by omega)) (fun k => off 156 k (by omega) (by omega) (by omega)), rlw.fr (fun l k hl => ⟨off _ _ (by omega) (by omega) (by omega), off _ _ (by omega) (by omega) (by omega)⟩) (fun k => off 157 k (by omega) (by omega) (by omega)) (fun k => off 158 k (by omega) (by omega) (by omega)), rwa.fr (off 7 0 (by omega) (by omega) (by omega)) (e0 4) (fun k => off 8 k (by omega) (by omega) (by omega)) (fun k => off 9 k (by omega) (by omega) (by omega)) (fun k => off 154 k (by omega) (by omega) (by omega)) (fun k => off 155 k (by omega) (by omega) (by omega))⟩
  rw [e0 2] at q1
  have q1 : q < mi 148 2 := q1
  obtain ⟨d1, d2, d3, d4, d5, d6⟩ := rpi q q0 q1
  have ec : ∀ k, gu (gu (gu (gu mi (12 + p.toNat) 8 r) (12 + p.toNat) 9 s) 150 p.toNat s) 151 p.toNat r (1 + 11 + q.toNat) k = if q = p ∧ k = 9 then s else if q = p ∧ k = 8 then r else mi (1 + 11 + q.toNat) k := fun k => by
    rw [gu_other (by omega), gu_other (by omega), gu_eq, gu_eq]
    by_cases e : q = p
    · simp only [e, true_and]
    · rw [if_neg (by omega), if_neg (by omega), if_neg (fun z => e z.1), if_neg (fun z => e z.1)]
  have ea : sg (gu (gu (gu (gu mi (12 + p.toNat) 8 r) (12 + p.toNat) 9 s) 150 p.toNat s) 151 p.toNat r) 3 q.toNat = if q = p then r else mi 151 q.toNat := by
    show gu (gu (gu (gu mi (12 + p.toNat) 8 r) (12 + p.toNat) 9 s) 150 p.toNat s) 151 p.toNat r 151 q.toNat = _
    rw [gu_eq]
    by_cases e : q = p
    · simp only [e, and_self, if_true]
    · rw [if_neg (by omega), if_neg e, gu_other (by decide), gu_other (by omega), gu_other (by omega)]
  have eb : sg (gu (gu (gu (gu mi (12 + p.toNat) 8 r) (12 + p.toNat) 9 s) 150 p.toNat s) 151 p.toNat r) 2 q.toNat = if q = p then s else mi 150 q.toNat := by
    show gu (gu (gu (gu mi (12 + p.toNat) 8 r) (12 + p.toNat) 9 s) 150 p.toNat s) 151 p.toNat r 150 q.toNat = _
    rw [gu_other (by decide), gu_eq]
    by_cases e : q = p
    · simp only [e, and_self, if_true]
    · rw [if_neg (by omega), if_neg e, gu_other (by omega), gu_other (by omega)]
  have e1 : ∀ k, sg (gu (gu (gu (gu mi (12 + p.toNat) 8 r) (12 + p.toNat) 9 s) 150 p.toNat s) 151 p.toNat r) 1 k = mi 149 k := fun k => off 149 k (by omega) (by omega) (by omega)
  have ev : ∀ x : Int, vPi (sg (gu (gu (gu (gu mi (12 + p.toNat) 8 r) (12 + p.toNat) 9 s) 150 p.toNat s) 151 p.toNat r)) q x = vPi (sg mi) q x := fun x => e1 _
  have d2 : mi (1 + 11 + q.toNat) 8 = mi 151 q.toNat := d2
  have d3 : mi (1 + 11 + q.toNat) 9 = mi 150 q.toNat := d3
  have d5 : 0 ≤ mi 151 q.toNat ∧ mi 151 q.toNat ≤ t := d5
  have d6 : mi 151 q.toNat ≤ mi 150 q.toNat ∧ mi 150 q.toNat ≤ 5 * t := d6
  rw [ea, eb]
  refine ⟨fun w hw => ?_, ?_, ?_, ?_, ?_, ?_⟩
  · rw [ec, if_neg (by omega), if_neg (by omega), ev]
    exact d1 w hw
  · rw [ec, if_neg (by omega)]
    by_cases e : q = p
    · rw [if_pos ⟨e, rfl⟩, if_pos e]
    · rw [if_neg (fun z => e z.1), if_neg e]; exact d2
  · rw [ec]
    by_cases e : q = p
    · rw [if_pos ⟨e, rfl⟩, if_pos e]
    · rw [if_neg (fun z => e z.1), if_neg (fun z => e z.1), if_neg e]; exact d3
  · unfold QVs
    simp only [ev]
    exact d4
  · split <;> omega
  · split <;> omega
theorem inv_review {a v : Int} (h : Inv t mi ml) (ht : t < 64) (a0 : 0 ≤ a) (a1 : a < mi 148 6) (v0 : 1 ≤ v) (v1 : v ≤ 5) {p r s : Int} (hp : p = mOf mi a 6) (p0 : 0 ≤ p) (hr : r = mi 151 p.toNat + 1) (hs : s = mi 150 p.toNat + v) : Inv (t + 1) (gu (gu (gu (gu (gu (gu mi (24 + a.toNat) 13 1) (12 + p.toNat) 8 r) (12 + p.toNat) 9 s) 152 (12 * a + 11).toNat 1) 150 p.toNat s) 151 p.toNat r) ml := by
  have hq : mi 148 6 ≤ 24 := h.2.1.1.2.2.2.2.2.2.1.2
  have hb : mi 148 2 ≤ 12 := h.2.1.1.2.2.2.2.2.1.2
  have hpv := (h.SV.2.2.2.2.1 a a0 a1).2.2.2.2.2.2.2.1
  obtain ⟨-, -, -, -, d5, d6⟩ := h.2.1.2.1 p p0 (by rw [hp]; exact hpv.2)
  have d5 : 0 ≤ mi 151 p.toNat ∧ mi 151 p.toNat ≤ t := d5
  have d6 : mi 151 p.toNat ≤ mi 150 p.toNat ∧ mi 150 p.toNat ≤ 5 * t := d6
  have h1 : Inv (t + 1) (stA mi a 11 1) ml := h.setA (by omega) a0 a1 (by omega) (by omega) ⟨by omega, by omega⟩ (fun c c0 c1 => stA_PV a0 (by omega) (by omega) c0 (h.SV.2.2.2.2.1 c c0 c1) (Or.inr (Or.inr (Or.inr (Or.inr (Or.inr (Or.inr ⟨rfl, Or.inr rfl⟩))))))) (stA_dj a0 (by omega) (by omega) (by omega) h.2.1.2.2.2.1)
  have e2 : stA mi a 11 1 148 2 = mi 148 2 := stA_off 148 2 (by omega) (by omega)
  have h2 := inv_star (p := p) (r := r) (s := s) h1 (Nat.le_refl _) p0 (by rw [e2, hp]; exact hpv.2) (by omega) (by omega) (by omega) (by omega) (by omega)
  have e : gu (gu (gu (gu (gu (gu mi (24 + a.toNat) 13 1) (12 + p.toNat) 8 r) (12 + p.toNat) 9 s) 152 (12 * a + 11).toNat 1) 150 p.toNat s) 151 p.toNat r = gu (gu (gu (gu (stA mi a 11 1) (12 + p.toNat) 8 r) (12 + p.toNat) 9 s) 150 p.toNat s) 151 p.toNat r := by
    unfold stA
    have pb : 12 + p.toNat ≠ 152 := by omega
    rw [gu_comm (f := gu (gu mi (24 + a.toNat) 13 1) (12 + p.toNat) 8 r) (a := 12 + p.toNat) (b := 152) pb, gu_comm (f := gu mi (24 + a.toNat) 13 1) (a := 12 + p.toNat) (b := 152) pb]
    rfl
  rw [e]
  exact h2
theorem inv_repeal {l : Int} (h : Inv t mi ml) (l0 : 0 ≤ l) (l1 : l ≤ 1) : Inv (t + 1) (gu (gu mi (48 + 3 * l.toNat) 0 0) 157 l.toNat 0) ml := by
  have r0 : rng 0 := ⟨by decide, by decide⟩
  have off : ∀ a k : Nat, a ≠ 48 + 3 * l.toNat → a ≠ 157 → gu (gu mi (48 + 3 * l.toNat) 0 0) 157 l.toNat 0 a k = mi a k := fun a k x y => by rw [gu_other y, gu_other x]
  refine h.live (by omega) (gR32_gu (gR32_gu h.1 r0) r0) (fun a k hk => off a k (by omega) (by omega)) (fun _ _ _ _ => rfl) ?_
  refine h.2.1.two (x := 48 + 3 * l.toNat) (y := 157) (by omega) off (by omega) (by omega) (Or.inl (by omega)) (Or.inl (by omega)) (Or.inl (by omega)) (Or.inl (by omega)) (Or.inr (fun j hj => ?_)) (Or.inl (by omega))
  have e9 : sg (gu (gu mi (48 + 3 * l.toNat) 0 0) 157 l.toNat 0) 9 j = if j = l.toNat then 0 else mi 157 j := by
    show gu (gu mi (48 + 3 * l.toNat) 0 0) 157 l.toNat 0 157 j = _
    rw [gu_eq]
    by_cases e : j = l.toNat
    · simp [e]
    · rw [if_neg (fun z => e z.2), if_neg e, gu_other (by omega)]
  have e10 : sg (gu (gu mi (48 + 3 * l.toNat) 0 0) 157 l.toNat 0) 10 = sg mi 10 := by
    funext k
    exact off 158 k (by omega) (by omega)
  have ev : ∀ k, vDep (sg (gu (gu mi (48 + 3 * l.toNat) 0 0) 157 l.toNat 0)) j k = vDep (sg mi) j k := fun k => by
    unfold vDep
    rw [e10]
  have ec : ∀ c k, gu (gu mi (48 + 3 * l.toNat) 0 0) 157 l.toNat 0 (1 + 47 + 3 * c) k = if c = l.toNat ∧ k = 0 then 0 else mi (1 + 47 + 3 * c) k := fun c k => by
    by_cases hc : 1 + 47 + 3 * c = 157
    · omega
    · rw [gu_other hc, gu_eq]
      by_cases e : c = l.toNat
      · simp only [e, true_and]
      · rw [if_neg (by omega), if_neg (fun z => e z.1)]
  have h9 := h.2.1.2.2.2.2.2.2.1 j hj
  have ec1 : gu (gu mi (48 + 3 * l.toNat) 0 0) 157 l.toNat 0 (1 + 47 + 3 * j) 1 = mi (1 + 47 + 3 * j) 1 := by
    rw [ec, if_neg (by omega)]
  rw [e9, ec1, ec]
  by_cases e : j = l.toNat
  · rw [if_pos e, if_pos ⟨e, rfl⟩]
    refine ⟨rfl, ⟨⟨by omega, by omega⟩, h9.2.1.2⟩, fun z => by omega⟩
  · rw [if_neg e, if_neg (fun z => e z.1)]
    refine ⟨h9.1, h9.2.1, fun z => ?_⟩
    obtain ⟨g1, g2, g3⟩ := h9.2.2 z
    refine ⟨g1, fun i hi => ?_, by rw [ev]; exact g3⟩
    rw [ev, e10, off _ i (by omega) (by omega)]
    exact g2 i hi
theorem eq_wet (h : Rep t 1 mi ml (sg mi)) (w : Int) : cWetS mi w (mi 1 3).toNat = mWetS mi w (mi 148 6).toNat := by
  have e3 : mi 1 3 = mi 148 6 := h.1.2.2.2.1
  rw [e3]
  refine gset_eq _ _ _ (fun k hk => ?_)
  have k1 : (k : Int) < mi 148 6 := by omega
  obtain ⟨-, -, -, -, -, -, c8, -⟩ := h.cA (a := k) (by omega) k1
  have e := eq_here h (a := k) (by omega) k1
  show ¬ cWet mi k w = 0 ↔ ¬ mWet mi k w = 0
  unfold cWet mWet b2
  rw [e, c8]
  by_cases hh : mHere mi k = 0
  · simp [hh]
  · have h6 : 0 ≤ mOf mi k 6 := mHere_on hh
    have h7 := (h.2.2.1 k (by omega) k1).2.2.1.2.2.2.2.2.2.2.1
    have h7 : -2 ≤ mOf mi k 6 ∧ mOf mi k 6 < mi 148 2 := h7
    obtain ⟨d, -⟩ := h.cP h6 h7.2
    have d3 : cP mi (mOf mi k 6) 3 = mPi mi (mOf mi k 6) 3 := d 3 (by decide)
    rw [d3]
theorem eq_trips (h : Rep t 1 mi ml (sg mi)) {post : Int} (p0 : 0 ≤ post) (p1 : post ≤ 3) : cTripS mi post 24 = mTripS mi post 24 := by
  refine gset_eq _ _ _ (fun k hk => ?_)
  show mi 4 post.toNat < cLoad mi post k (mi 1 3).toNat ↔ mi 153 post.toNat < mLoad mi post k (mi 148 6).toNat
  rw [eq_load h]
  have := (h.2.2.2.2.1 post.toNat (by omega)).1
  have this : mi 4 post.toNat = mi 153 post.toNat := this
  rw [this]
theorem eq_hereN (h : Rep t 1 mi ml (sg mi)) : cHereN mi (mi 1 3).toNat = mHereN mi (mi 148 6).toNat := by
  have e3 : mi 1 3 = mi 148 6 := h.1.2.2.2.1
  rw [e3]
  refine gfold_congr (fun k hk acc => ?_)
  rw [eq_here h (a := k) (by omega) (by omega), Int.add_zero]
theorem eq_waitN (h : Rep t 1 mi ml (sg mi)) : cWaitN mi (mi 1 3).toNat = mWaitN mi (mi 148 6).toNat := by
  have e3 : mi 1 3 = mi 148 6 := h.1.2.2.2.1
  rw [e3]
  refine gfold_congr (fun k hk acc => ?_)
  rw [(h.cA (a := k) (by omega) (by omega)).2.2.2.2.2.2.1, Int.add_zero]
theorem gfold_01 {f : Int → Int → Int} (hf : ∀ k acc, f k acc = acc + 1 ∨ f k acc = acc) : ∀ n : Nat, 0 ≤ gfold f 0 n ∧ gfold f 0 n ≤ n
  | 0 => ⟨Int.le_refl 0, Int.le_refl 0⟩
  | n + 1 => by
    have := gfold_01 hf n
    have h2 := hf n (gfold f 0 n)
    show 0 ≤ f n (gfold f 0 n) ∧ f n (gfold f 0 n) ≤ ((n + 1 : Nat) : Int)
    omega
theorem cHereN_rng (h : CV mi) : rng (cHereN mi (mi 1 3).toNat) := by
  have h3 := h.2.2.2.1
  have := gfold_01 (f := fun a acc => if ¬ cHere mi a = 0 then acc + 1 else acc) (fun k acc => by split <;> simp) (mi 1 3).toNat
  unfold cHereN
  exact ⟨by omega, by omega⟩
theorem cWaitN_rng (h : CV mi) : rng (cWaitN mi (mi 1 3).toNat) := by
  have h3 := h.2.2.2.1
  have := gfold_01 (f := fun a acc => if cA mi a 8 = -1 then acc + 1 else acc) (fun k acc => by split <;> simp) (mi 1 3).toNat
  unfold cWaitN
  exact ⟨by omega, by omega⟩
theorem eq_stat (h : Inv t mi ml) : cStat mi 7 = mStat mi (-1) 7 := by
  refine gfold_congr (fun k hk acc => ?_)
  rw [if_pos (Or.inl (by omega))]
  show acc + mi 147 k = acc + mi 159 k
  rw [(h.2.2.2.1 k hk).1]
theorem eq_stat1 (h : Inv t mi ml) {x : Int} (x0 : 0 ≤ x) (x1 : x ≤ 6) : mi 147 x.toNat = mStat mi x 7 := by
  rw [(h.2.2.2.1 x.toNat (by omega)).1]
  rcases (show x = 0 ∨ x = 1 ∨ x = 2 ∨ x = 3 ∨ x = 4 ∨ x = 5 ∨ x = 6 by omega) with rfl | rfl | rfl | rfl | rfl | rfl | rfl <;> simp [mStat, gfold]
theorem stat_rng (h : Inv t mi ml) (ht : t < 64) : rng (cStat mi 7) := by
  have h0 := h.2.2.2.1 0 (by decide)
  have h1 := h.2.2.2.1 1 (by decide)
  have h2 := h.2.2.2.1 2 (by decide)
  have h3 := h.2.2.2.1 3 (by decide)
  have h4 := h.2.2.2.1 4 (by decide)
  have h5 := h.2.2.2.1 5 (by decide)
  have h6 := h.2.2.2.1 6 (by decide)
  have e : cStat mi 7 = 0 + mi 147 0 + mi 147 1 + mi 147 2 + mi 147 3 + mi 147 4 + mi 147 5 + mi 147 6 := rfl
  rw [e]
  exact ⟨by omega, by omega⟩
/-- the kept image is torn -/
theorem inv_tear (h : Inv t mi ml) : Inv (t + 1) (gu (gu mi 0 8 0) 148 42 0) ml := by
  have r0 : rng 0 := ⟨by decide, by decide⟩
  obtain ⟨hR, hrep, ⟨t1, t2, t3⟩, hfd, hsh, -⟩ := h
  have off : ∀ a k : Nat, a ≠ 0 → (a ≠ 148 ∨ k ≠ 42) → gu (gu mi 0 8 0) 148 42 0 a k = mi a k := fun a k x y => by rw [gu_ne y, gu_other x]
  have esg : sg (gu (gu mi 0 8 0) 148 42 0) = sg mi := by
    funext c k
    unfold sg
    split
    · split <;> rfl
    all_goals rfl
  refine ⟨gR32_gu (gR32_gu hR r0) r0, ?_, ⟨t1, t2, t3⟩, fun i hi => ?_, fun s hs => ?_, rfl, Or.inl rfl, fun hk => ?_⟩
  · rw [esg]
    exact hrep.fr (by omega) (fun d k hd _ => off _ _ (by omega) (by omega)) (fun _ _ _ _ => rfl)
  · have := hfd i hi
    rw [off 147 i (by decide) (by omega), off 159 i (by decide) (by omega)]
    omega
  · have h9 := hsh s hs
    rw [off _ 0 (by omega) (by omega), off _ 1 (by omega) (by omega), off 172 s (by omega) (by omega), off 173 s (by omega) (by omega)]
    refine ⟨h9.1, h9.2.1, h9.2.2.1, h9.2.2.2.1, h9.2.2.2.2.1, fun i hi => ?_⟩
    rw [off _ i (by omega) (by omega), off 174 _ (by omega) (by omega)]
    exact h9.2.2.2.2.2 i hi
  · have hk : (0 : Int) = 1 := hk
    omega
end S3

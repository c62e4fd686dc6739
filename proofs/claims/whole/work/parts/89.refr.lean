/-! ===== the rescue, reference: 168 moved, 169 wetOnes ===== -/
section MX
variable {can : Nat → Nat → Bool} {w : Nat}
theorem mMax_ex (k : Nat) (S : Nat → Bool) : ∃ n, mMax can w k S n := by
  have key : ∀ e n : Nat, 12 - n ≤ e → (∃ f, mVal can w k S f ∧ mCnt f = n) → ∃ n', mMax can w k S n' := by
    intro e
    induction e with
    | zero =>
      rintro n hn ⟨f, f1, f2⟩
      refine ⟨n, ⟨f, f1, f2⟩, fun g hg => ?_⟩
      have : mCnt g ≤ 12 := cntB_le _ _
      omega
    | succ e ih =>
      rintro n hn ⟨f, f1, f2⟩
      by_cases c : ∃ g, mVal can w k S g ∧ n < mCnt g
      · obtain ⟨g, g1, g2⟩ := c
        exact ih (mCnt g) (by omega) ⟨g, g1, rfl⟩
      · refine ⟨n, ⟨f, f1, f2⟩, fun g hg => ?_⟩
        by_cases c2 : n < mCnt g
        · exact absurd ⟨g, hg, c2⟩ c
        · omega
  exact key 12 0 (by omega) ⟨fun _ => -1, mVal_none _ (fun _ _ => by omega), mCnt_none (fun _ _ => by omega)⟩
theorem mVal_S {k : Nat} {S S' : Nat → Bool} (h : ∀ p, p < 12 → S p = S' p) {f : Nat → Int} (hf : mVal can w k S f) : mVal can w k S' f := ⟨fun p hp h0 => by have := hf.1 p hp h0; rw [h p hp] at this; exact this, hf.2⟩
theorem mMax_S {k n : Nat} {S S' : Nat → Bool} (h : ∀ p, p < 12 → S p = S' p) (hm : mMax can w k S n) : mMax can w k S' n := by
  obtain ⟨⟨f, f1, f2⟩, h2⟩ := hm
  exact ⟨⟨f, mVal_S h f1, f2⟩, fun g hg => h2 g (mVal_S (fun p hp => (h p hp).symm) hg)⟩
theorem mMax_can {can' : Nat → Nat → Bool} {k n : Nat} {S : Nat → Bool} (h : ∀ i p, i < w → p < 12 → can i p = can' i p) (hm : mMax can w k S n) : mMax can' w k S n := by
  have cv : ∀ {c c' : Nat → Nat → Bool}, (∀ i p, i < w → p < 12 → c i p = c' i p) → ∀ {f : Nat → Int}, mVal c w k S f → mVal c' w k S f := fun hc f hf => ⟨fun p hp h0 => by
    have := hf.1 p hp h0
    rw [hc _ _ this.2.1 hp] at this
    exact this, hf.2⟩
  obtain ⟨⟨f, f1, f2⟩, h2⟩ := hm
  exact ⟨⟨f, cv h f1, f2⟩, fun g hg => h2 g (cv (fun i p hi hp => (h i p hi hp).symm) hg)⟩
/-- none of the pitches is the goal: as many can be moved without it -/
theorem mMax_drop {k : Nat} {S : Nat → Bool} {n : Nat} (h : mMax can w k S n) (hno : ∀ p, p < 12 → can k p = true → S p = false → ∀ d, mMax can w (k + 1) (fun q => S q || decide (q = p)) d → ¬ 1 + d = n) : mMax can w (k + 1) S n := by
  obtain ⟨⟨f, f1, f2⟩, h2⟩ := h
  have hup : ∀ g, mVal can w (k + 1) S g → mCnt g ≤ n := fun g hg => h2 g ⟨fun p hp h0 => by have := hg.1 p hp h0; exact ⟨by omega, this.2⟩, hg.2⟩
  by_cases hu : ∃ p, p < 12 ∧ f p = (k : Int)
  · exfalso
    obtain ⟨p, hp, e⟩ := hu
    have hv := f1.1 p hp (by omega)
    rw [e, show ((k : Nat) : Int).toNat = k by omega] at hv
    obtain ⟨d, hd⟩ := mMax_ex (can := can) (w := w) (k + 1) (fun q => S q || decide (q = p))
    have hle := hd.2 (fun i => if i = p then -1 else f i) ⟨fun i hi => (by
      by_cases ei : i = p
      · simp only [if_pos ei]; intro q; omega
      · simp only [if_neg ei]
        intro q
        have := f1.1 i hi q
        have hne : f i ≠ (k : Int) := fun z => ei (f1.2 i p hi hp q (z.trans e.symm))
        refine ⟨by omega, this.2.1, this.2.2.1, ?_⟩
        rw [this.2.2.2, decide_eq_false ei]
        rfl), fun i j hi hj => (by
      by_cases ei : i = p
      · simp only [if_pos ei]; intro q; omega
      · simp only [if_neg ei]
        by_cases ej : j = p
        · simp only [if_pos ej]; intro q0 q; omega
        · simp only [if_neg ej]; exact f1.2 i j hi hj)⟩
    have hc := mCnt_upd (f := f) (p := p) (v := -1) hp
    rw [decide_eq_true (show 0 ≤ f p by omega), decide_eq_false (by omega)] at hc
    simp only [Bool.toNat_true, Bool.toNat_false] at hc
    -- with it, no more than n
    obtain ⟨⟨g, g1, g2⟩, -⟩ := hd
    have hg := h2 (fun i => if i = p then (k : Int) else g i) ⟨fun i hi => (by
      by_cases ei : i = p
      · simp only [if_pos ei]
        intro _
        rw [ei, show ((k : Nat) : Int).toNat = k by omega]
        exact ⟨Nat.le_refl _, hv.2.1, hv.2.2⟩
      · simp only [if_neg ei]
        intro q
        have := g1.1 i hi q
        refine ⟨by omega, this.2.1, this.2.2.1, ?_⟩
        have h4 := this.2.2.2
        simp only [Bool.or_eq_false_iff] at h4
        exact h4.1), fun i j hi hj => (by
      by_cases ei : i = p
      · by_cases ej : j = p
        · intros; omega
        · simp only [if_pos ei, if_neg ej]
          intro _ q
          have := (g1.1 j hj (by omega)).1
          omega
      · by_cases ej : j = p
        · simp only [if_neg ei, if_pos ej]
          intro q0 q
          have := (g1.1 i hi q0).1
          omega
        · simp only [if_neg ei, if_neg ej]
          exact g1.2 i j hi hj)⟩
    have gp : ¬ 0 ≤ g p := fun q => by
      have := (g1.1 p hp q).2.2.2
      simp at this
    have hc2 := mCnt_upd (f := g) (p := p) (v := (k : Int)) hp
    rw [decide_eq_false gp, decide_eq_true (show (0 : Int) ≤ (k : Int) by omega)] at hc2
    simp only [Bool.toNat_true, Bool.toNat_false] at hc2
    refine hno p hp hv.2.2.1 hv.2.2.2 d ⟨⟨g, g1, g2⟩, ?_⟩ (by omega)
    intro f' hf'
    -- again the most
    by_cases hz : mCnt f' ≤ d
    · exact hz
    · exfalso
      have hg' := h2 (fun i => if i = p then (k : Int) else f' i) ⟨fun i hi => (by
        by_cases ei : i = p
        · simp only [if_pos ei]
          intro _
          rw [ei, show ((k : Nat) : Int).toNat = k by omega]
          exact ⟨Nat.le_refl _, hv.2.1, hv.2.2⟩
        · simp only [if_neg ei]
          intro q
          have := hf'.1 i hi q
          refine ⟨by omega, this.2.1, this.2.2.1, ?_⟩
          have h4 := this.2.2.2
          simp only [Bool.or_eq_false_iff] at h4
          exact h4.1), fun i j hi hj => (by
        by_cases ei : i = p
        · by_cases ej : j = p
          · intros; omega
          · simp only [if_pos ei, if_neg ej]
            intro _ q
            have := (hf'.1 j hj (by omega)).1
            omega
        · by_cases ej : j = p
          · simp only [if_neg ei, if_pos ej]
            intro q0 q
            have := (hf'.1 i hi q0).1
            omega
          · simp only [if_neg ei, if_neg ej]
            exact hf'.2 i j hi hj)⟩
      have gp' : ¬ 0 ≤ f' p := fun q => by
        have := (hf'.1 p hp q).2.2.2
        simp at this
      have hc3 := mCnt_upd (f := f') (p := p) (v := (k : Int)) hp
      rw [decide_eq_false gp', decide_eq_true (show (0 : Int) ≤ (k : Int) by omega)] at hc3
      simp only [Bool.toNat_true, Bool.toNat_false] at hc3
      omega
  · exact ⟨⟨f, ⟨fun p hp q => (by
      have := f1.1 p hp q
      have hne : f p ≠ (k : Int) := fun z => hu ⟨p, hp, z⟩
      exact ⟨by omega, this.2⟩), f1.2⟩, f2⟩, hup⟩
theorem ib_addf (S : Int) {p : Nat} (hp : p < 12) : ∀ q, q < 12 → (fun q => ib S q || decide (q = p)) q = ib (orI S (shlI 1 (p : Nat))) q := fun q hq => (ib_add S hp hq).symm
theorem rSq_max {al : Int} {zs : Nat → Int} {z : Nat} (hal : al = z) (h0 : mMax can w 0 (ib 0) z) : ∀ k : Nat, k ≤ w → rSq can w al zs k → ∃ d : Nat, sL zs al k = d ∧ mMax can w k (ib (sS zs k)) d
  | 0, _, _ => ⟨z, hal, h0⟩
  | k + 1, hk, hq => by
    obtain ⟨d, hd1, hd2⟩ := rSq_max hal h0 k (by omega) (fun i hi => hq i (by omega))
    have hg := hq k (by omega)
    show ∃ d : Nat, (if zs k < 0 then sL zs al k else sL zs al k - 1) = d ∧ mMax can w (k + 1) (ib (if zs k < 0 then sS zs k else orI (sS zs k) (shlI 1 (zs k)))) d
    rcases hg with ⟨g1, g2⟩ | ⟨g1, ⟨c1, c2, d', c3, c4⟩, -⟩
    · rw [if_pos (by omega), if_pos (by omega)]
      refine ⟨d, hd1, mMax_drop hd2 (fun p hp h1 h2 d' hd' e => g2 p hp ⟨h1, h2, d', mMax_S (ib_addf _ hp) hd', by omega⟩)⟩
    · rw [if_neg (by omega), if_neg (by omega)]
      refine ⟨d', by omega, ?_⟩
      rw [show ((zs k).toNat : Int) = zs k by omega] at c3
      exact c3
theorem rSq_u {can' : Nat → Nat → Bool} {al : Int} {zs zs' : Nat → Int} (hc : ∀ i p, i < w → p < 12 → can i p = can' i p) (h : rSq can w al zs w) (h' : rSq can' w al zs' w) : ∀ k, k ≤ w → ∀ j, j < k → zs j = zs' j
  | 0, _, j, hj => absurd hj (by omega)
  | k + 1, hk, j, hj => by
    have ih := rSq_u hc h h' k (by omega)
    by_cases e : j = k
    · subst e
      have a := h j (by omega)
      have b := h' j (by omega)
      rw [← sS_c ih, ← sL_c ih] at b
      have cv : ∀ p, p < 12 → (rCh can' w j (sS zs j) (sL zs al j) p ↔ rCh can w j (sS zs j) (sL zs al j) p) := fun p hp => by
        unfold rCh
        rw [hc j p (by omega) hp]
        constructor
        · rintro ⟨x1, x2, d, x3, x4⟩
          exact ⟨x1, x2, d, mMax_can (fun i p hi hp => (hc i p hi hp).symm) x3, x4⟩
        · rintro ⟨x1, x2, d, x3, x4⟩
          exact ⟨x1, x2, d, mMax_can hc x3, x4⟩
      refine rGoal_u a ?_
      rcases b with ⟨b1, b2⟩ | ⟨b1, b2, b3⟩
      · exact Or.inl ⟨b1, fun p hp q => b2 p hp ((cv p hp).mpr q)⟩
      · exact Or.inr ⟨b1, (cv _ (by omega)).mp b2, fun p hp q => b3 p hp ((cv p (by omega)).mpr q)⟩
    · exact ih j (by omega)
end MX
def mRWn (mi : Nat → Nat → Int) (x : Int) (k : Nat) : Nat := cntB (fun b => decide (¬ mWet mi b x = 0)) k
theorem mRWn_lt {mi : Nat → Nat → Int} {x : Int} {b : Nat} (hw : ¬ mWet mi b x = 0) : ∀ {k : Nat}, b < k → mRWn mi x b < mRWn mi x k
  | 0, h => absurd h (by omega)
  | k + 1, h => by
    have e : mRWn mi x (k + 1) = mRWn mi x k + (decide (¬ mWet mi k x = 0)).toNat := rfl
    rw [e]
    by_cases ek : b = k
    · subst ek
      rw [decide_eq_true hw]
      simp only [Bool.toNat_true]; omega
    · have := mRWn_lt hw (k := k) (by omega)
      omega
theorem mRWn_at {mi : Nat → Nat → Int} {x : Int} : ∀ {k : Nat}, ∀ i : Nat, i < mRWn mi x k → ∃ b : Nat, b < k ∧ ¬ mWet mi b x = 0 ∧ mRWn mi x b = i := by
  intro k
  induction k with
  | zero => intro i hi; exact absurd hi (by show ¬ i < 0; omega)
  | succ k ih =>
    intro i hi
    have e : mRWn mi x (k + 1) = mRWn mi x k + (decide (¬ mWet mi k x = 0)).toNat := rfl
    by_cases c : i < mRWn mi x k
    · obtain ⟨b, h1, h2⟩ := ih i c
      exact ⟨b, by omega, h2⟩
    · by_cases hw : mWet mi k x = 0
      · rw [e, decide_eq_false (fun q => q hw)] at hi
        simp only [Bool.toNat_false] at hi
        omega
      · rw [e, decide_eq_true hw] at hi
        simp only [Bool.toNat_true] at hi
        exact ⟨k, by omega, hw, by omega⟩
/-- no two wet ones on one pitch -/
def mUni (mi : Nat → Nat → Int) (x : Int) : Prop := ∀ a b : Nat, (a : Int) < mi 148 6 → (b : Int) < mi 148 6 → ¬ mWet mi a x = 0 → ¬ mWet mi b x = 0 → mOf mi a 6 = mOf mi b 6 → a = b
theorem mRWn_12 {mi : Nat → Nat → Int} {x : Int} (hv : SV mi) (hu : mUni mi x) {k : Nat} (hk : (k : Int) ≤ mi 148 6) : mRWn mi x k ≤ 12 := by
  have h0 : ∀ i : Nat, ∃ b : Nat, i < mRWn mi x k → b < k ∧ ¬ mWet mi b x = 0 ∧ mRWn mi x b = i := fun i => by
    by_cases c : i < mRWn mi x k
    · obtain ⟨b, hb⟩ := mRWn_at i c
      exact ⟨b, fun _ => hb⟩
    · exact ⟨0, fun q => absurd q c⟩
  obtain ⟨g, hg⟩ := Classical.skolem.mp h0
  have b2 := hv.2.2.1
  refine php_le (f := fun i => (mOf mi (g i) 6).toNat) (fun i hi => ?_) (fun i j hi hj e => ?_)
  · obtain ⟨g1, g2, g3⟩ := hg i hi
    have := (hv.2.2.2.2.1 (g i) (by omega) (by omega)).2.2.2.2.2.2.2.1
    show (mOf mi (g i) 6).toNat < 12
    omega
  · obtain ⟨g1, g2, g3⟩ := hg i hi
    obtain ⟨k1, k2, k3⟩ := hg j hj
    have o1 := mHere_on ((b2_pos g2).1)
    have o2 := mHere_on ((b2_pos k2).1)
    have e : (mOf mi (g i) 6).toNat = (mOf mi (g j) 6).toNat := e
    have := hu (g i) (g j) (by omega) (by omega) g2 k2 (by omega)
    rw [← g3, ← k3, this]
def mDry (mi : Nat → Nat → Int) (x : Int) (k : Nat) : Int := gset2 (fun p => ¬ mPi mi p 3 < x ∧ mWho mi p (mi 148 0) (mi 148 6).toNat < 0) k
theorem gset21 (c : Int → Prop) [DecidablePred c] (k : Nat) : gset2 c k = gset1 c k := (gset_eq c c k (fun _ _ => Iff.rfl)).symm
def mCn (mi : Nat → Nat → Int) (D : Int) (wt : Nat → Int) (i p : Nat) : Bool := ib D p && decide (mWhy mi (wt i) p = 0) && decide ((p : Int) < mi 148 2)
def rMo (m mi : Nat → Nat → Int) : Prop := ∀ c j : Nat, c ≠ 168 → c ≠ 169 → m c j = mi c j
theorem SV.oR {m mi : Nat → Nat → Int} (h : SV mi) (hR : gR32 m) (hm : rMo m mi) : SV m := by
  have eO : ∀ a w, mOf m a w = mOf mi a w := fun a w => hm _ _ (by decide) (by decide)
  have eP : ∀ a w, mPi m a w = mPi mi a w := fun a w => hm _ _ (by decide) (by decide)
  obtain ⟨-, h0, h2, h3, h4, h5⟩ := h
  refine ⟨hR, by rw [hm _ _ (by decide) (by decide)]; exact h0, by rw [hm _ _ (by decide) (by decide)]; exact h2, by rw [hm _ _ (by decide) (by decide)]; exact h3, fun a a0 a1 => ?_, fun p p0 p1 => ?_⟩
  · rw [hm _ _ (by decide) (by decide)] at a1
    have := h4 a a0 a1
    unfold PV at this ⊢
    simp only [eO, hm 148 2 (by decide) (by decide), hm 148 6 (by decide) (by decide)]
    exact this
  · rw [hm _ _ (by decide) (by decide)] at p1
    have := h5 p p0 p1
    unfold QV at this ⊢
    simp only [eP]
    exact this
theorem mWet_c {m mi : Nat → Nat → Int} (hm : rMo m mi) (a x : Int) : mWet m a x = mWet mi a x := by
  have eO : ∀ a w, mOf m a w = mOf mi a w := fun a w => hm _ _ (by decide) (by decide)
  have eP : ∀ a w, mPi m a w = mPi mi a w := fun a w => hm _ _ (by decide) (by decide)
  unfold mWet mHere mStays
  simp only [eO, eP, hm 148 0 (by decide) (by decide)]
theorem mWhy_c {m mi : Nat → Nat → Int} (hm : rMo m mi) (a p : Int) : mWhy m a p = mWhy mi a p := by
  have eO : ∀ a w, mOf m a w = mOf mi a w := fun a w => hm _ _ (by decide) (by decide)
  have eP : ∀ a w, mPi m a w = mPi mi a w := fun a w => hm _ _ (by decide) (by decide)
  unfold mWhy mLacks
  simp only [eO, eP]
theorem mWho_c {m mi : Nat → Nat → Int} (hm : rMo m mi) (p x : Int) (k : Nat) : mWho m p x k = mWho mi p x k := by
  have eO : ∀ a w, mOf m a w = mOf mi a w := fun a w => hm _ _ (by decide) (by decide)
  unfold mWho mStays
  simp only [eO]
/-- one of the table's rows -/
def rTb (can : Nat → Nat → Bool) (w : Nat) (m : Nat → Nat → Int) (k s : Int) : Prop := ∃ d : Nat, m 168 (4096 * k + s).toNat = d ∧ mMax can w k.toNat (ib s) d
set_option maxRecDepth 100000 in
set_option maxHeartbeats 4000000 in
theorem cM_isOpen {G : gG} (hsz : G.2.2.2.2.2.2 = true) {n : Nat} (hn : 4 ≤ n) (mi : Nat → Nat → Int) (ml : Nat → Nat → Int64) (p x : Int) (p0 : 0 ≤ p) (p1 : p < mi 148 2) (rx : rng x) (hv : SV mi) : gM G 229 n 0 0 [gr 148, gi p, gi x] (gw mi ml) (gret (b2 (¬ mPi mi p 3 < x ∧ mWho mi p (mi 148 0) (mi 148 6).toNat < 0)) (gw mi ml)) := by
  have hn1 : 1 ≤ n := by omega
  obtain ⟨hR, ht, hp, hq, hP, hQ⟩ := id hv
  refine gM.of mX12_isOpen okX12_isOpen (gcp 229 (by decide)).1 (gcp 229 (by decide)).2 (Nat.le_of_ble_eq_true rfl) ?_
  refine Go.run hsz hn1 7 (pc' := 10) (lv' := [some (gr 148), some (gi p), some (gi x)]) (st' := [gi ((8 * p) + 3), gr 149]) (M' := gw mi ml) rfl ?_
  refine Go.iald (by rfl) (N := 96) (by rfl) (by omega) (by omega) (by decide) ?_
  refine Go.run hsz hn1 1 (pc' := 12) (lv' := [some (gr 148), some (gi p), some (gi x)]) (st' := [gi x, gi (mPi mi p 3)]) (M' := gw mi ml) rfl ?_
  refine Go.icmp_lt (by rfl) (hR _ _) rx (fun kq1 => ?_) (fun kq1 => ?_)
  · refine Go.run hsz hn1 1 (pc' := 32) (lv' := [some (gr 148), some (gi p), some (gi x)]) (st' := [gi 0]) (M' := gw mi ml) rfl ?_
    exact Go.zret (by rfl) (Or.inl rfl) ⟨congrArg (fun z => some (gi z)) (by unfold b2; split <;> omega), rfl⟩
  · refine Go.run hsz hn1 4 (pc' := 21) (lv' := [some (gr 148), some (gi p), some (gi x)]) (st' := [gi (mi 148 0), gi p, gr 148]) (M' := gw mi ml) rfl ?_
    refine Go.callV (As := [gi p, gi (mi 148 0)]) (b := 148) (st := []) (mc1 := 0) (mc := 0) (ms1 := 0) (ms := 0) (by rfl) rfl (c := 11) (N := 46) (by rfl) (by decide) (by rfl) (gcn 177 (by decide)).1 (gcn 177 (by decide)).2 rfl (Nat.le_of_ble_eq_true rfl) (by omega) (cM_whoIn hsz (n := n - 1) (by omega) mi ml p (mi 148 0) ⟨by omega, by omega⟩ (hR _ _) hv) ?_
    rintro _ _ ⟨rfl, rfl⟩
    refine Go.run hsz hn1 0 (pc' := 24) (lv' := [some (gr 148), some (gi p), some (gi x)]) (st' := [gi (mWho mi p (mi 148 0) (mi 148 6).toNat)]) (M' := gw mi ml) rfl ?_
    refine Go.if_ge (by rfl) (by have := who_b (mi := mi) p (mi 148 0) (mi 148 6).toNat; exact ⟨by omega, by omega⟩) (fun kq2 => ?_) (fun kq2 => ?_)
    · refine Go.run hsz hn1 1 (pc' := 32) (lv' := [some (gr 148), some (gi p), some (gi x)]) (st' := [gi 0]) (M' := gw mi ml) rfl ?_
      exact Go.zret (by rfl) (Or.inl rfl) ⟨congrArg (fun z => some (gi z)) (by unfold b2; split <;> omega), rfl⟩
    · refine Go.run hsz hn1 2 (pc' := 32) (lv' := [some (gr 148), some (gi p), some (gi x)]) (st' := [gi 1]) (M' := gw mi ml) rfl ?_
      exact Go.zret (by rfl) (Or.inr rfl) ⟨congrArg (fun z => some (gi z)) (by unfold b2; split <;> omega), rfl⟩

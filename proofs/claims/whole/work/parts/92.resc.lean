/-! ===== rescue: both sides alike ===== -/
section RS
variable {t : Nat} {mi : Nat → Nat → Int} {ml : Nat → Nat → Int64}
theorem eq_wet1 (h : Rep t 1 mi ml (sg mi)) (w : Int) {k : Int} (k0 : 0 ≤ k) (k1 : k < mi 148 6) : cWet mi k w = mWet mi k w := by
  obtain ⟨-, -, -, -, -, -, c8, -⟩ := h.cA (a := k) (by omega) k1
  have e := eq_here h (a := k) (by omega) k1
  unfold cWet mWet b2
  rw [e, c8]
  by_cases hh : mHere mi k = 0
  · simp [hh]
  · have h6 : 0 ≤ mOf mi k 6 := mHere_on hh
    have h7 := (h.2.2.1 k (by omega) k1).2.2.1.2.2.2.2.2.2.2.1
    have h7 : -2 ≤ mOf mi k 6 ∧ mOf mi k 6 < mi 148 2 := h7
    obtain ⟨d, -⟩ := h.cP h6 h7.2
    have d3 : cP mi (mOf mi k 6) 3 = mPi mi (mOf mi k 6) 3 := d 3 (by decide)
    rw [d3]
theorem eq_rwn (h : Rep t 1 mi ml (sg mi)) (x : Int) {k : Nat} (hk : (k : Int) ≤ mi 148 6) : cRWn mi x k = mRWn mi x k :=
  cntB_congr (fun b hb => by
    show decide (¬ cWet mi b x = 0) = decide (¬ mWet mi b x = 0)
    rw [eq_wet1 h x (k := b) (by omega) (by omega)])
theorem Rep.mUni (h : Rep t 1 mi ml (sg mi)) (x : Int) : mUni mi x := by
  intro a b a1 b1 ha hb e
  by_cases eab : (a : Int) = b
  · omega
  · exfalso
    have ha1 := (b2_pos ha).1
    have hb1 := (b2_pos hb).1
    have a2 := b2_pos ha1
    have b3 := b2_pos hb1
    have s1 := (mStays_iff mi a (mi 148 0)).mp a2.2
    have s2 := (mStays_iff mi b (mi 148 0)).mp b3.2
    have hd := h.2.2.2.1 a b (by omega) a1 (by omega) b1 eab (show 0 ≤ mOf mi a 6 from a2.1) (show mOf mi a 6 = mOf mi b 6 by omega)
    have hd : mOf mi a 4 + mOf mi a 5 ≤ mOf mi b 4 ∨ mOf mi b 4 + mOf mi b 5 ≤ mOf mi a 4 := hd
    omega
theorem eq_can (h : Rep t 1 mi ml (sg mi)) (x : Int) {b p : Nat} (hb : (b : Int) < mi 148 6) (hp : p < 12) (wt : Nat → Int) (i : Nat) (hw : wt i = b) : cCan mi x b p = mCn mi (mDry mi x (mi 148 2).toNat) wt i p := by
  have e2 : mi 1 2 = mi 148 2 := h.1.2.2.1
  have e0 : mi 1 0 = mi 148 0 := h.1.1
  have b2 : 0 ≤ mi 148 2 ∧ mi 148 2 ≤ 12 := h.1.2.2.2.2.2.1
  unfold cCan mCn mDry
  rw [gset21, ib_gset hp _ (by omega), hw, e2, e0]
  by_cases c : (p : Int) < mi 148 2
  · obtain ⟨d, -⟩ := h.cP (p := p) (by omega) c
    have d3 : cP mi p 3 = mPi mi p 3 := d 3 (by decide)
    have hwb := who_cb mi p (mi 148 0) (mi 1 3).toNat
    rw [eq_who h p (mi 148 0)] at hwb
    rw [d3, eq_who h p (mi 148 0), eq_reason h (a := b) (p := p) (by omega) hb (by omega) c, decide_eq_true c, decide_eq_true (show p < (mi 148 2).toNat by omega), Bool.true_and, Bool.and_true, Bool.and_true, ← Bool.decide_and]
    rw [decide_eq_decide]
    constructor
    · rintro ⟨⟨q1, q2⟩, q3⟩
      exact ⟨⟨q1, by omega⟩, q3⟩
    · rintro ⟨⟨q1, q2⟩, q3⟩
      exact ⟨⟨q1, by omega⟩, q3⟩
  · rw [decide_eq_false c, Bool.and_false, Bool.and_false]
end RS
def h148 (m mi : Nat → Nat → Int) : Prop := ∀ c j : Nat, 148 ≤ c → m c j = mi c j
section RC
variable {m mi : Nat → Nat → Int}
theorem mWet_8 (hm : h148 m mi) (a x : Int) : mWet m a x = mWet mi a x := by
  have eO : ∀ a w, mOf m a w = mOf mi a w := fun a w => hm _ _ (by decide)
  have eP : ∀ a w, mPi m a w = mPi mi a w := fun a w => hm _ _ (by decide)
  unfold mWet mHere mStays
  simp only [eO, eP, hm 148 0 (by decide)]
theorem mWhy_8 (hm : h148 m mi) (a p : Int) : mWhy m a p = mWhy mi a p := by
  have eO : ∀ a w, mOf m a w = mOf mi a w := fun a w => hm _ _ (by decide)
  have eP : ∀ a w, mPi m a w = mPi mi a w := fun a w => hm _ _ (by decide)
  unfold mWhy mLacks
  simp only [eO, eP]
theorem mWho_8 (hm : h148 m mi) (p x : Int) (k : Nat) : mWho m p x k = mWho mi p x k := by
  have eO : ∀ a w, mOf m a w = mOf mi a w := fun a w => hm _ _ (by decide)
  unfold mWho mStays
  simp only [eO]
theorem mRWn_8 (hm : h148 m mi) (x : Int) (k : Nat) : mRWn m x k = mRWn mi x k := by
  unfold mRWn
  simp only [mWet_8 hm]
theorem mDry_8 (hm : h148 m mi) (x : Int) (k : Nat) : mDry m x k = mDry mi x k := by
  have eP : ∀ a w, mPi m a w = mPi mi a w := fun a w => hm _ _ (by decide)
  unfold mDry
  simp only [eP, mWho_8 hm, hm 148 0 (by decide), hm 148 6 (by decide)]
theorem mCn_8 (hm : h148 m mi) (D : Int) (wt : Nat → Int) : mCn m D wt = mCn mi D wt := by
  funext i p
  unfold mCn
  simp only [mWhy_8 hm, hm 148 2 (by decide)]
theorem mUni_8 (hm : h148 m mi) {x : Int} (hu : mUni mi x) : mUni m x := by
  have eO : ∀ a w, mOf m a w = mOf mi a w := fun a w => hm _ _ (by decide)
  unfold mUni
  simp only [eO, mWet_8 hm, hm 148 6 (by decide)]
  exact hu
end RC
theorem Inv.rCo {t : Nat} {m mi : Nat → Nat → Int} {ml : Nat → Nat → Int64} (h : Inv t mi ml) (hR : gR32 m) (hm : rCo m mi) : Inv t m ml := h.fr (Nat.le_refl _) hR (fun a k hk => hm a k (by
  by_cases e : a < 127 ∨ 131 < a
  · exact e
  · exfalso
    have : a = 127 ∨ a = 128 ∨ a = 129 ∨ a = 130 ∨ a = 131 := by omega
    rcases this with e | e | e | e | e <;> subst e <;> revert hk <;> unfold grel <;> simp)) (fun _ _ _ => rfl)
theorem Inv.rMo {t : Nat} {m mi : Nat → Nat → Int} {ml : Nat → Nat → Int64} (h : Inv t mi ml) (hR : gR32 m) (hm : rMo m mi) : Inv t m ml := h.fr (Nat.le_refl _) hR (fun a k hk => hm a k (fun e => by subst e; revert hk; unfold grel; simp) (fun e => by subst e; revert hk; unfold grel; simp)) (fun _ _ _ => rfl)
theorem resc_key {t : Nat} {mi : Nat → Nat → Int} {ml : Nat → Nat → Int64} (h : Rep t 1 mi ml (sg mi)) {x al al' : Int} {zs : Nat → Int} {wt : Nat → Int} (hr : rRes (cRWn mi x) (fun b => ¬ cWet mi b x = 0) (cCan mi x) (mi 1 3).toNat al zs) (hw : ∀ b : Nat, b < (mi 148 6).toNat → ¬ mWet mi b x = 0 → wt (mRWn mi x b) = b) (hx : ∃ z : Nat, al' = z ∧ mMax (mCn mi (mDry mi x (mi 148 2).toNat) wt) (mRWn mi x (mi 148 6).toNat) 0 (ib 0) z) : al' = al ∧ ∀ (N : Nat) (zs' : Nat → Int), N ≤ mRWn mi x (mi 148 6).toNat → rSq (mCn mi (mDry mi x (mi 148 2).toNat) wt) (mRWn mi x (mi 148 6).toNat) al' zs' N → ∀ j, j < N → zs' j = zs j := by
  have e3 : mi 1 3 = mi 148 6 := h.1.2.2.2.1
  have b6 : 0 ≤ mi 148 6 := h.1.2.2.2.2.2.2.1.1
  obtain ⟨can, c1, ⟨z, z1, z2⟩, c3⟩ := hr
  have hW : cRWn mi x (mi 1 3).toNat = mRWn mi x (mi 148 6).toNat := by rw [e3]; exact eq_rwn h x (by omega)
  rw [hW] at z2 c3
  obtain ⟨y, y1, y2⟩ := hx
  have hc : ∀ i p, i < mRWn mi x (mi 148 6).toNat → p < 12 → can i p = mCn mi (mDry mi x (mi 148 2).toNat) wt i p := fun i p hi hp => by
    obtain ⟨b, d1, d2, d3⟩ := mRWn_at i hi
    have w9 := hw b d1 d2
    rw [d3] at w9
    have c9 := c1 b p (by omega) (by show ¬ cWet mi b x = 0; rw [eq_wet1 h x (k := b) (by omega) (by omega)]; exact d2) hp
    rw [eq_rwn h x (k := b) (by omega), d3] at c9
    rw [c9]
    exact eq_can h x (by omega) hp wt i w9
  have hzy := mMax_u (mMax_can hc z2) y2
  have hal : al' = al := by omega
  refine ⟨hal, fun N zs' hN hq j hj => ?_⟩
  rw [hal] at hq
  exact (rSq_uN hN hc (fun i hi => c3 i (by omega)) hq N (Nat.le_refl _) j hj).symm
theorem resc_zs {can : Nat → Nat → Bool} {w N : Nat} {al : Int} {zs : Nat → Int} (h : rSq can w al zs N) {j : Nat} (hj : j < N) : -1 ≤ zs j ∧ zs j < 12 := by
  rcases h j hj with ⟨h1, -⟩ | ⟨h1, -⟩ <;> omega
set_option maxHeartbeats 4000000 in
theorem op_rescue {G : gG} (hsz : G.2.2.2.2.2.2 = true) : gOp G Inv 132 230 2 := by
  intro t mi ml xs hlen hr ht hI
  match xs, hlen, hr with
  | [x, a], _, hr =>
    have r_x := hr x (by simp)
    have r_a := hr a (by simp)
    have hrep := hI.2.1
    have e3 : mi 1 3 = mi 148 6 := hrep.1.2.2.2.1
    have b6 : 0 ≤ mi 148 6 ∧ mi 148 6 ≤ 24 := hrep.1.2.2.2.2.2.2.1
    refine ⟨_, pC_rescue hsz (n := 399) (by decide) mi ml x a r_x r_a hI.CV hrep.uni, ?_⟩
    rintro r M1 (⟨c, rfl, rfl⟩ | ⟨c, al, zs, m, hres, hm, hmR, hal, hans⟩)
    · have f6 : (cFd mi 0) 148 6 = mi 148 6 := rfl
      have h8 : h148 (cFd mi 0) mi := fun c j hc => cFd_low hc
      refine ⟨_, rfl, (rB _ (by decide) (by decide)), _, _, rfl, _, pM_rescue hsz (n := 399) (by decide) (cFd mi 0) ml x a r_x r_a (SV.cFd hI ht (by decide)) (mUni_8 h8 (hrep.mUni x)), ?_⟩
      rintro r2 M2 (⟨c2, rfl, rfl⟩ | ⟨c2, -⟩)
      · exact ⟨rfl, _, _, rfl, hI.find ht (by decide)⟩
      · exfalso; omega
    · have hIm : Inv t m ml := hI.rCo hmR hm
      -- what the reference answers on a memory m2 that differs from mi below 148 only
      have key : ∀ m2 : Nat → Nat → Int, h148 m2 mi → ∀ (r2 : Option gV) (M2 : gMe), (gE (¬ ((0 ≤ x ∧ x ≤ 99) ∧ (a = -1 ∨ (0 ≤ a ∧ a ≤ m2 148 6 - 1)))) (-1000001) (mFd m2 0) ml r2 M2 ∨ (((0 ≤ x ∧ x ≤ 99) ∧ (a = -1 ∨ (0 ≤ a ∧ a ≤ m2 148 6 - 1))) ∧ (fun r M => ∃ (wt : Nat → Int) (al : Int), (∀ b : Nat, b < (m2 148 6).toNat → ¬ mWet m2 b x = 0 → wt (mRWn m2 x b) = b) ∧ (∃ z : Nat, al = z ∧ mMax (mCn m2 (mDry m2 x (m2 148 2).toNat) wt) (mRWn m2 x (m2 148 6).toNat) 0 (ib 0) z) ∧ rAns2 (mCn m2 (mDry m2 x (m2 148 2).toNat) wt) m2 ml ((mRWn m2 x (m2 148 6).toNat : Nat) : Int) a al wt r M) r2 M2)) → ∃ m', rMo m' m2 ∧ gR32 m' ∧ ((a = -1 ∧ r2 = some (gi al) ∧ M2 = gw m' ml) ∨ (¬ a = -1 ∧ ∃ z : Int, ((¬ cWet mi a x = 0 ∧ z = zs (cRWn mi x a.toNat)) ∨ (cWet mi a x = 0 ∧ z = -1)) ∧ ((z < 0 ∧ r2 = some (gi (-1000004)) ∧ M2 = gw (mFd m' 3) ml) ∨ (0 ≤ z ∧ r2 = some (gi z) ∧ M2 = gw m' ml)))) := by
        intro m2 h8 r2 M2 hh
        clear hans
        have f6 := h8 148 6 (by decide)
        rcases hh with ⟨c2, -⟩ | ⟨c2, wt, al', w1, w2, m', w3, w4, w5⟩
        · exfalso; omega
        · refine ⟨m', w3, w4, ?_⟩
          simp only [mRWn_8 h8, mWet_8 h8, mDry_8 h8, mCn_8 h8, h8 148 6 (by decide), h8 148 2 (by decide)] at w1 w2 w5
          obtain ⟨k1, k2⟩ := resc_key hrep hres w1 w2
          rcases w5 with ⟨v1, v2, v3⟩ | ⟨v1, v2⟩
          · exact Or.inl ⟨v1, by rw [v2, k1], v3⟩
          · refine Or.inr ⟨v1, ?_⟩
            have ha : 0 ≤ a ∧ a < mi 148 6 := by clear w2 v2; omega
            have ew := eq_wet1 hrep x ha.1 ha.2
            have er := eq_rwn hrep x (k := a.toNat) (by omega)
            have ea : ((a.toNat : Nat) : Int) = a := by omega
            rcases v2 with ⟨i, zs', i1, i2, i3, i4⟩ | ⟨i1, i2, i3⟩
            · obtain ⟨b, d1, d2, d3⟩ := mRWn_at i (by omega : i < mRWn mi x (mi 148 6).toNat)
              have w9 := w1 b d1 d2
              rw [d3] at w9
              have hb : b = a.toNat := by omega
              subst hb
              rw [ea] at d2
              have hz := k2 (i + 1) zs' (by omega) (by rw [show ((mRWn mi x (mi 148 6).toNat : Nat) : Int).toNat = mRWn mi x (mi 148 6).toNat by omega] at i3; exact i3) i (by omega)
              refine ⟨zs' i, Or.inl ⟨by rw [ew]; exact d2, by rw [er, d3]; exact hz⟩, i4⟩
            · have hw0 : mWet mi a x = 0 := by
                by_cases c9 : mWet mi a x = 0
                · exact c9
                · exfalso
                  have w9 := w1 a.toNat (by omega) (by rw [ea]; exact c9)
                  exact i1 _ (by have := mRWn_lt (mi := mi) (x := x) (b := a.toNat) (by rw [ea]; exact c9) (k := (mi 148 6).toNat) (by omega); omega) (w9.trans ea)
              exact ⟨-1, Or.inr ⟨by rw [ew]; exact hw0, rfl⟩, Or.inl ⟨by omega, i2, i3⟩⟩
      have h8 : h148 m mi := fun c j hc => hm c j (by omega)
      rcases hans with ⟨v1, rfl, rfl⟩ | ⟨v1, z, v2, ⟨v3, rfl, rfl⟩ | ⟨v3, rfl, rfl⟩⟩
      · refine ⟨_, rfl, (rB _ (by omega) (by omega)), _, _, rfl, _, pM_rescue hsz (n := 399) (by decide) m ml x a r_x r_a hIm.SV (mUni_8 h8 (hrep.mUni x)), ?_⟩
        intro r2 M2 hh
        obtain ⟨m', u1, u2, ⟨u3, u4, u5⟩ | ⟨u3, -⟩⟩ := key m h8 r2 M2 hh
        · exact ⟨u4, _, _, u5, (hIm.rMo u2 u1).mono⟩
        · exact absurd v1 u3
      · have h8' : h148 (cFd m 3) mi := fun c j hc => (cFd_low hc).trans (h8 c j hc)
        refine ⟨_, rfl, (rB _ (by decide) (by decide)), _, _, rfl, _, pM_rescue hsz (n := 399) (by decide) (cFd m 3) ml x a r_x r_a (SV.cFd hIm ht (by decide)) (mUni_8 h8' (hrep.mUni x)), ?_⟩
        intro r2 M2 hh
        obtain ⟨m', u1, u2, ⟨u3, -⟩ | ⟨u3, z', u4, u5⟩⟩ := key (cFd m 3) h8' r2 M2 hh
        · exact absurd u3 v1
        · have hzz : z' = z := by
            rcases v2 with ⟨p1, p2⟩ | ⟨p1, p2⟩
            · rcases u4 with ⟨q1, q2⟩ | ⟨q1, q2⟩
              · omega
              · exact absurd q1 p1
            · rcases u4 with ⟨q1, q2⟩ | ⟨q1, q2⟩
              · exact absurd p1 q1
              · omega
          subst hzz
          rcases u5 with ⟨s1, s2, s3⟩ | ⟨s1, -⟩
          · refine ⟨s2, _, _, s3, ?_⟩
            have hIf := hIm.find ht (w := 3) (by decide)
            have e9 : m' 159 3 = (cFd m 3) 159 3 := u1 159 3 (by decide) (by decide)
            refine hIf.rMo (gR32_gu u2 ?_) (fun c j h1 h2 => ?_)
            · have := hIf.1 159 3
              unfold mFd at this
              rw [gu_self] at this
              rw [e9]
              exact this
            · unfold mFd
              by_cases e : c = 159 ∧ j = 3
              · obtain ⟨rfl, rfl⟩ := e
                rw [gu_self, gu_self, e9]
              · rw [gu_ne (by omega), gu_ne (by omega)]
                exact u1 c j h1 h2
          · exfalso; omega
      · refine ⟨_, rfl, ?_, _, _, rfl, _, pM_rescue hsz (n := 399) (by decide) m ml x a r_x r_a hIm.SV (mUni_8 h8 (hrep.mUni x)), ?_⟩
        · rcases v2 with ⟨p1, p2⟩ | ⟨p1, p2⟩
          · obtain ⟨can, -, -, c3⟩ := hres
            have hl : cRWn mi x a.toNat < cRWn mi x (mi 1 3).toNat := by
              have ha : 0 ≤ a ∧ a < mi 148 6 := by omega
              have ew := eq_wet1 hrep x ha.1 ha.2
              rw [eq_rwn hrep x (k := a.toNat) (by omega), eq_rwn hrep x (k := (mi 1 3).toNat) (by omega)]
              exact mRWn_lt (by rw [show ((a.toNat : Nat) : Int) = a by omega, ← ew]; exact p1) (by omega)
            have := resc_zs c3 hl
            exact rB _ (by omega) (by omega)
          · omega
        · intro r2 M2 hh
          obtain ⟨m', u1, u2, ⟨u3, -⟩ | ⟨u3, z', u4, u5⟩⟩ := key m h8 r2 M2 hh
          · exact absurd u3 v1
          · have hzz : z' = z := by
              rcases v2 with ⟨p1, p2⟩ | ⟨p1, p2⟩
              · rcases u4 with ⟨q1, q2⟩ | ⟨q1, q2⟩
                · omega
                · exact absurd q1 p1
              · rcases u4 with ⟨q1, q2⟩ | ⟨q1, q2⟩
                · exact absurd p1 q1
                · omega
            subst hzz
            rcases u5 with ⟨s1, -⟩ | ⟨s1, s2, s3⟩
            · exfalso; omega
            · exact ⟨s2, _, _, s3, (hIm.rMo u2 u1).mono⟩

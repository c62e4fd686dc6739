/-! ===== join: class and reference alike ===== -/
theorem sh_cases {b c m : Int} (h : shRel b c m) (hb : b = 8 ∨ b = 16 ∨ b = 32) : c = m ∨ (128 ≤ c ∧ m < 0) := by
  obtain ⟨h1, h2, h3⟩ := h
  rcases hb with rfl | rfl | rfl
  · have := h1 rfl; omega
  · have := h2 rfl; omega
  · exact Or.inl (h3 rfl)
section JE
variable {t : Nat} {mi : Nat → Nat → Int} {ml : Nat → Nat → Int64}
theorem who_iff (p x : Int) : ∀ k : Nat, 0 ≤ mWho mi p x k ↔ ∃ b : Nat, b < k ∧ mOf mi b 6 = p ∧ mOf mi b 4 ≤ x ∧ x < mOf mi b 4 + mOf mi b 5
  | 0 => ⟨fun h => absurd h (by show ¬ (0 : Int) ≤ -1; omega), fun ⟨b, hb, _⟩ => by omega⟩
  | k + 1 => by
    have ih := who_iff p x k
    have e : mWho mi p x (k + 1) = if mOf mi k 6 = p ∧ ¬ mStays mi k x = 0 then (k : Int) else mWho mi p x k := rfl
    have hs := mStays_iff mi k x
    rw [e]
    by_cases c : mOf mi k 6 = p ∧ mOf mi k 4 ≤ x ∧ x < mOf mi k 4 + mOf mi k 5
    · rw [if_pos ⟨c.1, hs.mpr c.2⟩]
      exact ⟨fun _ => ⟨k, by omega, c⟩, fun _ => by omega⟩
    · rw [if_neg (fun q => c ⟨q.1, hs.mp q.2⟩), ih]
      constructor
      · rintro ⟨b, hb, q⟩
        exact ⟨b, by omega, q⟩
      · rintro ⟨b, hb, q⟩
        by_cases e : b = k
        · subst e; exact absurd q c
        · exact ⟨b, by omega, q⟩
theorem jc_rel (h : Inv t mi ml) {s k : Int} (s0 : 0 ≤ s) (s1 : s ≤ 3) (k0 : 0 ≤ k) (k1 : k < 20) (hb : ¬ mi 172 s.toNat = 0) : (jC0 mi s k = jM0 mi s k ∨ (128 ≤ jC0 mi s k ∧ jM0 mi s k < 0)) ∧ (jC1 mi s k = jM1 mi s k ∨ (128 ≤ jC1 mi s k ∧ jM1 mi s k < 0)) ∧ (jC2 mi s k = jM2 mi s k ∨ (128 ≤ jC2 mi s k ∧ jM2 mi s k < 0)) := by
  obtain ⟨-, -, g3, -, -, g6⟩ := h.2.2.2.2.1 s.toNat (by omega)
  have hb' : mi 172 s.toNat = 8 ∨ mi 172 s.toNat = 16 ∨ mi 172 s.toNat = 32 := by omega
  have f0 := sh_cases (g6 (3 * k).toNat (by omega)) hb'
  have f1 := sh_cases (g6 ((3 * k) + 1).toNat (by omega)) hb'
  have f2 := sh_cases (g6 ((3 * k) + 2).toNat (by omega)) hb'
  unfold jC0 jC1 jC2 jM0 jM1 jM2
  rw [show ((60 * s) + (3 * k)).toNat = 60 * s.toNat + (3 * k).toNat by omega, show (((60 * s) + (3 * k)) + 1).toNat = 60 * s.toNat + ((3 * k) + 1).toNat by omega, show (((60 * s) + (3 * k)) + 2).toNat = 60 * s.toNat + ((3 * k) + 2).toNat by omega]
  exact ⟨f0, f1, f2⟩
theorem jV_eq (h : Inv t mi ml) {s k : Int} (s0 : 0 ≤ s) (s1 : s ≤ 3) (k0 : 0 ≤ k) (k1 : k < 20) (hb : ¬ mi 172 s.toNat = 0) : (jV (mi 1 2) (jC0 mi s k) (jC1 mi s k) (jC2 mi s k) ↔ jV (mi 148 2) (jM0 mi s k) (jM1 mi s k) (jM2 mi s k)) ∧ (jV (mi 148 2) (jM0 mi s k) (jM1 mi s k) (jM2 mi s k) → jC0 mi s k = jM0 mi s k ∧ jC1 mi s k = jM1 mi s k ∧ jC2 mi s k = jM2 mi s k) := by
  have e2 : mi 1 2 = mi 148 2 := h.2.1.1.2.2.1
  have bq : mi 148 2 ≤ 12 := h.2.1.1.2.2.2.2.2.1.2
  have := jc_rel h s0 s1 k0 k1 hb
  unfold jV
  rw [e2]
  omega
theorem jAll_eq (h : Inv t mi ml) {s n : Int} (s0 : 0 ≤ s) (s1 : s ≤ 3) (n1 : n ≤ 20) (hb : ¬ mi 172 s.toNat = 0) : jAllC mi s n ↔ jAllM mi s n := ⟨fun q k k0 k1 => ((jV_eq h s0 s1 k0 (by omega) hb).1).mp (q k k0 k1), fun q k k0 k1 => ((jV_eq h s0 s1 k0 (by omega) hb).1).mpr (q k k0 k1)⟩
theorem jCal_nb (h : Rep t 1 mi ml (sg mi)) {s n : Int} (hA : jAllC mi s n) (p : Int) (p0 : 0 ≤ p) (p1 : p < 12) (x : Nat) (hx : x < 128) : ∀ k : Nat, (k : Int) ≤ n → (nb (jCal mi ml s k 108 p.toNat) (jCal mi ml s k 109 p.toNat) x = true ↔ (∃ b : Nat, b < (mi 148 6).toNat ∧ mOf mi b 6 = p ∧ mOf mi b 4 ≤ x ∧ (x : Int) < mOf mi b 4 + mOf mi b 5) ∨ ∃ j : Nat, j < k ∧ jC0 mi s j = p ∧ jC1 mi s j ≤ x ∧ (x : Int) < jC1 mi s j + jC2 mi s j)
  | 0, _ => by
    have e3 : mi 1 3 = mi 148 6 := h.1.2.2.2.1
    have b6 : 0 ≤ mi 148 6 ∧ mi 148 6 ≤ 24 := h.1.2.2.2.2.2.2.1
    show nb (lMark mi ml 0 (mi 1 3).toNat 108 p.toNat) (lMark mi ml 0 (mi 1 3).toNat 109 p.toNat) x = true ↔ _
    rw [lMark_nb h 0 p p0 p1 x hx _ (by omega), e3]
    constructor
    · rintro ⟨b, hb, q1, -, q3⟩
      exact Or.inl ⟨b, hb, q1, q3⟩
    · rintro (⟨b, hb, q1, q3⟩ | ⟨j, hj, -⟩)
      · exact ⟨b, hb, q1, bit_nil b (by omega), q3⟩
      · omega
  | k + 1, hk => by
    have ih := jCal_nb h hA p p0 p1 x hx k (by omega)
    obtain ⟨v1, v2, v3, v4⟩ := hA k (by omega) (by omega)
    show nb (lTake (jCal mi ml s k) (jC0 mi s k) (lLow (jC1 mi s k) (jC2 mi s k)) (lHigh (jC1 mi s k) (jC2 mi s k)) 108 p.toNat) (lTake (jCal mi ml s k) (jC0 mi s k) (lLow (jC1 mi s k) (jC2 mi s k)) (lHigh (jC1 mi s k) (jC2 mi s k)) 109 p.toNat) x = true ↔ _
    rw [lTake_nb p0 v1.1, nb_stay x hx, Bool.or_eq_true, Bool.and_eq_true, decide_eq_true_eq, decide_eq_true_eq, ih]
    constructor
    · rintro ((q | ⟨j, hj, q⟩) | ⟨q1, q2⟩)
      · exact Or.inl q
      · exact Or.inr ⟨j, by omega, q⟩
      · exact Or.inr ⟨k, by omega, q1.symm, q2⟩
    · rintro (q | ⟨j, hj, q⟩)
      · exact Or.inl (Or.inl q)
      · by_cases e : j = k
        · subst e; exact Or.inr ⟨q.1.symm, q.2⟩
        · exact Or.inl (Or.inr ⟨j, by omega, q⟩)
theorem jF_eq (h : Inv t mi ml) {s n k : Int} (s0 : 0 ≤ s) (s1 : s ≤ 3) (n1 : n ≤ 20) (hb : ¬ mi 172 s.toNat = 0) (hA : jAllC mi s n) (k0 : 0 ≤ k) (k1 : k < n) : jF mi ml s k = 0 ↔ mCl mi s k := by
  have hrep := h.2.1
  have hM := (jAll_eq h s0 s1 n1 hb).mp hA
  have b6 : 0 ≤ mi 148 6 ∧ mi 148 6 ≤ 24 := hrep.1.2.2.2.2.2.2.1
  have bq : mi 148 2 ≤ 12 := hrep.1.2.2.2.2.2.1.2
  have eqs : ∀ j : Int, 0 ≤ j → j < n → jC0 mi s j = jM0 mi s j ∧ jC1 mi s j = jM1 mi s j ∧ jC2 mi s j = jM2 mi s j := fun j j0 j1 => (jV_eq h s0 s1 j0 (by omega) hb).2 (hM j j0 j1)
  obtain ⟨v1, v2, v3, v4⟩ := hM k k0 k1
  obtain ⟨c0, c1, c2⟩ := eqs k k0 k1
  unfold jF lFree
  have hnz : ∀ (p : Prop) [Decidable p], (b2 p = 0 ↔ ¬ p) := fun p _ => ⟨b2_neg, fun hp => by unfold b2; rw [if_neg hp]⟩
  rw [hnz, nb_free, c0, c1, c2]
  constructor
  · intro hf
    by_cases hc : mCl mi s k
    · exact hc
    · exfalso
      refine hf (fun x hx => ?_)
      rintro ⟨g1, g2⟩
      rw [jCal_nb hrep hA (jM0 mi s k) v1.1 (by omega) x hx k.toNat (by omega)] at g1
      rw [nb_stay x hx, decide_eq_true_eq] at g2
      refine hc ?_
      rcases g1 with g | ⟨j, hj, q1, q2, q3⟩
      · exact Or.inl ⟨x, g2, (who_iff _ _ _).mpr g⟩
      · obtain ⟨d0, d1, d2⟩ := eqs j (by omega) (by omega)
        rw [d0] at q1
        rw [d1] at q2 q3
        rw [d2] at q3
        exact Or.inr ⟨j, by omega, q1, by omega, by omega⟩
  · rintro hc hf
    rcases hc with ⟨x, x1, x2⟩ | ⟨j, j1, q1, q2, q3⟩
    · refine hf x.toNat (by omega) ⟨?_, ?_⟩
      · rw [jCal_nb hrep hA (jM0 mi s k) v1.1 (by omega) _ (by omega) k.toNat (by omega)]
        have := (who_iff _ _ _).mp x2
        rw [show ((x.toNat : Nat) : Int) = x by omega]
        exact Or.inl this
      · rw [nb_stay _ (by omega), decide_eq_true_eq]
        omega
    · obtain ⟨d0, d1, d2⟩ := eqs j j1.1 (by omega)
      obtain ⟨w1, w2, w3, w4⟩ := hM j j1.1 (by omega)
      have hex : ∀ x : Int, 0 ≤ x → x < 128 → jM1 mi s j ≤ x → x < jM1 mi s j + jM2 mi s j → jM1 mi s k ≤ x → x < jM1 mi s k + jM2 mi s k → False := fun x x0 x9 a1 a2 a3 a4 => by
        refine hf x.toNat (by omega) ⟨?_, ?_⟩
        · rw [jCal_nb hrep hA (jM0 mi s k) v1.1 (by omega) _ (by omega) k.toNat (by omega)]
          refine Or.inr ⟨j.toNat, by omega, ?_⟩
          rw [show ((j.toNat : Nat) : Int) = j by omega, d0, d1, d2]
          exact ⟨q1, by omega, by omega⟩
        · rw [nb_stay _ (by omega), decide_eq_true_eq]
          omega
      by_cases hc : jM1 mi s j ≤ jM1 mi s k
      · exact hex (jM1 mi s k) (by omega) (by omega) hc q3 (by omega) (by omega)
      · exact hex (jM1 mi s j) (by omega) (by omega) (by omega) (by omega) (by omega) q2
end JE
set_option maxHeartbeats 4000000 in
theorem op_join {G : gG} (hsz : G.2.2.2.2.2.2 = true) : gOp G Inv 136 234 1 := by
  intro t mi ml xs hlen hr ht hI
  match xs, hlen, hr with
  | [s], _, hr =>
    have r_s := hr s (by simp)
    have hzs : (0 ≤ s ∧ s ≤ 3) → mi (139 + 2 * s.toNat) 0 = mi 172 s.toNat ∧ mi (139 + 2 * s.toNat) 1 = mi 173 s.toNat ∧ 0 ≤ mi 173 s.toNat ∧ mi 173 s.toNat ≤ 60 := fun h => (by obtain ⟨h1, h2, h3, h4, -⟩ := hI.2.2.2.2.1 s.toNat (by omega); exact ⟨h1, h2, h4⟩)
    have fd : ∀ w : Nat, ∀ c k : Nat, c ≠ 147 → cFd mi w c k = mi c k := fun w c k hc => gu_other hc
    have hzf : ∀ w : Nat, ∀ s : Int, 0 ≤ s → s < 4 → (0 ≤ cFd mi w 173 s.toNat ∧ cFd mi w 173 s.toNat ≤ 60) ∧ (cFd mi w 172 s.toNat = 0 ∨ cFd mi w 172 s.toNat = 8 ∨ cFd mi w 172 s.toNat = 16 ∨ cFd mi w 172 s.toNat = 32) := fun w s s0 s1 => by
      rw [fd w 173 _ (by decide), fd w 172 _ (by decide)]
      exact hI.hzM s s0 s1
    refine ⟨_, pC_join hsz (n := 399) (by decide) mi ml s r_s hI.CV hI.hzC, ?_⟩
    rintro r M1 (⟨c, rfl, rfl⟩ | ⟨c, rfl, rfl⟩ | ⟨c, rfl, rfl⟩ | ⟨⟨c, ca⟩, rfl, rfl⟩ | ⟨⟨c, ca⟩, z, l, hz, hl, rfl, rfl⟩)
    · have f1 := fd 0 172 s.toNat (by decide)
      have f2 := fd 0 173 s.toNat (by decide)
      refine ⟨_, rfl, (rB _ (by decide) (by decide)), _, _, rfl, _, pM_join hsz (n := 399) (by decide) (cFd mi 0) ml s r_s (SV.cFd hI ht (by decide)) (hzf 0), ?_⟩
      rintro r2 M2 (⟨c2, rfl, rfl⟩ | ⟨c2, rfl, rfl⟩ | ⟨c2, rfl, rfl⟩ | ⟨c2, -⟩)
      · exact ⟨rfl, _, _, rfl, hI.find ht (by decide)⟩
      all_goals exfalso; omega
    · have f1 := fd 5 172 s.toNat (by decide)
      have f2 := fd 5 173 s.toNat (by decide)
      refine ⟨_, rfl, (rB _ (by decide) (by decide)), _, _, rfl, _, pM_join hsz (n := 399) (by decide) (cFd mi 5) ml s r_s (SV.cFd hI ht (by decide)) (hzf 5), ?_⟩
      rintro r2 M2 (⟨c2, rfl, rfl⟩ | ⟨c2, rfl, rfl⟩ | ⟨c2, rfl, rfl⟩ | ⟨c2, -⟩)
      · exfalso; omega
      · exact ⟨rfl, _, _, rfl, hI.find ht (by decide)⟩
      all_goals exfalso; omega
    · have f1 := fd 6 172 s.toNat (by decide)
      have f2 := fd 6 173 s.toNat (by decide)
      refine ⟨_, rfl, (rB _ (by decide) (by decide)), _, _, rfl, _, pM_join hsz (n := 399) (by decide) (cFd mi 6) ml s r_s (SV.cFd hI ht (by decide)) (hzf 6), ?_⟩
      rintro r2 M2 (⟨c2, rfl, rfl⟩ | ⟨c2, rfl, rfl⟩ | ⟨c2, rfl, rfl⟩ | ⟨c2, -⟩)
      · exfalso; omega
      · exfalso; omega
      · exact ⟨rfl, _, _, rfl, hI.find ht (by decide)⟩
      · exfalso; omega
    · have f1 := fd 0 172 s.toNat (by decide)
      have f2 := fd 0 173 s.toNat (by decide)
      have hq := hzs c.1
      have eA : jAllM (cFd mi 0) s (cFd mi 0 173 s.toNat / 3) ↔ jAllC mi s (mi (139 + 2 * s.toNat) 1 / 3) := by
        rw [f2, hq.2.1, jAll_eq hI c.1.1 c.1.2 (by omega) (by omega)]
        exact Iff.rfl
      refine ⟨_, rfl, (rB _ (by decide) (by decide)), _, _, rfl, _, pM_join hsz (n := 399) (by decide) (cFd mi 0) ml s r_s (SV.cFd hI ht (by decide)) (hzf 0), ?_⟩
      rintro r2 M2 (⟨c2, rfl, rfl⟩ | ⟨c2, rfl, rfl⟩ | ⟨c2, rfl, rfl⟩ | ⟨c2, ⟨-, rfl, rfl⟩ | ⟨c3, -⟩⟩)
      · exfalso; omega
      · exfalso; omega
      · exfalso; omega
      · exact ⟨rfl, _, _, rfl, hI.find ht (by decide)⟩
      · exact absurd (eA.mp c3) ca
    · have hq := hzs c.1
      have eA := jAll_eq hI (s := s) (n := mi 173 s.toNat / 3) c.1.1 c.1.2 (by omega) (by omega)
      rw [hq.2.1] at ca hz
      have hz := jRes_c (fun k k0 k1 => jF_eq hI c.1.1 c.1.2 (by omega) (by omega) ca k0 k1) hz
      refine ⟨_, rfl, (by rcases hz with q | q <;> exact ⟨by omega, by omega⟩), _, _, rfl, _, pM_join hsz (n := 399) (by decide) mi l s r_s hI.SV hI.hzM, ?_⟩
      rintro r2 M2 (⟨c2, rfl, rfl⟩ | ⟨c2, rfl, rfl⟩ | ⟨c2, rfl, rfl⟩ | ⟨c2, ⟨c3, rfl, rfl⟩ | ⟨c3, z', hz', rfl, rfl⟩⟩)
      · exfalso; omega
      · exfalso; omega
      · exfalso; omega
      · exact absurd (eA.mp ca) c3
      · exact ⟨congrArg (fun z => some (gi z)) (jRes_u hz' hz), _, _, rfl, hI.mono.lm hl⟩

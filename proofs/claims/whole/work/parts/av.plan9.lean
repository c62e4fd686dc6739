/-! ===== plan: the call ===== -/
theorem plOk_eq {t : Nat} {mi m : Nat → Nat → Int} {ml : Nat → Nat → Int64} (hI : Inv t mi ml) (hm : ∀ a k : Nat, 148 ≤ a → a ≠ 159 → m a k = mi a k) {b : Nat} (hb : (b : Int) < mi 148 6) : plOkC mi b ↔ plOk m b := by
  obtain ⟨c0, c1, c2, c3, c4, c5, c8, -⟩ := hI.2.1.cA (a := (b : Int)) (by omega) hb
  have e0 : mi 1 0 = mi 148 0 := hI.2.1.1.1
  have o6 : mOf m b 6 = mOf mi b 6 := hm 152 _ (by decide) (by decide)
  have o4 : mOf m b 4 = mOf mi b 4 := hm 152 _ (by decide) (by decide)
  unfold plOkC plOk
  rw [c8, c4, e0, o6, o4, hm 148 0 (by decide) (by decide)]
set_option maxHeartbeats 4000000 in
theorem op_plan {G : gG} (hsz : G.2.2.2.2.2.2 = true) : gOp G Inv 115 186 1 := by
  intro t mi ml xs hlen hr ht hI
  match xs, hlen, hr with
  | [x], _, hr =>
    have hR := hI.1
    have r_x : rng x := hr x List.mem_cons_self
    have hrep := hI.2.1
    have e3 : mi 1 3 = mi 148 6 := hrep.1.2.2.2.1
    have b6 : 0 ≤ mi 148 6 ∧ mi 148 6 ≤ 24 := hrep.1.2.2.2.2.2.2.1
    have bq : 0 ≤ mi 148 2 ∧ mi 148 2 ≤ 12 := hrep.1.2.2.2.2.2.1
    have hpw : 2 ^ (mi 148 6).toNat ≤ 2 ^ 24 := Nat.pow_le_pow_right (by omega) (by omega)
    have hsb : shlI 1 (mi 148 6) ≤ 16777216 := by
      have hsh1 := shl_pow24 (mi 148 6).toNat (by omega)
      rw [show (((mi 148 6).toNat : Nat) : Int) = mi 148 6 by omega] at hsh1
      rw [hsh1]
      exact Int.ofNat_le.mpr hpw
    clear hpw
    obtain ⟨X, hXx⟩ : ∃ X, X = x.toNat := ⟨_, rfl⟩
    obtain ⟨mem, hmem⟩ : ∃ mem, mem = mBn X (mi 148 6).toNat := ⟨_, rfl⟩
    obtain ⟨z, hz⟩ : ∃ z, z = popN X (mi 148 6).toNat := ⟨_, rfl⟩
    obtain ⟨u, hu⟩ : ∃ u, u = mZr mi mem z := ⟨_, rfl⟩
    obtain ⟨ml1, hml1⟩ : ∃ ml1, ml1 = lMark mi ml ((X : Nat) : Int) (mi 1 3).toNat := ⟨_, rfl⟩
    have hmlo : ∀ a k : Nat, a ≠ 108 → a ≠ 109 → ml1 a k = ml a k := fun a k h1 h2 => by rw [hml1]; exact lMark_off h1 h2 _
    have hC0 : plCC mi x → x = X ∧ X < 16777216 ∧ z ≤ 4 := fun hc => by
      have h1 := hc.1
      have h2 := hc.2.1
      have h3 := hc.2.2
      rw [e3] at h2
      rw [← hXx] at h3
      have := popN_mono X (show (mi 148 6).toNat ≤ 24 by omega)
      exact ⟨by omega, by omega, by omega⟩
    have hU0 : plCC mi x → cUb mi u ml mem z X ∧ calR u (pOn u) ml1 := fun hc => by
      have h1 := hC0 hc
      have := cUb_of hI h1.2.1 hz h1.2.2
      rw [← hmem, ← hu, ← hml1] at this
      exact this
    refine ⟨_, pC_plan hsz (n := 399) (by decide) ml mi hI.CV x r_x (mkP mi u mem z ml1) (fun hc hok => ?_) (fun r M hP => ?_), ?_⟩
    · obtain ⟨h1, h2, h3⟩ := hC0 hc
      obtain ⟨hU, hcal⟩ := hU0 hc
      have h9 := cP_make hsz (n := 398) (by decide) mi u ml mem z X hU h2 ml1 hmlo hcal (by rw [e3]; exact hz) (fun k _ => by rw [e3, hmem]) (fun m1 hk => by rw [hk.2 1 3 (by decide), lMark_c hk ml _ (mi 1 3).toNat (by omega), hml1])
      rw [← h1] at h9
      exact h9
    · obtain ⟨mF, e, h1, h2, -⟩ := hP
      exact ⟨_, _, _, h2, h1⟩
    · have hpc : ∀ m : Nat → Nat → Int, m 148 6 = mi 148 6 → (plC m x ↔ plCC mi x) := fun m hm => by
        unfold plC plCC
        rw [hm, e3]
      rintro r M1 (⟨c, rfl, rfl⟩ | ⟨c, hpo⟩)
      · have hm8 : ∀ a k : Nat, 148 ≤ a → (cFd mi 0) a k = mi a k := fun a k ha => gu_other (by omega)
        have hR1 : gR32 (cFd mi 0) := gR32_gu hR ⟨by have := hI.2.2.2.1 0 (by decide); omega, by have := hI.2.2.2.1 0 (by decide); omega⟩
        refine ⟨_, rfl, ⟨by decide, by decide⟩, _, _, rfl, _, pM_plan hsz (n := 399) (by decide) (cFd mi 0) ml x r_x (hI.SV.low hR1 hm8), ?_⟩
        rintro r2 M2 (⟨c2, rfl, rfl⟩ | ⟨c2, _⟩)
        · exact ⟨rfl, _, _, rfl, hI.find ht (by decide)⟩
        · exact absurd ((hpc _ (hm8 148 6 (by decide))).mp c2) c
      · obtain ⟨h1, h2, h3⟩ := hC0 c
        rw [← hXx] at hpo
        rcases hpo with ⟨⟨b, hb1, hb2, hb3⟩, rfl, rfl⟩ | ⟨hok, hPM⟩
        · have hm8 : ∀ a k : Nat, 148 ≤ a → (cFd mi 4) a k = mi a k := fun a k ha => gu_other (by omega)
          have hR1 : gR32 (cFd mi 4) := gR32_gu hR ⟨by have := hI.2.2.2.1 4 (by decide); omega, by have := hI.2.2.2.1 4 (by decide); omega⟩
          refine ⟨_, rfl, ⟨by decide, by decide⟩, _, _, rfl, _, pM_plan hsz (n := 399) (by decide) (cFd mi 4) ml x r_x (hI.SV.low hR1 hm8), ?_⟩
          rintro r2 M2 (⟨c2, _⟩ | ⟨_, hpo⟩)
          · exact absurd ((hpc _ (hm8 148 6 (by decide))).mpr c) c2
          · rw [← hXx] at hpo
            rcases hpo with ⟨_, m, hF, rfl, rfl⟩ | ⟨hok, _⟩
            · refine ⟨rfl, _, _, rfl, (hI.find ht (w := 4) (by decide)).plS ?_ (fun a k q1 q2 q3 q4 q5 => ?_)⟩
              · have := hI.2.2.2.1 4 (by decide)
                have e9 : m 159 4 = mi 159 4 := (hF.2.1 159 4 (by decide) (by decide) (by decide) (by decide) (by decide)).trans (hm8 159 4 (by decide))
                exact gR32_gu hF.1 ⟨by omega, by omega⟩
              · have hall : ∀ a k : Nat, a ≠ 160 → a ≠ 161 → a ≠ 162 → (a ≠ 148 ∨ k ≠ 20) → m a k = cFd mi 4 a k := fun a k w1 w2 w3 w4 => by
                  by_cases e : a = 152
                  · subst e
                    exact hF.2.2.1 k (fun i hi => absurd hi (Nat.not_lt_zero _))
                  · exact hF.2.1 a k e w1 w2 w3 w4
                show gu m 159 4 (m 159 4 + 1) a k = gu (cFd mi 4) 159 4 (cFd mi 4 159 4 + 1) a k
                rw [hall 159 4 (by decide) (by decide) (by decide) (by decide)]
                by_cases e : a = 159 ∧ k = 4
                · rw [e.1, e.2, gu_self, gu_self]
                · rw [gu_ne (by omega), gu_ne (by omega)]
                  exact hall a k q2 q3 q4 q5
            · rw [e3] at hb1
              have hb6 : (b : Int) < mi 148 6 := by omega
              refine absurd ((plOk_eq hI (fun a k w1 _ => hm8 a k w1) hb6).mpr (hok b ?_ hb2)) hb3
              rw [hm8 148 6 (by decide)]
              exact hb1
        · obtain ⟨mF, e, rfl, rfl, hbest, hmk⟩ := hPM
          obtain ⟨hU, -⟩ := hU0 c
          have hmin : ∀ i, i < z → mem i < (mi 148 6).toNat := fun i hi => by rw [hmem]; exact (mBn_in (by rw [← hz]; exact hi)).1
          have hm8 : ∀ a k : Nat, 148 ≤ a → mF a k = mi a k := fun a k ha => hmk.2.1 a k (by omega) (fun i hi w => by have := hmin i hi; omega)
          have hob := wO_b e z
          refine ⟨_, rfl, ⟨by omega, by omega⟩, _, _, rfl, _, pM_plan hsz (n := 399) (by decide) mF ml1 x r_x (hI.SV.low hmk.1 hm8), ?_⟩
          have h86 := hm8 148 6 (by decide)
          rintro r2 M2 (⟨c2, _⟩ | ⟨_, hpo⟩)
          · exact absurd ((hpc _ h86).mpr c) c2
          · rw [← hXx] at hpo
            unfold plPo at hpo
            rw [h86, ← hmem, ← hz] at hpo
            rcases hpo with ⟨⟨b, hb1, hb2, hb3⟩, _⟩ | ⟨_, mB, m1, o, rfl, rfl, hBs, hpF, d, hd, hmo, ho⟩
            · exact absurd ((plOk_eq hI (fun a k w1 _ => hm8 a k w1) (show (b : Int) < mi 148 6 by omega)).mp (hok b (by rw [e3]; exact hb1) hb2)) hb3
            · obtain ⟨f1, f2, f3, f4⟩ := mZr_F hR mem z
              rw [← hu] at f1 f2 f3 f4
              have hB0 : ∀ c j : Nat, 148 ≤ c → c ≠ 152 → c ≠ 160 → c ≠ 161 → c ≠ 162 → (c ≠ 148 ∨ j ≠ 20) → mB c j = mi c j := fun c j w0 w1 w2 w3 w4 w5 => (hpF.2.1 c j w1 w2 w3 w4 w5).trans (hm8 c j w0)
              have hwe : wEq mB u := by
                refine ⟨fun j => by rw [hB0 149 j (by decide) (by decide) (by decide) (by decide) (by decide) (Or.inl (by decide)), f2 149 j (by decide)], fun j => ?_, by rw [hB0 148 2 (by decide) (by decide) (by decide) (by decide) (by decide) (by decide), f2 148 2 (by decide)], by rw [hB0 148 6 (by decide) (by decide) (by decide) (by decide) (by decide) (by decide), f2 148 6 (by decide)]⟩
                by_cases hj : ∃ i, i < z ∧ j = 12 * mem i + 6
                · obtain ⟨i, hi, rfl⟩ := hj
                  rw [hpF.2.2.2 i hi, f4 i hi]
                · rw [hpF.2.2.1 j (fun i hi w => hj ⟨i, hi, w⟩), f3 j (fun i hi w => hj ⟨i, hi, w⟩)]
                  exact hm8 152 j (by decide)
              have hde := hwe.best hd hbest
              have hoe : wO d z = wO e z := wO_congr hde
              refine ⟨by rw [ho, hoe], m1, ml1, rfl, ?_⟩
              have u2 : u 148 2 = mi 148 2 := f2 148 2 (by decide)
              have u6 : u 148 6 = mi 148 6 := f2 148 6 (by decide)
              have hM := hU.1.2.2.2
              have hle : ∀ i, i < z → -1 ≤ e i ∧ e i < mi 148 2 := fun i hi => by
                have := hbest.1 i hi
                omega
              have hm1c : ∀ a k : Nat, a ≠ 152 → a ≠ 160 → a ≠ 161 → a ≠ 162 → (a ≠ 148 ∨ k ≠ 20) → m1 a k = mF a k := fun a k w1 w2 w3 w4 w5 => (hmo.2.1 a k w1 w2).trans (hpF.2.1 a k w1 w2 w3 w4 w5)
              refine hI.plN (mem := mem) (z := z) (e := e) hmo.1 (fun i hi => by have := hmin i hi; omega) (fun a k w0 w1 w2 w3 w4 w5 w6 => ?_) (fun i hi => ?_) (fun j hj => ?_) (fun i hi => ?_) hle hmlo (fun i hi he b hb hne hon => ?_)
              · rw [hm1c a k w1 w2 w3 w4 w5]
                exact hmk.2.1 a k w0 w6
              · have := hmin i hi
                rw [hm1c _ 8 (by omega) (by omega) (by omega) (by omega) (Or.inl (by omega))]
                exact hmk.2.2 i hi
              · rw [hmo.2.2.1 j hj, hpF.2.2.1 j hj]
                exact hm8 152 j (by decide)
              · rw [hmo.2.2.2 i hi]
                exact hde i hi
              · have hV : wV u mem (pOn u) z e := hbest.2.2.1
                have h9 := ((wV_full hM).mp hV i hi he).2
                have hbu : b < (u 148 6).toNat := by rw [u6]; omega
                have hpos : wAs mem (pOn u) e z b = e i := by
                  have h8 := hmo.on hBs (b := b)
                  rw [hon, hwe.onn, wAs_congr hde] at h8
                  exact h8.symm
                have h7 := h9 b hbu hne hpos
                unfold mMeet at h7 ⊢
                have o4 : ∀ a : Nat, mOf u a 4 = mOf mi a 4 := fun a => by rw [hu]; exact mZr_of hR mem z (by omega) (by decide) (by decide) (by decide)
                have o5 : ∀ a : Nat, mOf u a 5 = mOf mi a 5 := fun a => by rw [hu]; exact mZr_of hR mem z (by omega) (by decide) (by decide) (by decide)
                rw [o4, o4, o5, o5] at h7
                exact h7

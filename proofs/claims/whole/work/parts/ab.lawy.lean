/-! ===== law: the class whole ===== -/
theorem cL_start {m : Nat → Nat → Int} (h : gR32 m) (T : Nat) : cR m (gu (gu (gu (gu m 132 1 0) 132 2 0) 132 3 0) 132 10 0) T 0 [] 0 := by
  have z : rng 0 := ⟨by decide, by decide⟩
  refine ⟨⟨gR32_gu (gR32_gu (gR32_gu (gR32_gu h z) z) z) z, ⟨fun c j h1 _ => ?_, rfl⟩, ⟨rfl, rfl, rfl⟩, fun i hi => absurd hi (by simp)⟩, Nat.zero_le _, Nat.le_refl _, Int.le_refl _, Int.le_refl _⟩
  rw [gu_other h1, gu_other h1, gu_other h1, gu_other h1]
def rT2 (m0 m1 : Nat → Nat → Int) (T : Nat) (b : Int) : Prop := (b = 1 ∧ ∃ (k : Nat) (cc : List Int) (sd : Int), cL m0 m1 k cc sd ∧ pcs cc ∧ cc.length ≤ 120 ∧ (0 ≤ sd ∧ sd ≤ 120) ∧ syR (m0 135) (m0 136) T 0 (true, [], 0, [], 0) = Sum.inr (cc.map tr, sd)) ∨ (b = 0 ∧ ∃ (kf k : Nat) (cc : List Int) (sd : Int), cL m0 m1 k cc sd ∧ kf ≤ T ∧ m1 132 1 = m0 137 kf ∧ syR (m0 135) (m0 136) T 0 (true, [], 0, [], 0) = Sum.inl kf)
theorem rT2.b01 {m0 m1 : Nat → Nat → Int} {T : Nat} {b : Int} (h : rT2 m0 m1 T b) : b = 0 ∨ b = 1 := by
  rcases h with ⟨h, _⟩ | ⟨h, _⟩
  · exact Or.inr h
  · exact Or.inl h
set_option maxRecDepth 100000 in
set_option maxHeartbeats 4000000 in
theorem cT_text {G : gG} (hsz : G.2.2.2.2.2.2 = true) {n : Nat} (hn : 45 ≤ n) (ml : Nat → Nat → Int64) (mi : Nat → Nat → Int) (hz : 0 ≤ mi 132 0 ∧ mi 132 0 ≤ 120) (hb : ∀ i : Nat, (i : Int) < mi 132 0 → 0 ≤ mi 134 i ∧ mi 134 i ≤ 255) (hR : gR32 mi) : gM G 79 n 0 0 [gr 132] (gw mi ml) (fun r M => ∃ (m0 m1 : Nat → Nat → Int) (E : Nat → Nat) (T : Nat) (b : Int), M = gw m1 ml ∧ r = some (gi b) ∧ cXf mi m0 ∧ tBs m0 E T ∧ rT2 m0 m1 T b) := by
  have hn1 : 1 ≤ n := by omega
  refine gM.of mX9_readText okX9_readText (gcp 79 (by decide)).1 (gcp 79 (by decide)).2 (Nat.le_of_ble_eq_true rfl) ?_
  refine Go.run hsz hn1 1 (pc' := 1) (lv' := [some (gr 132)]) (st' := [gr 132]) (M' := gw mi ml) rfl ?_
  refine Go.callV (As := []) (b := 132) (st := []) (mc1 := 0) (mc := 0) (ms1 := 0) (ms := 0) (by rfl) rfl (c := 8) (N := 11) (by rfl) (by decide) (by rfl) (gcn 80 (by decide)).1 (gcn 80 (by decide)).2 rfl (Nat.le_of_ble_eq_true rfl) (by omega) (cT_cut hsz (n := n - 1) (by omega) ml mi hz hb hR) ?_
  rintro _ _ ⟨rfl, m0, E, T, rfl, hXf, hB⟩
  refine Go.run hsz hn1 14 (pc' := 26) (lv' := [some (gr 132)]) (st' := [gi 0, gr 132]) (M' := gw (gu (gu (gu (gu m0 132 1 0) 132 2 0) 132 3 0) 132 10 0) ml) rfl ?_
  refine Go.callV (As := [gi 0]) (b := 132) (st := []) (mc1 := 0) (mc := 0) (ms1 := 0) (ms := 0) (by rfl) rfl (c := 8) (N := 11) (by rfl) (by decide) (by rfl) (gcn 92 (by decide)).1 (gcn 92 (by decide)).2 rfl (Nat.le_of_ble_eq_true rfl) (by omega) ((cT_all hsz 8 0 (by omega) (by omega)).2 (n - 1) (by omega) m0 ml E T _ 0 [] 0 [] hB (fun _ => ⟨⟨rfl, rfl⟩, by show (0 : Int) < 1; decide⟩) (cL_start hB.1 T)) ?_
  rintro _ _ ⟨m3, b3, rfl, rfl, h3⟩
  have hb3 := h3.b01
  refine Go.run hsz hn1 0 (pc' := 29) (lv' := [some (gr 132)]) (st' := [gi b3]) (M' := gw m3 ml) rfl ?_
  refine Go.if_eq (by rfl) ⟨by omega, by omega⟩ (fun kq1 => ?_) (fun kq1 => ?_)
  · refine Go.run hsz hn1 1 (pc' := 56) (lv' := [some (gr 132)]) (st' := [gi 0]) (M' := gw m3 ml) rfl ?_
    obtain ⟨kf, k9, cc9, sd9, w1, w2, w3, w4⟩ := h3.no (by omega)
    exact Go.zret (by rfl) (Or.inl rfl) ⟨m0, _, E, T, _, rfl, rfl, hXf, hB, Or.inr ⟨rfl, kf, k9, cc9, sd9, w1, w2, w3, w4⟩⟩
  · refine Go.run hsz hn1 0 (pc' := 32) (lv' := [some (gr 132)]) (st' := []) (M' := gw m3 ml) rfl ?_
    obtain ⟨k1, cc1, sd1, hR1, hQ1⟩ := h3.yes (by omega)
    have hR1a := hR1.2
    have hT := hB.ok.2
    have hci := cmp_in hB.ok.1 (S := []) (by show (0 : Int) < 1; decide) hQ1
    have e10 : m3 132 10 = k1 := hR1.1.2.2.1.1
    have e135 : m3 135 (m3 132 10).toNat = m0 135 k1 := (by rw [hR1.1.2.1.1 135 _ (by decide) (by decide), e10]; rfl)
    have hR3 := hR1.1.1
    refine Go.run hsz hn1 4 (pc' := 40) (lv' := [some (gr 132)]) (st' := [gi (m3 132 10), gr 135]) (M' := gw m3 ml) rfl ?_
    refine Go.iald (by rfl) (N := 121) (by rfl) (by omega) (by omega) (by decide) ?_
    refine Go.run hsz hn1 0 (pc' := 41) (lv' := [some (gr 132)]) (st' := [gi (m3 135 ((m3 132 10).toNat))]) (M' := gw m3 ml) rfl ?_
    refine Go.if_eq (by rfl) (hR3 _ _) (fun kq2 => ?_) (fun kq2 => ?_)
    · refine Go.run hsz hn1 2 (pc' := 56) (lv' := [some (gr 132)]) (st' := [gi 1]) (M' := gw m3 ml) rfl ?_
      obtain ⟨p, hp1, hp2, hp3⟩ := hQ1.2.1
      rw [List.nil_append] at hp1
      exact Go.zret (by rfl) (Or.inr rfl) ⟨m0, _, E, T, _, rfl, rfl, hXf, hB, Or.inl ⟨rfl, k1, cc1, sd1, hR1.1, (by rw [hp1]; exact hp3), by omega, by omega, hci.1 (by omega) rfl⟩⟩
    · refine Go.run hsz hn1 1 (pc' := 45) (lv' := [some (gr 132)]) (st' := [gr 132]) (M' := gw m3 ml) rfl ?_
      refine Go.callV (As := []) (b := 132) (st := []) (mc1 := 0) (mc := 0) (ms1 := 0) (ms := 0) (by rfl) rfl (c := 8) (N := 11) (by rfl) (by decide) (by rfl) (gcn 90 (by decide)).1 (gcn 90 (by decide)).2 rfl (Nat.le_of_ble_eq_true rfl) (by omega) (cT_fault hsz (n := n - 1) (by omega) ml m0 E T hB m3 k1 cc1 sd1 hR1.1 hR1.2.1) ?_
      rintro _ _ ⟨m5, rfl, rfl, hfa, hm5⟩
      refine Go.run hsz hn1 0 (pc' := 48) (lv' := [some (gr 132)]) (st' := [gi 0]) (M' := gw m5 ml) rfl ?_
      refine Go.if_eq (by rfl) ⟨by decide, by decide⟩ (fun kq3 => ?_) (fun kq3 => ?_)
      · refine Go.run hsz hn1 1 (pc' := 56) (lv' := [some (gr 132)]) (st' := [gi 0]) (M' := gw m5 ml) rfl ?_
        exact Go.zret (by rfl) (Or.inl rfl) ⟨m0, _, E, T, _, rfl, rfl, hXf, hB, Or.inr ⟨rfl, k1, k1, cc1, sd1, hm5, hR1.2.1, hfa, (by by_cases w9 : m0 135 k1 = 41; (· exact hci.2.2.2.1 w9 rfl); (· exact hci.2.2.1 (by omega) w9))⟩⟩
      · exact absurd kq3 (by decide)
set_option maxRecDepth 100000 in
set_option maxHeartbeats 4000000 in
theorem cLw_beg0 {G : gG} (hsz : G.2.2.2.2.2.2 = true) {n : Nat} (hn : 2 ≤ n) (mi : Nat → Nat → Int) (ml : Nat → Nat → Int64) (x : Int) (hx : 0 ≤ x ∧ x ≤ 120) : gM G 15 n 0 0 [gr 48, gr 133, gi x] (gw mi ml) (gvd (gw (gcpy (gu (gu mi 48 0 1) 48 1 x) 133 0 49 0 x.toNat) ml)) := by
  have hn1 : 1 ≤ n := by omega
  have hxr : rng x := ⟨by omega, by omega⟩
  refine gM.of mX2_begin okX2_begin (gcp 15 (by decide)).1 (gcp 15 (by decide)).2 (Nat.le_of_ble_eq_true rfl) ?_
  refine Go.run hsz hn1 6 (pc' := 9) (lv' := [some (gr 48), some (gr 133), some (gi x)]) (st' := [gi 120, gi x, gr 48]) (M' := gw (gu mi 48 0 1) ml) rfl ?_
  refine Go.mmin (by rfl) hn1 (Nat.le_of_ble_eq_true rfl) hxr ⟨by decide, by decide⟩ ?_
  refine Go.run hsz hn1 1 (pc' := 15) (lv' := [some (gr 48), some (gr 133), some (gi x)]) (st' := []) (M' := gw (gu (gu mi 48 0 1) 48 1 (if 120 < x then 120 else x)) ml) rfl ?_
  rw [show (if 120 < x then 120 else x) = x from if_neg (by omega)]
  refine Go.run hsz hn1 7 (pc' := 26) (lv' := [some (gr 48), some (gr 133), some (gi x)]) (st' := [gi x, gi 0, gr 49, gi 0, gr 133]) (M' := gw (gu (gu mi 48 0 1) 48 1 x) ml) rfl ?_
  refine Go.copyW (by rfl) hn1 (Nat.le_of_ble_eq_true rfl) (N := 120) (by rfl) (N1 := 120) (by rfl) (by decide) (by decide) (by omega) (by omega) (by omega) (by omega) (by omega) ?_
  refine Go.run hsz hn1 0 (pc' := 29) (lv' := [some (gr 48), some (gr 133), some (gi x)]) (st' := []) (M' := gw (gcpy (gu (gu mi 48 0 1) 48 1 x) 133 0 49 0 x.toNat) ml) rfl ?_
  exact Go.vret (by rfl) ⟨rfl, rfl⟩
set_option maxRecDepth 100000 in
set_option maxHeartbeats 4000000 in
theorem cLw_beg1 {G : gG} (hsz : G.2.2.2.2.2.2 = true) {n : Nat} (hn : 2 ≤ n) (mi : Nat → Nat → Int) (ml : Nat → Nat → Int64) (x : Int) (hx : 0 ≤ x ∧ x ≤ 120) : gM G 15 n 0 0 [gr 51, gr 133, gi x] (gw mi ml) (gvd (gw (gcpy (gu (gu mi 51 0 1) 51 1 x) 133 0 52 0 x.toNat) ml)) := by
  have hn1 : 1 ≤ n := by omega
  have hxr : rng x := ⟨by omega, by omega⟩
  refine gM.of mX2_begin okX2_begin (gcp 15 (by decide)).1 (gcp 15 (by decide)).2 (Nat.le_of_ble_eq_true rfl) ?_
  refine Go.run hsz hn1 6 (pc' := 9) (lv' := [some (gr 51), some (gr 133), some (gi x)]) (st' := [gi 120, gi x, gr 51]) (M' := gw (gu mi 51 0 1) ml) rfl ?_
  refine Go.mmin (by rfl) hn1 (Nat.le_of_ble_eq_true rfl) hxr ⟨by decide, by decide⟩ ?_
  refine Go.run hsz hn1 1 (pc' := 15) (lv' := [some (gr 51), some (gr 133), some (gi x)]) (st' := []) (M' := gw (gu (gu mi 51 0 1) 51 1 (if 120 < x then 120 else x)) ml) rfl ?_
  rw [show (if 120 < x then 120 else x) = x from if_neg (by omega)]
  refine Go.run hsz hn1 7 (pc' := 26) (lv' := [some (gr 51), some (gr 133), some (gi x)]) (st' := [gi x, gi 0, gr 52, gi 0, gr 133]) (M' := gw (gu (gu mi 51 0 1) 51 1 x) ml) rfl ?_
  refine Go.copyW (by rfl) hn1 (Nat.le_of_ble_eq_true rfl) (N := 120) (by rfl) (N1 := 120) (by rfl) (by decide) (by decide) (by omega) (by omega) (by omega) (by omega) (by omega) ?_
  refine Go.run hsz hn1 0 (pc' := 29) (lv' := [some (gr 51), some (gr 133), some (gi x)]) (st' := []) (M' := gw (gcpy (gu (gu mi 51 0 1) 51 1 x) 133 0 52 0 x.toNat) ml) rfl ?_
  exact Go.vret (by rfl) ⟨rfl, rfl⟩
def cLwM (m1 : Nat → Nat → Int) (l : Nat) : Nat → Nat → Int := gcpy (gu (gu (gu m1 132 0 0) (48 + 3 * l) 0 1) (48 + 3 * l) 1 (m1 132 3)) 133 0 (49 + 3 * l) 0 (m1 132 3).toNat
def rcP (mi m0 m1 : Nat → Nat → Int) (E : Nat → Nat) (T : Nat) (l b : Int) (ml : Nat → Nat → Int64) (r : Option gV) (M : gMe) : Prop := cXf mi m0 ∧ tBs m0 E T ∧ rT2 m0 m1 T b ∧ ((b = 0 ∧ r = some (gi (-1 - m1 132 1)) ∧ M = gw (gu m1 132 0 0) ml) ∨ (b = 1 ∧ r = some (gi (m1 132 2)) ∧ M = gw (cLwM m1 l.toNat) ml))
theorem rT2.b {m0 m1 : Nat → Nat → Int} {E : Nat → Nat} {T : Nat} {b : Int} (hB : tBs m0 E T) (h : rT2 m0 m1 T b) : gR32 m1 ∧ (b = 0 → 0 ≤ m1 132 1 ∧ m1 132 1 ≤ 120) ∧ (b = 1 → 0 ≤ m1 132 3 ∧ m1 132 3 ≤ 120) := by
  rcases h with ⟨hb, k, cc, sd, h1, _, h3, _⟩ | ⟨hb, kf, k, cc, sd, h1, h2, h3, _⟩
  · refine ⟨h1.1, fun q => by omega, fun _ => ?_⟩
    rw [h1.2.2.1.2.2]
    omega
  · refine ⟨h1.1, fun _ => ?_, fun q => by omega⟩
    rw [h3]
    have := lexd_st hB.2.2 h2
    have := hB.2.1
    omega
set_option maxRecDepth 100000 in
set_option maxHeartbeats 4000000 in
theorem pC_law {G : gG} (hsz : G.2.2.2.2.2.2 = true) {n : Nat} (hn : 47 ≤ n) (ml : Nat → Nat → Int64) (mi : Nat → Nat → Int) (hz : 0 ≤ mi 132 0 ∧ mi 132 0 ≤ 120) (hb : ∀ i : Nat, (i : Int) < mi 132 0 → 0 ≤ mi 134 i ∧ mi 134 i ≤ 255) (hR : gR32 mi) (hv : CV mi) (l : Int) (r_l : rng l) : gM G 119 n 0 0 [gr 0, gi l] (gw mi ml) (fun r M => (¬ (0 ≤ l ∧ l ≤ 1) ∧ r = some (gi (-1000001)) ∧ M = gw (cFd mi 0) ml) ∨ ((0 ≤ l ∧ l ≤ 1) ∧ ∃ (m0 m1 : Nat → Nat → Int) (E : Nat → Nat) (T : Nat) (b : Int), rcP mi m0 m1 E T l b ml r M)) := by
  have hn1 : 1 ≤ n := by omega
  have r_l2 : -2147483648 ≤ l ∧ l < 2147483648 := r_l
  refine gM.of mX11_law okX11_law (gcp 119 (by decide)).1 (gcp 119 (by decide)).2 (Nat.le_of_ble_eq_true rfl) ?_
  rcases (show l = 0 ∨ l = 1 ∨ (l < 0 ∨ 1 < l) by omega) with rfl | rfl | hd
  · refine Go.run hsz hn1 3 (pc' := 3) (lv' := [some (gr 0), some (gi 0), none]) (st' := [gi 1, gi 0, gi 0]) (M' := gw mi ml) rfl ?_
    refine Go.callS (As := [gi 0, gi 0, gi 1]) (st := []) (mc1 := 0) (mc := 0) (ms1 := 0) (ms := 0) (by rfl) rfl (gcn 150 (by decide)).1 (gcn 150 (by decide)).2 (Nat.le_of_ble_eq_true rfl) (by omega) (cC_isIn hsz (n := n - 1) (by omega) mi ml 0 0 1 ⟨by decide, by decide⟩ ⟨by decide, by decide⟩ ⟨by decide, by decide⟩) ?_
    rintro _ _ ⟨rfl, rfl⟩
    refine Go.run hsz hn1 0 (pc' := 6) (lv' := [some (gr 0), some (gi 0), none]) (st' := [gi (b2 (0 ≤ 0 ∧ 0 ≤ 1))]) (M' := gw mi ml) rfl ?_
    refine Go.if_ne (by rfl) (b2_rng _) (fun kq1 => ?_) (fun kq1 => ?_)
    · replace kq1 := b2_pos kq1
      refine Go.run hsz hn1 0 (pc' := 16) (lv' := [some (gr 0), some (gi 0), none]) (st' := []) (M' := gw mi ml) rfl ?_
      refine Go.run hsz hn1 2 (pc' := 20) (lv' := [some (gr 0), some (gi 0), none]) (st' := [gr 132]) (M' := gw mi ml) rfl ?_
      refine Go.callV (As := []) (b := 132) (st := []) (mc1 := 0) (mc := 0) (ms1 := 0) (ms := 0) (by rfl) rfl (c := 8) (N := 11) (by rfl) (by decide) (by rfl) (gcn 79 (by decide)).1 (gcn 79 (by decide)).2 rfl (Nat.le_of_ble_eq_true rfl) (by omega) (cT_text hsz (n := n - 1) (by omega) ml mi hz hb hR) ?_
      rintro _ _ ⟨m0, m1, E, T, b, rfl, rfl, hXf, hB, h2⟩
      have hb01 := h2.b01
      have hbb := h2.b hB
      have hbf := hbb.2.1
      have hbs := hbb.2.2
      refine Go.run hsz hn1 6 (pc' := 33) (lv' := [some (gr 0), some (gi 0), some (gi b)]) (st' := [gi b]) (M' := gw (gu m1 132 0 0) ml) rfl ?_
      refine Go.if_ne (by rfl) ⟨by omega, by omega⟩ (fun kq2 => ?_) (fun kq2 => ?_)
      · refine Go.run hsz hn1 4 (pc' := 54) (lv' := [some (gr 0), some (gi 0), some (gi b)]) (st' := [gi 0, gr 6]) (M' := gw (gu m1 132 0 0) ml) rfl ?_
        refine Go.aaldR 5 (by rfl) (N := 2) (by rfl) ⟨by decide, by decide⟩ (by decide) (by decide) (by decide) (b := 48) (by rfl) ?_
        refine Go.run hsz hn1 6 (pc' := 69) (lv' := [some (gr 0), some (gi 0), some (gi b)]) (st' := [gi (m1 132 3), gr 133, gr 48]) (M' := gw (gu m1 132 0 0) ml) rfl ?_
        refine Go.callV (As := [gr 133, gi (m1 132 3)]) (b := 48) (st := []) (mc1 := 0) (mc := 0) (ms1 := 0) (ms := 0) (by rfl) rfl (c := 1) (N := 4) (by rfl) (by decide) (by rfl) (gcn 15 (by decide)).1 (gcn 15 (by decide)).2 rfl (Nat.le_of_ble_eq_true rfl) (by omega) (cLw_beg0 hsz (n := n - 1) (by omega) (gu m1 132 0 0) ml (m1 132 3) (by omega)) ?_
        rintro _ _ ⟨rfl, rfl⟩
        refine Go.run hsz hn1 3 (pc' := 79) (lv' := [some (gr 0), some (gi 0), some (gi b)]) (st' := [gi ((gcpy (gu (gu (gu m1 132 0 0) 48 0 1) 48 1 (m1 132 3)) 133 0 49 0 (m1 132 3).toNat) 132 2)]) (M' := gw (gcpy (gu (gu (gu m1 132 0 0) 48 0 1) 48 1 (m1 132 3)) 133 0 49 0 (m1 132 3).toNat) ml) rfl ?_
        exact Go.iret (by rfl) (Or.inr ⟨by decide, m0, m1, E, T, b, hXf, hB, h2, Or.inr ⟨by omega, rfl, rfl⟩⟩)
      · refine Go.run hsz hn1 5 (pc' := 45) (lv' := [some (gr 0), some (gi 0), some (gi b)]) (st' := [gi ((-1) - (m1 132 1))]) (M' := gw (gu m1 132 0 0) ml) rfl ?_
        exact Go.iret (by rfl) (Or.inr ⟨by decide, m0, m1, E, T, b, hXf, hB, h2, Or.inl ⟨by omega, rfl, rfl⟩⟩)
    · replace kq1 := b2_neg kq1
      refine Go.run hsz hn1 2 (pc' := 12) (lv' := [some (gr 0), some (gi 0), none]) (st' := [gi (-1000001), gr 0]) (M' := gw mi ml) rfl ?_
      refine Go.callV (As := [gi (-1000001)]) (b := 0) (st := []) (mc1 := 0) (mc := 0) (ms1 := 0) (ms := 0) (by rfl) rfl (c := 10) (N := 9) (by rfl) (by decide) (by rfl) (gcn 147 (by decide)).1 (gcn 147 (by decide)).2 rfl (Nat.le_of_ble_eq_true rfl) (by omega) (cC_finding hsz (n := n - 1) (by omega) mi ml (-1000001) (by decide) (by decide)) ?_
      rintro _ _ ⟨rfl, rfl⟩
      refine Go.run hsz hn1 0 (pc' := 15) (lv' := [some (gr 0), some (gi 0), none]) (st' := [gi (-1000001)]) (M' := gw (cFd mi 0) ml) rfl ?_
      exact Go.iret (by rfl) (Or.inl ⟨by omega, rfl, rfl⟩)
  · refine Go.run hsz hn1 3 (pc' := 3) (lv' := [some (gr 0), some (gi 1), none]) (st' := [gi 1, gi 0, gi 1]) (M' := gw mi ml) rfl ?_
    refine Go.callS (As := [gi 1, gi 0, gi 1]) (st := []) (mc1 := 0) (mc := 0) (ms1 := 0) (ms := 0) (by rfl) rfl (gcn 150 (by decide)).1 (gcn 150 (by decide)).2 (Nat.le_of_ble_eq_true rfl) (by omega) (cC_isIn hsz (n := n - 1) (by omega) mi ml 1 0 1 ⟨by decide, by decide⟩ ⟨by decide, by decide⟩ ⟨by decide, by decide⟩) ?_
    rintro _ _ ⟨rfl, rfl⟩
    refine Go.run hsz hn1 0 (pc' := 6) (lv' := [some (gr 0), some (gi 1), none]) (st' := [gi (b2 (0 ≤ 1 ∧ 1 ≤ 1))]) (M' := gw mi ml) rfl ?_
    refine Go.if_ne (by rfl) (b2_rng _) (fun kq3 => ?_) (fun kq3 => ?_)
    · replace kq3 := b2_pos kq3
      refine Go.run hsz hn1 0 (pc' := 16) (lv' := [some (gr 0), some (gi 1), none]) (st' := []) (M' := gw mi ml) rfl ?_
      refine Go.run hsz hn1 2 (pc' := 20) (lv' := [some (gr 0), some (gi 1), none]) (st' := [gr 132]) (M' := gw mi ml) rfl ?_
      refine Go.callV (As := []) (b := 132) (st := []) (mc1 := 0) (mc := 0) (ms1 := 0) (ms := 0) (by rfl) rfl (c := 8) (N := 11) (by rfl) (by decide) (by rfl) (gcn 79 (by decide)).1 (gcn 79 (by decide)).2 rfl (Nat.le_of_ble_eq_true rfl) (by omega) (cT_text hsz (n := n - 1) (by omega) ml mi hz hb hR) ?_
      rintro _ _ ⟨m0, m1, E, T, b, rfl, rfl, hXf, hB, h2⟩
      have hb01 := h2.b01
      have hbb := h2.b hB
      have hbf := hbb.2.1
      have hbs := hbb.2.2
      refine Go.run hsz hn1 6 (pc' := 33) (lv' := [some (gr 0), some (gi 1), some (gi b)]) (st' := [gi b]) (M' := gw (gu m1 132 0 0) ml) rfl ?_
      refine Go.if_ne (by rfl) ⟨by omega, by omega⟩ (fun kq4 => ?_) (fun kq4 => ?_)
      · refine Go.run hsz hn1 4 (pc' := 54) (lv' := [some (gr 0), some (gi 1), some (gi b)]) (st' := [gi 1, gr 6]) (M' := gw (gu m1 132 0 0) ml) rfl ?_
        refine Go.aaldR 5 (by rfl) (N := 2) (by rfl) ⟨by decide, by decide⟩ (by decide) (by decide) (by decide) (b := 51) (by rfl) ?_
        refine Go.run hsz hn1 6 (pc' := 69) (lv' := [some (gr 0), some (gi 1), some (gi b)]) (st' := [gi (m1 132 3), gr 133, gr 51]) (M' := gw (gu m1 132 0 0) ml) rfl ?_
        refine Go.callV (As := [gr 133, gi (m1 132 3)]) (b := 51) (st := []) (mc1 := 0) (mc := 0) (ms1 := 0) (ms := 0) (by rfl) rfl (c := 1) (N := 4) (by rfl) (by decide) (by rfl) (gcn 15 (by decide)).1 (gcn 15 (by decide)).2 rfl (Nat.le_of_ble_eq_true rfl) (by omega) (cLw_beg1 hsz (n := n - 1) (by omega) (gu m1 132 0 0) ml (m1 132 3) (by omega)) ?_
        rintro _ _ ⟨rfl, rfl⟩
        refine Go.run hsz hn1 3 (pc' := 79) (lv' := [some (gr 0), some (gi 1), some (gi b)]) (st' := [gi ((gcpy (gu (gu (gu m1 132 0 0) 51 0 1) 51 1 (m1 132 3)) 133 0 52 0 (m1 132 3).toNat) 132 2)]) (M' := gw (gcpy (gu (gu (gu m1 132 0 0) 51 0 1) 51 1 (m1 132 3)) 133 0 52 0 (m1 132 3).toNat) ml) rfl ?_
        exact Go.iret (by rfl) (Or.inr ⟨by decide, m0, m1, E, T, b, hXf, hB, h2, Or.inr ⟨by omega, rfl, rfl⟩⟩)
      · refine Go.run hsz hn1 5 (pc' := 45) (lv' := [some (gr 0), some (gi 1), some (gi b)]) (st' := [gi ((-1) - (m1 132 1))]) (M' := gw (gu m1 132 0 0) ml) rfl ?_
        exact Go.iret (by rfl) (Or.inr ⟨by decide, m0, m1, E, T, b, hXf, hB, h2, Or.inl ⟨by omega, rfl, rfl⟩⟩)
    · replace kq3 := b2_neg kq3
      refine Go.run hsz hn1 2 (pc' := 12) (lv' := [some (gr 0), some (gi 1), none]) (st' := [gi (-1000001), gr 0]) (M' := gw mi ml) rfl ?_
      refine Go.callV (As := [gi (-1000001)]) (b := 0) (st := []) (mc1 := 0) (mc := 0) (ms1 := 0) (ms := 0) (by rfl) rfl (c := 10) (N := 9) (by rfl) (by decide) (by rfl) (gcn 147 (by decide)).1 (gcn 147 (by decide)).2 rfl (Nat.le_of_ble_eq_true rfl) (by omega) (cC_finding hsz (n := n - 1) (by omega) mi ml (-1000001) (by decide) (by decide)) ?_
      rintro _ _ ⟨rfl, rfl⟩
      refine Go.run hsz hn1 0 (pc' := 15) (lv' := [some (gr 0), some (gi 1), none]) (st' := [gi (-1000001)]) (M' := gw (cFd mi 0) ml) rfl ?_
      exact Go.iret (by rfl) (Or.inl ⟨by omega, rfl, rfl⟩)
  · refine Go.run hsz hn1 3 (pc' := 3) (lv' := [some (gr 0), some (gi l), none]) (st' := [gi 1, gi 0, gi l]) (M' := gw mi ml) rfl ?_
    refine Go.callS (As := [gi l, gi 0, gi 1]) (st := []) (mc1 := 0) (mc := 0) (ms1 := 0) (ms := 0) (by rfl) rfl (gcn 150 (by decide)).1 (gcn 150 (by decide)).2 (Nat.le_of_ble_eq_true rfl) (by omega) (cC_isIn hsz (n := n - 1) (by omega) mi ml l 0 1 r_l ⟨by decide, by decide⟩ ⟨by decide, by decide⟩) ?_
    rintro _ _ ⟨rfl, rfl⟩
    refine Go.run hsz hn1 0 (pc' := 6) (lv' := [some (gr 0), some (gi l), none]) (st' := [gi (b2 (0 ≤ l ∧ l ≤ 1))]) (M' := gw mi ml) rfl ?_
    refine Go.if_ne (by rfl) (b2_rng _) (fun kq5 => ?_) (fun kq5 => ?_)
    · replace kq5 := b2_pos kq5
      refine Go.run hsz hn1 0 (pc' := 16) (lv' := [some (gr 0), some (gi l), none]) (st' := []) (M' := gw mi ml) rfl ?_
      exfalso; omega
    · replace kq5 := b2_neg kq5
      refine Go.run hsz hn1 2 (pc' := 12) (lv' := [some (gr 0), some (gi l), none]) (st' := [gi (-1000001), gr 0]) (M' := gw mi ml) rfl ?_
      refine Go.callV (As := [gi (-1000001)]) (b := 0) (st := []) (mc1 := 0) (mc := 0) (ms1 := 0) (ms := 0) (by rfl) rfl (c := 10) (N := 9) (by rfl) (by decide) (by rfl) (gcn 147 (by decide)).1 (gcn 147 (by decide)).2 rfl (Nat.le_of_ble_eq_true rfl) (by omega) (cC_finding hsz (n := n - 1) (by omega) mi ml (-1000001) (by decide) (by decide)) ?_
      rintro _ _ ⟨rfl, rfl⟩
      refine Go.run hsz hn1 0 (pc' := 15) (lv' := [some (gr 0), some (gi l), none]) (st' := [gi (-1000001)]) (M' := gw (cFd mi 0) ml) rfl ?_
      exact Go.iret (by rfl) (Or.inl ⟨by omega, rfl, rfl⟩)

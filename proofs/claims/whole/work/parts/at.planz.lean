/-! ===== plan: the class whole ===== -/
def plOkC (mi : Nat → Nat → Int) (b : Nat) : Prop := ¬ cA mi b 8 = -2 ∧ ¬ cA mi b 4 ≤ mi 1 0
def plCC (mi : Nat → Nat → Int) (x : Int) : Prop := 0 < x ∧ x < shlI 1 (mi 1 3) ∧ popN x.toNat 24 ≤ 4
def plPC (mi : Nat → Nat → Int) (ml : Nat → Nat → Int64) (X : Nat) (PM : Option gV → gMe → Prop) (r : Option gV) (M : gMe) : Prop := ((∃ b : Nat, b < (mi 1 3).toNat ∧ X.testBit b = true ∧ ¬ plOkC mi b) ∧ r = some (gi (-1000005)) ∧ M = gw (cFd mi 4) ml) ∨ ((∀ b : Nat, b < (mi 1 3).toNat → X.testBit b = true → plOkC mi b) ∧ PM r M)
set_option maxRecDepth 100000 in
set_option maxHeartbeats 4000000 in
theorem lC_pl {G : gG} (hsz : G.2.2.2.2.2.2 = true) {n : Nat} (hn : 4 ≤ n) (ml : Nat → Nat → Int64) (mi : Nat → Nat → Int) (hv : CV mi) (X : Nat) (hX : X < 16777216) (PM : Option gV → gMe → Prop) (hmk : (∀ b : Nat, b < (mi 1 3).toNat → X.testBit b = true → plOkC mi b) → gM G 33 (n - 1) 0 0 [gr 110, gi ((X : Nat) : Int)] (gw mi ml) PM) (hsh : ∀ r M, PM r M → ∃ (v : Int) (m : Nat → Nat → Int) (l : Nat → Nat → Int64), r = some (gi v) ∧ M = gw m l) : ∀ (f : Nat) (q : Int) (mk : Int) (hok : ∀ b : Nat, b < q.toNat → X.testBit b = true → plOkC mi b), 0 ≤ q → q ≤ mi 1 3 → mi 1 3 - q < f → Go G mX11_plan n 0 0 41 [some (gr 0), some (gi ((X : Nat) : Int)), some (gi mk), some (gi q), none] [] (gw mi ml) (plPC mi ml X PM) := by
  have hn1 : 1 ≤ n := by omega
  have hR := hv.1
  have hN : 0 ≤ mi 1 3 ∧ mi 1 3 ≤ 24 := hv.2.2.2.1
  intro f
  induction f with
  | zero => intros; omega
  | succ f ih =>
    intro q mk hok q0 q1 q2
    have hbt : q < mi 1 3 → (X.testBit q.toNat = true ∧ andI (shrI ((X : Nat) : Int) q) 1 = 1) ∨ (X.testBit q.toNat = false ∧ andI (shrI ((X : Nat) : Int) q) 1 = 0) := fun w9 => (by rw [bit_nat hX (k := q) (by omega) (by omega)]; cases X.testBit q.toNat <;> simp)

    refine Go.run hsz hn1 4 (pc' := 49) (lv' := [some (gr 0), some (gi ((X : Nat) : Int)), some (gi mk), some (gi q), none]) (st' := [gi (mi 1 3), gi q]) (M' := gw mi ml) rfl ?_
    refine Go.icmp_ge (by rfl) ⟨by omega, by omega⟩ (hR _ _) (fun kq1 => ?_) (fun kq1 => ?_)
    · refine Go.run hsz hn1 3 (pc' := 118) (lv' := [some (gr 0), some (gi ((X : Nat) : Int)), some (gi mk), some (gi q), none]) (st' := [gi ((X : Nat) : Int), gr 110]) (M' := gw mi ml) rfl ?_
      have hok9 : ∀ b : Nat, b < (mi 1 3).toNat → X.testBit b = true → plOkC mi b := (by rw [show (mi 1 3).toNat = q.toNat by omega]; exact hok)
      refine Go.callV (As := [gi ((X : Nat) : Int)]) (b := 110) (st := []) (mc1 := 0) (mc := 0) (ms1 := 0) (ms := 0) (by rfl) rfl (c := 4) (N := 14) (by rfl) (by decide) (by rfl) (gcn 33 (by decide)).1 (gcn 33 (by decide)).2 rfl (Nat.le_of_ble_eq_true rfl) (by omega) (hmk hok9) ?_
      rintro r9 M9 hPM
      obtain ⟨v9, m9, l9, rfl, rfl⟩ := hsh r9 M9 hPM
      refine Go.run hsz hn1 0 (pc' := 121) (lv' := [some (gr 0), some (gi ((X : Nat) : Int)), some (gi mk), some (gi q), none]) (st' := [gi v9]) (M' := gw m9 l9) rfl ?_
      exact Go.iret (by rfl) (Or.inr ⟨hok9, hPM⟩)
    · refine Go.run hsz hn1 5 (pc' := 57) (lv' := [some (gr 0), some (gi ((X : Nat) : Int)), some (gi mk), some (gi q), none]) (st' := [gi (andI (shrI ((X : Nat) : Int) q) 1)]) (M' := gw mi ml) rfl ?_
      refine Go.if_eq (by rfl) (rng_of _) (fun kq2 => ?_) (fun kq2 => ?_)
      · refine Go.run hsz hn1 3 (pc' := 69) (lv' := [some (gr 0), some (gi ((X : Nat) : Int)), some (gi mk), some (gi q), some (gi 0)]) (st' := [gi 0]) (M' := gw mi ml) rfl ?_
        refine Go.if_eq (by rfl) ⟨by decide, by decide⟩ (fun kq3 => ?_) (fun kq3 => ?_)
        · refine Go.run hsz hn1 2 (pc' := 41) (lv' := [some (gr 0), some (gi ((X : Nat) : Int)), some (gi mk), some (gi (q + 1)), some (gi 0)]) (st' := []) (M' := gw mi ml) rfl ?_
          refine Go.dropl 4 ?_
          refine Go.run hsz hn1 0 (pc' := 41) (lv' := [some (gr 0), some (gi ((X : Nat) : Int)), some (gi mk), some (gi (q + 1)), none]) (st' := []) (M' := gw mi ml) rfl ?_
          refine ih (q + 1) mk (fun b w1 w2 => ?_) (by omega) (by omega) (by omega)
          by_cases w3 : b = q.toNat
          · rcases hbt (by omega) with w9 | w9
            · rw [w3]; unfold plOkC; rw [show ((q.toNat : Nat) : Int) = q by omega]; first | (exfalso; omega) | exact ⟨by assumption, by assumption⟩
            · rw [w3, w9.1] at w2; exact absurd w2 (by decide)
          · exact hok b (by omega) w2
        · exact absurd kq3 (by decide)
      · refine Go.run hsz hn1 4 (pc' := 69) (lv' := [some (gr 0), some (gi ((X : Nat) : Int)), some (gi mk), some (gi q), some (gi 1)]) (st' := [gi 1]) (M' := gw mi ml) rfl ?_
        refine Go.if_eq (by rfl) ⟨by decide, by decide⟩ (fun kq4 => ?_) (fun kq4 => ?_)
        · exact absurd kq4 (by decide)
        · refine Go.run hsz hn1 4 (pc' := 80) (lv' := [some (gr 0), some (gi ((X : Nat) : Int)), some (gi mk), some (gi q), some (gi 1)]) (st' := [gi q, gr 3]) (M' := gw mi ml) rfl ?_
          refine Go.aaldR 4 (by rfl) (N := 24) (by rfl) ⟨by decide, by decide⟩ (by omega) (by omega) (by decide) (gMR_3 (by omega) (by omega)) ?_
          refine Go.getf (by rfl) (c := 2) (N := 14) (shA (i := q) (by omega)) ?_
          refine Go.run hsz hn1 1 (pc' := 86) (lv' := [some (gr 0), some (gi ((X : Nat) : Int)), some (gi mk), some (gi q), some (gi 1)]) (st' := [gi (-2), gi (cA mi q 8)]) (M' := gw mi ml) rfl ?_
          refine Go.icmp_eq (by rfl) (hR _ _) ⟨by decide, by decide⟩ (fun kq5 => ?_) (fun kq5 => ?_)
          · refine Go.run hsz hn1 2 (pc' := 103) (lv' := [some (gr 0), some (gi ((X : Nat) : Int)), some (gi mk), some (gi q), some (gi 1)]) (st' := [gi (-1000005), gr 0]) (M' := gw mi ml) rfl ?_
            refine Go.callV (As := [gi (-1000005)]) (b := 0) (st := []) (mc1 := 0) (mc := 0) (ms1 := 0) (ms := 0) (by rfl) rfl (c := 10) (N := 9) (by rfl) (by decide) (by rfl) (gcn 147 (by decide)).1 (gcn 147 (by decide)).2 rfl (Nat.le_of_ble_eq_true rfl) (by omega) (cC_finding hsz (n := n - 1) (by omega) mi ml (-1000005) (by decide) (by decide)) ?_
            rintro _ _ ⟨rfl, rfl⟩
            refine Go.run hsz hn1 0 (pc' := 106) (lv' := [some (gr 0), some (gi ((X : Nat) : Int)), some (gi mk), some (gi q), some (gi 1)]) (st' := [gi (-1000005)]) (M' := gw (cFd mi 4) ml) rfl ?_
            have hbf : X.testBit q.toNat = true := (by rcases hbt (by omega) with w9 | w9; (· exact w9.1); (· exfalso; omega))
            exact Go.iret (by rfl) (Or.inl ⟨⟨q.toNat, by omega, hbf, (fun w9 => (by unfold plOkC at w9; rw [show ((q.toNat : Nat) : Int) = q by omega] at w9; first | exact w9.1 (by assumption) | exact w9.2 (by assumption)))⟩, rfl, rfl⟩)
          · refine Go.run hsz hn1 3 (pc' := 94) (lv' := [some (gr 0), some (gi ((X : Nat) : Int)), some (gi mk), some (gi q), some (gi 1)]) (st' := [gi q, gr 1]) (M' := gw mi ml) rfl ?_
            refine Go.callV (As := [gi q]) (b := 1) (st := []) (mc1 := 0) (mc := 0) (ms1 := 0) (ms := 0) (by rfl) rfl (c := 7) (N := 11) (by rfl) (by decide) (by rfl) (gcn 63 (by decide)).1 (gcn 63 (by decide)).2 rfl (Nat.le_of_ble_eq_true rfl) (by omega) (cS_hasCome hsz (n := n - 1) (by omega) mi ml q (by omega) (by omega) hR) ?_
            rintro _ _ ⟨rfl, rfl⟩
            refine Go.run hsz hn1 0 (pc' := 97) (lv' := [some (gr 0), some (gi ((X : Nat) : Int)), some (gi mk), some (gi q), some (gi 1)]) (st' := [gi (b2 (cA mi q 4 ≤ mi 1 0))]) (M' := gw mi ml) rfl ?_
            refine Go.if_eq (by rfl) (b2_rng _) (fun kq6 => ?_) (fun kq6 => ?_)
            · replace kq6 := b2_neg kq6
              refine Go.run hsz hn1 2 (pc' := 41) (lv' := [some (gr 0), some (gi ((X : Nat) : Int)), some (gi mk), some (gi (q + 1)), some (gi 1)]) (st' := []) (M' := gw mi ml) rfl ?_
              refine Go.dropl 4 ?_
              refine Go.run hsz hn1 0 (pc' := 41) (lv' := [some (gr 0), some (gi ((X : Nat) : Int)), some (gi mk), some (gi (q + 1)), none]) (st' := []) (M' := gw mi ml) rfl ?_
              refine ih (q + 1) mk (fun b w1 w2 => ?_) (by omega) (by omega) (by omega)
              by_cases w3 : b = q.toNat
              · rcases hbt (by omega) with w9 | w9
                · rw [w3]; unfold plOkC; rw [show ((q.toNat : Nat) : Int) = q by omega]; first | (exfalso; omega) | exact ⟨by assumption, by assumption⟩
                · rw [w3, w9.1] at w2; exact absurd w2 (by decide)
              · exact hok b (by omega) w2
            · replace kq6 := b2_pos kq6
              refine Go.run hsz hn1 2 (pc' := 103) (lv' := [some (gr 0), some (gi ((X : Nat) : Int)), some (gi mk), some (gi q), some (gi 1)]) (st' := [gi (-1000005), gr 0]) (M' := gw mi ml) rfl ?_
              refine Go.callV (As := [gi (-1000005)]) (b := 0) (st := []) (mc1 := 0) (mc := 0) (ms1 := 0) (ms := 0) (by rfl) rfl (c := 10) (N := 9) (by rfl) (by decide) (by rfl) (gcn 147 (by decide)).1 (gcn 147 (by decide)).2 rfl (Nat.le_of_ble_eq_true rfl) (by omega) (cC_finding hsz (n := n - 1) (by omega) mi ml (-1000005) (by decide) (by decide)) ?_
              rintro _ _ ⟨rfl, rfl⟩
              refine Go.run hsz hn1 0 (pc' := 106) (lv' := [some (gr 0), some (gi ((X : Nat) : Int)), some (gi mk), some (gi q), some (gi 1)]) (st' := [gi (-1000005)]) (M' := gw (cFd mi 4) ml) rfl ?_
              have hbf : X.testBit q.toNat = true := (by rcases hbt (by omega) with w9 | w9; (· exact w9.1); (· exfalso; omega))
              exact Go.iret (by rfl) (Or.inl ⟨⟨q.toNat, by omega, hbf, (fun w9 => (by unfold plOkC at w9; rw [show ((q.toNat : Nat) : Int) = q by omega] at w9; first | exact w9.1 (by assumption) | exact w9.2 (by assumption)))⟩, rfl, rfl⟩)
set_option maxRecDepth 100000 in
set_option maxHeartbeats 4000000 in
theorem pC_plan {G : gG} (hsz : G.2.2.2.2.2.2 = true) {n : Nat} (hn : 5 ≤ n) (ml : Nat → Nat → Int64) (mi : Nat → Nat → Int) (hv : CV mi) (x : Int) (r_x : rng x) (PM : Option gV → gMe → Prop) (hmk : plCC mi x → (∀ b : Nat, b < (mi 1 3).toNat → x.toNat.testBit b = true → plOkC mi b) → gM G 33 (n - 1) 0 0 [gr 110, gi x] (gw mi ml) PM) (hsh : ∀ r M, PM r M → ∃ (v : Int) (m : Nat → Nat → Int) (l : Nat → Nat → Int64), r = some (gi v) ∧ M = gw m l) : gM G 115 n 0 0 [gr 0, gi x] (gw mi ml) (fun r M => (¬ plCC mi x ∧ r = some (gi (-1000001)) ∧ M = gw (cFd mi 0) ml) ∨ (plCC mi x ∧ plPC mi ml x.toNat PM r M)) := by
  have hn1 : 1 ≤ n := by omega
  have r_x2 : -2147483648 ≤ x ∧ x < 2147483648 := r_x
  have hR := hv.1
  have hN : 0 ≤ mi 1 3 ∧ mi 1 3 ≤ 24 := hv.2.2.2.1
  have hmask := mask_iff r_x (N := (mi 1 3).toNat) (by omega)
  have hsh1 := shl_pow24 (mi 1 3).toNat (by omega)
  rw [show (((mi 1 3).toNat : Nat) : Int) = mi 1 3 by omega] at hmask hsh1
  rw [← hsh1] at hmask
  have hpw : 2 ^ (mi 1 3).toNat ≤ 2 ^ 24 := Nat.pow_le_pow_right (by omega) (by omega)
  have hsb : shlI 1 (mi 1 3) ≤ 16777216 := (by rw [hsh1]; exact Int.ofNat_le.mpr hpw)
  clear hpw hsh1
  refine gM.of mX11_plan okX11_plan (gcp 115 (by decide)).1 (gcp 115 (by decide)).2 (Nat.le_of_ble_eq_true rfl) ?_
  by_cases hx : 0 ≤ x ∧ x < shlI 1 (mi 1 3)
  · obtain ⟨X, rfl⟩ : ∃ X : Nat, x = X := ⟨x.toNat, by omega⟩
    refine Go.run hsz hn1 13 (pc' := 17) (lv' := [some (gr 0), some (gi ((X : Nat) : Int)), some (gi ((shlI 1 (mi 1 3)) - 1)), none, none]) (st' := [gi (andI ((X : Nat) : Int) (xorI ((shlI 1 (mi 1 3)) - 1) (-1)))]) (M' := gw mi ml) rfl ?_
    refine Go.if_ne (by rfl) (rng_of _) (fun kq1 => ?_) (fun kq1 => ?_)
    · refine Go.run hsz hn1 2 (pc' := 35) (lv' := [some (gr 0), some (gi ((X : Nat) : Int)), some (gi ((shlI 1 (mi 1 3)) - 1)), none, none]) (st' := [gi (-1000001), gr 0]) (M' := gw mi ml) rfl ?_
      refine Go.callV (As := [gi (-1000001)]) (b := 0) (st := []) (mc1 := 0) (mc := 0) (ms1 := 0) (ms := 0) (by rfl) rfl (c := 10) (N := 9) (by rfl) (by decide) (by rfl) (gcn 147 (by decide)).1 (gcn 147 (by decide)).2 rfl (Nat.le_of_ble_eq_true rfl) (by omega) (cC_finding hsz (n := n - 1) (by omega) mi ml (-1000001) (by decide) (by decide)) ?_
      rintro _ _ ⟨rfl, rfl⟩
      refine Go.run hsz hn1 0 (pc' := 38) (lv' := [some (gr 0), some (gi ((X : Nat) : Int)), some (gi ((shlI 1 (mi 1 3)) - 1)), none, none]) (st' := [gi (-1000001)]) (M' := gw (cFd mi 0) ml) rfl ?_
      first | exact absurd (hmask.mpr hx) (by assumption) | exact Go.iret (by rfl) (Or.inl ⟨fun w9 => (by have w8 := w9.2.2; have w7 := w9.1; rw [show ((X : Nat) : Int).toNat = X by omega] at w8; omega), rfl, rfl⟩)
    · refine Go.run hsz hn1 1 (pc' := 21) (lv' := [some (gr 0), some (gi ((X : Nat) : Int)), some (gi ((shlI 1 (mi 1 3)) - 1)), none, none]) (st' := [gi ((X : Nat) : Int)]) (M' := gw mi ml) rfl ?_
      refine Go.callS (As := [gi ((X : Nat) : Int)]) (st := []) (mc1 := 0) (mc := 0) (ms1 := 0) (ms := 0) (by rfl) rfl (gcn 248 (by decide)).1 (gcn 248 (by decide)).2 (Nat.le_of_ble_eq_true rfl) (by omega) (cJ_ibits hsz (n := n - 1) (by omega) mi ml X (by omega)) ?_
      rintro _ _ ⟨rfl, rfl⟩
      have hp24 : popN X 24 ≤ 24 := (by rw [popN_cnt]; exact cntB_le _ _)
      have hpp : 0 < X → 1 ≤ popN X 24 := fun w9 => popN_pos w9 (by omega)
      refine Go.run hsz hn1 2 (pc' := 26) (lv' := [some (gr 0), some (gi ((X : Nat) : Int)), some (gi ((shlI 1 (mi 1 3)) - 1)), none, none]) (st' := [gi 4, gi 1, gi ((popN X 24 : Nat) : Int)]) (M' := gw mi ml) rfl ?_
      refine Go.callS (As := [gi ((popN X 24 : Nat) : Int), gi 1, gi 4]) (st := []) (mc1 := 0) (mc := 0) (ms1 := 0) (ms := 0) (by rfl) rfl (gcn 150 (by decide)).1 (gcn 150 (by decide)).2 (Nat.le_of_ble_eq_true rfl) (by omega) (cC_isIn hsz (n := n - 1) (by omega) mi ml ((popN X 24 : Nat) : Int) 1 4 ⟨by omega, by omega⟩ ⟨by decide, by decide⟩ ⟨by decide, by decide⟩) ?_
      rintro _ _ ⟨rfl, rfl⟩
      refine Go.run hsz hn1 0 (pc' := 29) (lv' := [some (gr 0), some (gi ((X : Nat) : Int)), some (gi ((shlI 1 (mi 1 3)) - 1)), none, none]) (st' := [gi (b2 (1 ≤ ((popN X 24 : Nat) : Int) ∧ ((popN X 24 : Nat) : Int) ≤ 4))]) (M' := gw mi ml) rfl ?_
      refine Go.if_ne (by rfl) (b2_rng _) (fun kq2 => ?_) (fun kq2 => ?_)
      · replace kq2 := b2_pos kq2
        refine Go.run hsz hn1 2 (pc' := 41) (lv' := [some (gr 0), some (gi ((X : Nat) : Int)), some (gi ((shlI 1 (mi 1 3)) - 1)), some (gi 0), none]) (st' := []) (M' := gw mi ml) rfl ?_
        have hcc : plCC mi ((X : Nat) : Int) := ⟨by (have : ¬ X = 0 := fun w9 => (by subst w9; have w8 : popN 0 24 = 0 := (by decide); omega)); omega, hx.2, (by rw [show ((X : Nat) : Int).toNat = X by omega]; omega)⟩
        have hXX : ((X : Nat) : Int).toNat = X := (by omega)
        rw [hXX] at hmk
        have h9 := lC_pl hsz (n := n) (by omega) ml mi hv X (by omega) PM (hmk hcc) hsh ((mi 1 3).toNat + 1) 0 (shlI 1 (mi 1 3) - 1) (fun b w1 => absurd w1 (Nat.not_lt_zero _)) (by omega) (by omega) (by omega)
        refine Go.imp ?_ h9
        exact fun r M hr => Or.inr ⟨hcc, (by rw [hXX]; exact hr)⟩
      · replace kq2 := b2_neg kq2
        refine Go.run hsz hn1 2 (pc' := 35) (lv' := [some (gr 0), some (gi ((X : Nat) : Int)), some (gi ((shlI 1 (mi 1 3)) - 1)), none, none]) (st' := [gi (-1000001), gr 0]) (M' := gw mi ml) rfl ?_
        refine Go.callV (As := [gi (-1000001)]) (b := 0) (st := []) (mc1 := 0) (mc := 0) (ms1 := 0) (ms := 0) (by rfl) rfl (c := 10) (N := 9) (by rfl) (by decide) (by rfl) (gcn 147 (by decide)).1 (gcn 147 (by decide)).2 rfl (Nat.le_of_ble_eq_true rfl) (by omega) (cC_finding hsz (n := n - 1) (by omega) mi ml (-1000001) (by decide) (by decide)) ?_
        rintro _ _ ⟨rfl, rfl⟩
        refine Go.run hsz hn1 0 (pc' := 38) (lv' := [some (gr 0), some (gi ((X : Nat) : Int)), some (gi ((shlI 1 (mi 1 3)) - 1)), none, none]) (st' := [gi (-1000001)]) (M' := gw (cFd mi 0) ml) rfl ?_
        first | exact absurd (hmask.mpr hx) (by assumption) | exact Go.iret (by rfl) (Or.inl ⟨fun w9 => (by have w8 := w9.2.2; have w7 := w9.1; rw [show ((X : Nat) : Int).toNat = X by omega] at w8; omega), rfl, rfl⟩)
  · refine Go.run hsz hn1 13 (pc' := 17) (lv' := [some (gr 0), some (gi x), some (gi ((shlI 1 (mi 1 3)) - 1)), none, none]) (st' := [gi (andI x (xorI ((shlI 1 (mi 1 3)) - 1) (-1)))]) (M' := gw mi ml) rfl ?_
    refine Go.if_ne (by rfl) (rng_of _) (fun kq3 => ?_) (fun kq3 => ?_)
    · refine Go.run hsz hn1 2 (pc' := 35) (lv' := [some (gr 0), some (gi x), some (gi ((shlI 1 (mi 1 3)) - 1)), none, none]) (st' := [gi (-1000001), gr 0]) (M' := gw mi ml) rfl ?_
      refine Go.callV (As := [gi (-1000001)]) (b := 0) (st := []) (mc1 := 0) (mc := 0) (ms1 := 0) (ms := 0) (by rfl) rfl (c := 10) (N := 9) (by rfl) (by decide) (by rfl) (gcn 147 (by decide)).1 (gcn 147 (by decide)).2 rfl (Nat.le_of_ble_eq_true rfl) (by omega) (cC_finding hsz (n := n - 1) (by omega) mi ml (-1000001) (by decide) (by decide)) ?_
      rintro _ _ ⟨rfl, rfl⟩
      refine Go.run hsz hn1 0 (pc' := 38) (lv' := [some (gr 0), some (gi x), some (gi ((shlI 1 (mi 1 3)) - 1)), none, none]) (st' := [gi (-1000001)]) (M' := gw (cFd mi 0) ml) rfl ?_
      exact Go.iret (by rfl) (Or.inl ⟨fun w9 => hx ⟨by have := w9.1; omega, w9.2.1⟩, rfl, rfl⟩)
    · exact absurd (hmask.mp (by omega)) hx

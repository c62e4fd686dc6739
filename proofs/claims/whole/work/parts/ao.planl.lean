/-! ===== plan: the class looks at a member ===== -/
set_option maxRecDepth 100000 in
set_option maxHeartbeats 4000000 in
theorem lP_lk3 {G : gG} (hsz : G.2.2.2.2.2.2 = true) {n : Nat} (hn : 2 ≤ n) (mi u : Nat → Nat → Int) (mlb : Nat → Nat → Int64) (mem : Nat → Nat) (z X : Nat) (hU : cUb mi u mlb mem z X) (hX : X < 16777216) (ml1 : Nat → Nat → Int64) (hml : ∀ a k : Nat, a ≠ 108 → a ≠ 109 → ml1 a k = mlb a k) (hcal : calR u (pOn u) ml1) (m0 : Nat → Nat → Int) (hz2 : m0 110 2 = z) (hmem : ∀ k, k < z → m0 111 k = mem k) (x : Int) (i : Nat) (hx : x = i) (hi : i < z) (A : Int) (hA : A = ((mem i : Nat) : Int)) : ∀ (f : Nat) (q : Int) (m : Nat → Nat → Int) (h : lk0 mi m0 m i) (hB : lkB u m mem i (u 148 2).toNat) (hW : lkW u m mem i (u 148 6).toNat) (hD : lkD u m mem i q.toNat), 0 ≤ q → q ≤ z → z - q < f → Go G mX5_lookAt n 0 0 167 [some (gr 110), some (gi x), some (gi ((X : Nat) : Int)), some (gr (24 + A.toNat)), some (gi q), none] [] (gw m ml1) (fun r M => r = none ∧ ∃ m1 : Nat → Nat → Int, M = gw m1 ml1 ∧ lk0 mi m0 m1 i ∧ lkB u m1 mem i (u 148 2).toNat ∧ lkW u m1 mem i (u 148 6).toNat ∧ lkD u m1 mem i z) := by
  have hn1 : 1 ≤ n := by omega
  have hz4 : z ≤ 4 := hU.1.2.2.1
  have hv : SV u := hU.1.2.1
  have hM := hU.1.2.2.2
  have hxn : x.toNat = i := (by omega)
  have hP : 0 ≤ u 148 2 ∧ u 148 2 ≤ 12 := hv.2.2.1
  have hN : 0 ≤ u 148 6 ∧ u 148 6 ≤ 24 := hv.2.2.2.1
  have hmi := hM.1 i hi
  have hmi1 := hmi.1
  have hmi2 := hmi.2
  have hA24 : A < 24 ∧ 0 ≤ A := (by omega)
  have hAn : A.toNat = mem i := (by omega)
  have hL6 : ml1 (24 + A.toNat) 6 = lLow (mOf u (mem i) 4) (mOf u (mem i) 5) := (by rw [hAn, hml (24 + mem i) 6 (by omega) (by omega)]; exact (hU.2.2.1 (mem i) (by omega)).2.1.1)
  have hL7 : ml1 (24 + A.toNat) 7 = lHigh (mOf u (mem i) 4) (mOf u (mem i) 5) := (by rw [hAn, hml (24 + mem i) 7 (by omega) (by omega)]; exact (hU.2.2.1 (mem i) (by omega)).2.1.2)
  intro f
  induction f with
  | zero => intros; omega
  | succ f ih =>
    intro q m h hB hW hD q0 q1 q2
    have hR := h.1.1
    have e12 : m 1 2 = u 148 2 := (h.1.2 1 2 (by decide)).trans hU.2.1.1
    have e13 : m 1 3 = u 148 6 := (h.1.2 1 3 (by decide)).trans hU.2.1.2
    have e2 : m 110 2 = z := (h.2.1 110 2 (by decide) (by omega) (by omega)).trans hz2
    have e111 : ∀ k : Nat, k < z → m 111 k = mem k ∧ ((mem k : Nat) : Int) < 24 := fun k hk => ⟨(h.2.1 111 k (by decide) (by omega) (by omega)).trans (hmem k hk), (by have := (hM.1 k hk).1; omega)⟩
    have e111i := e111 i hi
    have hCV := h.1.CV hU.1.1
    have hws : ∀ b : Nat, (b : Int) < u 148 6 → cWs m ((mem i : Nat) : Int) b = oWi u (mem i) b := fun b hb => (by
      have w1 := (hU.2.2.1 (mem i) (by omega)).1.1
      have w2 := (hU.2.2.1 b hb).1.1
      unfold cWs oWi
      rw [h.1.2 _ 9 (by omega), h.1.2 _ 9 (by omega)]
      rw [show mi (24 + ((mem i : Nat) : Int).toNat) 9 = mOf u (mem i) 7 from w1, show mi (24 + ((b : Nat) : Int).toNat) 9 = mOf u b 7 from w2])
    refine Go.run hsz hn1 3 (pc' := 173) (lv' := [some (gr 110), some (gi x), some (gi ((X : Nat) : Int)), some (gr (24 + A.toNat)), some (gi q), none]) (st' := [gi (m 110 2), gi q]) (M' := gw m ml1) rfl ?_
    refine Go.icmp_ge (by rfl) ⟨by omega, by omega⟩ (hR _ _) (fun kq1 => ?_) (fun kq1 => ?_)
    · have hq9 : q.toNat = z := (by omega)
      rw [hq9] at hD
      exact Go.vret (by rfl) ⟨rfl, m, rfl, h, hB, hW, hD⟩
    · refine Go.run hsz hn1 3 (pc' := 181) (lv' := [some (gr 110), some (gi x), some (gi ((X : Nat) : Int)), some (gr (24 + A.toNat)), some (gi q), none]) (st' := [gi x, gr 120]) (M' := gw m ml1) rfl ?_
      refine Go.aaldR 7 (by rfl) (N := 4) (by rfl) ⟨by decide, by decide⟩ (by omega) (by omega) (by decide) (gMR_120 (by omega) (by omega)) ?_
      refine Go.run hsz hn1 5 (pc' := 190) (lv' := [some (gr 110), some (gi x), some (gi ((X : Nat) : Int)), some (gr (24 + A.toNat)), some (gi q), none]) (st' := [gi x, gr 111, gr 110, gi q, gr (121 + x.toNat)]) (M' := gw m ml1) rfl ?_
      refine Go.iald (by rfl) (N := 4) (by rfl) (by omega) (by omega) (by decide) ?_
      refine Go.run hsz hn1 3 (pc' := 197) (lv' := [some (gr 110), some (gi x), some (gi ((X : Nat) : Int)), some (gr (24 + A.toNat)), some (gi q), none]) (st' := [gi q, gr 111, gi (m 111 x.toNat), gr 110, gi q, gr (121 + x.toNat)]) (M' := gw m ml1) rfl ?_
      refine Go.iald (by rfl) (N := 4) (by rfl) (by omega) (by omega) (by decide) ?_
      refine Go.run hsz hn1 0 (pc' := 198) (lv' := [some (gr 110), some (gi x), some (gi ((X : Nat) : Int)), some (gr (24 + A.toNat)), some (gi q), none]) (st' := [gi (m 111 q.toNat), gi (m 111 x.toNat), gr 110, gi q, gr (121 + x.toNat)]) (M' := gw m ml1) rfl ?_
      have e111q := e111 q.toNat (by omega)
      have e111x : m 111 x.toNat = mem i := (by rw [hxn]; exact e111i.1)
      have hN9 := (hM.1 q.toNat (by omega)).1
      refine Go.callV (As := [gi (m 111 x.toNat), gi (m 111 q.toNat)]) (b := 110) (st := [gi q, gr (121 + x.toNat)]) (mc1 := 0) (mc := 0) (ms1 := 0) (ms := 0) (by rfl) rfl (c := 4) (N := 14) (by rfl) (by decide) (by rfl) (gcn 37 (by decide)).1 (gcn 37 (by decide)).2 rfl (Nat.le_of_ble_eq_true rfl) (by omega) (cP_wish hsz (n := n - 1) (by omega) ml1 m hR (m 111 x.toNat) (m 111 q.toNat) (by omega) (by omega)) ?_
      rintro _ _ ⟨rfl, rfl⟩
      rw [show cWs m (m 111 x.toNat) (m 111 q.toNat) = oWi u (mem i) (mem q.toNat) from (by rw [e111x, e111q.1]; exact hws (mem q.toNat) (by omega))]
      have hwb := oWi_b (u := u) (mem i) (mem q.toNat)
      refine Go.run hsz hn1 0 (pc' := 201) (lv' := [some (gr 110), some (gi x), some (gi ((X : Nat) : Int)), some (gr (24 + A.toNat)), some (gi q), none]) (st' := [gi (oWi u (mem i) (mem q.toNat)), gi q, gr (121 + x.toNat)]) (M' := gw m ml1) rfl ?_
      refine Go.iast (by rfl) (N := 4) (shB (i := x) (by omega)) (by omega) (by omega) (by decide) ?_
      refine Go.run hsz hn1 2 (pc' := 167) (lv' := [some (gr 110), some (gi x), some (gi ((X : Nat) : Int)), some (gr (24 + A.toNat)), some (gi (q + 1)), none]) (st' := []) (M' := gw (gu m (121 + x.toNat) q.toNat (oWi u (mem i) (mem q.toNat))) ml1) rfl ?_
      rw [hxn]
      exact ih (q + 1) _ (lk0_d h (by omega) ⟨by omega, by omega⟩) (lkB_off hB (by omega) (by omega)) (fun p hp => (by rw [gu_other (by omega)]; exact hW p hp)) (by rw [show (q + 1).toNat = q.toNat + 1 by omega]; exact lkD_s hD (by omega) rfl rfl) (by omega) (by omega) (by omega)
set_option maxRecDepth 100000 in
set_option maxHeartbeats 4000000 in
theorem lP_lk2 {G : gG} (hsz : G.2.2.2.2.2.2 = true) {n : Nat} (hn : 6 ≤ n) (mi u : Nat → Nat → Int) (mlb : Nat → Nat → Int64) (mem : Nat → Nat) (z X : Nat) (hU : cUb mi u mlb mem z X) (hX : X < 16777216) (ml1 : Nat → Nat → Int64) (hml : ∀ a k : Nat, a ≠ 108 → a ≠ 109 → ml1 a k = mlb a k) (hcal : calR u (pOn u) ml1) (m0 : Nat → Nat → Int) (hz2 : m0 110 2 = z) (hmem : ∀ k, k < z → m0 111 k = mem k) (x : Int) (i : Nat) (hx : x = i) (hi : i < z) (A : Int) (hA : A = ((mem i : Nat) : Int)) : ∀ (f : Nat) (q : Int) (m : Nat → Nat → Int) (h : lk0 mi m0 m i) (hB : lkB u m mem i (u 148 2).toNat) (hW : lkW u m mem i q.toNat), 0 ≤ q → q ≤ u 148 6 → u 148 6 - q < f → Go G mX5_lookAt n 0 0 118 [some (gr 110), some (gi x), some (gi ((X : Nat) : Int)), some (gr (24 + A.toNat)), some (gi q), none] [] (gw m ml1) (fun r M => r = none ∧ ∃ m1 : Nat → Nat → Int, M = gw m1 ml1 ∧ lk0 mi m0 m1 i ∧ lkB u m1 mem i (u 148 2).toNat ∧ lkW u m1 mem i (u 148 6).toNat ∧ lkD u m1 mem i z) := by
  have hn1 : 1 ≤ n := by omega
  have hz4 : z ≤ 4 := hU.1.2.2.1
  have hv : SV u := hU.1.2.1
  have hM := hU.1.2.2.2
  have hxn : x.toNat = i := (by omega)
  have hP : 0 ≤ u 148 2 ∧ u 148 2 ≤ 12 := hv.2.2.1
  have hN : 0 ≤ u 148 6 ∧ u 148 6 ≤ 24 := hv.2.2.2.1
  have hmi := hM.1 i hi
  have hmi1 := hmi.1
  have hmi2 := hmi.2
  have hA24 : A < 24 ∧ 0 ≤ A := (by omega)
  have hAn : A.toNat = mem i := (by omega)
  have hL6 : ml1 (24 + A.toNat) 6 = lLow (mOf u (mem i) 4) (mOf u (mem i) 5) := (by rw [hAn, hml (24 + mem i) 6 (by omega) (by omega)]; exact (hU.2.2.1 (mem i) (by omega)).2.1.1)
  have hL7 : ml1 (24 + A.toNat) 7 = lHigh (mOf u (mem i) 4) (mOf u (mem i) 5) := (by rw [hAn, hml (24 + mem i) 7 (by omega) (by omega)]; exact (hU.2.2.1 (mem i) (by omega)).2.1.2)
  intro f
  induction f with
  | zero => intros; omega
  | succ f ih =>
    intro q m h hB hW q0 q1 q2
    have hR := h.1.1
    have e12 : m 1 2 = u 148 2 := (h.1.2 1 2 (by decide)).trans hU.2.1.1
    have e13 : m 1 3 = u 148 6 := (h.1.2 1 3 (by decide)).trans hU.2.1.2
    have e2 : m 110 2 = z := (h.2.1 110 2 (by decide) (by omega) (by omega)).trans hz2
    have e111 : ∀ k : Nat, k < z → m 111 k = mem k ∧ ((mem k : Nat) : Int) < 24 := fun k hk => ⟨(h.2.1 111 k (by decide) (by omega) (by omega)).trans (hmem k hk), (by have := (hM.1 k hk).1; omega)⟩
    have e111i := e111 i hi
    have hCV := h.1.CV hU.1.1
    have hws : ∀ b : Nat, (b : Int) < u 148 6 → cWs m ((mem i : Nat) : Int) b = oWi u (mem i) b := fun b hb => (by
      have w1 := (hU.2.2.1 (mem i) (by omega)).1.1
      have w2 := (hU.2.2.1 b hb).1.1
      unfold cWs oWi
      rw [h.1.2 _ 9 (by omega), h.1.2 _ 9 (by omega)]
      rw [show mi (24 + ((mem i : Nat) : Int).toNat) 9 = mOf u (mem i) 7 from w1, show mi (24 + ((b : Nat) : Int).toNat) 9 = mOf u b 7 from w2])
    have hfar : ∀ p q : Int, 0 ≤ p → p < u 148 2 → 0 ≤ q → q < u 148 2 → cFar m p q = mFar u p q := fun p r w1 w2 w3 w4 => (by rw [← hU.2.2.2.2.2 p r w1 w2 w3 w4]; unfold cFar cP; rw [h.1.2 _ _ (by omega), h.1.2 _ _ (by omega), h.1.2 _ _ (by omega), h.1.2 _ _ (by omega)])
    have hbt : q < u 148 6 → (X.testBit q.toNat = true ∧ andI (shrI ((X : Nat) : Int) q) 1 = 1) ∨ (X.testBit q.toNat = false ∧ andI (shrI ((X : Nat) : Int) q) 1 = 0) := fun w9 => (by rw [bit_nat hX (k := q) (by omega) (by omega)]; cases X.testBit q.toNat <;> simp)
    have hon0 : q < u 148 6 → X.testBit q.toNat = false → cA m q 8 = pOn u q.toNat := fun w9 w8 => (by have w7 := (hU.2.2.1 q.toNat (by omega)).2.2.1 w8; rw [← w7]; unfold cA; rw [h.1.2 _ 8 (by omega)]; congr 2)
    refine Go.run hsz hn1 4 (pc' := 127) (lv' := [some (gr 110), some (gi x), some (gi ((X : Nat) : Int)), some (gr (24 + A.toNat)), some (gi q), none]) (st' := [gi (m 1 3), gi q]) (M' := gw m ml1) rfl ?_
    refine Go.icmp_ge (by rfl) ⟨by omega, by omega⟩ (hR _ _) (fun kq1 => ?_) (fun kq1 => ?_)
    · refine Go.run hsz hn1 2 (pc' := 167) (lv' := [some (gr 110), some (gi x), some (gi ((X : Nat) : Int)), some (gr (24 + A.toNat)), some (gi 0), none]) (st' := []) (M' := gw m ml1) rfl ?_
      have hq9 : q.toNat = (u 148 6).toNat := (by omega)
      rw [hq9] at hW
      exact lP_lk3 hsz (n := n) (by omega) mi u mlb mem z X hU hX ml1 hml hcal m0 hz2 hmem x i hx hi A hA (z + 1) 0 m h hB hW (fun j hj => absurd hj (by show ¬ j < 0; omega)) (by omega) (by omega) (by omega)
    · refine Go.run hsz hn1 5 (pc' := 136) (lv' := [some (gr 110), some (gi x), some (gi ((X : Nat) : Int)), some (gr (24 + A.toNat)), some (gi q), none]) (st' := [gi (andI (shrI ((X : Nat) : Int) q) 1)]) (M' := gw m ml1) rfl ?_
      refine Go.if_ne (by rfl) (rng_of _) (fun kq2 => ?_) (fun kq2 => ?_)
      · refine Go.run hsz hn1 2 (pc' := 118) (lv' := [some (gr 110), some (gi x), some (gi ((X : Nat) : Int)), some (gr (24 + A.toNat)), some (gi (q + 1)), none]) (st' := []) (M' := gw m ml1) rfl ?_
        have hst : ∀ p : Int, oY u (pOn u) (mem i) p (q + 1).toNat = oY u (pOn u) (mem i) p q.toNat + oY1 u (pOn u) (mem i) p q.toNat := fun p => (by rw [show (q + 1).toNat = q.toNat + 1 by omega]; rfl)
        have hz0 : pOn u q.toNat < 0 := (by rcases hbt (by omega) with w9 | w9; (· have := (hU.2.2.1 q.toNat (by omega)).2.2.2 w9.1; omega); (· have w8 := hon0 (by omega) w9.1; omega))
        exact ih (q + 1) m h hB (fun p hp => (by rw [hW p hp, hst, show oY1 u (pOn u) (mem i) (p : Int) q.toNat = 0 from if_neg (by omega), Int.add_zero])) (by omega) (by omega) (by omega)
      · refine Go.run hsz hn1 3 (pc' := 145) (lv' := [some (gr 110), some (gi x), some (gi ((X : Nat) : Int)), some (gr (24 + A.toNat)), some (gi q), none]) (st' := [gi q, gr 1]) (M' := gw m ml1) rfl ?_
        refine Go.callV (As := [gi q]) (b := 1) (st := []) (mc1 := 0) (mc := 0) (ms1 := 0) (ms := 0) (by rfl) rfl (c := 7) (N := 11) (by rfl) (by decide) (by rfl) (gcn 62 (by decide)).1 (gcn 62 (by decide)).2 rfl (Nat.le_of_ble_eq_true rfl) (by omega) (cS_isOn hsz (n := n - 1) (by omega) m ml1 q (by omega) (by omega) hR) ?_
        rintro _ _ ⟨rfl, rfl⟩
        refine Go.run hsz hn1 0 (pc' := 148) (lv' := [some (gr 110), some (gi x), some (gi ((X : Nat) : Int)), some (gr (24 + A.toNat)), some (gi q), none]) (st' := [gi (b2 (0 ≤ cA m q 8))]) (M' := gw m ml1) rfl ?_
        refine Go.if_eq (by rfl) (b2_rng _) (fun kq3 => ?_) (fun kq3 => ?_)
        · replace kq3 := b2_neg kq3
          refine Go.run hsz hn1 2 (pc' := 118) (lv' := [some (gr 110), some (gi x), some (gi ((X : Nat) : Int)), some (gr (24 + A.toNat)), some (gi (q + 1)), none]) (st' := []) (M' := gw m ml1) rfl ?_
          have hst : ∀ p : Int, oY u (pOn u) (mem i) p (q + 1).toNat = oY u (pOn u) (mem i) p q.toNat + oY1 u (pOn u) (mem i) p q.toNat := fun p => (by rw [show (q + 1).toNat = q.toNat + 1 by omega]; rfl)
          have hz0 : pOn u q.toNat < 0 := (by rcases hbt (by omega) with w9 | w9; (· have := (hU.2.2.1 q.toNat (by omega)).2.2.2 w9.1; omega); (· have w8 := hon0 (by omega) w9.1; omega))
          exact ih (q + 1) m h hB (fun p hp => (by rw [hW p hp, hst, show oY1 u (pOn u) (mem i) (p : Int) q.toNat = 0 from if_neg (by omega), Int.add_zero])) (by omega) (by omega) (by omega)
        · replace kq3 := b2_pos kq3
          refine Go.run hsz hn1 3 (pc' := 155) (lv' := [some (gr 110), some (gi x), some (gi ((X : Nat) : Int)), some (gr (24 + A.toNat)), some (gi q), none]) (st' := [gi q, gi x, gr 110]) (M' := gw m ml1) rfl ?_
          have hbf : X.testBit q.toNat = false := (by rcases hbt (by omega) with w9 | w9; (· exfalso; omega); (· exact w9.1))
          have h0n : 0 ≤ cA m q 8 := (by assumption)
          have hon := hon0 (by omega) hbf
          have honP := hM.2.2 q.toNat (by omega)
          have e111x : m 111 x.toNat = mem i := (by rw [hxn]; exact e111i.1)
          refine Go.callV (As := [gi x, gi q]) (b := 110) (st := []) (mc1 := 0) (mc := 0) (ms1 := 0) (ms := 0) (by rfl) rfl (c := 4) (N := 14) (by rfl) (by decide) (by rfl) (gcn 36 (by decide)).1 (gcn 36 (by decide)).2 rfl (Nat.le_of_ble_eq_true rfl) (by omega) (cP_aw hsz (n := n - 1) (by omega) ml1 u hv m hCV e12 hfar x i hx (by omega) q (by omega) (oWi u (mem i) q.toNat) (oWi_b _ _) (cA m q 8) rfl (by omega) (fun p hp => (by rw [hW p hp]; have := oY_le hv (on := pOn u) (fun b hb => hM.2.2 b (by omega)) (a := mem i) (p := (p : Int)) (by omega) hp q.toNat (by omega); omega)) (by omega) (by rw [e111x]; have w9 := hws q.toNat (by omega); rw [show ((q.toNat : Nat) : Int) = q by omega] at w9; exact w9)) ?_
          rintro _ _ ⟨rfl, m1, rfl, ha⟩
          refine Go.run hsz hn1 2 (pc' := 118) (lv' := [some (gr 110), some (gi x), some (gi ((X : Nat) : Int)), some (gr (24 + A.toNat)), some (gi (q + 1)), none]) (st' := []) (M' := gw m1 ml1) rfl ?_
          have hst : ∀ p : Int, oY u (pOn u) (mem i) p (q + 1).toNat = oY u (pOn u) (mem i) p q.toNat + oY1 u (pOn u) (mem i) p q.toNat := fun p => (by rw [show (q + 1).toNat = q.toNat + 1 by omega]; rfl)
          have hne : ¬ q.toNat = mem i := (fun w9 => by have w8 := hU.2.2.2.1 i hi; rw [← w9, hbf] at w8; exact absurd w8 (by decide))
          have hk1 : lk0 mi m0 m1 i := ⟨⟨ha.1.1, fun a k w => (by rw [ha.1.2 a k (by omega)]; exact h.1.2 a k w)⟩, fun a k w1 w2 w3 => (by rw [ha.1.2 a k w2]; exact h.2.1 a k w1 w2 w3), fun k hk => (by rw [ha.1.2 112 k (by omega)]; exact h.2.2 k hk)⟩
          exact ih (q + 1) m1 hk1 (fun p hp => (by rw [ha.1.2 112 i (by omega)]; exact hB p hp)) (fun p hp => (by rw [ha.2.1 p (by omega), hW p hp, hst, show oY1 u (pOn u) (mem i) (p : Int) q.toNat = oWi u (mem i) q.toNat * mFar u p (pOn u q.toNat) from if_pos ⟨hne, by omega⟩, hon])) (by omega) (by omega) (by omega)
theorem mWhy_rng (u : Nat → Nat → Int) (a p : Int) : rng (mWhy u a p) := by
  have : 0 ≤ mWhy u a p ∧ mWhy u a p ≤ 7 := by
    unfold mWhy
    repeat' (first | split | omega)
  exact ⟨by omega, by omega⟩
set_option maxRecDepth 100000 in
set_option maxHeartbeats 4000000 in
theorem lP_lk1 {G : gG} (hsz : G.2.2.2.2.2.2 = true) {n : Nat} (hn : 7 ≤ n) (mi u : Nat → Nat → Int) (mlb : Nat → Nat → Int64) (mem : Nat → Nat) (z X : Nat) (hU : cUb mi u mlb mem z X) (hX : X < 16777216) (ml1 : Nat → Nat → Int64) (hml : ∀ a k : Nat, a ≠ 108 → a ≠ 109 → ml1 a k = mlb a k) (hcal : calR u (pOn u) ml1) (m0 : Nat → Nat → Int) (hz2 : m0 110 2 = z) (hmem : ∀ k, k < z → m0 111 k = mem k) (x : Int) (i : Nat) (hx : x = i) (hi : i < z) (A : Int) (hA : A = ((mem i : Nat) : Int)) : ∀ (f : Nat) (q : Int) (m : Nat → Nat → Int) (h : lk0 mi m0 m i) (hB : lkB u m mem i q.toNat) (hW0 : ∀ p : Nat, p < q.toNat → m (116 + i) p = 0), 0 ≤ q → q ≤ u 148 2 → u 148 2 - q < f → Go G mX5_lookAt n 0 0 25 [some (gr 110), some (gi x), some (gi ((X : Nat) : Int)), some (gr (24 + A.toNat)), some (gi q), none] [] (gw m ml1) (fun r M => r = none ∧ ∃ m1 : Nat → Nat → Int, M = gw m1 ml1 ∧ lk0 mi m0 m1 i ∧ lkB u m1 mem i (u 148 2).toNat ∧ lkW u m1 mem i (u 148 6).toNat ∧ lkD u m1 mem i z) := by
  have hn1 : 1 ≤ n := by omega
  have hz4 : z ≤ 4 := hU.1.2.2.1
  have hv : SV u := hU.1.2.1
  have hM := hU.1.2.2.2
  have hxn : x.toNat = i := (by omega)
  have hP : 0 ≤ u 148 2 ∧ u 148 2 ≤ 12 := hv.2.2.1
  have hN : 0 ≤ u 148 6 ∧ u 148 6 ≤ 24 := hv.2.2.2.1
  have hmi := hM.1 i hi
  have hmi1 := hmi.1
  have hmi2 := hmi.2
  have hA24 : A < 24 ∧ 0 ≤ A := (by omega)
  have hAn : A.toNat = mem i := (by omega)
  have hL6 : ml1 (24 + A.toNat) 6 = lLow (mOf u (mem i) 4) (mOf u (mem i) 5) := (by rw [hAn, hml (24 + mem i) 6 (by omega) (by omega)]; exact (hU.2.2.1 (mem i) (by omega)).2.1.1)
  have hL7 : ml1 (24 + A.toNat) 7 = lHigh (mOf u (mem i) 4) (mOf u (mem i) 5) := (by rw [hAn, hml (24 + mem i) 7 (by omega) (by omega)]; exact (hU.2.2.1 (mem i) (by omega)).2.1.2)
  intro f
  induction f with
  | zero => intros; omega
  | succ f ih =>
    intro q m h hB hW0 q0 q1 q2
    have hR := h.1.1
    have e12 : m 1 2 = u 148 2 := (h.1.2 1 2 (by decide)).trans hU.2.1.1
    have e13 : m 1 3 = u 148 6 := (h.1.2 1 3 (by decide)).trans hU.2.1.2
    have e2 : m 110 2 = z := (h.2.1 110 2 (by decide) (by omega) (by omega)).trans hz2
    have e111 : ∀ k : Nat, k < z → m 111 k = mem k ∧ ((mem k : Nat) : Int) < 24 := fun k hk => ⟨(h.2.1 111 k (by decide) (by omega) (by omega)).trans (hmem k hk), (by have := (hM.1 k hk).1; omega)⟩
    have e111i := e111 i hi
    have hCV := h.1.CV hU.1.1
    have hws : ∀ b : Nat, (b : Int) < u 148 6 → cWs m ((mem i : Nat) : Int) b = oWi u (mem i) b := fun b hb => (by
      have w1 := (hU.2.2.1 (mem i) (by omega)).1.1
      have w2 := (hU.2.2.1 b hb).1.1
      unfold cWs oWi
      rw [h.1.2 _ 9 (by omega), h.1.2 _ 9 (by omega)]
      rw [show mi (24 + ((mem i : Nat) : Int).toNat) 9 = mOf u (mem i) 7 from w1, show mi (24 + ((b : Nat) : Int).toNat) 9 = mOf u b 7 from w2])
    have hre : q < u 148 2 → cReason m A q = mWhy u (mem i) q := fun w9 => (by rw [← hU.2.2.2.2.1 (mem i) q (by omega) (by omega) w9, ← hA]; unfold cReason cP cA; simp only [h.1.2 (12 + q.toNat) _ (show 12 + q.toNat < 110 ∨ 126 < 12 + q.toNat by omega), h.1.2 (24 + A.toNat) _ (show 24 + A.toNat < 110 ∨ 126 < 24 + A.toNat by omega)])
    have hrr : mWhy u (mem i) q = 0 ∨ ¬ mWhy u (mem i) q = 0 := (by omega)
    have e112 : m 112 x.toNat = m 112 i := (by rw [hxn])
    refine Go.run hsz hn1 4 (pc' := 34) (lv' := [some (gr 110), some (gi x), some (gi ((X : Nat) : Int)), some (gr (24 + A.toNat)), some (gi q), none]) (st' := [gi (m 1 2), gi q]) (M' := gw m ml1) rfl ?_
    refine Go.icmp_ge (by rfl) ⟨by omega, by omega⟩ (hR _ _) (fun kq1 => ?_) (fun kq1 => ?_)
    · refine Go.run hsz hn1 2 (pc' := 118) (lv' := [some (gr 110), some (gi x), some (gi ((X : Nat) : Int)), some (gr (24 + A.toNat)), some (gi 0), none]) (st' := []) (M' := gw m ml1) rfl ?_
      have hq9 : q.toNat = (u 148 2).toNat := (by omega)
      rw [hq9] at hB hW0
      exact lP_lk2 hsz (n := n) (by omega) mi u mlb mem z X hU hX ml1 hml hcal m0 hz2 hmem x i hx hi A hA ((u 148 6).toNat + 1) 0 m h hB (fun p hp => hW0 p (by omega)) (by omega) (by omega) (by omega)
    · refine Go.run hsz hn1 5 (pc' := 47) (lv' := [some (gr 110), some (gi x), some (gi ((X : Nat) : Int)), some (gr (24 + A.toNat)), some (gi q), none]) (st' := [gi q, gr 2, gr (24 + A.toNat)]) (M' := gw m ml1) rfl ?_
      refine Go.aaldR 3 (by rfl) (N := 12) (by rfl) ⟨by decide, by decide⟩ (by omega) (by omega) (by decide) (gMR_2 (by omega) (by omega)) ?_
      refine Go.callS (As := [gr (24 + A.toNat), gr (12 + q.toNat)]) (st := []) (mc1 := 0) (mc := 0) (ms1 := 0) (ms := 0) (by rfl) rfl (gcn 10 (by decide)).1 (gcn 10 (by decide)).2 (Nat.le_of_ble_eq_true rfl) (by omega) (cK_reason hsz (n := n - 1) (by omega) m ml1 A q (by omega) (by omega) (by omega) (by omega) (hCV.2.2.2.2.1 A (by omega) (by omega)) hR) ?_
      rintro _ _ ⟨rfl, rfl⟩
      rw [hre (by omega)]
      refine Go.run hsz hn1 0 (pc' := 51) (lv' := [some (gr 110), some (gi x), some (gi ((X : Nat) : Int)), some (gr (24 + A.toNat)), some (gi q), none]) (st' := [gi (mWhy u (mem i) q)]) (M' := gw m ml1) rfl ?_
      refine Go.if_ne (by rfl) (mWhy_rng _ _ _) (fun kq2 => ?_) (fun kq2 => ?_)
      · refine Go.run hsz hn1 3 (pc' := 63) (lv' := [some (gr 110), some (gi x), some (gi ((X : Nat) : Int)), some (gr (24 + A.toNat)), some (gi q), some (gi 0)]) (st' := [gi 0]) (M' := gw m ml1) rfl ?_
        refine Go.if_eq (by rfl) ⟨by decide, by decide⟩ (fun kq3 => ?_) (fun kq3 => ?_)
        · refine Go.run hsz hn1 3 (pc' := 104) (lv' := [some (gr 110), some (gi x), some (gi ((X : Nat) : Int)), some (gr (24 + A.toNat)), some (gi q), some (gi 0)]) (st' := [gi x, gr 115]) (M' := gw m ml1) rfl ?_
          refine Go.aaldR 7 (by rfl) (N := 4) (by rfl) ⟨by decide, by decide⟩ (by omega) (by omega) (by decide) (gMR_115 (by omega) (by omega)) ?_
          refine Go.run hsz hn1 2 (pc' := 108) (lv' := [some (gr 110), some (gi x), some (gi ((X : Nat) : Int)), some (gr (24 + A.toNat)), some (gi q), some (gi 0)]) (st' := [gi 0, gi q, gr (116 + x.toNat)]) (M' := gw m ml1) rfl ?_
          refine Go.iast (by rfl) (N := 12) (shW (i := x) (by omega)) (by omega) (by omega) (by decide) ?_
          refine Go.run hsz hn1 2 (pc' := 25) (lv' := [some (gr 110), some (gi x), some (gi ((X : Nat) : Int)), some (gr (24 + A.toNat)), some (gi (q + 1)), some (gi 0)]) (st' := []) (M' := gw (gu m (116 + x.toNat) q.toNat 0) ml1) rfl ?_
          refine Go.dropl 5 ?_
          refine Go.run hsz hn1 0 (pc' := 25) (lv' := [some (gr 110), some (gi x), some (gi ((X : Nat) : Int)), some (gr (24 + A.toNat)), some (gi (q + 1)), none]) (st' := []) (M' := gw (gu m (116 + x.toNat) q.toNat 0) ml1) rfl ?_
          have hfr := calR_free hv hcal hmi1 (by omega) q0 (show q < u 148 2 by omega)
          have hno : ¬ wOk u mem (pOn u) i ((q.toNat : Nat) : Int) := (by rw [show ((q.toNat : Nat) : Int) = q by omega]; intro hok; first | exact absurd hok.1 (by omega) | exact absurd (show lFree ml1 q (lLow (mOf u (mem i) 4) (mOf u (mem i) 5)) (lHigh (mOf u (mem i) 4) (mOf u (mem i) 5)) = 0 by assumption) (hfr.mpr hok.2))
          rw [hxn]
          exact ih (q + 1) _ (lk0_w h (by omega) ⟨by decide, by decide⟩) (by rw [show (q + 1).toNat = q.toNat + 1 by omega]; exact lkB_off (lkB_no hB (by omega) hno) (by omega) (by omega)) (fun p hp => (by by_cases e : p = q.toNat; (· rw [e, gu_self]); (· rw [gu_ne (Or.inr e)]; exact hW0 p (by omega)))) (by omega) (by omega) (by omega)
        · exact absurd kq3 (by decide)
      · refine Go.run hsz hn1 4 (pc' := 63) (lv' := [some (gr 110), some (gi x), some (gi ((X : Nat) : Int)), some (gr (24 + A.toNat)), some (gi q), some (gi 1)]) (st' := [gi 1]) (M' := gw m ml1) rfl ?_
        refine Go.if_eq (by rfl) ⟨by decide, by decide⟩ (fun kq4 => ?_) (fun kq4 => ?_)
        · exact absurd kq4 (by decide)
        · refine Go.run hsz hn1 4 (pc' := 73) (lv' := [some (gr 110), some (gi x), some (gi ((X : Nat) : Int)), some (gr (24 + A.toNat)), some (gi q), some (gi 1)]) (st' := [gr (24 + A.toNat), gi q, gr 107]) (M' := gw m ml1) rfl ?_
          refine Go.getf (by rfl) (c := 2) (N := 14) (shA (i := A) (by omega)) ?_
          refine Go.run hsz hn1 1 (pc' := 77) (lv' := [some (gr 110), some (gi x), some (gi ((X : Nat) : Int)), some (gr (24 + A.toNat)), some (gi q), some (gi 1)]) (st' := [gr (24 + A.toNat), gl (ml1 (24 + A.toNat) 6), gi q, gr 107]) (M' := gw m ml1) rfl ?_
          refine Go.getf (by rfl) (c := 2) (N := 14) (shA (i := A) (by omega)) ?_
          refine Go.run hsz hn1 0 (pc' := 80) (lv' := [some (gr 110), some (gi x), some (gi ((X : Nat) : Int)), some (gr (24 + A.toNat)), some (gi q), some (gi 1)]) (st' := [gl (ml1 (24 + A.toNat) 7), gl (ml1 (24 + A.toNat) 6), gi q, gr 107]) (M' := gw m ml1) rfl ?_
          rw [hL6, hL7]
          refine Go.callV (As := [gi q, gl (lLow (mOf u (mem i) 4) (mOf u (mem i) 5)), gl (lHigh (mOf u (mem i) 4) (mOf u (mem i) 5))]) (b := 107) (st := []) (mc1 := 0) (mc := 0) (ms1 := 0) (ms := 0) (by rfl) rfl (c := 0) (N := 2) (by rfl) (by decide) (by rfl) (gcn 5 (by decide)).1 (gcn 5 (by decide)).2 rfl (Nat.le_of_ble_eq_true rfl) (by omega) (cL_isFree hsz (n := n - 1) (by omega) m ml1 q (by omega) (by omega) (lLow (mOf u (mem i) 4) (mOf u (mem i) 5)) (lHigh (mOf u (mem i) 4) (mOf u (mem i) 5))) ?_
          rintro _ _ ⟨rfl, rfl⟩
          refine Go.run hsz hn1 0 (pc' := 83) (lv' := [some (gr 110), some (gi x), some (gi ((X : Nat) : Int)), some (gr (24 + A.toNat)), some (gi q), some (gi 1)]) (st' := [gi (lFree ml1 q (lLow (mOf u (mem i) 4) (mOf u (mem i) 5)) (lHigh (mOf u (mem i) 4) (mOf u (mem i) 5)))]) (M' := gw m ml1) rfl ?_
          refine Go.if_eq (by rfl) (b2_rng _) (fun kq5 => ?_) (fun kq5 => ?_)
          · refine Go.run hsz hn1 3 (pc' := 104) (lv' := [some (gr 110), some (gi x), some (gi ((X : Nat) : Int)), some (gr (24 + A.toNat)), some (gi q), some (gi 1)]) (st' := [gi x, gr 115]) (M' := gw m ml1) rfl ?_
            refine Go.aaldR 7 (by rfl) (N := 4) (by rfl) ⟨by decide, by decide⟩ (by omega) (by omega) (by decide) (gMR_115 (by omega) (by omega)) ?_
            refine Go.run hsz hn1 2 (pc' := 108) (lv' := [some (gr 110), some (gi x), some (gi ((X : Nat) : Int)), some (gr (24 + A.toNat)), some (gi q), some (gi 1)]) (st' := [gi 0, gi q, gr (116 + x.toNat)]) (M' := gw m ml1) rfl ?_
            refine Go.iast (by rfl) (N := 12) (shW (i := x) (by omega)) (by omega) (by omega) (by decide) ?_
            refine Go.run hsz hn1 2 (pc' := 25) (lv' := [some (gr 110), some (gi x), some (gi ((X : Nat) : Int)), some (gr (24 + A.toNat)), some (gi (q + 1)), some (gi 1)]) (st' := []) (M' := gw (gu m (116 + x.toNat) q.toNat 0) ml1) rfl ?_
            refine Go.dropl 5 ?_
            refine Go.run hsz hn1 0 (pc' := 25) (lv' := [some (gr 110), some (gi x), some (gi ((X : Nat) : Int)), some (gr (24 + A.toNat)), some (gi (q + 1)), none]) (st' := []) (M' := gw (gu m (116 + x.toNat) q.toNat 0) ml1) rfl ?_
            have hfr := calR_free hv hcal hmi1 (by omega) q0 (show q < u 148 2 by omega)
            have hno : ¬ wOk u mem (pOn u) i ((q.toNat : Nat) : Int) := (by rw [show ((q.toNat : Nat) : Int) = q by omega]; intro hok; first | exact absurd hok.1 (by omega) | exact absurd (show lFree ml1 q (lLow (mOf u (mem i) 4) (mOf u (mem i) 5)) (lHigh (mOf u (mem i) 4) (mOf u (mem i) 5)) = 0 by assumption) (hfr.mpr hok.2))
            rw [hxn]
            exact ih (q + 1) _ (lk0_w h (by omega) ⟨by decide, by decide⟩) (by rw [show (q + 1).toNat = q.toNat + 1 by omega]; exact lkB_off (lkB_no hB (by omega) hno) (by omega) (by omega)) (fun p hp => (by by_cases e : p = q.toNat; (· rw [e, gu_self]); (· rw [gu_ne (Or.inr e)]; exact hW0 p (by omega)))) (by omega) (by omega) (by omega)
          · refine Go.run hsz hn1 4 (pc' := 92) (lv' := [some (gr 110), some (gi x), some (gi ((X : Nat) : Int)), some (gr (24 + A.toNat)), some (gi q), some (gi 1)]) (st' := [gi x, gr 112, gi x, gr 112]) (M' := gw m ml1) rfl ?_
            refine Go.iald (by rfl) (N := 4) (by rfl) (by omega) (by omega) (by decide) ?_
            refine Go.run hsz hn1 4 (pc' := 98) (lv' := [some (gr 110), some (gi x), some (gi ((X : Nat) : Int)), some (gr (24 + A.toNat)), some (gi q), some (gi 1)]) (st' := [gi (orI (m 112 x.toNat) (shlI 1 q)), gi x, gr 112]) (M' := gw m ml1) rfl ?_
            refine Go.iast (by rfl) (N := 4) (by rfl) (by omega) (by omega) (by decide) ?_
            refine Go.run hsz hn1 3 (pc' := 104) (lv' := [some (gr 110), some (gi x), some (gi ((X : Nat) : Int)), some (gr (24 + A.toNat)), some (gi q), some (gi 1)]) (st' := [gi x, gr 115]) (M' := gw (gu m 112 x.toNat (orI (m 112 x.toNat) (shlI 1 q))) ml1) rfl ?_
            refine Go.aaldR 7 (by rfl) (N := 4) (by rfl) ⟨by decide, by decide⟩ (by omega) (by omega) (by decide) (gMR_115 (by omega) (by omega)) ?_
            refine Go.run hsz hn1 2 (pc' := 108) (lv' := [some (gr 110), some (gi x), some (gi ((X : Nat) : Int)), some (gr (24 + A.toNat)), some (gi q), some (gi 1)]) (st' := [gi 0, gi q, gr (116 + x.toNat)]) (M' := gw (gu m 112 x.toNat (orI (m 112 x.toNat) (shlI 1 q))) ml1) rfl ?_
            refine Go.iast (by rfl) (N := 12) (shW (i := x) (by omega)) (by omega) (by omega) (by decide) ?_
            refine Go.run hsz hn1 2 (pc' := 25) (lv' := [some (gr 110), some (gi x), some (gi ((X : Nat) : Int)), some (gr (24 + A.toNat)), some (gi (q + 1)), some (gi 1)]) (st' := []) (M' := gw (gu (gu m 112 x.toNat (orI (m 112 x.toNat) (shlI 1 q))) (116 + x.toNat) q.toNat 0) ml1) rfl ?_
            refine Go.dropl 5 ?_
            refine Go.run hsz hn1 0 (pc' := 25) (lv' := [some (gr 110), some (gi x), some (gi ((X : Nat) : Int)), some (gr (24 + A.toNat)), some (gi (q + 1)), none]) (st' := []) (M' := gw (gu (gu m 112 x.toNat (orI (m 112 x.toNat) (shlI 1 q))) (116 + x.toNat) q.toNat 0) ml1) rfl ?_
            have hfr := calR_free hv hcal hmi1 (by omega) q0 (show q < u 148 2 by omega)
            have hok : wOk u mem (pOn u) i ((q.toNat : Nat) : Int) := (by rw [show ((q.toNat : Nat) : Int) = q by omega]; exact ⟨by omega, hfr.mp (by assumption)⟩)
            have hqi : shlI 1 q = shlI 1 ((q.toNat : Nat) : Int) := (by rw [show ((q.toNat : Nat) : Int) = q by omega])
            rw [hxn, hqi]
            exact ih (q + 1) _ (lk0_w (lk0_o h rfl (rng_of _)) (by omega) ⟨by decide, by decide⟩) (by rw [show (q + 1).toNat = q.toNat + 1 by omega]; exact lkB_off (lkB_yes hB (by omega) hok rfl) (by omega) (by omega)) (fun p hp => (by by_cases e : p = q.toNat; (· rw [e, gu_self]); (· rw [gu_ne (Or.inr e), gu_other (by omega)]; exact hW0 p (by omega)))) (by omega) (by omega) (by omega)

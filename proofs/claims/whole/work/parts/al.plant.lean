/-! ===== plan: the class tries ===== -/
set_option maxRecDepth 100000 in
set_option maxHeartbeats 4000000 in
theorem lP_try {G : gG} (hsz : G.2.2.2.2.2.2 = true) {n : Nat} (hn : 6 ≤ n) (u mp : Nat → Nat → Int) (mlb : Nat → Nat → Int64) (mem : Nat → Nat) (z : Nat) (hp : cPr u mp mlb mem z) (x : Int) (i : Nat) (hx : x = i) (hi : i < z) (hI : gTry G (n - 1) u mp mlb mem z (i + 1)) (ml1 : Nat → Nat → Int64) (d : Nat → Int) (on g f : Int) (A : Int) (hA : A = ((mem i : Nat) : Int)) (hbo : -10 ≤ on ∧ on ≤ 10) (hbg : -2000 ≤ g ∧ g ≤ 2000) (hbf : -5000 ≤ f ∧ f ≤ 5000) : ∀ (f0 : Nat) (q : Int) (m : Nat → Nat → Int) (h : tAll u mp mlb mem z (sQ (u 148 2).toNat d i q.toNat) m ml1 d i on g f), 0 ≤ q → q ≤ u 148 2 → u 148 2 - q < f0 → Go G mX5_tryFrom n 0 0 49 [some (gr 110), some (gi x), some (gi on), some (gi g), some (gi f), some (gr (24 + A.toNat)), some (gi q), none, none, none] [] (gw m ml1) (tPost u mp mem z ml1 d i) := by
  have hn1 : 1 ≤ n := by omega
  have hz4 : z ≤ 4 := hp.1.2.2.1
  have hv : SV u := hp.1.2.1
  have hM := hp.1.2.2.2
  have hxn : x.toNat = i := (by omega)
  have hP : 0 ≤ u 148 2 ∧ u 148 2 ≤ 12 := hv.2.2.1
  have hN : 0 ≤ u 148 6 ∧ u 148 6 ≤ 24 := hv.2.2.2.1
  have hmi := hM.1 i hi
  have hmi1 := hmi.1
  have hA24 : A < 24 ∧ 0 ≤ A := (by omega)
  intro f0
  induction f0 with
  | zero => intros; omega
  | succ f0 ih =>
    intro q m h q0 q1 q2
    have e12 : m 1 2 = u 148 2 := (h.1.1.2 1 2 (by decide) (by decide) (by decide)).trans hp.2.1.2
    have e112 : m 112 x.toNat = mp 112 i := (by rw [hxn]; exact h.1.1.2 112 i (by decide) (by decide) (Or.inl (by decide)))
    have hbit : q < u 148 2 → andI (shrI (m 112 x.toNat) q) 1 = if ib (mp 112 i) q.toNat = true then 1 else 0 := fun w9 => (by have w8 := bit_ib (m 112 x.toNat) (p := q.toNat) (by omega); rw [show ((q.toNat : Nat) : Int) = q by omega] at w8; rw [w8, e112])
    have hopb : wOk u mem (wAs mem (pOn u) d i) i q → q < u 148 2 → ¬ andI (shrI (m 112 x.toNat) q) 1 = 0 := fun w9 w8 => (by rw [hbit w8, if_pos ((hp.2.2.2.1 i hi q.toNat (by omega)).mpr ⟨by omega, (by rw [show ((q.toNat : Nat) : Int) = q by omega]; exact ⟨w9.1, oFr_base hM (show i ≤ z by omega) (by omega) w9.2⟩)⟩)]; decide)
    have hopw : q < u 148 2 → ¬ andI (shrI (m 112 x.toNat) q) 1 = 0 → mWhy u (mem i) q = 0 := fun w8 w9 => (by by_cases w7 : ib (mp 112 i) q.toNat = true; (· have w6 := ((hp.2.2.2.1 i hi q.toNat (by omega)).mp w7).2.1; rw [show ((q.toNat : Nat) : Int) = q by omega] at w6; exact w6); (· rw [hbit w8, if_neg w7] at w9; exact absurd rfl w9))
    have hL6 : ml1 (24 + A.toNat) 6 = lLow (mOf u (mem i) 4) (mOf u (mem i) 5) := (by rw [hA, show (((mem i : Nat) : Int)).toNat = mem i by omega, h.2.1.1 (24 + mem i) 6 (by omega) (by omega)]; exact (hp.2.2.1 i hi).2.1)
    have hL7 : ml1 (24 + A.toNat) 7 = lHigh (mOf u (mem i) 4) (mOf u (mem i) 5) := (by rw [hA, show (((mem i : Nat) : Int)).toNat = mem i by omega, h.2.1.1 (24 + mem i) 7 (by omega) (by omega)]; exact (hp.2.2.1 i hi).2.2)
    have hlt := wAs_late hM (d := d) (Nat.le_refl i) hi
    refine Go.run hsz hn1 4 (pc' := 58) (lv' := [some (gr 110), some (gi x), some (gi on), some (gi g), some (gi f), some (gr (24 + A.toNat)), some (gi q), none, none, none]) (st' := [gi (m 1 2), gi q]) (M' := gw m ml1) rfl ?_
    refine Go.icmp_ge (by rfl) ⟨by omega, by omega⟩ (h.1.1.1 _ _) (fun kq1 => ?_) (fun kq1 => ?_)
    · refine Go.run hsz hn1 4 (pc' := 214) (lv' := [some (gr 110), some (gi x), some (gi on), some (gi g), some (gi f), some (gr (24 + A.toNat)), some (gi q), none, none, none]) (st' := [gi (-1), gi x, gr 125]) (M' := gw m ml1) rfl ?_
      refine Go.iast (by rfl) (N := 4) (by rfl) (by omega) (by omega) (by decide) ?_
      refine Go.run hsz hn1 7 (pc' := 223) (lv' := [some (gr 110), some (gi x), some (gi on), some (gi g), some (gi f), some (gr (24 + A.toNat)), some (gi q), none, none, none]) (st' := [gi f, gi g, gi on, gi (x + 1), gr 110]) (M' := gw (gu m 125 x.toNat (-1)) ml1) rfl ?_
      have hqP : q.toNat = (u 148 2).toNat := (by omega)
      have h8 := h
      rw [hqP] at h8
      have hnx := tAll_wait hM h8 hi (by omega) hxn
      refine Go.callV (As := [gi (x + 1), gi on, gi g, gi f]) (b := 110) (st := []) (mc1 := 0) (mc := 0) (ms1 := 0) (ms := 0) (by rfl) rfl (c := 4) (N := 14) (by rfl) (by decide) (by rfl) (gcn 40 (by decide)).1 (gcn 40 (by decide)).2 rfl (Nat.le_of_ble_eq_true rfl) (by omega) (hI (x + 1) _ _ (dAt d i (-1)) _ _ _ (by omega) hnx) ?_
      rintro _ _ ⟨rfl, m1, rfl, hm1, hk1, hb1⟩
      refine Go.run hsz hn1 0 (pc' := 226) (lv' := [some (gr 110), some (gi x), some (gi on), some (gi g), some (gi f), some (gr (24 + A.toNat)), some (gi q), none, none, none]) (st' := []) (M' := gw m1 ml1) rfl ?_
      have h7 := tAll_back h8 hi (v := -1) ⟨by decide, by omega⟩ (by unfold dig; rw [if_pos (by decide)]) hm1 hk1 hb1
      exact Go.vret (by rfl) ⟨rfl, m1, rfl, tAll_end h7 hi⟩
    · refine Go.run hsz hn1 3 (pc' := 66) (lv' := [some (gr 110), some (gi x), some (gi on), some (gi g), some (gi f), some (gr (24 + A.toNat)), some (gi q), none, none, none]) (st' := [gi x, gr 112]) (M' := gw m ml1) rfl ?_
      refine Go.iald (by rfl) (N := 4) (by rfl) (by omega) (by omega) (by decide) ?_
      refine Go.run hsz hn1 4 (pc' := 72) (lv' := [some (gr 110), some (gi x), some (gi on), some (gi g), some (gi f), some (gr (24 + A.toNat)), some (gi q), none, none, none]) (st' := [gi (andI (shrI (m 112 x.toNat) q) 1)]) (M' := gw m ml1) rfl ?_
      refine Go.if_eq (by rfl) (rng_of _) (fun kq2 => ?_) (fun kq2 => ?_)
      · refine Go.run hsz hn1 3 (pc' := 84) (lv' := [some (gr 110), some (gi x), some (gi on), some (gi g), some (gi f), some (gr (24 + A.toNat)), some (gi q), some (gi 0), none, none]) (st' := [gi 0]) (M' := gw m ml1) rfl ?_
        refine Go.if_eq (by rfl) ⟨by decide, by decide⟩ (fun kq3 => ?_) (fun kq3 => ?_)
        · refine Go.run hsz hn1 2 (pc' := 49) (lv' := [some (gr 110), some (gi x), some (gi on), some (gi g), some (gi f), some (gr (24 + A.toNat)), some (gi (q + 1)), some (gi 0), none, none]) (st' := []) (M' := gw m ml1) rfl ?_
          refine Go.dropl 7 ?_
          refine Go.run hsz hn1 0 (pc' := 49) (lv' := [some (gr 110), some (gi x), some (gi on), some (gi g), some (gi f), some (gr (24 + A.toNat)), some (gi (q + 1)), none, none, none]) (st' := []) (M' := gw m ml1) rfl ?_
          have hno : ¬ wOk u mem (wAs mem (pOn u) d i) i ((q.toNat : Nat) : Int) := (by intro hok; rw [show ((q.toNat : Nat) : Int) = q by omega] at hok; first | exact absurd (show andI (shrI (m 112 x.toNat) q) 1 = 0 by omega) (hopb hok (by omega)) | exact absurd (show lFree ml1 q (lLow (mOf u (mem i) 4) (mOf u (mem i) 5)) (lHigh (mOf u (mem i) 4) (mOf u (mem i) 5)) = 0 by assumption) ((calR_free hv h.2.1.2 hmi.1 (by omega) (by omega) (by omega)).mpr hok.2))
          exact ih (q + 1) m (by rw [show (q + 1).toNat = q.toNat + 1 by omega]; exact tAll_no h hi (by omega) hno) (by omega) (by omega) (by omega)
        · exact absurd kq3 (by decide)
      · refine Go.run hsz hn1 4 (pc' := 84) (lv' := [some (gr 110), some (gi x), some (gi on), some (gi g), some (gi f), some (gr (24 + A.toNat)), some (gi q), some (gi 1), none, none]) (st' := [gi 1]) (M' := gw m ml1) rfl ?_
        refine Go.if_eq (by rfl) ⟨by decide, by decide⟩ (fun kq4 => ?_) (fun kq4 => ?_)
        · exact absurd kq4 (by decide)
        · refine Go.run hsz hn1 4 (pc' := 95) (lv' := [some (gr 110), some (gi x), some (gi on), some (gi g), some (gi f), some (gr (24 + A.toNat)), some (gi q), some (gi 1), none, none]) (st' := [gr (24 + A.toNat), gi q, gr 107]) (M' := gw m ml1) rfl ?_
          refine Go.getf (by rfl) (c := 2) (N := 14) (shA (i := A) (by omega)) ?_
          refine Go.run hsz hn1 1 (pc' := 100) (lv' := [some (gr 110), some (gi x), some (gi on), some (gi g), some (gi f), some (gr (24 + A.toNat)), some (gi q), some (gi 1), none, none]) (st' := [gr (24 + A.toNat), gl (ml1 (24 + A.toNat) 6), gi q, gr 107]) (M' := gw m ml1) rfl ?_
          refine Go.getf (by rfl) (c := 2) (N := 14) (shA (i := A) (by omega)) ?_
          refine Go.run hsz hn1 0 (pc' := 103) (lv' := [some (gr 110), some (gi x), some (gi on), some (gi g), some (gi f), some (gr (24 + A.toNat)), some (gi q), some (gi 1), none, none]) (st' := [gl (ml1 (24 + A.toNat) 7), gl (ml1 (24 + A.toNat) 6), gi q, gr 107]) (M' := gw m ml1) rfl ?_
          rw [hL6, hL7]
          refine Go.callV (As := [gi q, gl (lLow (mOf u (mem i) 4) (mOf u (mem i) 5)), gl (lHigh (mOf u (mem i) 4) (mOf u (mem i) 5))]) (b := 107) (st := []) (mc1 := 0) (mc := 0) (ms1 := 0) (ms := 0) (by rfl) rfl (c := 0) (N := 2) (by rfl) (by decide) (by rfl) (gcn 5 (by decide)).1 (gcn 5 (by decide)).2 rfl (Nat.le_of_ble_eq_true rfl) (by omega) (cL_isFree hsz (n := n - 1) (by omega) m ml1 q (by omega) (by omega) (lLow (mOf u (mem i) 4) (mOf u (mem i) 5)) (lHigh (mOf u (mem i) 4) (mOf u (mem i) 5))) ?_
          rintro _ _ ⟨rfl, rfl⟩
          refine Go.run hsz hn1 0 (pc' := 106) (lv' := [some (gr 110), some (gi x), some (gi on), some (gi g), some (gi f), some (gr (24 + A.toNat)), some (gi q), some (gi 1), none, none]) (st' := [gi (lFree ml1 q (lLow (mOf u (mem i) 4) (mOf u (mem i) 5)) (lHigh (mOf u (mem i) 4) (mOf u (mem i) 5)))]) (M' := gw m ml1) rfl ?_
          refine Go.if_eq (by rfl) (b2_rng _) (fun kq5 => ?_) (fun kq5 => ?_)
          · refine Go.run hsz hn1 2 (pc' := 49) (lv' := [some (gr 110), some (gi x), some (gi on), some (gi g), some (gi f), some (gr (24 + A.toNat)), some (gi (q + 1)), some (gi 1), none, none]) (st' := []) (M' := gw m ml1) rfl ?_
            refine Go.dropl 7 ?_
            refine Go.run hsz hn1 0 (pc' := 49) (lv' := [some (gr 110), some (gi x), some (gi on), some (gi g), some (gi f), some (gr (24 + A.toNat)), some (gi (q + 1)), none, none, none]) (st' := []) (M' := gw m ml1) rfl ?_
            have hno : ¬ wOk u mem (wAs mem (pOn u) d i) i ((q.toNat : Nat) : Int) := (by intro hok; rw [show ((q.toNat : Nat) : Int) = q by omega] at hok; first | exact absurd (show andI (shrI (m 112 x.toNat) q) 1 = 0 by omega) (hopb hok (by omega)) | exact absurd (show lFree ml1 q (lLow (mOf u (mem i) 4) (mOf u (mem i) 5)) (lHigh (mOf u (mem i) 4) (mOf u (mem i) 5)) = 0 by assumption) ((calR_free hv h.2.1.2 hmi.1 (by omega) (by omega) (by omega)).mpr hok.2))
            exact ih (q + 1) m (by rw [show (q + 1).toNat = q.toNat + 1 by omega]; exact tAll_no h hi (by omega) hno) (by omega) (by omega) (by omega)
          · refine Go.run hsz hn1 0 (pc' := 109) (lv' := [some (gr 110), some (gi x), some (gi on), some (gi g), some (gi f), some (gr (24 + A.toNat)), some (gi q), some (gi 1), none, none]) (st' := []) (M' := gw m ml1) rfl ?_
            have hfz : ¬ lFree ml1 q (lLow (mOf u (mem i) 4) (mOf u (mem i) 5)) (lHigh (mOf u (mem i) 4) (mOf u (mem i) 5)) = 0 := (by assumption)
            have hok : wOk u mem (wAs mem (pOn u) d i) i q := ⟨hopw (by omega) (by omega), (calR_free hv h.2.1.2 hmi.1 (by omega) (by omega) (by omega)).mp hfz⟩
            refine Go.run hsz hn1 3 (pc' := 115) (lv' := [some (gr 110), some (gi x), some (gi on), some (gi g), some (gi f), some (gr (24 + A.toNat)), some (gi q), some (gi 1), none, none]) (st' := [gi q, gr 107]) (M' := gw m ml1) rfl ?_
            have hfr := (calR_free hv h.2.1.2 hmi.1 (by omega) (by omega) (by omega)).mp (by assumption)
            refine Go.callV (As := [gi q]) (b := 107) (st := []) (mc1 := 0) (mc := 0) (ms1 := 0) (ms := 0) (by rfl) rfl (c := 0) (N := 2) (by rfl) (by decide) (by rfl) (gcn 8 (by decide)).1 (gcn 8 (by decide)).2 rfl (Nat.le_of_ble_eq_true rfl) (by omega) (cL_lonely hsz (n := n - 1) (by omega) m ml1 q (by omega) (by omega)) ?_
            rintro _ _ ⟨rfl, rfl⟩
            obtain ⟨g1, hg1⟩ : ∃ g1 : Int, g1 = lLon (ml1 108 q.toNat) (ml1 109 q.toNat) := ⟨_, rfl⟩
            rw [← hg1]
            rw [calR_lon hv h.2.1.2 (by omega) (by omega)] at hg1
            have hgb1 := oG_b u (wAs mem (pOn u) d i) (u 148 6).toNat q
            refine Go.run hsz hn1 5 (pc' := 128) (lv' := [some (gr 110), some (gi x), some (gi on), some (gi g), some (gi f), some (gr (24 + A.toNat)), some (gi q), some (gi 1), some (gi g1), none]) (st' := [gr (24 + A.toNat), gi q, gr 107]) (M' := gw m ml1) rfl ?_
            refine Go.getf (by rfl) (c := 2) (N := 14) (shA (i := A) (by omega)) ?_
            refine Go.run hsz hn1 1 (pc' := 133) (lv' := [some (gr 110), some (gi x), some (gi on), some (gi g), some (gi f), some (gr (24 + A.toNat)), some (gi q), some (gi 1), some (gi g1), none]) (st' := [gr (24 + A.toNat), gl (ml1 (24 + A.toNat) 6), gi q, gr 107]) (M' := gw m ml1) rfl ?_
            refine Go.getf (by rfl) (c := 2) (N := 14) (shA (i := A) (by omega)) ?_
            refine Go.run hsz hn1 0 (pc' := 136) (lv' := [some (gr 110), some (gi x), some (gi on), some (gi g), some (gi f), some (gr (24 + A.toNat)), some (gi q), some (gi 1), some (gi g1), none]) (st' := [gl (ml1 (24 + A.toNat) 7), gl (ml1 (24 + A.toNat) 6), gi q, gr 107]) (M' := gw m ml1) rfl ?_
            rw [hL6, hL7]
            refine Go.callV (As := [gi q, gl (lLow (mOf u (mem i) 4) (mOf u (mem i) 5)), gl (lHigh (mOf u (mem i) 4) (mOf u (mem i) 5))]) (b := 107) (st := []) (mc1 := 0) (mc := 0) (ms1 := 0) (ms := 0) (by rfl) rfl (c := 0) (N := 2) (by rfl) (by decide) (by rfl) (gcn 6 (by decide)).1 (gcn 6 (by decide)).2 rfl (Nat.le_of_ble_eq_true rfl) (by omega) (cL_take hsz (n := n - 1) (by omega) m ml1 q (by omega) (by omega) (lLow (mOf u (mem i) 4) (mOf u (mem i) 5)) (lHigh (mOf u (mem i) 4) (mOf u (mem i) 5))) ?_
            rintro _ _ ⟨rfl, rfl⟩
            refine Go.run hsz hn1 3 (pc' := 145) (lv' := [some (gr 110), some (gi x), some (gi on), some (gi g), some (gi f), some (gr (24 + A.toNat)), some (gi q), some (gi 1), some (gi g1), none]) (st' := [gi q, gr 107]) (M' := gw m (lTake ml1 q (lLow (mOf u (mem i) 4) (mOf u (mem i) 5)) (lHigh (mOf u (mem i) 4) (mOf u (mem i) 5)))) rfl ?_
            refine Go.callV (As := [gi q]) (b := 107) (st := []) (mc1 := 0) (mc := 0) (ms1 := 0) (ms := 0) (by rfl) rfl (c := 0) (N := 2) (by rfl) (by decide) (by rfl) (gcn 8 (by decide)).1 (gcn 8 (by decide)).2 rfl (Nat.le_of_ble_eq_true rfl) (by omega) (cL_lonely hsz (n := n - 1) (by omega) m (lTake ml1 q (lLow (mOf u (mem i) 4) (mOf u (mem i) 5)) (lHigh (mOf u (mem i) 4) (mOf u (mem i) 5))) q (by omega) (by omega)) ?_
            rintro _ _ ⟨rfl, rfl⟩
            obtain ⟨g2, hg2⟩ : ∃ g2 : Int, g2 = lLon ((lTake ml1 q (lLow (mOf u (mem i) 4) (mOf u (mem i) 5)) (lHigh (mOf u (mem i) 4) (mOf u (mem i) 5))) 108 q.toNat) ((lTake ml1 q (lLow (mOf u (mem i) 4) (mOf u (mem i) 5)) (lHigh (mOf u (mem i) 4) (mOf u (mem i) 5))) 109 q.toNat) := ⟨_, rfl⟩
            rw [← hg2]
            have eb : wAs mem (pOn u) (dAt d i q) (i + 1) = oUp (wAs mem (pOn u) d i) (mem i) q := (by show oUp (wAs mem (pOn u) (dAt d i q) i) (mem i) (dAt d i q i) = _; rw [wAs_congr (d_congr q), dAt_i])
            rw [calR_lon hv (calR_take h.2.1.2 hmi.1 (by omega) (by omega)) (by omega) (by omega), ← eb] at hg2
            have hgb2 := oG_b u (wAs mem (pOn u) (dAt d i q) (i + 1)) (u 148 6).toNat q
            refine Go.run hsz hn1 7 (pc' := 160) (lv' := [some (gr 110), some (gi x), some (gi on), some (gi g), some (gi f), some (gr (24 + A.toNat)), some (gi q), some (gi 1), some (gi g1), some (gi (g2 - g1))]) (st' := [gi q, gi x, gr 125]) (M' := gw m (lTake ml1 q (lLow (mOf u (mem i) 4) (mOf u (mem i) 5)) (lHigh (mOf u (mem i) 4) (mOf u (mem i) 5)))) rfl ?_
            refine Go.iast (by rfl) (N := 4) (by rfl) (by omega) (by omega) (by decide) ?_
            refine Go.run hsz hn1 13 (pc' := 176) (lv' := [some (gr 110), some (gi x), some (gi on), some (gi g), some (gi f), some (gr (24 + A.toNat)), some (gi q), some (gi 1), some (gi g1), some (gi (g2 - g1))]) (st' := [gi x, gr 110, gi f, gi (g + (g2 - g1)), gi (on + 1), gi (x + 1), gr 110]) (M' := gw (gu m 125 x.toNat q) (lTake ml1 q (lLow (mOf u (mem i) 4) (mOf u (mem i) 5)) (lHigh (mOf u (mem i) 4) (mOf u (mem i) 5)))) rfl ?_
            have hdAi := dAt_i (d := d) i q
            have hWY := oY_le hv (on := pOn u) (fun b hb => hp.1.2.2.2.2.2 b (by omega)) (a := mem i) (p := dAt d i q i) (by omega) (by omega) (u 148 6).toNat (by omega)
            have hWZ := wYs_b hv (mem := mem) (a := mem i) (d := dAt d i q) (p := dAt d i q i) (by omega) (by omega) i (fun j hj => (by rw [dAt_lt q hj]; have := h.2.2.1.1 j hj; omega))
            refine Go.callV (As := [gi x]) (b := 110) (st := [gi f, gi (g + (g2 - g1)), gi (on + 1), gi (x + 1), gr 110]) (mc1 := 0) (mc := 0) (ms1 := 0) (ms := 0) (by rfl) rfl (c := 4) (N := 14) (by rfl) (by decide) (by rfl) (gcn 41 (by decide)).1 (gcn 41 (by decide)).2 rfl (Nat.le_of_ble_eq_true rfl) (by omega) (cP_way hsz (n := n - 1) (by omega) (lTake ml1 q (lLow (mOf u (mem i) 4) (mOf u (mem i) 5)) (lHigh (mOf u (mem i) 4) (mOf u (mem i) 5))) u mp mlb mem z hp (gu m 125 x.toNat q) (tM_125 h.1.1 ⟨by omega, by omega⟩) x i hx hi (dAt d i q) (fun k hk => (by by_cases e : k = i; (· rw [e, hxn, gu_self, hdAi]); (· rw [gu_ne (Or.inr (by omega)), dAt_lt q (by omega)]; exact h.1.2.1 k (by omega)))) (by omega) (fun k hk => (by rw [dAt_lt q hk]; exact h.2.2.1.1 k hk))) ?_
            rintro _ _ ⟨rfl, rfl⟩
            obtain ⟨wy, hwy⟩ : ∃ wy : Int, wy = oY u (pOn u) (mem i) (dAt d i q i) (u 148 6).toNat + wYs u mem (dAt d i q) (mem i) (dAt d i q i) i := ⟨_, rfl⟩
            rw [← hwy]
            refine Go.run hsz hn1 1 (pc' := 180) (lv' := [some (gr 110), some (gi x), some (gi on), some (gi g), some (gi f), some (gr (24 + A.toNat)), some (gi q), some (gi 1), some (gi g1), some (gi (g2 - g1))]) (st' := [gi (f + wy), gi (g + (g2 - g1)), gi (on + 1), gi (x + 1), gr 110]) (M' := gw (gu m 125 x.toNat q) (lTake ml1 q (lLow (mOf u (mem i) 4) (mOf u (mem i) 5)) (lHigh (mOf u (mem i) 4) (mOf u (mem i) 5)))) rfl ?_
            have hnx := tAll_on hv hM h hi (by omega) (by omega) hok hg1 hg2 hwy hxn
            refine Go.callV (As := [gi (x + 1), gi (on + 1), gi (g + (g2 - g1)), gi (f + wy)]) (b := 110) (st := []) (mc1 := 0) (mc := 0) (ms1 := 0) (ms := 0) (by rfl) rfl (c := 4) (N := 14) (by rfl) (by decide) (by rfl) (gcn 40 (by decide)).1 (gcn 40 (by decide)).2 rfl (Nat.le_of_ble_eq_true rfl) (by omega) (hI (x + 1) _ _ (dAt d i q) _ _ _ (by omega) hnx) ?_
            rintro _ _ ⟨rfl, m1, rfl, hm1, hk1, hb1⟩
            refine Go.run hsz hn1 4 (pc' := 191) (lv' := [some (gr 110), some (gi x), some (gi on), some (gi g), some (gi f), some (gr (24 + A.toNat)), some (gi q), some (gi 1), some (gi g1), some (gi (g2 - g1))]) (st' := [gr (24 + A.toNat), gi q, gr 107]) (M' := gw m1 (lTake ml1 q (lLow (mOf u (mem i) 4) (mOf u (mem i) 5)) (lHigh (mOf u (mem i) 4) (mOf u (mem i) 5)))) rfl ?_
            refine Go.getf (by rfl) (c := 2) (N := 14) (shA (i := A) (by omega)) ?_
            refine Go.run hsz hn1 1 (pc' := 196) (lv' := [some (gr 110), some (gi x), some (gi on), some (gi g), some (gi f), some (gr (24 + A.toNat)), some (gi q), some (gi 1), some (gi g1), some (gi (g2 - g1))]) (st' := [gr (24 + A.toNat), gl ((lTake ml1 q (lLow (mOf u (mem i) 4) (mOf u (mem i) 5)) (lHigh (mOf u (mem i) 4) (mOf u (mem i) 5))) (24 + A.toNat) 6), gi q, gr 107]) (M' := gw m1 (lTake ml1 q (lLow (mOf u (mem i) 4) (mOf u (mem i) 5)) (lHigh (mOf u (mem i) 4) (mOf u (mem i) 5)))) rfl ?_
            refine Go.getf (by rfl) (c := 2) (N := 14) (shA (i := A) (by omega)) ?_
            refine Go.run hsz hn1 0 (pc' := 199) (lv' := [some (gr 110), some (gi x), some (gi on), some (gi g), some (gi f), some (gr (24 + A.toNat)), some (gi q), some (gi 1), some (gi g1), some (gi (g2 - g1))]) (st' := [gl ((lTake ml1 q (lLow (mOf u (mem i) 4) (mOf u (mem i) 5)) (lHigh (mOf u (mem i) 4) (mOf u (mem i) 5))) (24 + A.toNat) 7), gl ((lTake ml1 q (lLow (mOf u (mem i) 4) (mOf u (mem i) 5)) (lHigh (mOf u (mem i) 4) (mOf u (mem i) 5))) (24 + A.toNat) 6), gi q, gr 107]) (M' := gw m1 (lTake ml1 q (lLow (mOf u (mem i) 4) (mOf u (mem i) 5)) (lHigh (mOf u (mem i) 4) (mOf u (mem i) 5)))) rfl ?_
            rw [show (lTake ml1 q (lLow (mOf u (mem i) 4) (mOf u (mem i) 5)) (lHigh (mOf u (mem i) 4) (mOf u (mem i) 5))) (24 + A.toNat) 6 = ml1 (24 + A.toNat) 6 from lTake_off (by omega) (by omega)]
            rw [show (lTake ml1 q (lLow (mOf u (mem i) 4) (mOf u (mem i) 5)) (lHigh (mOf u (mem i) 4) (mOf u (mem i) 5))) (24 + A.toNat) 7 = ml1 (24 + A.toNat) 7 from lTake_off (by omega) (by omega)]
            rw [hL6, hL7]
            refine Go.callV (As := [gi q, gl (lLow (mOf u (mem i) 4) (mOf u (mem i) 5)), gl (lHigh (mOf u (mem i) 4) (mOf u (mem i) 5))]) (b := 107) (st := []) (mc1 := 0) (mc := 0) (ms1 := 0) (ms := 0) (by rfl) rfl (c := 0) (N := 2) (by rfl) (by decide) (by rfl) (gcn 7 (by decide)).1 (gcn 7 (by decide)).2 rfl (Nat.le_of_ble_eq_true rfl) (by omega) (cL_leave hsz (n := n - 1) (by omega) m1 (lTake ml1 q (lLow (mOf u (mem i) 4) (mOf u (mem i) 5)) (lHigh (mOf u (mem i) 4) (mOf u (mem i) 5))) q (by omega) (by omega) (lLow (mOf u (mem i) 4) (mOf u (mem i) 5)) (lHigh (mOf u (mem i) 4) (mOf u (mem i) 5))) ?_
            rintro _ _ ⟨rfl, rfl⟩
            rw [lLeave_take hfz]
            refine Go.run hsz hn1 2 (pc' := 49) (lv' := [some (gr 110), some (gi x), some (gi on), some (gi g), some (gi f), some (gr (24 + A.toNat)), some (gi (q + 1)), some (gi 1), some (gi g1), some (gi (g2 - g1))]) (st' := []) (M' := gw m1 ml1) rfl ?_
            refine Go.dropl 7 ?_
            refine Go.dropl 8 ?_
            refine Go.dropl 9 ?_
            refine Go.run hsz hn1 0 (pc' := 49) (lv' := [some (gr 110), some (gi x), some (gi on), some (gi g), some (gi f), some (gr (24 + A.toNat)), some (gi (q + 1)), none, none, none]) (st' := []) (M' := gw m1 ml1) rfl ?_
            exact ih (q + 1) m1 (by rw [show (q + 1).toNat = q.toNat + 1 by omega]; exact tAll_back h hi (v := q) ⟨by omega, by omega⟩ (by unfold dig; rw [if_neg (by omega)]) hm1 hk1 hb1) (by omega) (by omega) (by omega)
set_option maxRecDepth 100000 in
set_option maxHeartbeats 4000000 in
theorem cP_try {G : gG} (hsz : G.2.2.2.2.2.2 = true) {n : Nat} (hn : 6 ≤ n) (u mp : Nat → Nat → Int) (mlb : Nat → Nat → Int64) (mem : Nat → Nat) (z : Nat) (hp : cPr u mp mlb mem z) (x : Int) (i : Nat) (hx : x = i) (hi : i ≤ z) (hI : i < z → gTry G (n - 1) u mp mlb mem z (i + 1)) (m : Nat → Nat → Int) (ml1 : Nat → Nat → Int64) (d : Nat → Int) (on g f : Int) (h : tAll u mp mlb mem z (sLt (u 148 2).toNat d i) m ml1 d i on g f) : gM G 40 n 0 0 [gr 110, gi x, gi on, gi g, gi f] (gw m ml1) (tPost u mp mem z ml1 d i) := by
  have hn1 : 1 ≤ n := by omega
  have hz4 : z ≤ 4 := hp.1.2.2.1
  have hv : SV u := hp.1.2.1
  have hM := hp.1.2.2.2
  have hxn : x.toNat = i := (by omega)
  have hP : 0 ≤ u 148 2 ∧ u 148 2 ≤ 12 := hv.2.2.1
  have hN : 0 ≤ u 148 6 ∧ u 148 6 ≤ 24 := hv.2.2.2.1
  have htb := try_b hv hM hi h.2.2.1.1
  have ho := h.2.2.2.1
  have hg := h.2.2.2.2.1
  have hf := h.2.2.2.2.2
  have hG0 : wGp u mem (pOn u) 0 d = pG0 u := rfl
  have hF0 : wFa u mem (pOn u) 0 d = pF0 u := rfl
  have e2 : m 110 2 = z := (h.1.1.2 110 2 (by decide) (by decide) (by decide)).trans hp.2.1.1
  have e111 : i < z → m 111 i = mem i ∧ ((mem i : Nat) : Int) < u 148 6 := fun w9 => ⟨(h.1.1.2 111 i (by decide) (by decide) (Or.inl (by decide))).trans (hp.2.2.1 i w9).1, (by have := (hM.1 i w9).1; omega)⟩
  have e111x : i < z → m 111 x.toNat = mem i ∧ ((mem i : Nat) : Int) < 24 := fun w9 => (by rw [hxn]; have := e111 w9; exact ⟨this.1, by omega⟩)
  refine gM.of mX5_tryFrom okX5_tryFrom (gcp 40 (by decide)).1 (gcp 40 (by decide)).2 (Nat.le_of_ble_eq_true rfl) ?_
  refine Go.run hsz hn1 5 (pc' := 6) (lv' := [some (gr 110), some (gi x), some (gi on), some (gi g), some (gi f), none, none, none, none, none]) (st' := [gi f, gi g, gi on, gi x, gr 110]) (M' := gw m ml1) rfl ?_
  refine Go.callV (As := [gi x, gi on, gi g, gi f]) (b := 110) (st := []) (mc1 := 0) (mc := 0) (ms1 := 0) (ms := 0) (by rfl) rfl (c := 4) (N := 14) (by rfl) (by decide) (by rfl) (gcn 39 (by decide)).1 (gcn 39 (by decide)).2 rfl (Nat.le_of_ble_eq_true rfl) (by omega) (cP_canBeat hsz (n := n - 1) (by omega) ml1 u mp mlb mem z hp m h.1.1 x i hx hi on g f (by omega) (by omega) ⟨by omega, by omega⟩) ?_
  rintro _ _ ⟨rfl, b, rfl, hcb⟩
  have hb01 := hcb.b01
  refine Go.run hsz hn1 0 (pc' := 9) (lv' := [some (gr 110), some (gi x), some (gi on), some (gi g), some (gi f), none, none, none, none, none]) (st' := [gi b]) (M' := gw m ml1) rfl ?_
  refine Go.if_ne (by rfl) ⟨by omega, by omega⟩ (fun kq1 => ?_) (fun kq1 => ?_)
  · refine Go.run hsz hn1 3 (pc' := 18) (lv' := [some (gr 110), some (gi x), some (gi on), some (gi g), some (gi f), none, none, none, none, none]) (st' := [gi (m 110 2), gi x]) (M' := gw m ml1) rfl ?_
    refine Go.icmp_lt (by rfl) ⟨by omega, by omega⟩ (h.1.1.1 _ _) (fun kq2 => ?_) (fun kq2 => ?_)
    · refine Go.run hsz hn1 6 (pc' := 42) (lv' := [some (gr 110), some (gi x), some (gi on), some (gi g), some (gi f), none, none, none, none, none]) (st' := [gi x, gr 111, gr 3]) (M' := gw m ml1) rfl ?_
      refine Go.iald (by rfl) (N := 4) (by rfl) (by omega) (by omega) (by decide) ?_
      refine Go.run hsz hn1 0 (pc' := 43) (lv' := [some (gr 110), some (gi x), some (gi on), some (gi g), some (gi f), none, none, none, none, none]) (st' := [gi (m 111 x.toNat), gr 3]) (M' := gw m ml1) rfl ?_
      refine Go.aaldR 4 (by rfl) (N := 24) (by rfl) ⟨by decide, by decide⟩ (by omega) (by omega) (by decide) (gMR_3 (by omega) (by omega)) ?_
      refine Go.run hsz hn1 3 (pc' := 49) (lv' := [some (gr 110), some (gi x), some (gi on), some (gi g), some (gi f), some (gr (24 + (m 111 x.toNat).toNat)), some (gi 0), none, none, none]) (st' := []) (M' := gw m ml1) rfl ?_
      exact lP_try hsz (n := n) (by omega) u mp mlb mem z hp x i hx (by omega) (hI (by omega)) ml1 d on g f (m 111 x.toNat) (by rw [hxn]; exact (e111 (by omega)).1) (by omega) (by omega) (by omega) ((u 148 2).toNat + 1) 0 m (tAll_0 h) (by omega) (by omega) (by omega)
    · refine Go.run hsz hn1 4 (pc' := 26) (lv' := [some (gr 110), some (gi x), some (gi on), some (gi g), some (gi f), none, none, none, none, none]) (st' := [gi f, gi g, gi on, gr 110]) (M' := gw m ml1) rfl ?_
      refine Go.callV (As := [gi on, gi g, gi f]) (b := 110) (st := []) (mc1 := 0) (mc := 0) (ms1 := 0) (ms := 0) (by rfl) rfl (c := 4) (N := 14) (by rfl) (by decide) (by rfl) (gcn 42 (by decide)).1 (gcn 42 (by decide)).2 rfl (Nat.le_of_ble_eq_true rfl) (by omega) (cP_rem hsz (n := n - 1) (by omega) ml1 u mp mlb mem z hp m h.1.1 on g f ⟨by omega, by omega⟩ ⟨by omega, by omega⟩ ⟨by omega, by omega⟩) ?_
      rintro _ _ ⟨rfl, m1, rfl, hr⟩
      refine Go.run hsz hn1 0 (pc' := 29) (lv' := [some (gr 110), some (gi x), some (gi on), some (gi g), some (gi f), none, none, none, none, none]) (st' := []) (M' := gw m1 ml1) rfl ?_
      have hye := hcb.yes (by omega)
      have hiz : i = z := (by omega)
      subst hiz
      have hbd := hp.2.2.2.2.1.1
      rw [hbd.1, hbd.2.1, Int.add_zero, Int.sub_zero, h.2.2.2.1, h.2.2.2.2.1, h.2.2.2.2.2] at hye
      exact Go.vret (by rfl) ⟨rfl, m1, rfl, tM_rm h.1.1 hr, fun k hk => (hr.2.1 125 k (by decide) (Or.inl (by decide))).trans (h.1.2.1 k hk), bJ_take h.2.2.1.1 h.1.2.2 h.2.2.1.2 hye (fun k hk => (hr.2.2.2 k hk).trans (h.1.2.1 k hk)) (hr.2.2.1.1.trans h.2.2.2.1) (hr.2.2.1.2.1.trans h.2.2.2.2.1) (hr.2.2.1.2.2.trans h.2.2.2.2.2)⟩
  · refine Go.run hsz hn1 0 (pc' := 12) (lv' := [some (gr 110), some (gi x), some (gi on), some (gi g), some (gi f), none, none, none, none, none]) (st' := []) (M' := gw m ml1) rfl ?_
    have hno := hcb.no (by omega)
    rw [h.2.2.2.1, h.2.2.2.2.1, h.2.2.2.2.2] at hno
    exact Go.vret (by rfl) ⟨rfl, m, rfl, h.1.1, h.1.2.1, bJ_skip hv hM hp.2.2.2.2.1.1 hi h.2.2.1.1 h.1.2.2 hno (hp.2.2.2.2.1.2 i hi).1.1⟩
theorem cP_tryA {G : gG} (hsz : G.2.2.2.2.2.2 = true) (u mp : Nat → Nat → Int) (mlb : Nat → Nat → Int64) (mem : Nat → Nat) (z : Nat) (hp : cPr u mp mlb mem z) : ∀ (e i : Nat), i + e = z → ∀ n : Nat, e + 6 ≤ n → gTry G n u mp mlb mem z i
  | 0, i, hi, n, hn => fun x m ml1 d on g f hx h => cP_try hsz (n := n) (by omega) u mp mlb mem z hp x i hx (by omega) (fun w9 => by omega) m ml1 d on g f h
  | e + 1, i, hi, n, hn => fun x m ml1 d on g f hx h => cP_try hsz (n := n) (by omega) u mp mlb mem z hp x i hx (by omega) (fun w9 => cP_tryA hsz u mp mlb mem z hp e (i + 1) (by omega) (n - 1) (by omega)) m ml1 d on g f h

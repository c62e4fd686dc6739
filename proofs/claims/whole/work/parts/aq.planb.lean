/-! ===== plan: the class makes a plan ===== -/
set_option maxRecDepth 100000 in
set_option maxHeartbeats 4000000 in
theorem cP_look {G : gG} (hsz : G.2.2.2.2.2.2 = true) {n : Nat} (hn : 8 ≤ n) (mi u : Nat → Nat → Int) (mlb : Nat → Nat → Int64) (mem : Nat → Nat) (z X : Nat) (hU : cUb mi u mlb mem z X) (hX : X < 16777216) (ml1 : Nat → Nat → Int64) (hml : ∀ a k : Nat, a ≠ 108 → a ≠ 109 → ml1 a k = mlb a k) (hcal : calR u (pOn u) ml1) (m0 : Nat → Nat → Int) (hz2 : m0 110 2 = z) (hmem : ∀ k, k < z → m0 111 k = mem k) (x : Int) (i : Nat) (hx : x = i) (hi : i < z) (h0 : cKp mi m0) : gM G 35 n 0 0 [gr 110, gi x, gi ((X : Nat) : Int)] (gw m0 ml1) (fun r M => r = none ∧ ∃ m1 : Nat → Nat → Int, M = gw m1 ml1 ∧ lk0 mi m0 m1 i ∧ lkB u m1 mem i (u 148 2).toNat ∧ lkW u m1 mem i (u 148 6).toNat ∧ lkD u m1 mem i z) := by
  have hn1 : 1 ≤ n := by omega
  have hz4 : z ≤ 4 := hU.1.2.2.1
  have hv : SV u := hU.1.2.1
  have hM := hU.1.2.2.2
  have hxn : x.toNat = i := (by omega)
  have hP : 0 ≤ u 148 2 ∧ u 148 2 ≤ 12 := hv.2.2.1
  have hN : 0 ≤ u 148 6 ∧ u 148 6 ≤ 24 := hv.2.2.2.1
  have hmi := hM.1 i hi
  have hmi1 := hmi.1
  have hmi2 := hmi.2
  have e111 : m0 111 x.toNat = mem i := (by rw [hxn]; exact hmem i hi)
  refine gM.of mX5_lookAt okX5_lookAt (gcp 35 (by decide)).1 (gcp 35 (by decide)).2 (Nat.le_of_ble_eq_true rfl) ?_
  refine Go.run hsz hn1 6 (pc' := 12) (lv' := [some (gr 110), some (gi x), some (gi ((X : Nat) : Int)), none, none, none]) (st' := [gi x, gr 111, gr 3]) (M' := gw m0 ml1) rfl ?_
  refine Go.iald (by rfl) (N := 4) (by rfl) (by omega) (by omega) (by decide) ?_
  refine Go.run hsz hn1 0 (pc' := 13) (lv' := [some (gr 110), some (gi x), some (gi ((X : Nat) : Int)), none, none, none]) (st' := [gi (m0 111 x.toNat), gr 3]) (M' := gw m0 ml1) rfl ?_
  refine Go.aaldR 4 (by rfl) (N := 24) (by rfl) ⟨by decide, by decide⟩ (by omega) (by omega) (by decide) (gMR_3 (by omega) (by omega)) ?_
  refine Go.run hsz hn1 5 (pc' := 21) (lv' := [some (gr 110), some (gi x), some (gi ((X : Nat) : Int)), some (gr (24 + (m0 111 x.toNat).toNat)), none, none]) (st' := [gi 0, gi x, gr 112]) (M' := gw m0 ml1) rfl ?_
  refine Go.iast (by rfl) (N := 4) (by rfl) (by omega) (by omega) (by decide) ?_
  refine Go.run hsz hn1 2 (pc' := 25) (lv' := [some (gr 110), some (gi x), some (gi ((X : Nat) : Int)), some (gr (24 + (m0 111 x.toNat).toNat)), some (gi 0), none]) (st' := []) (M' := gw (gu m0 112 x.toNat 0) ml1) rfl ?_
  exact lP_lk1 hsz (n := n) (by omega) mi u mlb mem z X hU hX ml1 hml hcal m0 hz2 hmem x i hx hi (m0 111 x.toNat) e111 ((u 148 2).toNat + 1) 0 _ (lk0_o ⟨h0, fun _ _ _ _ _ => rfl, fun _ _ => rfl⟩ hxn ⟨by decide, by decide⟩) (fun p hp => (by rw [hxn, gu_self, ib_z]; exact ⟨fun w => absurd w (by decide), fun w => absurd w.1 (Nat.not_lt_zero _)⟩)) (fun p hp => absurd hp (Nat.not_lt_zero _)) (by omega) (by omega) (by omega)
set_option maxRecDepth 100000 in
set_option maxHeartbeats 4000000 in
theorem lP_bd {G : gG} (hsz : G.2.2.2.2.2.2 = true) {n : Nat} (hn : 1 ≤ n) (ml : Nat → Nat → Int64) (mi u : Nat → Nat → Int) (mlb : Nat → Nat → Int64) (mem : Nat → Nat) (z X : Nat) (hU : cUb mi u mlb mem z X) (m0 : Nat → Nat → Int) (h0 : lkA mi u m0 mem z z) : ∀ (f : Nat) (q : Int) (m : Nat → Nat → Int) (h : bdM u m0 m mem z q), -1 ≤ q → q < z → q + 1 < f → Go G mX5_bound n 0 0 27 [some (gr 110), some (gi q), none] [] (gw m ml) (fun r M => r = none ∧ ∃ m1 : Nat → Nat → Int, M = gw m1 ml ∧ bdM u m0 m1 mem z (-1)) := by
  have hn1 : 1 ≤ n := by omega
  have hz4 : z ≤ 4 := hU.1.2.2.1
  have hv : SV u := hU.1.2.1
  have hM := hU.1.2.2.2
  have hN : 0 ≤ u 148 6 ∧ u 148 6 ≤ 24 := hv.2.2.2.1
  have hP : 0 ≤ u 148 2 ∧ u 148 2 ≤ 12 := hv.2.2.1
  intro f
  induction f with
  | zero => intros; omega
  | succ f ih =>
    intro q m h q0 q1 q2
    have e111 : 0 ≤ q → m 111 q.toNat = mem q.toNat ∧ ((mem q.toNat : Nat) : Int) < u 148 6 := fun w9 => ⟨(h.1.2 111 _ (by decide) (by decide)).trans (h0.2.1.2 q.toNat (by omega)), (by have := (hM.1 q.toNat (by omega)).1; omega)⟩
    have e5 : 0 ≤ q → m (24 + (m 111 q.toNat).toNat) 5 = mOf u (mem q.toNat) 5 := fun w9 => (by have w8 := e111 w9; rw [w8.1, show (((mem q.toNat : Nat) : Int)).toNat = mem q.toNat by omega, h.1.2 _ 5 (by omega) (by omega), h0.1.2 _ 5 (by omega)]; have w7 := (hU.2.2.1 (mem q.toNat) w8.2).1.2; unfold cA at w7; rw [show (((mem q.toNat : Nat) : Int)).toNat = mem q.toNat by omega] at w7; exact w7)
    have e112 : m 112 q.toNat = m0 112 q.toNat := h.1.2 112 _ (by decide) (by decide)
    have hop : (∃ p : Int, (0 ≤ p ∧ p < u 148 2) ∧ wOk u mem (pOn u) q.toNat p) → 0 ≤ q → ¬ m 112 q.toNat = 0 := fun ⟨p, w1, w2⟩ w9 w8 => (by have w7 := ((h0.2.2 q.toNat (by omega)).1 p.toNat (by omega)).mpr ⟨by omega, (by rw [show ((p.toNat : Nat) : Int) = p by omega]; exact w2)⟩; rw [← e112, w8, ib_z] at w7; exact absurd w7 (by decide))
    have hb1 : 0 ≤ q → (0 ≤ m 113 (q + 1).toNat ∧ m 113 (q + 1).toNat ≤ 4) ∧ (0 ≤ m 114 (q + 1).toNat ∧ m 114 (q + 1).toNat ≤ 4) := fun w9 => (by have w8 := h.2.2.2 (q + 1).toNat (by omega) (by omega); omega)
    refine Go.run hsz hn1 1 (pc' := 28) (lv' := [some (gr 110), some (gi q), none]) (st' := [gi q]) (M' := gw m ml) rfl ?_
    refine Go.if_lt (by rfl) ⟨by omega, by omega⟩ (fun kq1 => ?_) (fun kq1 => ?_)
    · obtain rfl : q = -1 := (by omega)
      exact Go.vret (by rfl) ⟨rfl, m, rfl, h⟩
    · refine Go.run hsz hn1 6 (pc' := 43) (lv' := [some (gr 110), some (gi q), none]) (st' := [gi q, gr 111, gr 3]) (M' := gw m ml) rfl ?_
      refine Go.iald (by rfl) (N := 4) (by rfl) (by omega) (by omega) (by decide) ?_
      refine Go.run hsz hn1 0 (pc' := 44) (lv' := [some (gr 110), some (gi q), none]) (st' := [gi (m 111 q.toNat), gr 3]) (M' := gw m ml) rfl ?_
      refine Go.aaldR 4 (by rfl) (N := 24) (by rfl) ⟨by decide, by decide⟩ (by omega) (by omega) (by decide) (gMR_3 (by omega) (by omega)) ?_
      refine Go.run hsz hn1 0 (pc' := 45) (lv' := [some (gr 110), some (gi q), none]) (st' := [gr (24 + (m 111 q.toNat).toNat)]) (M' := gw m ml) rfl ?_
      refine Go.getf (by rfl) (c := 2) (N := 14) (shA (i := m 111 q.toNat) (by omega)) ?_
      refine Go.run hsz hn1 1 (pc' := 49) (lv' := [some (gr 110), some (gi q), none]) (st' := [gi 1, gi (m (24 + (m 111 q.toNat).toNat) 5)]) (M' := gw m ml) rfl ?_
      refine Go.icmp_ne (by rfl) (h.1.1 _ _) ⟨by decide, by decide⟩ (fun kq2 => ?_) (fun kq2 => ?_)
      · refine Go.run hsz hn1 10 (pc' := 70) (lv' := [some (gr 110), some (gi q), some (gi 0)]) (st' := [gi (q + 1), gr 113, gi q, gr 113]) (M' := gw m ml) rfl ?_
        refine Go.iald (by rfl) (N := 5) (by rfl) (by omega) (by omega) (by decide) ?_
        refine Go.run hsz hn1 3 (pc' := 76) (lv' := [some (gr 110), some (gi q), some (gi 0)]) (st' := [gi q, gr 112, gi (m 113 ((q + 1).toNat)), gi q, gr 113]) (M' := gw m ml) rfl ?_
        refine Go.iald (by rfl) (N := 4) (by rfl) (by omega) (by omega) (by decide) ?_
        refine Go.run hsz hn1 0 (pc' := 77) (lv' := [some (gr 110), some (gi q), some (gi 0)]) (st' := [gi (m 112 q.toNat), gi (m 113 ((q + 1).toNat)), gi q, gr 113]) (M' := gw m ml) rfl ?_
        refine Go.if_eq (by rfl) (h.1.1 _ _) (fun kq3 => ?_) (fun kq3 => ?_)
        · refine Go.run hsz hn1 2 (pc' := 86) (lv' := [some (gr 110), some (gi q), some (gi 0)]) (st' := [gi ((m 113 ((q + 1).toNat)) + 0), gi q, gr 113]) (M' := gw m ml) rfl ?_
          refine Go.iast (by rfl) (N := 5) (by rfl) (by omega) (by omega) (by decide) ?_
          refine Go.run hsz hn1 8 (pc' := 99) (lv' := [some (gr 110), some (gi q), some (gi 0)]) (st' := [gi (q + 1), gr 114, gi q, gr 114]) (M' := gw (gu m 113 q.toNat ((m 113 ((q + 1).toNat)) + 0)) ml) rfl ?_
          refine Go.iald (by rfl) (N := 5) (by rfl) (by omega) (by omega) (by decide) ?_
          refine Go.run hsz hn1 0 (pc' := 100) (lv' := [some (gr 110), some (gi q), some (gi 0)]) (st' := [gi ((gu m 113 q.toNat ((m 113 ((q + 1).toNat)) + 0)) 114 ((q + 1).toNat)), gi q, gr 114]) (M' := gw (gu m 113 q.toNat ((m 113 ((q + 1).toNat)) + 0)) ml) rfl ?_
          rw [show (gu m 113 q.toNat ((m 113 ((q + 1).toNat)) + 0)) 114 ((q + 1).toNat) = m 114 ((q + 1).toNat) from gu_ne (Or.inl (by decide))]
          refine Go.run hsz hn1 3 (pc' := 105) (lv' := [some (gr 110), some (gi q), some (gi 0)]) (st' := [gi q, gr 112, gi (m 114 ((q + 1).toNat)), gi q, gr 114]) (M' := gw (gu m 113 q.toNat ((m 113 ((q + 1).toNat)) + 0)) ml) rfl ?_
          refine Go.iald (by rfl) (N := 4) (by rfl) (by omega) (by omega) (by decide) ?_
          refine Go.run hsz hn1 0 (pc' := 106) (lv' := [some (gr 110), some (gi q), some (gi 0)]) (st' := [gi ((gu m 113 q.toNat ((m 113 ((q + 1).toNat)) + 0)) 112 q.toNat), gi (m 114 ((q + 1).toNat)), gi q, gr 114]) (M' := gw (gu m 113 q.toNat ((m 113 ((q + 1).toNat)) + 0)) ml) rfl ?_
          rw [show (gu m 113 q.toNat ((m 113 ((q + 1).toNat)) + 0)) 112 q.toNat = m 112 q.toNat from gu_ne (Or.inl (by decide))]
          refine Go.run hsz hn1 0 (pc' := 106) (lv' := [some (gr 110), some (gi q), some (gi 0)]) (st' := [gi (m 112 q.toNat), gi (m 114 ((q + 1).toNat)), gi q, gr 114]) (M' := gw (gu m 113 q.toNat ((m 113 ((q + 1).toNat)) + 0)) ml) rfl ?_
          refine Go.if_eq (by rfl) (h.1.1 _ _) (fun kq4 => ?_) (fun kq4 => ?_)
          · refine Go.run hsz hn1 2 (pc' := 119) (lv' := [some (gr 110), some (gi q), some (gi 0)]) (st' := [gi ((m 114 ((q + 1).toNat)) + 0), gi q, gr 114]) (M' := gw (gu m 113 q.toNat ((m 113 ((q + 1).toNat)) + 0)) ml) rfl ?_
            refine Go.iast (by rfl) (N := 5) (by rfl) (by omega) (by omega) (by decide) ?_
            refine Go.run hsz hn1 2 (pc' := 27) (lv' := [some (gr 110), some (gi (q + (-1))), some (gi 0)]) (st' := []) (M' := gw (gu (gu m 113 q.toNat ((m 113 ((q + 1).toNat)) + 0)) 114 q.toNat ((m 114 ((q + 1).toNat)) + 0)) ml) rfl ?_
            refine Go.dropl 2 ?_
            refine Go.run hsz hn1 0 (pc' := 27) (lv' := [some (gr 110), some (gi (q + (-1))), none]) (st' := []) (M' := gw (gu (gu m 113 q.toNat ((m 113 ((q + 1).toNat)) + 0)) 114 q.toNat ((m 114 ((q + 1).toNat)) + 0)) ml) rfl ?_
            exact ih (q - 1) _ (bdM_s h (by omega) (by omega) hz4 rfl ⟨by omega, by omega⟩ ⟨by omega, by omega⟩ (fun w9 => (by have w8 := hop w9 (by omega); have w7 := e5 (by omega); (first | rw [if_pos (by omega)] | rw [if_neg (by omega)]); first | exact ⟨by omega, by omega⟩ | (exfalso; omega)))) (by omega) (by omega) (by omega)
          · refine Go.run hsz hn1 1 (pc' := 110) (lv' := [some (gr 110), some (gi q), some (gi 0)]) (st' := [gi 0, gi (m 114 ((q + 1).toNat)), gi q, gr 114]) (M' := gw (gu m 113 q.toNat ((m 113 ((q + 1).toNat)) + 0)) ml) rfl ?_
            refine Go.if_eq (by rfl) ⟨by decide, by decide⟩ (fun kq5 => ?_) (fun kq5 => ?_)
            · refine Go.run hsz hn1 2 (pc' := 119) (lv' := [some (gr 110), some (gi q), some (gi 0)]) (st' := [gi ((m 114 ((q + 1).toNat)) + 0), gi q, gr 114]) (M' := gw (gu m 113 q.toNat ((m 113 ((q + 1).toNat)) + 0)) ml) rfl ?_
              refine Go.iast (by rfl) (N := 5) (by rfl) (by omega) (by omega) (by decide) ?_
              refine Go.run hsz hn1 2 (pc' := 27) (lv' := [some (gr 110), some (gi (q + (-1))), some (gi 0)]) (st' := []) (M' := gw (gu (gu m 113 q.toNat ((m 113 ((q + 1).toNat)) + 0)) 114 q.toNat ((m 114 ((q + 1).toNat)) + 0)) ml) rfl ?_
              refine Go.dropl 2 ?_
              refine Go.run hsz hn1 0 (pc' := 27) (lv' := [some (gr 110), some (gi (q + (-1))), none]) (st' := []) (M' := gw (gu (gu m 113 q.toNat ((m 113 ((q + 1).toNat)) + 0)) 114 q.toNat ((m 114 ((q + 1).toNat)) + 0)) ml) rfl ?_
              exact ih (q - 1) _ (bdM_s h (by omega) (by omega) hz4 rfl ⟨by omega, by omega⟩ ⟨by omega, by omega⟩ (fun w9 => (by have w8 := hop w9 (by omega); have w7 := e5 (by omega); (first | rw [if_pos (by omega)] | rw [if_neg (by omega)]); first | exact ⟨by omega, by omega⟩ | (exfalso; omega)))) (by omega) (by omega) (by omega)
            · exact absurd kq5 (by decide)
        · refine Go.run hsz hn1 3 (pc' := 86) (lv' := [some (gr 110), some (gi q), some (gi 0)]) (st' := [gi ((m 113 ((q + 1).toNat)) + 1), gi q, gr 113]) (M' := gw m ml) rfl ?_
          refine Go.iast (by rfl) (N := 5) (by rfl) (by omega) (by omega) (by decide) ?_
          refine Go.run hsz hn1 8 (pc' := 99) (lv' := [some (gr 110), some (gi q), some (gi 0)]) (st' := [gi (q + 1), gr 114, gi q, gr 114]) (M' := gw (gu m 113 q.toNat ((m 113 ((q + 1).toNat)) + 1)) ml) rfl ?_
          refine Go.iald (by rfl) (N := 5) (by rfl) (by omega) (by omega) (by decide) ?_
          refine Go.run hsz hn1 0 (pc' := 100) (lv' := [some (gr 110), some (gi q), some (gi 0)]) (st' := [gi ((gu m 113 q.toNat ((m 113 ((q + 1).toNat)) + 1)) 114 ((q + 1).toNat)), gi q, gr 114]) (M' := gw (gu m 113 q.toNat ((m 113 ((q + 1).toNat)) + 1)) ml) rfl ?_
          rw [show (gu m 113 q.toNat ((m 113 ((q + 1).toNat)) + 1)) 114 ((q + 1).toNat) = m 114 ((q + 1).toNat) from gu_ne (Or.inl (by decide))]
          refine Go.run hsz hn1 3 (pc' := 105) (lv' := [some (gr 110), some (gi q), some (gi 0)]) (st' := [gi q, gr 112, gi (m 114 ((q + 1).toNat)), gi q, gr 114]) (M' := gw (gu m 113 q.toNat ((m 113 ((q + 1).toNat)) + 1)) ml) rfl ?_
          refine Go.iald (by rfl) (N := 4) (by rfl) (by omega) (by omega) (by decide) ?_
          refine Go.run hsz hn1 0 (pc' := 106) (lv' := [some (gr 110), some (gi q), some (gi 0)]) (st' := [gi ((gu m 113 q.toNat ((m 113 ((q + 1).toNat)) + 1)) 112 q.toNat), gi (m 114 ((q + 1).toNat)), gi q, gr 114]) (M' := gw (gu m 113 q.toNat ((m 113 ((q + 1).toNat)) + 1)) ml) rfl ?_
          rw [show (gu m 113 q.toNat ((m 113 ((q + 1).toNat)) + 1)) 112 q.toNat = m 112 q.toNat from gu_ne (Or.inl (by decide))]
          refine Go.run hsz hn1 0 (pc' := 106) (lv' := [some (gr 110), some (gi q), some (gi 0)]) (st' := [gi (m 112 q.toNat), gi (m 114 ((q + 1).toNat)), gi q, gr 114]) (M' := gw (gu m 113 q.toNat ((m 113 ((q + 1).toNat)) + 1)) ml) rfl ?_
          refine Go.if_eq (by rfl) (h.1.1 _ _) (fun kq6 => ?_) (fun kq6 => ?_)
          · refine Go.run hsz hn1 2 (pc' := 119) (lv' := [some (gr 110), some (gi q), some (gi 0)]) (st' := [gi ((m 114 ((q + 1).toNat)) + 0), gi q, gr 114]) (M' := gw (gu m 113 q.toNat ((m 113 ((q + 1).toNat)) + 1)) ml) rfl ?_
            refine Go.iast (by rfl) (N := 5) (by rfl) (by omega) (by omega) (by decide) ?_
            refine Go.run hsz hn1 2 (pc' := 27) (lv' := [some (gr 110), some (gi (q + (-1))), some (gi 0)]) (st' := []) (M' := gw (gu (gu m 113 q.toNat ((m 113 ((q + 1).toNat)) + 1)) 114 q.toNat ((m 114 ((q + 1).toNat)) + 0)) ml) rfl ?_
            refine Go.dropl 2 ?_
            refine Go.run hsz hn1 0 (pc' := 27) (lv' := [some (gr 110), some (gi (q + (-1))), none]) (st' := []) (M' := gw (gu (gu m 113 q.toNat ((m 113 ((q + 1).toNat)) + 1)) 114 q.toNat ((m 114 ((q + 1).toNat)) + 0)) ml) rfl ?_
            exact ih (q - 1) _ (bdM_s h (by omega) (by omega) hz4 rfl ⟨by omega, by omega⟩ ⟨by omega, by omega⟩ (fun w9 => (by have w8 := hop w9 (by omega); have w7 := e5 (by omega); (first | rw [if_pos (by omega)] | rw [if_neg (by omega)]); first | exact ⟨by omega, by omega⟩ | (exfalso; omega)))) (by omega) (by omega) (by omega)
          · refine Go.run hsz hn1 1 (pc' := 110) (lv' := [some (gr 110), some (gi q), some (gi 0)]) (st' := [gi 0, gi (m 114 ((q + 1).toNat)), gi q, gr 114]) (M' := gw (gu m 113 q.toNat ((m 113 ((q + 1).toNat)) + 1)) ml) rfl ?_
            refine Go.if_eq (by rfl) ⟨by decide, by decide⟩ (fun kq7 => ?_) (fun kq7 => ?_)
            · refine Go.run hsz hn1 2 (pc' := 119) (lv' := [some (gr 110), some (gi q), some (gi 0)]) (st' := [gi ((m 114 ((q + 1).toNat)) + 0), gi q, gr 114]) (M' := gw (gu m 113 q.toNat ((m 113 ((q + 1).toNat)) + 1)) ml) rfl ?_
              refine Go.iast (by rfl) (N := 5) (by rfl) (by omega) (by omega) (by decide) ?_
              refine Go.run hsz hn1 2 (pc' := 27) (lv' := [some (gr 110), some (gi (q + (-1))), some (gi 0)]) (st' := []) (M' := gw (gu (gu m 113 q.toNat ((m 113 ((q + 1).toNat)) + 1)) 114 q.toNat ((m 114 ((q + 1).toNat)) + 0)) ml) rfl ?_
              refine Go.dropl 2 ?_
              refine Go.run hsz hn1 0 (pc' := 27) (lv' := [some (gr 110), some (gi (q + (-1))), none]) (st' := []) (M' := gw (gu (gu m 113 q.toNat ((m 113 ((q + 1).toNat)) + 1)) 114 q.toNat ((m 114 ((q + 1).toNat)) + 0)) ml) rfl ?_
              exact ih (q - 1) _ (bdM_s h (by omega) (by omega) hz4 rfl ⟨by omega, by omega⟩ ⟨by omega, by omega⟩ (fun w9 => (by have w8 := hop w9 (by omega); have w7 := e5 (by omega); (first | rw [if_pos (by omega)] | rw [if_neg (by omega)]); first | exact ⟨by omega, by omega⟩ | (exfalso; omega)))) (by omega) (by omega) (by omega)
            · exact absurd kq7 (by decide)
      · refine Go.run hsz hn1 11 (pc' := 70) (lv' := [some (gr 110), some (gi q), some (gi 1)]) (st' := [gi (q + 1), gr 113, gi q, gr 113]) (M' := gw m ml) rfl ?_
        refine Go.iald (by rfl) (N := 5) (by rfl) (by omega) (by omega) (by decide) ?_
        refine Go.run hsz hn1 3 (pc' := 76) (lv' := [some (gr 110), some (gi q), some (gi 1)]) (st' := [gi q, gr 112, gi (m 113 ((q + 1).toNat)), gi q, gr 113]) (M' := gw m ml) rfl ?_
        refine Go.iald (by rfl) (N := 4) (by rfl) (by omega) (by omega) (by decide) ?_
        refine Go.run hsz hn1 0 (pc' := 77) (lv' := [some (gr 110), some (gi q), some (gi 1)]) (st' := [gi (m 112 q.toNat), gi (m 113 ((q + 1).toNat)), gi q, gr 113]) (M' := gw m ml) rfl ?_
        refine Go.if_eq (by rfl) (h.1.1 _ _) (fun kq8 => ?_) (fun kq8 => ?_)
        · refine Go.run hsz hn1 2 (pc' := 86) (lv' := [some (gr 110), some (gi q), some (gi 1)]) (st' := [gi ((m 113 ((q + 1).toNat)) + 0), gi q, gr 113]) (M' := gw m ml) rfl ?_
          refine Go.iast (by rfl) (N := 5) (by rfl) (by omega) (by omega) (by decide) ?_
          refine Go.run hsz hn1 8 (pc' := 99) (lv' := [some (gr 110), some (gi q), some (gi 1)]) (st' := [gi (q + 1), gr 114, gi q, gr 114]) (M' := gw (gu m 113 q.toNat ((m 113 ((q + 1).toNat)) + 0)) ml) rfl ?_
          refine Go.iald (by rfl) (N := 5) (by rfl) (by omega) (by omega) (by decide) ?_
          refine Go.run hsz hn1 0 (pc' := 100) (lv' := [some (gr 110), some (gi q), some (gi 1)]) (st' := [gi ((gu m 113 q.toNat ((m 113 ((q + 1).toNat)) + 0)) 114 ((q + 1).toNat)), gi q, gr 114]) (M' := gw (gu m 113 q.toNat ((m 113 ((q + 1).toNat)) + 0)) ml) rfl ?_
          rw [show (gu m 113 q.toNat ((m 113 ((q + 1).toNat)) + 0)) 114 ((q + 1).toNat) = m 114 ((q + 1).toNat) from gu_ne (Or.inl (by decide))]
          refine Go.run hsz hn1 3 (pc' := 105) (lv' := [some (gr 110), some (gi q), some (gi 1)]) (st' := [gi q, gr 112, gi (m 114 ((q + 1).toNat)), gi q, gr 114]) (M' := gw (gu m 113 q.toNat ((m 113 ((q + 1).toNat)) + 0)) ml) rfl ?_
          refine Go.iald (by rfl) (N := 4) (by rfl) (by omega) (by omega) (by decide) ?_
          refine Go.run hsz hn1 0 (pc' := 106) (lv' := [some (gr 110), some (gi q), some (gi 1)]) (st' := [gi ((gu m 113 q.toNat ((m 113 ((q + 1).toNat)) + 0)) 112 q.toNat), gi (m 114 ((q + 1).toNat)), gi q, gr 114]) (M' := gw (gu m 113 q.toNat ((m 113 ((q + 1).toNat)) + 0)) ml) rfl ?_
          rw [show (gu m 113 q.toNat ((m 113 ((q + 1).toNat)) + 0)) 112 q.toNat = m 112 q.toNat from gu_ne (Or.inl (by decide))]
          refine Go.run hsz hn1 0 (pc' := 106) (lv' := [some (gr 110), some (gi q), some (gi 1)]) (st' := [gi (m 112 q.toNat), gi (m 114 ((q + 1).toNat)), gi q, gr 114]) (M' := gw (gu m 113 q.toNat ((m 113 ((q + 1).toNat)) + 0)) ml) rfl ?_
          refine Go.if_eq (by rfl) (h.1.1 _ _) (fun kq9 => ?_) (fun kq9 => ?_)
          · refine Go.run hsz hn1 2 (pc' := 119) (lv' := [some (gr 110), some (gi q), some (gi 1)]) (st' := [gi ((m 114 ((q + 1).toNat)) + 0), gi q, gr 114]) (M' := gw (gu m 113 q.toNat ((m 113 ((q + 1).toNat)) + 0)) ml) rfl ?_
            refine Go.iast (by rfl) (N := 5) (by rfl) (by omega) (by omega) (by decide) ?_
            refine Go.run hsz hn1 2 (pc' := 27) (lv' := [some (gr 110), some (gi (q + (-1))), some (gi 1)]) (st' := []) (M' := gw (gu (gu m 113 q.toNat ((m 113 ((q + 1).toNat)) + 0)) 114 q.toNat ((m 114 ((q + 1).toNat)) + 0)) ml) rfl ?_
            refine Go.dropl 2 ?_
            refine Go.run hsz hn1 0 (pc' := 27) (lv' := [some (gr 110), some (gi (q + (-1))), none]) (st' := []) (M' := gw (gu (gu m 113 q.toNat ((m 113 ((q + 1).toNat)) + 0)) 114 q.toNat ((m 114 ((q + 1).toNat)) + 0)) ml) rfl ?_
            exact ih (q - 1) _ (bdM_s h (by omega) (by omega) hz4 rfl ⟨by omega, by omega⟩ ⟨by omega, by omega⟩ (fun w9 => (by have w8 := hop w9 (by omega); have w7 := e5 (by omega); (first | rw [if_pos (by omega)] | rw [if_neg (by omega)]); first | exact ⟨by omega, by omega⟩ | (exfalso; omega)))) (by omega) (by omega) (by omega)
          · refine Go.run hsz hn1 1 (pc' := 110) (lv' := [some (gr 110), some (gi q), some (gi 1)]) (st' := [gi 1, gi (m 114 ((q + 1).toNat)), gi q, gr 114]) (M' := gw (gu m 113 q.toNat ((m 113 ((q + 1).toNat)) + 0)) ml) rfl ?_
            refine Go.if_eq (by rfl) ⟨by decide, by decide⟩ (fun kq10 => ?_) (fun kq10 => ?_)
            · exact absurd kq10 (by decide)
            · refine Go.run hsz hn1 3 (pc' := 119) (lv' := [some (gr 110), some (gi q), some (gi 1)]) (st' := [gi ((m 114 ((q + 1).toNat)) + 1), gi q, gr 114]) (M' := gw (gu m 113 q.toNat ((m 113 ((q + 1).toNat)) + 0)) ml) rfl ?_
              refine Go.iast (by rfl) (N := 5) (by rfl) (by omega) (by omega) (by decide) ?_
              refine Go.run hsz hn1 2 (pc' := 27) (lv' := [some (gr 110), some (gi (q + (-1))), some (gi 1)]) (st' := []) (M' := gw (gu (gu m 113 q.toNat ((m 113 ((q + 1).toNat)) + 0)) 114 q.toNat ((m 114 ((q + 1).toNat)) + 1)) ml) rfl ?_
              refine Go.dropl 2 ?_
              refine Go.run hsz hn1 0 (pc' := 27) (lv' := [some (gr 110), some (gi (q + (-1))), none]) (st' := []) (M' := gw (gu (gu m 113 q.toNat ((m 113 ((q + 1).toNat)) + 0)) 114 q.toNat ((m 114 ((q + 1).toNat)) + 1)) ml) rfl ?_
              exact ih (q - 1) _ (bdM_s h (by omega) (by omega) hz4 rfl ⟨by omega, by omega⟩ ⟨by omega, by omega⟩ (fun w9 => (by have w8 := hop w9 (by omega); have w7 := e5 (by omega); (first | rw [if_pos (by omega)] | rw [if_neg (by omega)]); first | exact ⟨by omega, by omega⟩ | (exfalso; omega)))) (by omega) (by omega) (by omega)
        · refine Go.run hsz hn1 3 (pc' := 86) (lv' := [some (gr 110), some (gi q), some (gi 1)]) (st' := [gi ((m 113 ((q + 1).toNat)) + 1), gi q, gr 113]) (M' := gw m ml) rfl ?_
          refine Go.iast (by rfl) (N := 5) (by rfl) (by omega) (by omega) (by decide) ?_
          refine Go.run hsz hn1 8 (pc' := 99) (lv' := [some (gr 110), some (gi q), some (gi 1)]) (st' := [gi (q + 1), gr 114, gi q, gr 114]) (M' := gw (gu m 113 q.toNat ((m 113 ((q + 1).toNat)) + 1)) ml) rfl ?_
          refine Go.iald (by rfl) (N := 5) (by rfl) (by omega) (by omega) (by decide) ?_
          refine Go.run hsz hn1 0 (pc' := 100) (lv' := [some (gr 110), some (gi q), some (gi 1)]) (st' := [gi ((gu m 113 q.toNat ((m 113 ((q + 1).toNat)) + 1)) 114 ((q + 1).toNat)), gi q, gr 114]) (M' := gw (gu m 113 q.toNat ((m 113 ((q + 1).toNat)) + 1)) ml) rfl ?_
          rw [show (gu m 113 q.toNat ((m 113 ((q + 1).toNat)) + 1)) 114 ((q + 1).toNat) = m 114 ((q + 1).toNat) from gu_ne (Or.inl (by decide))]
          refine Go.run hsz hn1 3 (pc' := 105) (lv' := [some (gr 110), some (gi q), some (gi 1)]) (st' := [gi q, gr 112, gi (m 114 ((q + 1).toNat)), gi q, gr 114]) (M' := gw (gu m 113 q.toNat ((m 113 ((q + 1).toNat)) + 1)) ml) rfl ?_
          refine Go.iald (by rfl) (N := 4) (by rfl) (by omega) (by omega) (by decide) ?_
          refine Go.run hsz hn1 0 (pc' := 106) (lv' := [some (gr 110), some (gi q), some (gi 1)]) (st' := [gi ((gu m 113 q.toNat ((m 113 ((q + 1).toNat)) + 1)) 112 q.toNat), gi (m 114 ((q + 1).toNat)), gi q, gr 114]) (M' := gw (gu m 113 q.toNat ((m 113 ((q + 1).toNat)) + 1)) ml) rfl ?_
          rw [show (gu m 113 q.toNat ((m 113 ((q + 1).toNat)) + 1)) 112 q.toNat = m 112 q.toNat from gu_ne (Or.inl (by decide))]
          refine Go.run hsz hn1 0 (pc' := 106) (lv' := [some (gr 110), some (gi q), some (gi 1)]) (st' := [gi (m 112 q.toNat), gi (m 114 ((q + 1).toNat)), gi q, gr 114]) (M' := gw (gu m 113 q.toNat ((m 113 ((q + 1).toNat)) + 1)) ml) rfl ?_
          refine Go.if_eq (by rfl) (h.1.1 _ _) (fun kq11 => ?_) (fun kq11 => ?_)
          · refine Go.run hsz hn1 2 (pc' := 119) (lv' := [some (gr 110), some (gi q), some (gi 1)]) (st' := [gi ((m 114 ((q + 1).toNat)) + 0), gi q, gr 114]) (M' := gw (gu m 113 q.toNat ((m 113 ((q + 1).toNat)) + 1)) ml) rfl ?_
            refine Go.iast (by rfl) (N := 5) (by rfl) (by omega) (by omega) (by decide) ?_
            refine Go.run hsz hn1 2 (pc' := 27) (lv' := [some (gr 110), some (gi (q + (-1))), some (gi 1)]) (st' := []) (M' := gw (gu (gu m 113 q.toNat ((m 113 ((q + 1).toNat)) + 1)) 114 q.toNat ((m 114 ((q + 1).toNat)) + 0)) ml) rfl ?_
            refine Go.dropl 2 ?_
            refine Go.run hsz hn1 0 (pc' := 27) (lv' := [some (gr 110), some (gi (q + (-1))), none]) (st' := []) (M' := gw (gu (gu m 113 q.toNat ((m 113 ((q + 1).toNat)) + 1)) 114 q.toNat ((m 114 ((q + 1).toNat)) + 0)) ml) rfl ?_
            exact ih (q - 1) _ (bdM_s h (by omega) (by omega) hz4 rfl ⟨by omega, by omega⟩ ⟨by omega, by omega⟩ (fun w9 => (by have w8 := hop w9 (by omega); have w7 := e5 (by omega); (first | rw [if_pos (by omega)] | rw [if_neg (by omega)]); first | exact ⟨by omega, by omega⟩ | (exfalso; omega)))) (by omega) (by omega) (by omega)
          · refine Go.run hsz hn1 1 (pc' := 110) (lv' := [some (gr 110), some (gi q), some (gi 1)]) (st' := [gi 1, gi (m 114 ((q + 1).toNat)), gi q, gr 114]) (M' := gw (gu m 113 q.toNat ((m 113 ((q + 1).toNat)) + 1)) ml) rfl ?_
            refine Go.if_eq (by rfl) ⟨by decide, by decide⟩ (fun kq12 => ?_) (fun kq12 => ?_)
            · exact absurd kq12 (by decide)
            · refine Go.run hsz hn1 3 (pc' := 119) (lv' := [some (gr 110), some (gi q), some (gi 1)]) (st' := [gi ((m 114 ((q + 1).toNat)) + 1), gi q, gr 114]) (M' := gw (gu m 113 q.toNat ((m 113 ((q + 1).toNat)) + 1)) ml) rfl ?_
              refine Go.iast (by rfl) (N := 5) (by rfl) (by omega) (by omega) (by decide) ?_
              refine Go.run hsz hn1 2 (pc' := 27) (lv' := [some (gr 110), some (gi (q + (-1))), some (gi 1)]) (st' := []) (M' := gw (gu (gu m 113 q.toNat ((m 113 ((q + 1).toNat)) + 1)) 114 q.toNat ((m 114 ((q + 1).toNat)) + 1)) ml) rfl ?_
              refine Go.dropl 2 ?_
              refine Go.run hsz hn1 0 (pc' := 27) (lv' := [some (gr 110), some (gi (q + (-1))), none]) (st' := []) (M' := gw (gu (gu m 113 q.toNat ((m 113 ((q + 1).toNat)) + 1)) 114 q.toNat ((m 114 ((q + 1).toNat)) + 1)) ml) rfl ?_
              exact ih (q - 1) _ (bdM_s h (by omega) (by omega) hz4 rfl ⟨by omega, by omega⟩ ⟨by omega, by omega⟩ (fun w9 => (by have w8 := hop w9 (by omega); have w7 := e5 (by omega); (first | rw [if_pos (by omega)] | rw [if_neg (by omega)]); first | exact ⟨by omega, by omega⟩ | (exfalso; omega)))) (by omega) (by omega) (by omega)
set_option maxRecDepth 100000 in
set_option maxHeartbeats 4000000 in
theorem cP_bd {G : gG} (hsz : G.2.2.2.2.2.2 = true) {n : Nat} (hn : 2 ≤ n) (ml : Nat → Nat → Int64) (mi u : Nat → Nat → Int) (mlb : Nat → Nat → Int64) (mem : Nat → Nat) (z X : Nat) (hU : cUb mi u mlb mem z X) (m0 : Nat → Nat → Int) (h0 : lkA mi u m0 mem z z) : gM G 38 n 0 0 [gr 110] (gw m0 ml) (fun r M => r = none ∧ ∃ m1 : Nat → Nat → Int, M = gw m1 ml ∧ bdM u m0 m1 mem z (-1)) := by
  have hn1 : 1 ≤ n := by omega
  have hz4 : z ≤ 4 := hU.1.2.2.1
  have hv : SV u := hU.1.2.1
  have hM := hU.1.2.2.2
  have hN : 0 ≤ u 148 6 ∧ u 148 6 ≤ 24 := hv.2.2.2.1
  have hP : 0 ≤ u 148 2 ∧ u 148 2 ≤ 12 := hv.2.2.1
  have e2 : m0 110 2 = z := h0.2.1.1
  refine gM.of mX5_bound okX5_bound (gcp 38 (by decide)).1 (gcp 38 (by decide)).2 (Nat.le_of_ble_eq_true rfl) ?_
  refine Go.run hsz hn1 5 (pc' := 9) (lv' := [some (gr 110), none, none]) (st' := [gi 0, gi (m0 110 2), gr 113]) (M' := gw m0 ml) rfl ?_
  refine Go.iast (by rfl) (N := 5) (by rfl) (by omega) (by omega) (by decide) ?_
  refine Go.run hsz hn1 4 (pc' := 18) (lv' := [some (gr 110), none, none]) (st' := [gi ((gu m0 113 ((m0 110 2).toNat) 0) 110 2), gr 114]) (M' := gw (gu m0 113 ((m0 110 2).toNat) 0) ml) rfl ?_
  refine Go.run hsz hn1 0 (pc' := 18) (lv' := [some (gr 110), none, none]) (st' := [gi ((gu m0 113 ((m0 110 2).toNat) 0) 110 2), gr 114]) (M' := gw (gu m0 113 ((m0 110 2).toNat) 0) ml) rfl ?_
  rw [show (gu m0 113 ((m0 110 2).toNat) 0) 110 2 = m0 110 2 from gu_ne (Or.inl (by decide))]
  refine Go.run hsz hn1 1 (pc' := 19) (lv' := [some (gr 110), none, none]) (st' := [gi 0, gi (m0 110 2), gr 114]) (M' := gw (gu m0 113 ((m0 110 2).toNat) 0) ml) rfl ?_
  refine Go.iast (by rfl) (N := 5) (by rfl) (by omega) (by omega) (by decide) ?_
  refine Go.run hsz hn1 2 (pc' := 24) (lv' := [some (gr 110), none, none]) (st' := [gi ((gu (gu m0 113 ((m0 110 2).toNat) 0) 114 ((m0 110 2).toNat) 0) 110 2)]) (M' := gw (gu (gu m0 113 ((m0 110 2).toNat) 0) 114 ((m0 110 2).toNat) 0) ml) rfl ?_
  refine Go.run hsz hn1 0 (pc' := 24) (lv' := [some (gr 110), none, none]) (st' := [gi ((gu (gu m0 113 ((m0 110 2).toNat) 0) 114 ((m0 110 2).toNat) 0) 110 2)]) (M' := gw (gu (gu m0 113 ((m0 110 2).toNat) 0) 114 ((m0 110 2).toNat) 0) ml) rfl ?_
  rw [show (gu (gu m0 113 ((m0 110 2).toNat) 0) 114 ((m0 110 2).toNat) 0) 110 2 = m0 110 2 from (gu_ne (Or.inl (by decide))).trans (gu_ne (Or.inl (by decide)))]
  refine Go.run hsz hn1 3 (pc' := 27) (lv' := [some (gr 110), some (gi ((m0 110 2) - 1)), none]) (st' := []) (M' := gw (gu (gu m0 113 ((m0 110 2).toNat) 0) 114 ((m0 110 2).toNat) 0) ml) rfl ?_
  rw [show m0 110 2 = z from e2]; exact lP_bd hsz (n := n) (by omega) ml mi u mlb mem z X hU m0 h0 (z + 1) ((z : Int) - 1) _ ⟨⟨gR32_gu (gR32_gu h0.1.1 ⟨by decide, by decide⟩) ⟨by decide, by decide⟩, fun a k w1 w2 => (by rw [gu_other w2, gu_other w1])⟩, ⟨(by rw [gu_other (by decide)]; exact gu_self _ _ _ _), gu_self _ _ _ _⟩, fun i w1 w2 => (by omega), fun i w1 w2 => (by have w3 : i = z := (by omega); subst w3; rw [show ((i : Nat) : Int).toNat = i by omega, gu_self, gu_other (by decide), gu_self]; omega)⟩ (by omega) (by omega) (by omega)

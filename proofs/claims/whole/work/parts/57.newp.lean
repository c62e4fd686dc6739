def cPit (mi : Nat → Nat → Int) (p x y z w : Int) : Nat → Nat → Int := gu (gu (gu (gu (gu (gu (gu (gu (gu (gu mi (12 + p.toNat) 0 (x / 100)) (12 + p.toNat) 1 (x % 100)) (12 + p.toNat) 2 (y / 100)) (12 + p.toNat) 3 (y % 100)) (12 + p.toNat) 4 (z / 100)) (12 + p.toNat) 5 (z % 100)) (12 + p.toNat) 6 (w / 10)) (12 + p.toNat) 7 (w % 10)) (12 + p.toNat) 8 0) (12 + p.toNat) 9 0
def cPar (mi : Nat → Nat → Int) (a x y z w : Int) : Nat → Nat → Int := gu (gu (gu (gu (gu (gu (gu (gu (gu (gu (gu (gu mi (24 + a.toNat) 0 x) (24 + a.toNat) 1 (y / 100)) (24 + a.toNat) 2 (y % 100)) (24 + a.toNat) 3 z) (24 + a.toNat) 4 (w / 100)) (24 + a.toNat) 5 (w % 100)) (24 + a.toNat) 8 (-1)) (24 + a.toNat) 9 (-1)) (24 + a.toNat) 10 (-1)) (24 + a.toNat) 11 0) (24 + a.toNat) 12 0) (24 + a.toNat) 13 0
def cParL (ml : Nat → Nat → Int64) (a w : Int) : Nat → Nat → Int64 := gu (gu ml (24 + a.toNat) 6 (lLow (w / 100) (w % 100))) (24 + a.toNat) 7 (lHigh (w / 100) (w % 100))
set_option maxRecDepth 100000 in
set_option maxHeartbeats 4000000 in
theorem cC_isStay {G : gG} (hsz : G.2.2.2.2.2.2 = true) {n : Nat} (hn : 2 ≤ n) (mi : Nat → Nat → Int) (ml : Nat → Nat → Int64) (f k : Int) (rf : rng f) (rk : rng k) : gM G 151 n 0 0 [gi f, gi k] (gw mi ml) (gret (b2 ((0 ≤ f ∧ f ≤ 99) ∧ (1 ≤ k ∧ k ≤ 30) ∧ f + k - 1 ≤ 99)) (gw mi ml)) := by
  have hn1 : 1 ≤ n := by omega
  refine gM.of mX11_isStay okX11_isStay (gcp 151 (by decide)).1 (gcp 151 (by decide)).2 (Nat.le_of_ble_eq_true rfl) ?_
  refine Go.run hsz hn1 3 (pc' := 4) (lv' := [some (gi f), some (gi k)]) (st' := [gi 99, gi 0, gi f]) (M' := gw mi ml) rfl ?_
  refine Go.callS (As := [gi f, gi 0, gi 99]) (st := []) (mc1 := 0) (mc := 0) (ms1 := 0) (ms := 0) (by rfl) rfl (gcn 150 (by decide)).1 (gcn 150 (by decide)).2 (Nat.le_of_ble_eq_true rfl) (by omega) (cC_isIn hsz (n := n - 1) (by omega) mi ml f 0 99 rf ⟨by decide, by decide⟩ ⟨by decide, by decide⟩) ?_
  rintro _ _ ⟨rfl, rfl⟩
  refine Go.run hsz hn1 0 (pc' := 7) (lv' := [some (gi f), some (gi k)]) (st' := [gi (b2 (0 ≤ f ∧ f ≤ 99))]) (M' := gw mi ml) rfl ?_
  refine Go.if_eq (by rfl) (b2_rng _) (fun kq1 => ?_) (fun kq1 => ?_)
  · replace kq1 := b2_neg kq1
    refine Go.run hsz hn1 1 (pc' := 35) (lv' := [some (gi f), some (gi k)]) (st' := [gi 0]) (M' := gw mi ml) rfl ?_
    exact Go.zret (by rfl) (Or.inl rfl) ⟨congrArg (fun z => some (gi z)) (by unfold b2; split <;> omega), rfl⟩
  · replace kq1 := b2_pos kq1
    refine Go.run hsz hn1 3 (pc' := 14) (lv' := [some (gi f), some (gi k)]) (st' := [gi 30, gi 1, gi k]) (M' := gw mi ml) rfl ?_
    refine Go.callS (As := [gi k, gi 1, gi 30]) (st := []) (mc1 := 0) (mc := 0) (ms1 := 0) (ms := 0) (by rfl) rfl (gcn 150 (by decide)).1 (gcn 150 (by decide)).2 (Nat.le_of_ble_eq_true rfl) (by omega) (cC_isIn hsz (n := n - 1) (by omega) mi ml k 1 30 rk ⟨by decide, by decide⟩ ⟨by decide, by decide⟩) ?_
    rintro _ _ ⟨rfl, rfl⟩
    refine Go.run hsz hn1 0 (pc' := 17) (lv' := [some (gi f), some (gi k)]) (st' := [gi (b2 (1 ≤ k ∧ k ≤ 30))]) (M' := gw mi ml) rfl ?_
    refine Go.if_eq (by rfl) (b2_rng _) (fun kq2 => ?_) (fun kq2 => ?_)
    · replace kq2 := b2_neg kq2
      refine Go.run hsz hn1 1 (pc' := 35) (lv' := [some (gi f), some (gi k)]) (st' := [gi 0]) (M' := gw mi ml) rfl ?_
      exact Go.zret (by rfl) (Or.inl rfl) ⟨congrArg (fun z => some (gi z)) (by unfold b2; split <;> omega), rfl⟩
    · replace kq2 := b2_pos kq2
      refine Go.run hsz hn1 6 (pc' := 27) (lv' := [some (gi f), some (gi k)]) (st' := [gi 99, gi ((f + k) - 1)]) (M' := gw mi ml) rfl ?_
      refine Go.icmp_gt (by rfl) ⟨by omega, by omega⟩ ⟨by decide, by decide⟩ (fun kq3 => ?_) (fun kq3 => ?_)
      · refine Go.run hsz hn1 1 (pc' := 35) (lv' := [some (gi f), some (gi k)]) (st' := [gi 0]) (M' := gw mi ml) rfl ?_
        exact Go.zret (by rfl) (Or.inl rfl) ⟨congrArg (fun z => some (gi z)) (by unfold b2; split <;> omega), rfl⟩
      · refine Go.run hsz hn1 2 (pc' := 35) (lv' := [some (gi f), some (gi k)]) (st' := [gi 1]) (M' := gw mi ml) rfl ?_
        exact Go.zret (by rfl) (Or.inr rfl) ⟨congrArg (fun z => some (gi z)) (by unfold b2; split <;> omega), rfl⟩
set_option maxRecDepth 100000 in
set_option maxHeartbeats 4000000 in
theorem pC_pitch {G : gG} (hsz : G.2.2.2.2.2.2 = true) {n : Nat} (hn : 4 ≤ n) (mi : Nat → Nat → Int) (ml : Nat → Nat → Int64) (x y z w : Int) (r_x : rng x) (r_y : rng y) (r_z : rng z) (r_w : rng w) (hv : CV mi)  : gM G 103 n 0 0 [gr 0, gi x, gi y, gi z, gi w] (gw mi ml) (fun r M => gE (¬ ((0 ≤ x ∧ x ≤ 9999) ∧ (100 ≤ y ∧ y ≤ 3099) ∧ (0 ≤ z ∧ z ≤ 932) ∧ z % 100 ≤ 32 ∧ (0 ≤ w ∧ w ≤ 73) ∧ w % 10 < 4)) (-1000001) (cFd mi 0) (ml) r M ∨ gE (((0 ≤ x ∧ x ≤ 9999) ∧ (100 ≤ y ∧ y ≤ 3099) ∧ (0 ≤ z ∧ z ≤ 932) ∧ z % 100 ≤ 32 ∧ (0 ≤ w ∧ w ≤ 73) ∧ w % 10 < 4) ∧ 12 ≤ mi 1 2) (-1000002) (cFd mi 1) (ml) r M ∨ gE (((0 ≤ x ∧ x ≤ 9999) ∧ (100 ≤ y ∧ y ≤ 3099) ∧ (0 ≤ z ∧ z ≤ 932) ∧ z % 100 ≤ 32 ∧ (0 ≤ w ∧ w ≤ 73) ∧ w % 10 < 4) ∧ mi 1 2 < 12) (mi 1 2) (gu (cPit mi (mi 1 2) x y z w) 1 2 (mi 1 2 + 1)) (ml) r M) := by
  have hn1 : 1 ≤ n := by omega
  obtain ⟨hR, ht, hp, hq, hP, hQ⟩ := id hv
  have q_x : -2147483648 ≤ x ∧ x < 2147483648 := r_x
  have q_y : -2147483648 ≤ y ∧ y < 2147483648 := r_y
  have q_z : -2147483648 ≤ z ∧ z < 2147483648 := r_z
  have q_w : -2147483648 ≤ w ∧ w < 2147483648 := r_w
  refine gM.of mX11_pitch okX11_pitch (gcp 103 (by decide)).1 (gcp 103 (by decide)).2 (Nat.le_of_ble_eq_true rfl) ?_
  refine Go.run hsz hn1 3 (pc' := 5) (lv' := [some (gr 0), some (gi x), some (gi y), some (gi z), some (gi w), none, none]) (st' := [gi 9999, gi 0, gi x]) (M' := gw mi ml) rfl ?_
  refine Go.callS (As := [gi x, gi 0, gi 9999]) (st := []) (mc1 := 0) (mc := 0) (ms1 := 0) (ms := 0) (by rfl) rfl (gcn 150 (by decide)).1 (gcn 150 (by decide)).2 (Nat.le_of_ble_eq_true rfl) (by omega) (cC_isIn hsz (n := n - 1) (by omega) mi ml x 0 9999 r_x ⟨by decide, by decide⟩ ⟨by decide, by decide⟩) ?_
  rintro _ _ ⟨rfl, rfl⟩
  refine Go.run hsz hn1 0 (pc' := 8) (lv' := [some (gr 0), some (gi x), some (gi y), some (gi z), some (gi w), none, none]) (st' := [gi (b2 (0 ≤ x ∧ x ≤ 9999))]) (M' := gw mi ml) rfl ?_
  refine Go.if_eq (by rfl) (b2_rng _) (fun kq1 => ?_) (fun kq1 => ?_)
  · replace kq1 := b2_neg kq1
    refine Go.run hsz hn1 3 (pc' := 72) (lv' := [some (gr 0), some (gi x), some (gi y), some (gi z), some (gi w), some (gi 0), none]) (st' := [gi 0]) (M' := gw mi ml) rfl ?_
    refine Go.if_ne (by rfl) ⟨by decide, by decide⟩ (fun kq2 => ?_) (fun kq2 => ?_)
    · exact absurd kq2 (by decide)
    · refine Go.run hsz hn1 2 (pc' := 78) (lv' := [some (gr 0), some (gi x), some (gi y), some (gi z), some (gi w), some (gi 0), none]) (st' := [gi (-1000001), gr 0]) (M' := gw mi ml) rfl ?_
      refine Go.callV (As := [gi (-1000001)]) (b := 0) (st := []) (mc1 := 0) (mc := 0) (ms1 := 0) (ms := 0) (by rfl) rfl (c := 10) (N := 9) (by rfl) (by decide) (by rfl) (gcn 147 (by decide)).1 (gcn 147 (by decide)).2 rfl (Nat.le_of_ble_eq_true rfl) (by omega) (cC_finding hsz (n := n - 1) (by omega) mi ml (-1000001) (by decide) (by decide)) ?_
      rintro _ _ ⟨rfl, rfl⟩
      refine Go.run hsz hn1 0 (pc' := 81) (lv' := [some (gr 0), some (gi x), some (gi y), some (gi z), some (gi w), some (gi 0), none]) (st' := [gi (-1000001)]) (M' := gw (cFd mi 0) ml) rfl ?_
      refine Go.iret (by rfl) ?_
      first | (exact Or.inl ⟨by omega, rfl, rfl⟩) | (exact Or.inr (Or.inl ⟨by omega, rfl, rfl⟩)) | (exact Or.inr (Or.inr (⟨by omega, rfl, rfl⟩)))
  · replace kq1 := b2_pos kq1
    refine Go.run hsz hn1 3 (pc' := 17) (lv' := [some (gr 0), some (gi x), some (gi y), some (gi z), some (gi w), none, none]) (st' := [gi 3099, gi 100, gi y]) (M' := gw mi ml) rfl ?_
    refine Go.callS (As := [gi y, gi 100, gi 3099]) (st := []) (mc1 := 0) (mc := 0) (ms1 := 0) (ms := 0) (by rfl) rfl (gcn 150 (by decide)).1 (gcn 150 (by decide)).2 (Nat.le_of_ble_eq_true rfl) (by omega) (cC_isIn hsz (n := n - 1) (by omega) mi ml y 100 3099 r_y ⟨by decide, by decide⟩ ⟨by decide, by decide⟩) ?_
    rintro _ _ ⟨rfl, rfl⟩
    refine Go.run hsz hn1 0 (pc' := 20) (lv' := [some (gr 0), some (gi x), some (gi y), some (gi z), some (gi w), none, none]) (st' := [gi (b2 (100 ≤ y ∧ y ≤ 3099))]) (M' := gw mi ml) rfl ?_
    refine Go.if_eq (by rfl) (b2_rng _) (fun kq3 => ?_) (fun kq3 => ?_)
    · replace kq3 := b2_neg kq3
      refine Go.run hsz hn1 3 (pc' := 72) (lv' := [some (gr 0), some (gi x), some (gi y), some (gi z), some (gi w), some (gi 0), none]) (st' := [gi 0]) (M' := gw mi ml) rfl ?_
      refine Go.if_ne (by rfl) ⟨by decide, by decide⟩ (fun kq4 => ?_) (fun kq4 => ?_)
      · exact absurd kq4 (by decide)
      · refine Go.run hsz hn1 2 (pc' := 78) (lv' := [some (gr 0), some (gi x), some (gi y), some (gi z), some (gi w), some (gi 0), none]) (st' := [gi (-1000001), gr 0]) (M' := gw mi ml) rfl ?_
        refine Go.callV (As := [gi (-1000001)]) (b := 0) (st := []) (mc1 := 0) (mc := 0) (ms1 := 0) (ms := 0) (by rfl) rfl (c := 10) (N := 9) (by rfl) (by decide) (by rfl) (gcn 147 (by decide)).1 (gcn 147 (by decide)).2 rfl (Nat.le_of_ble_eq_true rfl) (by omega) (cC_finding hsz (n := n - 1) (by omega) mi ml (-1000001) (by decide) (by decide)) ?_
        rintro _ _ ⟨rfl, rfl⟩
        refine Go.run hsz hn1 0 (pc' := 81) (lv' := [some (gr 0), some (gi x), some (gi y), some (gi z), some (gi w), some (gi 0), none]) (st' := [gi (-1000001)]) (M' := gw (cFd mi 0) ml) rfl ?_
        refine Go.iret (by rfl) ?_
        first | (exact Or.inl ⟨by omega, rfl, rfl⟩) | (exact Or.inr (Or.inl ⟨by omega, rfl, rfl⟩)) | (exact Or.inr (Or.inr (⟨by omega, rfl, rfl⟩)))
    · replace kq3 := b2_pos kq3
      refine Go.run hsz hn1 3 (pc' := 28) (lv' := [some (gr 0), some (gi x), some (gi y), some (gi z), some (gi w), none, none]) (st' := [gi 932, gi 0, gi z]) (M' := gw mi ml) rfl ?_
      refine Go.callS (As := [gi z, gi 0, gi 932]) (st := []) (mc1 := 0) (mc := 0) (ms1 := 0) (ms := 0) (by rfl) rfl (gcn 150 (by decide)).1 (gcn 150 (by decide)).2 (Nat.le_of_ble_eq_true rfl) (by omega) (cC_isIn hsz (n := n - 1) (by omega) mi ml z 0 932 r_z ⟨by decide, by decide⟩ ⟨by decide, by decide⟩) ?_
      rintro _ _ ⟨rfl, rfl⟩
      refine Go.run hsz hn1 0 (pc' := 31) (lv' := [some (gr 0), some (gi x), some (gi y), some (gi z), some (gi w), none, none]) (st' := [gi (b2 (0 ≤ z ∧ z ≤ 932))]) (M' := gw mi ml) rfl ?_
      refine Go.if_eq (by rfl) (b2_rng _) (fun kq5 => ?_) (fun kq5 => ?_)
      · replace kq5 := b2_neg kq5
        refine Go.run hsz hn1 3 (pc' := 72) (lv' := [some (gr 0), some (gi x), some (gi y), some (gi z), some (gi w), some (gi 0), none]) (st' := [gi 0]) (M' := gw mi ml) rfl ?_
        refine Go.if_ne (by rfl) ⟨by decide, by decide⟩ (fun kq6 => ?_) (fun kq6 => ?_)
        · exact absurd kq6 (by decide)
        · refine Go.run hsz hn1 2 (pc' := 78) (lv' := [some (gr 0), some (gi x), some (gi y), some (gi z), some (gi w), some (gi 0), none]) (st' := [gi (-1000001), gr 0]) (M' := gw mi ml) rfl ?_
          refine Go.callV (As := [gi (-1000001)]) (b := 0) (st := []) (mc1 := 0) (mc := 0) (ms1 := 0) (ms := 0) (by rfl) rfl (c := 10) (N := 9) (by rfl) (by decide) (by rfl) (gcn 147 (by decide)).1 (gcn 147 (by decide)).2 rfl (Nat.le_of_ble_eq_true rfl) (by omega) (cC_finding hsz (n := n - 1) (by omega) mi ml (-1000001) (by decide) (by decide)) ?_
          rintro _ _ ⟨rfl, rfl⟩
          refine Go.run hsz hn1 0 (pc' := 81) (lv' := [some (gr 0), some (gi x), some (gi y), some (gi z), some (gi w), some (gi 0), none]) (st' := [gi (-1000001)]) (M' := gw (cFd mi 0) ml) rfl ?_
          refine Go.iret (by rfl) ?_
          first | (exact Or.inl ⟨by omega, rfl, rfl⟩) | (exact Or.inr (Or.inl ⟨by omega, rfl, rfl⟩)) | (exact Or.inr (Or.inr (⟨by omega, rfl, rfl⟩)))
      · replace kq5 := b2_pos kq5
        refine Go.run hsz hn1 2 (pc' := 37) (lv' := [some (gr 0), some (gi x), some (gi y), some (gi z), some (gi w), none, none]) (st' := [gi 100, gi z]) (M' := gw mi ml) rfl ?_
        refine Go.iremN (by rfl) r_z (by decide) (by omega) ?_
        refine Go.run hsz hn1 1 (pc' := 40) (lv' := [some (gr 0), some (gi x), some (gi y), some (gi z), some (gi w), none, none]) (st' := [gi 32, gi (z % 100)]) (M' := gw mi ml) rfl ?_
        refine Go.icmp_gt (by rfl) ⟨by omega, by omega⟩ ⟨by decide, by decide⟩ (fun kq7 => ?_) (fun kq7 => ?_)
        · refine Go.run hsz hn1 3 (pc' := 72) (lv' := [some (gr 0), some (gi x), some (gi y), some (gi z), some (gi w), some (gi 0), none]) (st' := [gi 0]) (M' := gw mi ml) rfl ?_
          refine Go.if_ne (by rfl) ⟨by decide, by decide⟩ (fun kq8 => ?_) (fun kq8 => ?_)
          · exact absurd kq8 (by decide)
          · refine Go.run hsz hn1 2 (pc' := 78) (lv' := [some (gr 0), some (gi x), some (gi y), some (gi z), some (gi w), some (gi 0), none]) (st' := [gi (-1000001), gr 0]) (M' := gw mi ml) rfl ?_
            refine Go.callV (As := [gi (-1000001)]) (b := 0) (st := []) (mc1 := 0) (mc := 0) (ms1 := 0) (ms := 0) (by rfl) rfl (c := 10) (N := 9) (by rfl) (by decide) (by rfl) (gcn 147 (by decide)).1 (gcn 147 (by decide)).2 rfl (Nat.le_of_ble_eq_true rfl) (by omega) (cC_finding hsz (n := n - 1) (by omega) mi ml (-1000001) (by decide) (by decide)) ?_
            rintro _ _ ⟨rfl, rfl⟩
            refine Go.run hsz hn1 0 (pc' := 81) (lv' := [some (gr 0), some (gi x), some (gi y), some (gi z), some (gi w), some (gi 0), none]) (st' := [gi (-1000001)]) (M' := gw (cFd mi 0) ml) rfl ?_
            refine Go.iret (by rfl) ?_
            first | (exact Or.inl ⟨by omega, rfl, rfl⟩) | (exact Or.inr (Or.inl ⟨by omega, rfl, rfl⟩)) | (exact Or.inr (Or.inr (⟨by omega, rfl, rfl⟩)))
        · refine Go.run hsz hn1 3 (pc' := 48) (lv' := [some (gr 0), some (gi x), some (gi y), some (gi z), some (gi w), none, none]) (st' := [gi 73, gi 0, gi w]) (M' := gw mi ml) rfl ?_
          refine Go.callS (As := [gi w, gi 0, gi 73]) (st := []) (mc1 := 0) (mc := 0) (ms1 := 0) (ms := 0) (by rfl) rfl (gcn 150 (by decide)).1 (gcn 150 (by decide)).2 (Nat.le_of_ble_eq_true rfl) (by omega) (cC_isIn hsz (n := n - 1) (by omega) mi ml w 0 73 r_w ⟨by decide, by decide⟩ ⟨by decide, by decide⟩) ?_
          rintro _ _ ⟨rfl, rfl⟩
          refine Go.run hsz hn1 0 (pc' := 51) (lv' := [some (gr 0), some (gi x), some (gi y), some (gi z), some (gi w), none, none]) (st' := [gi (b2 (0 ≤ w ∧ w ≤ 73))]) (M' := gw mi ml) rfl ?_
          refine Go.if_eq (by rfl) (b2_rng _) (fun kq9 => ?_) (fun kq9 => ?_)
          · replace kq9 := b2_neg kq9
            refine Go.run hsz hn1 3 (pc' := 72) (lv' := [some (gr 0), some (gi x), some (gi y), some (gi z), some (gi w), some (gi 0), none]) (st' := [gi 0]) (M' := gw mi ml) rfl ?_
            refine Go.if_ne (by rfl) ⟨by decide, by decide⟩ (fun kq10 => ?_) (fun kq10 => ?_)
            · exact absurd kq10 (by decide)
            · refine Go.run hsz hn1 2 (pc' := 78) (lv' := [some (gr 0), some (gi x), some (gi y), some (gi z), some (gi w), some (gi 0), none]) (st' := [gi (-1000001), gr 0]) (M' := gw mi ml) rfl ?_
              refine Go.callV (As := [gi (-1000001)]) (b := 0) (st := []) (mc1 := 0) (mc := 0) (ms1 := 0) (ms := 0) (by rfl) rfl (c := 10) (N := 9) (by rfl) (by decide) (by rfl) (gcn 147 (by decide)).1 (gcn 147 (by decide)).2 rfl (Nat.le_of_ble_eq_true rfl) (by omega) (cC_finding hsz (n := n - 1) (by omega) mi ml (-1000001) (by decide) (by decide)) ?_
              rintro _ _ ⟨rfl, rfl⟩
              refine Go.run hsz hn1 0 (pc' := 81) (lv' := [some (gr 0), some (gi x), some (gi y), some (gi z), some (gi w), some (gi 0), none]) (st' := [gi (-1000001)]) (M' := gw (cFd mi 0) ml) rfl ?_
              refine Go.iret (by rfl) ?_
              first | (exact Or.inl ⟨by omega, rfl, rfl⟩) | (exact Or.inr (Or.inl ⟨by omega, rfl, rfl⟩)) | (exact Or.inr (Or.inr (⟨by omega, rfl, rfl⟩)))
          · replace kq9 := b2_pos kq9
            refine Go.run hsz hn1 2 (pc' := 58) (lv' := [some (gr 0), some (gi x), some (gi y), some (gi z), some (gi w), none, none]) (st' := [gi 10, gi w]) (M' := gw mi ml) rfl ?_
            refine Go.iremN (by rfl) r_w (by decide) (by omega) ?_
            refine Go.run hsz hn1 1 (pc' := 60) (lv' := [some (gr 0), some (gi x), some (gi y), some (gi z), some (gi w), none, none]) (st' := [gi 4, gi (w % 10)]) (M' := gw mi ml) rfl ?_
            refine Go.icmp_ge (by rfl) ⟨by omega, by omega⟩ ⟨by decide, by decide⟩ (fun kq11 => ?_) (fun kq11 => ?_)
            · refine Go.run hsz hn1 3 (pc' := 72) (lv' := [some (gr 0), some (gi x), some (gi y), some (gi z), some (gi w), some (gi 0), none]) (st' := [gi 0]) (M' := gw mi ml) rfl ?_
              refine Go.if_ne (by rfl) ⟨by decide, by decide⟩ (fun kq12 => ?_) (fun kq12 => ?_)
              · exact absurd kq12 (by decide)
              · refine Go.run hsz hn1 2 (pc' := 78) (lv' := [some (gr 0), some (gi x), some (gi y), some (gi z), some (gi w), some (gi 0), none]) (st' := [gi (-1000001), gr 0]) (M' := gw mi ml) rfl ?_
                refine Go.callV (As := [gi (-1000001)]) (b := 0) (st := []) (mc1 := 0) (mc := 0) (ms1 := 0) (ms := 0) (by rfl) rfl (c := 10) (N := 9) (by rfl) (by decide) (by rfl) (gcn 147 (by decide)).1 (gcn 147 (by decide)).2 rfl (Nat.le_of_ble_eq_true rfl) (by omega) (cC_finding hsz (n := n - 1) (by omega) mi ml (-1000001) (by decide) (by decide)) ?_
                rintro _ _ ⟨rfl, rfl⟩
                refine Go.run hsz hn1 0 (pc' := 81) (lv' := [some (gr 0), some (gi x), some (gi y), some (gi z), some (gi w), some (gi 0), none]) (st' := [gi (-1000001)]) (M' := gw (cFd mi 0) ml) rfl ?_
                refine Go.iret (by rfl) ?_
                first | (exact Or.inl ⟨by omega, rfl, rfl⟩) | (exact Or.inr (Or.inl ⟨by omega, rfl, rfl⟩)) | (exact Or.inr (Or.inr (⟨by omega, rfl, rfl⟩)))
            · refine Go.run hsz hn1 4 (pc' := 72) (lv' := [some (gr 0), some (gi x), some (gi y), some (gi z), some (gi w), some (gi 1), none]) (st' := [gi 1]) (M' := gw mi ml) rfl ?_
              refine Go.if_ne (by rfl) ⟨by decide, by decide⟩ (fun kq13 => ?_) (fun kq13 => ?_)
              · refine Go.run hsz hn1 4 (pc' := 91) (lv' := [some (gr 0), some (gi x), some (gi y), some (gi z), some (gi w), some (gi 1), none]) (st' := [gi 12, gi (mi 1 2)]) (M' := gw mi ml) rfl ?_
                refine Go.icmp_lt (by rfl) (hR _ _) ⟨by decide, by decide⟩ (fun kq14 => ?_) (fun kq14 => ?_)
                · refine Go.run hsz hn1 8 (pc' := 119) (lv' := [some (gr 0), some (gi x), some (gi y), some (gi z), some (gi w), some (gi 1), some (gi (mi 1 2))]) (st' := [gi (mi 1 2), gr 2]) (M' := gw mi ml) rfl ?_
                  refine Go.aaldR 3 (by rfl) (N := 12) (by rfl) ⟨by decide, by decide⟩ (by omega) (by omega) (by decide) (gMR_2 (by omega) (by omega)) ?_
                  refine Go.run hsz hn1 4 (pc' := 125) (lv' := [some (gr 0), some (gi x), some (gi y), some (gi z), some (gi w), some (gi 1), some (gi (mi 1 2))]) (st' := [gi w, gi z, gi y, gi x, gr (12 + (mi 1 2).toNat)]) (M' := gw mi ml) rfl ?_
                  refine Go.callV (As := [gi x, gi y, gi z, gi w]) (b := 12 + (mi 1 2).toNat) (st := []) (mc1 := 0) (mc := 0) (ms1 := 0) (ms := 0) (by rfl) rfl (c := 3) (N := 10) (shP (i := mi 1 2) (by omega)) (by decide) (by rfl) (gcn 28 (by decide)).1 (gcn 28 (by decide)).2 rfl (Nat.le_of_ble_eq_true rfl) (by omega) (cPi_begin hsz (n := n - 1) (by omega) mi ml (mi 1 2) (by omega) (by omega) x y z w r_x (by omega) r_y (by omega) r_z (by omega) r_w (by omega)) ?_
                  rintro _ _ ⟨rfl, rfl⟩
                  refine Go.run hsz hn1 7 (pc' := 141) (lv' := [some (gr 0), some (gi x), some (gi y), some (gi z), some (gi w), some (gi 1), some (gi (mi 1 2))]) (st' := [gi (mi 1 2)]) (M' := gw (gu (cPit mi (mi 1 2) x y z w) 1 2 ((mi 1 2) + 1)) ml) rfl ?_
                  refine Go.iret (by rfl) ?_
                  first | (exact Or.inl ⟨by omega, rfl, rfl⟩) | (exact Or.inr (Or.inl ⟨by omega, rfl, rfl⟩)) | (exact Or.inr (Or.inr (⟨by omega, rfl, rfl⟩)))
                · refine Go.run hsz hn1 2 (pc' := 97) (lv' := [some (gr 0), some (gi x), some (gi y), some (gi z), some (gi w), some (gi 1), none]) (st' := [gi (-1000002), gr 0]) (M' := gw mi ml) rfl ?_
                  refine Go.callV (As := [gi (-1000002)]) (b := 0) (st := []) (mc1 := 0) (mc := 0) (ms1 := 0) (ms := 0) (by rfl) rfl (c := 10) (N := 9) (by rfl) (by decide) (by rfl) (gcn 147 (by decide)).1 (gcn 147 (by decide)).2 rfl (Nat.le_of_ble_eq_true rfl) (by omega) (cC_finding hsz (n := n - 1) (by omega) mi ml (-1000002) (by decide) (by decide)) ?_
                  rintro _ _ ⟨rfl, rfl⟩
                  refine Go.run hsz hn1 0 (pc' := 100) (lv' := [some (gr 0), some (gi x), some (gi y), some (gi z), some (gi w), some (gi 1), none]) (st' := [gi (-1000002)]) (M' := gw (cFd mi 1) ml) rfl ?_
                  refine Go.iret (by rfl) ?_
                  first | (exact Or.inl ⟨by omega, rfl, rfl⟩) | (exact Or.inr (Or.inl ⟨by omega, rfl, rfl⟩)) | (exact Or.inr (Or.inr (⟨by omega, rfl, rfl⟩)))
              · exact absurd kq13 (by decide)
set_option maxRecDepth 100000 in
set_option maxHeartbeats 4000000 in
theorem pC_party {G : gG} (hsz : G.2.2.2.2.2.2 = true) {n : Nat} (hn : 5 ≤ n) (mi : Nat → Nat → Int) (ml : Nat → Nat → Int64) (x y z w : Int) (r_x : rng x) (r_y : rng y) (r_z : rng z) (r_w : rng w) (hv : CV mi)  : gM G 107 n 0 0 [gr 0, gi x, gi y, gi z, gi w] (gw mi ml) (fun r M => gE (¬ ((0 ≤ x ∧ x ≤ 4) ∧ (100 ≤ y ∧ y ≤ 3032) ∧ y % 100 ≤ 32 ∧ (0 ≤ z ∧ z ≤ 7) ∧ 0 ≤ w ∧ w / 100 ≤ 99 ∧ (1 ≤ w % 100 ∧ w % 100 ≤ 30) ∧ w / 100 + w % 100 - 1 ≤ 99 ∧ mi 1 0 ≤ w / 100)) (-1000001) (cFd mi 0) (ml) r M ∨ gE (((0 ≤ x ∧ x ≤ 4) ∧ (100 ≤ y ∧ y ≤ 3032) ∧ y % 100 ≤ 32 ∧ (0 ≤ z ∧ z ≤ 7) ∧ 0 ≤ w ∧ w / 100 ≤ 99 ∧ (1 ≤ w % 100 ∧ w % 100 ≤ 30) ∧ w / 100 + w % 100 - 1 ≤ 99 ∧ mi 1 0 ≤ w / 100) ∧ 24 ≤ mi 1 3) (-1000002) (cFd mi 1) (ml) r M ∨ gE (((0 ≤ x ∧ x ≤ 4) ∧ (100 ≤ y ∧ y ≤ 3032) ∧ y % 100 ≤ 32 ∧ (0 ≤ z ∧ z ≤ 7) ∧ 0 ≤ w ∧ w / 100 ≤ 99 ∧ (1 ≤ w % 100 ∧ w % 100 ≤ 30) ∧ w / 100 + w % 100 - 1 ≤ 99 ∧ mi 1 0 ≤ w / 100) ∧ mi 1 3 < 24) (mi 1 3) (gu (cPar mi (mi 1 3) x y z w) 1 3 (mi 1 3 + 1)) (cParL ml (mi 1 3) w) r M) := by
  have hn1 : 1 ≤ n := by omega
  obtain ⟨hR, ht, hp, hq, hP, hQ⟩ := id hv
  have q_x : -2147483648 ≤ x ∧ x < 2147483648 := r_x
  have q_y : -2147483648 ≤ y ∧ y < 2147483648 := r_y
  have q_z : -2147483648 ≤ z ∧ z < 2147483648 := r_z
  have q_w : -2147483648 ≤ w ∧ w < 2147483648 := r_w
  refine gM.of mX11_party okX11_party (gcp 107 (by decide)).1 (gcp 107 (by decide)).2 (Nat.le_of_ble_eq_true rfl) ?_
  refine Go.run hsz hn1 3 (pc' := 3) (lv' := [some (gr 0), some (gi x), some (gi y), some (gi z), some (gi w), none, none]) (st' := [gi 4, gi 0, gi x]) (M' := gw mi ml) rfl ?_
  refine Go.callS (As := [gi x, gi 0, gi 4]) (st := []) (mc1 := 0) (mc := 0) (ms1 := 0) (ms := 0) (by rfl) rfl (gcn 150 (by decide)).1 (gcn 150 (by decide)).2 (Nat.le_of_ble_eq_true rfl) (by omega) (cC_isIn hsz (n := n - 1) (by omega) mi ml x 0 4 r_x ⟨by decide, by decide⟩ ⟨by decide, by decide⟩) ?_
  rintro _ _ ⟨rfl, rfl⟩
  refine Go.run hsz hn1 0 (pc' := 6) (lv' := [some (gr 0), some (gi x), some (gi y), some (gi z), some (gi w), none, none]) (st' := [gi (b2 (0 ≤ x ∧ x ≤ 4))]) (M' := gw mi ml) rfl ?_
  refine Go.if_eq (by rfl) (b2_rng _) (fun kq1 => ?_) (fun kq1 => ?_)
  · replace kq1 := b2_neg kq1
    refine Go.run hsz hn1 3 (pc' := 85) (lv' := [some (gr 0), some (gi x), some (gi y), some (gi z), some (gi w), some (gi 0), none]) (st' := [gi 0]) (M' := gw mi ml) rfl ?_
    refine Go.if_ne (by rfl) ⟨by decide, by decide⟩ (fun kq2 => ?_) (fun kq2 => ?_)
    · exact absurd kq2 (by decide)
    · refine Go.run hsz hn1 2 (pc' := 91) (lv' := [some (gr 0), some (gi x), some (gi y), some (gi z), some (gi w), some (gi 0), none]) (st' := [gi (-1000001), gr 0]) (M' := gw mi ml) rfl ?_
      refine Go.callV (As := [gi (-1000001)]) (b := 0) (st := []) (mc1 := 0) (mc := 0) (ms1 := 0) (ms := 0) (by rfl) rfl (c := 10) (N := 9) (by rfl) (by decide) (by rfl) (gcn 147 (by decide)).1 (gcn 147 (by decide)).2 rfl (Nat.le_of_ble_eq_true rfl) (by omega) (cC_finding hsz (n := n - 1) (by omega) mi ml (-1000001) (by decide) (by decide)) ?_
      rintro _ _ ⟨rfl, rfl⟩
      refine Go.run hsz hn1 0 (pc' := 94) (lv' := [some (gr 0), some (gi x), some (gi y), some (gi z), some (gi w), some (gi 0), none]) (st' := [gi (-1000001)]) (M' := gw (cFd mi 0) ml) rfl ?_
      refine Go.iret (by rfl) ?_
      first | (exact Or.inl ⟨by omega, rfl, rfl⟩) | (exact Or.inr (Or.inl ⟨by omega, rfl, rfl⟩)) | (exact Or.inr (Or.inr (⟨by omega, rfl, rfl⟩)))
  · replace kq1 := b2_pos kq1
    refine Go.run hsz hn1 3 (pc' := 15) (lv' := [some (gr 0), some (gi x), some (gi y), some (gi z), some (gi w), none, none]) (st' := [gi 3032, gi 100, gi y]) (M' := gw mi ml) rfl ?_
    refine Go.callS (As := [gi y, gi 100, gi 3032]) (st := []) (mc1 := 0) (mc := 0) (ms1 := 0) (ms := 0) (by rfl) rfl (gcn 150 (by decide)).1 (gcn 150 (by decide)).2 (Nat.le_of_ble_eq_true rfl) (by omega) (cC_isIn hsz (n := n - 1) (by omega) mi ml y 100 3032 r_y ⟨by decide, by decide⟩ ⟨by decide, by decide⟩) ?_
    rintro _ _ ⟨rfl, rfl⟩
    refine Go.run hsz hn1 0 (pc' := 18) (lv' := [some (gr 0), some (gi x), some (gi y), some (gi z), some (gi w), none, none]) (st' := [gi (b2 (100 ≤ y ∧ y ≤ 3032))]) (M' := gw mi ml) rfl ?_
    refine Go.if_eq (by rfl) (b2_rng _) (fun kq3 => ?_) (fun kq3 => ?_)
    · replace kq3 := b2_neg kq3
      refine Go.run hsz hn1 3 (pc' := 85) (lv' := [some (gr 0), some (gi x), some (gi y), some (gi z), some (gi w), some (gi 0), none]) (st' := [gi 0]) (M' := gw mi ml) rfl ?_
      refine Go.if_ne (by rfl) ⟨by decide, by decide⟩ (fun kq4 => ?_) (fun kq4 => ?_)
      · exact absurd kq4 (by decide)
      · refine Go.run hsz hn1 2 (pc' := 91) (lv' := [some (gr 0), some (gi x), some (gi y), some (gi z), some (gi w), some (gi 0), none]) (st' := [gi (-1000001), gr 0]) (M' := gw mi ml) rfl ?_
        refine Go.callV (As := [gi (-1000001)]) (b := 0) (st := []) (mc1 := 0) (mc := 0) (ms1 := 0) (ms := 0) (by rfl) rfl (c := 10) (N := 9) (by rfl) (by decide) (by rfl) (gcn 147 (by decide)).1 (gcn 147 (by decide)).2 rfl (Nat.le_of_ble_eq_true rfl) (by omega) (cC_finding hsz (n := n - 1) (by omega) mi ml (-1000001) (by decide) (by decide)) ?_
        rintro _ _ ⟨rfl, rfl⟩
        refine Go.run hsz hn1 0 (pc' := 94) (lv' := [some (gr 0), some (gi x), some (gi y), some (gi z), some (gi w), some (gi 0), none]) (st' := [gi (-1000001)]) (M' := gw (cFd mi 0) ml) rfl ?_
        refine Go.iret (by rfl) ?_
        first | (exact Or.inl ⟨by omega, rfl, rfl⟩) | (exact Or.inr (Or.inl ⟨by omega, rfl, rfl⟩)) | (exact Or.inr (Or.inr (⟨by omega, rfl, rfl⟩)))
    · replace kq3 := b2_pos kq3
      refine Go.run hsz hn1 2 (pc' := 24) (lv' := [some (gr 0), some (gi x), some (gi y), some (gi z), some (gi w), none, none]) (st' := [gi 100, gi y]) (M' := gw mi ml) rfl ?_
      refine Go.iremN (by rfl) r_y (by decide) (by omega) ?_
      refine Go.run hsz hn1 1 (pc' := 27) (lv' := [some (gr 0), some (gi x), some (gi y), some (gi z), some (gi w), none, none]) (st' := [gi 32, gi (y % 100)]) (M' := gw mi ml) rfl ?_
      refine Go.icmp_gt (by rfl) ⟨by omega, by omega⟩ ⟨by decide, by decide⟩ (fun kq5 => ?_) (fun kq5 => ?_)
      · refine Go.run hsz hn1 3 (pc' := 85) (lv' := [some (gr 0), some (gi x), some (gi y), some (gi z), some (gi w), some (gi 0), none]) (st' := [gi 0]) (M' := gw mi ml) rfl ?_
        refine Go.if_ne (by rfl) ⟨by decide, by decide⟩ (fun kq6 => ?_) (fun kq6 => ?_)
        · exact absurd kq6 (by decide)
        · refine Go.run hsz hn1 2 (pc' := 91) (lv' := [some (gr 0), some (gi x), some (gi y), some (gi z), some (gi w), some (gi 0), none]) (st' := [gi (-1000001), gr 0]) (M' := gw mi ml) rfl ?_
          refine Go.callV (As := [gi (-1000001)]) (b := 0) (st := []) (mc1 := 0) (mc := 0) (ms1 := 0) (ms := 0) (by rfl) rfl (c := 10) (N := 9) (by rfl) (by decide) (by rfl) (gcn 147 (by decide)).1 (gcn 147 (by decide)).2 rfl (Nat.le_of_ble_eq_true rfl) (by omega) (cC_finding hsz (n := n - 1) (by omega) mi ml (-1000001) (by decide) (by decide)) ?_
          rintro _ _ ⟨rfl, rfl⟩
          refine Go.run hsz hn1 0 (pc' := 94) (lv' := [some (gr 0), some (gi x), some (gi y), some (gi z), some (gi w), some (gi 0), none]) (st' := [gi (-1000001)]) (M' := gw (cFd mi 0) ml) rfl ?_
          refine Go.iret (by rfl) ?_
          first | (exact Or.inl ⟨by omega, rfl, rfl⟩) | (exact Or.inr (Or.inl ⟨by omega, rfl, rfl⟩)) | (exact Or.inr (Or.inr (⟨by omega, rfl, rfl⟩)))
      · refine Go.run hsz hn1 3 (pc' := 34) (lv' := [some (gr 0), some (gi x), some (gi y), some (gi z), some (gi w), none, none]) (st' := [gi 7, gi 0, gi z]) (M' := gw mi ml) rfl ?_
        refine Go.callS (As := [gi z, gi 0, gi 7]) (st := []) (mc1 := 0) (mc := 0) (ms1 := 0) (ms := 0) (by rfl) rfl (gcn 150 (by decide)).1 (gcn 150 (by decide)).2 (Nat.le_of_ble_eq_true rfl) (by omega) (cC_isIn hsz (n := n - 1) (by omega) mi ml z 0 7 r_z ⟨by decide, by decide⟩ ⟨by decide, by decide⟩) ?_
        rintro _ _ ⟨rfl, rfl⟩
        refine Go.run hsz hn1 0 (pc' := 37) (lv' := [some (gr 0), some (gi x), some (gi y), some (gi z), some (gi w), none, none]) (st' := [gi (b2 (0 ≤ z ∧ z ≤ 7))]) (M' := gw mi ml) rfl ?_
        refine Go.if_eq (by rfl) (b2_rng _) (fun kq7 => ?_) (fun kq7 => ?_)
        · replace kq7 := b2_neg kq7
          refine Go.run hsz hn1 3 (pc' := 85) (lv' := [some (gr 0), some (gi x), some (gi y), some (gi z), some (gi w), some (gi 0), none]) (st' := [gi 0]) (M' := gw mi ml) rfl ?_
          refine Go.if_ne (by rfl) ⟨by decide, by decide⟩ (fun kq8 => ?_) (fun kq8 => ?_)
          · exact absurd kq8 (by decide)
          · refine Go.run hsz hn1 2 (pc' := 91) (lv' := [some (gr 0), some (gi x), some (gi y), some (gi z), some (gi w), some (gi 0), none]) (st' := [gi (-1000001), gr 0]) (M' := gw mi ml) rfl ?_
            refine Go.callV (As := [gi (-1000001)]) (b := 0) (st := []) (mc1 := 0) (mc := 0) (ms1 := 0) (ms := 0) (by rfl) rfl (c := 10) (N := 9) (by rfl) (by decide) (by rfl) (gcn 147 (by decide)).1 (gcn 147 (by decide)).2 rfl (Nat.le_of_ble_eq_true rfl) (by omega) (cC_finding hsz (n := n - 1) (by omega) mi ml (-1000001) (by decide) (by decide)) ?_
            rintro _ _ ⟨rfl, rfl⟩
            refine Go.run hsz hn1 0 (pc' := 94) (lv' := [some (gr 0), some (gi x), some (gi y), some (gi z), some (gi w), some (gi 0), none]) (st' := [gi (-1000001)]) (M' := gw (cFd mi 0) ml) rfl ?_
            refine Go.iret (by rfl) ?_
            first | (exact Or.inl ⟨by omega, rfl, rfl⟩) | (exact Or.inr (Or.inl ⟨by omega, rfl, rfl⟩)) | (exact Or.inr (Or.inr (⟨by omega, rfl, rfl⟩)))
        · replace kq7 := b2_pos kq7
          refine Go.run hsz hn1 1 (pc' := 42) (lv' := [some (gr 0), some (gi x), some (gi y), some (gi z), some (gi w), none, none]) (st' := [gi w]) (M' := gw mi ml) rfl ?_
          refine Go.if_lt (by rfl) r_w (fun kq9 => ?_) (fun kq9 => ?_)
          · refine Go.run hsz hn1 3 (pc' := 85) (lv' := [some (gr 0), some (gi x), some (gi y), some (gi z), some (gi w), some (gi 0), none]) (st' := [gi 0]) (M' := gw mi ml) rfl ?_
            refine Go.if_ne (by rfl) ⟨by decide, by decide⟩ (fun kq10 => ?_) (fun kq10 => ?_)
            · exact absurd kq10 (by decide)
            · refine Go.run hsz hn1 2 (pc' := 91) (lv' := [some (gr 0), some (gi x), some (gi y), some (gi z), some (gi w), some (gi 0), none]) (st' := [gi (-1000001), gr 0]) (M' := gw mi ml) rfl ?_
              refine Go.callV (As := [gi (-1000001)]) (b := 0) (st := []) (mc1 := 0) (mc := 0) (ms1 := 0) (ms := 0) (by rfl) rfl (c := 10) (N := 9) (by rfl) (by decide) (by rfl) (gcn 147 (by decide)).1 (gcn 147 (by decide)).2 rfl (Nat.le_of_ble_eq_true rfl) (by omega) (cC_finding hsz (n := n - 1) (by omega) mi ml (-1000001) (by decide) (by decide)) ?_
              rintro _ _ ⟨rfl, rfl⟩
              refine Go.run hsz hn1 0 (pc' := 94) (lv' := [some (gr 0), some (gi x), some (gi y), some (gi z), some (gi w), some (gi 0), none]) (st' := [gi (-1000001)]) (M' := gw (cFd mi 0) ml) rfl ?_
              refine Go.iret (by rfl) ?_
              first | (exact Or.inl ⟨by omega, rfl, rfl⟩) | (exact Or.inr (Or.inl ⟨by omega, rfl, rfl⟩)) | (exact Or.inr (Or.inr (⟨by omega, rfl, rfl⟩)))
          · refine Go.run hsz hn1 2 (pc' := 49) (lv' := [some (gr 0), some (gi x), some (gi y), some (gi z), some (gi w), none, none]) (st' := [gi 100, gi w]) (M' := gw mi ml) rfl ?_
            refine Go.idivN (by rfl) r_w (by decide) (by omega) ?_
            refine Go.run hsz hn1 2 (pc' := 54) (lv' := [some (gr 0), some (gi x), some (gi y), some (gi z), some (gi w), none, none]) (st' := [gi 100, gi w, gi (w / 100)]) (M' := gw mi ml) rfl ?_
            refine Go.iremN (by rfl) r_w (by decide) (by omega) ?_
            refine Go.run hsz hn1 0 (pc' := 55) (lv' := [some (gr 0), some (gi x), some (gi y), some (gi z), some (gi w), none, none]) (st' := [gi (w % 100), gi (w / 100)]) (M' := gw mi ml) rfl ?_
            refine Go.callS (As := [gi (w / 100), gi (w % 100)]) (st := []) (mc1 := 0) (mc := 0) (ms1 := 0) (ms := 0) (by rfl) rfl (gcn 151 (by decide)).1 (gcn 151 (by decide)).2 (Nat.le_of_ble_eq_true rfl) (by omega) (cC_isStay hsz (n := n - 1) (by omega) mi ml (w / 100) (w % 100) ⟨by omega, by omega⟩ ⟨by omega, by omega⟩) ?_
            rintro _ _ ⟨rfl, rfl⟩
            refine Go.run hsz hn1 0 (pc' := 58) (lv' := [some (gr 0), some (gi x), some (gi y), some (gi z), some (gi w), none, none]) (st' := [gi (b2 ((0 ≤ w / 100 ∧ w / 100 ≤ 99) ∧ (1 ≤ w % 100 ∧ w % 100 ≤ 30) ∧ w / 100 + w % 100 - 1 ≤ 99))]) (M' := gw mi ml) rfl ?_
            refine Go.if_eq (by rfl) (b2_rng _) (fun kq11 => ?_) (fun kq11 => ?_)
            · replace kq11 := b2_neg kq11
              refine Go.run hsz hn1 3 (pc' := 85) (lv' := [some (gr 0), some (gi x), some (gi y), some (gi z), some (gi w), some (gi 0), none]) (st' := [gi 0]) (M' := gw mi ml) rfl ?_
              refine Go.if_ne (by rfl) ⟨by decide, by decide⟩ (fun kq12 => ?_) (fun kq12 => ?_)
              · exact absurd kq12 (by decide)
              · refine Go.run hsz hn1 2 (pc' := 91) (lv' := [some (gr 0), some (gi x), some (gi y), some (gi z), some (gi w), some (gi 0), none]) (st' := [gi (-1000001), gr 0]) (M' := gw mi ml) rfl ?_
                refine Go.callV (As := [gi (-1000001)]) (b := 0) (st := []) (mc1 := 0) (mc := 0) (ms1 := 0) (ms := 0) (by rfl) rfl (c := 10) (N := 9) (by rfl) (by decide) (by rfl) (gcn 147 (by decide)).1 (gcn 147 (by decide)).2 rfl (Nat.le_of_ble_eq_true rfl) (by omega) (cC_finding hsz (n := n - 1) (by omega) mi ml (-1000001) (by decide) (by decide)) ?_
                rintro _ _ ⟨rfl, rfl⟩
                refine Go.run hsz hn1 0 (pc' := 94) (lv' := [some (gr 0), some (gi x), some (gi y), some (gi z), some (gi w), some (gi 0), none]) (st' := [gi (-1000001)]) (M' := gw (cFd mi 0) ml) rfl ?_
                refine Go.iret (by rfl) ?_
                first | (exact Or.inl ⟨by omega, rfl, rfl⟩) | (exact Or.inr (Or.inl ⟨by omega, rfl, rfl⟩)) | (exact Or.inr (Or.inr (⟨by omega, rfl, rfl⟩)))
            · replace kq11 := b2_pos kq11
              refine Go.run hsz hn1 2 (pc' := 65) (lv' := [some (gr 0), some (gi x), some (gi y), some (gi z), some (gi w), none, none]) (st' := [gi 100, gi w]) (M' := gw mi ml) rfl ?_
              refine Go.idivN (by rfl) r_w (by decide) (by omega) ?_
              refine Go.run hsz hn1 3 (pc' := 73) (lv' := [some (gr 0), some (gi x), some (gi y), some (gi z), some (gi w), none, none]) (st' := [gi (mi 1 0), gi (w / 100)]) (M' := gw mi ml) rfl ?_
              refine Go.icmp_lt (by rfl) ⟨by omega, by omega⟩ (hR _ _) (fun kq13 => ?_) (fun kq13 => ?_)
              · refine Go.run hsz hn1 3 (pc' := 85) (lv' := [some (gr 0), some (gi x), some (gi y), some (gi z), some (gi w), some (gi 0), none]) (st' := [gi 0]) (M' := gw mi ml) rfl ?_
                refine Go.if_ne (by rfl) ⟨by decide, by decide⟩ (fun kq14 => ?_) (fun kq14 => ?_)
                · exact absurd kq14 (by decide)
                · refine Go.run hsz hn1 2 (pc' := 91) (lv' := [some (gr 0), some (gi x), some (gi y), some (gi z), some (gi w), some (gi 0), none]) (st' := [gi (-1000001), gr 0]) (M' := gw mi ml) rfl ?_
                  refine Go.callV (As := [gi (-1000001)]) (b := 0) (st := []) (mc1 := 0) (mc := 0) (ms1 := 0) (ms := 0) (by rfl) rfl (c := 10) (N := 9) (by rfl) (by decide) (by rfl) (gcn 147 (by decide)).1 (gcn 147 (by decide)).2 rfl (Nat.le_of_ble_eq_true rfl) (by omega) (cC_finding hsz (n := n - 1) (by omega) mi ml (-1000001) (by decide) (by decide)) ?_
                  rintro _ _ ⟨rfl, rfl⟩
                  refine Go.run hsz hn1 0 (pc' := 94) (lv' := [some (gr 0), some (gi x), some (gi y), some (gi z), some (gi w), some (gi 0), none]) (st' := [gi (-1000001)]) (M' := gw (cFd mi 0) ml) rfl ?_
                  refine Go.iret (by rfl) ?_
                  first | (exact Or.inl ⟨by omega, rfl, rfl⟩) | (exact Or.inr (Or.inl ⟨by omega, rfl, rfl⟩)) | (exact Or.inr (Or.inr (⟨by omega, rfl, rfl⟩)))
              · refine Go.run hsz hn1 4 (pc' := 85) (lv' := [some (gr 0), some (gi x), some (gi y), some (gi z), some (gi w), some (gi 1), none]) (st' := [gi 1]) (M' := gw mi ml) rfl ?_
                refine Go.if_ne (by rfl) ⟨by decide, by decide⟩ (fun kq15 => ?_) (fun kq15 => ?_)
                · refine Go.run hsz hn1 4 (pc' := 104) (lv' := [some (gr 0), some (gi x), some (gi y), some (gi z), some (gi w), some (gi 1), none]) (st' := [gi 24, gi (mi 1 3)]) (M' := gw mi ml) rfl ?_
                  refine Go.icmp_lt (by rfl) (hR _ _) ⟨by decide, by decide⟩ (fun kq16 => ?_) (fun kq16 => ?_)
                  · refine Go.run hsz hn1 8 (pc' := 132) (lv' := [some (gr 0), some (gi x), some (gi y), some (gi z), some (gi w), some (gi 1), some (gi (mi 1 3))]) (st' := [gi (mi 1 3), gr 3]) (M' := gw mi ml) rfl ?_
                    refine Go.aaldR 4 (by rfl) (N := 24) (by rfl) ⟨by decide, by decide⟩ (by omega) (by omega) (by decide) (gMR_3 (by omega) (by omega)) ?_
                    refine Go.run hsz hn1 4 (pc' := 138) (lv' := [some (gr 0), some (gi x), some (gi y), some (gi z), some (gi w), some (gi 1), some (gi (mi 1 3))]) (st' := [gi w, gi z, gi y, gi x, gr (24 + (mi 1 3).toNat)]) (M' := gw mi ml) rfl ?_
                    refine Go.callV (As := [gi x, gi y, gi z, gi w]) (b := 24 + (mi 1 3).toNat) (st := []) (mc1 := 0) (mc := 0) (ms1 := 0) (ms := 0) (by rfl) rfl (c := 2) (N := 14) (shA (i := mi 1 3) (by omega)) (by decide) (by rfl) (gcn 21 (by decide)).1 (gcn 21 (by decide)).2 rfl (Nat.le_of_ble_eq_true rfl) (by omega) (cPa_begin hsz (n := n - 1) (by omega) mi ml (mi 1 3) (by omega) (by omega) x y z w r_y (by omega) r_w (by omega) (by omega)) ?_
                    rintro _ _ ⟨rfl, rfl⟩
                    refine Go.run hsz hn1 7 (pc' := 154) (lv' := [some (gr 0), some (gi x), some (gi y), some (gi z), some (gi w), some (gi 1), some (gi (mi 1 3))]) (st' := [gi (mi 1 3)]) (M' := gw (gu (cPar mi (mi 1 3) x y z w) 1 3 ((mi 1 3) + 1)) (cParL ml (mi 1 3) w)) rfl ?_
                    refine Go.iret (by rfl) ?_
                    first | (exact Or.inl ⟨by omega, rfl, rfl⟩) | (exact Or.inr (Or.inl ⟨by omega, rfl, rfl⟩)) | (exact Or.inr (Or.inr (⟨by omega, rfl, rfl⟩)))
                  · refine Go.run hsz hn1 2 (pc' := 110) (lv' := [some (gr 0), some (gi x), some (gi y), some (gi z), some (gi w), some (gi 1), none]) (st' := [gi (-1000002), gr 0]) (M' := gw mi ml) rfl ?_
                    refine Go.callV (As := [gi (-1000002)]) (b := 0) (st := []) (mc1 := 0) (mc := 0) (ms1 := 0) (ms := 0) (by rfl) rfl (c := 10) (N := 9) (by rfl) (by decide) (by rfl) (gcn 147 (by decide)).1 (gcn 147 (by decide)).2 rfl (Nat.le_of_ble_eq_true rfl) (by omega) (cC_finding hsz (n := n - 1) (by omega) mi ml (-1000002) (by decide) (by decide)) ?_
                    rintro _ _ ⟨rfl, rfl⟩
                    refine Go.run hsz hn1 0 (pc' := 113) (lv' := [some (gr 0), some (gi x), some (gi y), some (gi z), some (gi w), some (gi 1), none]) (st' := [gi (-1000002)]) (M' := gw (cFd mi 1) ml) rfl ?_
                    refine Go.iret (by rfl) ?_
                    first | (exact Or.inl ⟨by omega, rfl, rfl⟩) | (exact Or.inr (Or.inl ⟨by omega, rfl, rfl⟩)) | (exact Or.inr (Or.inr (⟨by omega, rfl, rfl⟩)))
                · exact absurd kq15 (by decide)
def mPit (mi : Nat → Nat → Int) (x y z w : Int) : Nat → Nat → Int := gu (gu (gu (gu (gu (gu (gu (gu (gu (gu (gu mi 149 ((8 * (mi 148 2)).toNat) (x / 100)) 149 (((8 * (mi 148 2)) + 1).toNat) (x % 100)) 149 (((8 * (mi 148 2)) + 2).toNat) (y / 100)) 149 (((8 * (mi 148 2)) + 3).toNat) (y % 100)) 149 (((8 * (mi 148 2)) + 4).toNat) (z / 100)) 149 (((8 * (mi 148 2)) + 5).toNat) (z % 100)) 149 (((8 * (mi 148 2)) + 6).toNat) (w / 10)) 149 (((8 * (mi 148 2)) + 7).toNat) (w % 10)) 150 ((mi 148 2).toNat) 0) 151 ((mi 148 2).toNat) 0) 148 2 ((mi 148 2) + 1)
set_option maxRecDepth 100000 in
set_option maxHeartbeats 4000000 in
theorem pM_pitch {G : gG} (hsz : G.2.2.2.2.2.2 = true) {n : Nat} (hn : 4 ≤ n) (mi : Nat → Nat → Int) (ml : Nat → Nat → Int64) (x y z w : Int) (r_x : rng x) (r_y : rng y) (r_z : rng z) (r_w : rng w) (hv : SV mi)  : gM G 158 n 0 0 [gr 148, gi x, gi y, gi z, gi w] (gw mi ml) (fun r M => gE (¬ ((0 ≤ x ∧ x ≤ 9999) ∧ 0 ≤ y ∧ (1 ≤ y / 100 ∧ y / 100 ≤ 30) ∧ 0 ≤ z ∧ (0 ≤ z / 100 ∧ z / 100 ≤ 9) ∧ (0 ≤ z % 100 ∧ z % 100 ≤ 32) ∧ 0 ≤ w ∧ (0 ≤ w / 10 ∧ w / 10 ≤ 7) ∧ (0 ≤ w % 10 ∧ w % 10 ≤ 3))) (-1000001) (mFd mi 0) (ml) r M ∨ gE (((0 ≤ x ∧ x ≤ 9999) ∧ 0 ≤ y ∧ (1 ≤ y / 100 ∧ y / 100 ≤ 30) ∧ 0 ≤ z ∧ (0 ≤ z / 100 ∧ z / 100 ≤ 9) ∧ (0 ≤ z % 100 ∧ z % 100 ≤ 32) ∧ 0 ≤ w ∧ (0 ≤ w / 10 ∧ w / 10 ≤ 7) ∧ (0 ≤ w % 10 ∧ w % 10 ≤ 3)) ∧ mi 148 2 = 12) (-1000002) (mFd mi 1) (ml) r M ∨ gE (((0 ≤ x ∧ x ≤ 9999) ∧ 0 ≤ y ∧ (1 ≤ y / 100 ∧ y / 100 ≤ 30) ∧ 0 ≤ z ∧ (0 ≤ z / 100 ∧ z / 100 ≤ 9) ∧ (0 ≤ z % 100 ∧ z % 100 ≤ 32) ∧ 0 ≤ w ∧ (0 ≤ w / 10 ∧ w / 10 ≤ 7) ∧ (0 ≤ w % 10 ∧ w % 10 ≤ 3)) ∧ ¬ mi 148 2 = 12) (((mi 148 2) + 1) - 1) (mPit mi x y z w) (ml) r M) := by
  have hn1 : 1 ≤ n := by omega
  obtain ⟨hR, ht, hp, hq, hP, hQ⟩ := id hv
  have q_x : -2147483648 ≤ x ∧ x < 2147483648 := r_x
  have q_y : -2147483648 ≤ y ∧ y < 2147483648 := r_y
  have q_z : -2147483648 ≤ z ∧ z < 2147483648 := r_z
  have q_w : -2147483648 ≤ w ∧ w < 2147483648 := r_w
  refine gM.of mX12_pitch okX12_pitch (gcp 158 (by decide)).1 (gcp 158 (by decide)).2 (Nat.le_of_ble_eq_true rfl) ?_
  refine Go.run hsz hn1 3 (pc' := 5) (lv' := [some (gr 148), some (gi x), some (gi y), some (gi z), some (gi w), none, none]) (st' := [gi 9999, gi 0, gi x]) (M' := gw mi ml) rfl ?_
  refine Go.callS (As := [gi x, gi 0, gi 9999]) (st := []) (mc1 := 0) (mc := 0) (ms1 := 0) (ms := 0) (by rfl) rfl (gcn 153 (by decide)).1 (gcn 153 (by decide)).2 (Nat.le_of_ble_eq_true rfl) (by omega) (cM_in hsz (n := n - 1) (by omega) mi ml x 0 9999 r_x ⟨by decide, by decide⟩ ⟨by decide, by decide⟩) ?_
  rintro _ _ ⟨rfl, rfl⟩
  refine Go.run hsz hn1 0 (pc' := 8) (lv' := [some (gr 148), some (gi x), some (gi y), some (gi z), some (gi w), none, none]) (st' := [gi (b2 (0 ≤ x ∧ x ≤ 9999))]) (M' := gw mi ml) rfl ?_
  refine Go.if_eq (by rfl) (b2_rng _) (fun kq1 => ?_) (fun kq1 => ?_)
  · replace kq1 := b2_neg kq1
    refine Go.run hsz hn1 3 (pc' := 99) (lv' := [some (gr 148), some (gi x), some (gi y), some (gi z), some (gi w), some (gi 0), none]) (st' := [gi 0]) (M' := gw mi ml) rfl ?_
    refine Go.if_ne (by rfl) ⟨by decide, by decide⟩ (fun kq2 => ?_) (fun kq2 => ?_)
    · exact absurd kq2 (by decide)
    · refine Go.run hsz hn1 2 (pc' := 104) (lv' := [some (gr 148), some (gi x), some (gi y), some (gi z), some (gi w), some (gi 0), none]) (st' := [gi 0, gr 148]) (M' := gw mi ml) rfl ?_
      refine Go.callV (As := [gi 0]) (b := 148) (st := []) (mc1 := 0) (mc := 0) (ms1 := 0) (ms := 0) (by rfl) rfl (c := 11) (N := 46) (by rfl) (by decide) (by rfl) (gcn 154 (by decide)).1 (gcn 154 (by decide)).2 rfl (Nat.le_of_ble_eq_true rfl) (by omega) (cM_finds hsz (n := n - 1) (by omega) mi ml 0 (by decide) (by decide)) ?_
      rintro _ _ ⟨rfl, rfl⟩
      refine Go.run hsz hn1 0 (pc' := 107) (lv' := [some (gr 148), some (gi x), some (gi y), some (gi z), some (gi w), some (gi 0), none]) (st' := [gi (-1000001)]) (M' := gw (mFd mi 0) ml) rfl ?_
      refine Go.iret (by rfl) ?_
      first | (exact Or.inl ⟨by omega, rfl, rfl⟩) | (exact Or.inr (Or.inl ⟨by omega, rfl, rfl⟩)) | (exact Or.inr (Or.inr (⟨by omega, rfl, rfl⟩)))
  · replace kq1 := b2_pos kq1
    refine Go.run hsz hn1 1 (pc' := 12) (lv' := [some (gr 148), some (gi x), some (gi y), some (gi z), some (gi w), none, none]) (st' := [gi y]) (M' := gw mi ml) rfl ?_
    refine Go.if_lt (by rfl) r_y (fun kq3 => ?_) (fun kq3 => ?_)
    · refine Go.run hsz hn1 3 (pc' := 99) (lv' := [some (gr 148), some (gi x), some (gi y), some (gi z), some (gi w), some (gi 0), none]) (st' := [gi 0]) (M' := gw mi ml) rfl ?_
      refine Go.if_ne (by rfl) ⟨by decide, by decide⟩ (fun kq4 => ?_) (fun kq4 => ?_)
      · exact absurd kq4 (by decide)
      · refine Go.run hsz hn1 2 (pc' := 104) (lv' := [some (gr 148), some (gi x), some (gi y), some (gi z), some (gi w), some (gi 0), none]) (st' := [gi 0, gr 148]) (M' := gw mi ml) rfl ?_
        refine Go.callV (As := [gi 0]) (b := 148) (st := []) (mc1 := 0) (mc := 0) (ms1 := 0) (ms := 0) (by rfl) rfl (c := 11) (N := 46) (by rfl) (by decide) (by rfl) (gcn 154 (by decide)).1 (gcn 154 (by decide)).2 rfl (Nat.le_of_ble_eq_true rfl) (by omega) (cM_finds hsz (n := n - 1) (by omega) mi ml 0 (by decide) (by decide)) ?_
        rintro _ _ ⟨rfl, rfl⟩
        refine Go.run hsz hn1 0 (pc' := 107) (lv' := [some (gr 148), some (gi x), some (gi y), some (gi z), some (gi w), some (gi 0), none]) (st' := [gi (-1000001)]) (M' := gw (mFd mi 0) ml) rfl ?_
        refine Go.iret (by rfl) ?_
        first | (exact Or.inl ⟨by omega, rfl, rfl⟩) | (exact Or.inr (Or.inl ⟨by omega, rfl, rfl⟩)) | (exact Or.inr (Or.inr (⟨by omega, rfl, rfl⟩)))
    · refine Go.run hsz hn1 2 (pc' := 18) (lv' := [some (gr 148), some (gi x), some (gi y), some (gi z), some (gi w), none, none]) (st' := [gi 100, gi y]) (M' := gw mi ml) rfl ?_
      refine Go.idivN (by rfl) r_y (by decide) (by omega) ?_
      refine Go.run hsz hn1 2 (pc' := 22) (lv' := [some (gr 148), some (gi x), some (gi y), some (gi z), some (gi w), none, none]) (st' := [gi 30, gi 1, gi (y / 100)]) (M' := gw mi ml) rfl ?_
      refine Go.callS (As := [gi (y / 100), gi 1, gi 30]) (st := []) (mc1 := 0) (mc := 0) (ms1 := 0) (ms := 0) (by rfl) rfl (gcn 153 (by decide)).1 (gcn 153 (by decide)).2 (Nat.le_of_ble_eq_true rfl) (by omega) (cM_in hsz (n := n - 1) (by omega) mi ml (y / 100) 1 30 ⟨by omega, by omega⟩ ⟨by decide, by decide⟩ ⟨by decide, by decide⟩) ?_
      rintro _ _ ⟨rfl, rfl⟩
      refine Go.run hsz hn1 0 (pc' := 25) (lv' := [some (gr 148), some (gi x), some (gi y), some (gi z), some (gi w), none, none]) (st' := [gi (b2 (1 ≤ y / 100 ∧ y / 100 ≤ 30))]) (M' := gw mi ml) rfl ?_
      refine Go.if_eq (by rfl) (b2_rng _) (fun kq5 => ?_) (fun kq5 => ?_)
      · replace kq5 := b2_neg kq5
        refine Go.run hsz hn1 3 (pc' := 99) (lv' := [some (gr 148), some (gi x), some (gi y), some (gi z), some (gi w), some (gi 0), none]) (st' := [gi 0]) (M' := gw mi ml) rfl ?_
        refine Go.if_ne (by rfl) ⟨by decide, by decide⟩ (fun kq6 => ?_) (fun kq6 => ?_)
        · exact absurd kq6 (by decide)
        · refine Go.run hsz hn1 2 (pc' := 104) (lv' := [some (gr 148), some (gi x), some (gi y), some (gi z), some (gi w), some (gi 0), none]) (st' := [gi 0, gr 148]) (M' := gw mi ml) rfl ?_
          refine Go.callV (As := [gi 0]) (b := 148) (st := []) (mc1 := 0) (mc := 0) (ms1 := 0) (ms := 0) (by rfl) rfl (c := 11) (N := 46) (by rfl) (by decide) (by rfl) (gcn 154 (by decide)).1 (gcn 154 (by decide)).2 rfl (Nat.le_of_ble_eq_true rfl) (by omega) (cM_finds hsz (n := n - 1) (by omega) mi ml 0 (by decide) (by decide)) ?_
          rintro _ _ ⟨rfl, rfl⟩
          refine Go.run hsz hn1 0 (pc' := 107) (lv' := [some (gr 148), some (gi x), some (gi y), some (gi z), some (gi w), some (gi 0), none]) (st' := [gi (-1000001)]) (M' := gw (mFd mi 0) ml) rfl ?_
          refine Go.iret (by rfl) ?_
          first | (exact Or.inl ⟨by omega, rfl, rfl⟩) | (exact Or.inr (Or.inl ⟨by omega, rfl, rfl⟩)) | (exact Or.inr (Or.inr (⟨by omega, rfl, rfl⟩)))
      · replace kq5 := b2_pos kq5
        refine Go.run hsz hn1 1 (pc' := 29) (lv' := [some (gr 148), some (gi x), some (gi y), some (gi z), some (gi w), none, none]) (st' := [gi z]) (M' := gw mi ml) rfl ?_
        refine Go.if_lt (by rfl) r_z (fun kq7 => ?_) (fun kq7 => ?_)
        · refine Go.run hsz hn1 3 (pc' := 99) (lv' := [some (gr 148), some (gi x), some (gi y), some (gi z), some (gi w), some (gi 0), none]) (st' := [gi 0]) (M' := gw mi ml) rfl ?_
          refine Go.if_ne (by rfl) ⟨by decide, by decide⟩ (fun kq8 => ?_) (fun kq8 => ?_)
          · exact absurd kq8 (by decide)
          · refine Go.run hsz hn1 2 (pc' := 104) (lv' := [some (gr 148), some (gi x), some (gi y), some (gi z), some (gi w), some (gi 0), none]) (st' := [gi 0, gr 148]) (M' := gw mi ml) rfl ?_
            refine Go.callV (As := [gi 0]) (b := 148) (st := []) (mc1 := 0) (mc := 0) (ms1 := 0) (ms := 0) (by rfl) rfl (c := 11) (N := 46) (by rfl) (by decide) (by rfl) (gcn 154 (by decide)).1 (gcn 154 (by decide)).2 rfl (Nat.le_of_ble_eq_true rfl) (by omega) (cM_finds hsz (n := n - 1) (by omega) mi ml 0 (by decide) (by decide)) ?_
            rintro _ _ ⟨rfl, rfl⟩
            refine Go.run hsz hn1 0 (pc' := 107) (lv' := [some (gr 148), some (gi x), some (gi y), some (gi z), some (gi w), some (gi 0), none]) (st' := [gi (-1000001)]) (M' := gw (mFd mi 0) ml) rfl ?_
            refine Go.iret (by rfl) ?_
            first | (exact Or.inl ⟨by omega, rfl, rfl⟩) | (exact Or.inr (Or.inl ⟨by omega, rfl, rfl⟩)) | (exact Or.inr (Or.inr (⟨by omega, rfl, rfl⟩)))
        · refine Go.run hsz hn1 2 (pc' := 35) (lv' := [some (gr 148), some (gi x), some (gi y), some (gi z), some (gi w), none, none]) (st' := [gi 100, gi z]) (M' := gw mi ml) rfl ?_
          refine Go.idivN (by rfl) r_z (by decide) (by omega) ?_
          refine Go.run hsz hn1 2 (pc' := 39) (lv' := [some (gr 148), some (gi x), some (gi y), some (gi z), some (gi w), none, none]) (st' := [gi 9, gi 0, gi (z / 100)]) (M' := gw mi ml) rfl ?_
          refine Go.callS (As := [gi (z / 100), gi 0, gi 9]) (st := []) (mc1 := 0) (mc := 0) (ms1 := 0) (ms := 0) (by rfl) rfl (gcn 153 (by decide)).1 (gcn 153 (by decide)).2 (Nat.le_of_ble_eq_true rfl) (by omega) (cM_in hsz (n := n - 1) (by omega) mi ml (z / 100) 0 9 ⟨by omega, by omega⟩ ⟨by decide, by decide⟩ ⟨by decide, by decide⟩) ?_
          rintro _ _ ⟨rfl, rfl⟩
          refine Go.run hsz hn1 0 (pc' := 42) (lv' := [some (gr 148), some (gi x), some (gi y), some (gi z), some (gi w), none, none]) (st' := [gi (b2 (0 ≤ z / 100 ∧ z / 100 ≤ 9))]) (M' := gw mi ml) rfl ?_
          refine Go.if_eq (by rfl) (b2_rng _) (fun kq9 => ?_) (fun kq9 => ?_)
          · replace kq9 := b2_neg kq9
            refine Go.run hsz hn1 3 (pc' := 99) (lv' := [some (gr 148), some (gi x), some (gi y), some (gi z), some (gi w), some (gi 0), none]) (st' := [gi 0]) (M' := gw mi ml) rfl ?_
            refine Go.if_ne (by rfl) ⟨by decide, by decide⟩ (fun kq10 => ?_) (fun kq10 => ?_)
            · exact absurd kq10 (by decide)
            · refine Go.run hsz hn1 2 (pc' := 104) (lv' := [some (gr 148), some (gi x), some (gi y), some (gi z), some (gi w), some (gi 0), none]) (st' := [gi 0, gr 148]) (M' := gw mi ml) rfl ?_
              refine Go.callV (As := [gi 0]) (b := 148) (st := []) (mc1 := 0) (mc := 0) (ms1 := 0) (ms := 0) (by rfl) rfl (c := 11) (N := 46) (by rfl) (by decide) (by rfl) (gcn 154 (by decide)).1 (gcn 154 (by decide)).2 rfl (Nat.le_of_ble_eq_true rfl) (by omega) (cM_finds hsz (n := n - 1) (by omega) mi ml 0 (by decide) (by decide)) ?_
              rintro _ _ ⟨rfl, rfl⟩
              refine Go.run hsz hn1 0 (pc' := 107) (lv' := [some (gr 148), some (gi x), some (gi y), some (gi z), some (gi w), some (gi 0), none]) (st' := [gi (-1000001)]) (M' := gw (mFd mi 0) ml) rfl ?_
              refine Go.iret (by rfl) ?_
              first | (exact Or.inl ⟨by omega, rfl, rfl⟩) | (exact Or.inr (Or.inl ⟨by omega, rfl, rfl⟩)) | (exact Or.inr (Or.inr (⟨by omega, rfl, rfl⟩)))
          · replace kq9 := b2_pos kq9
            refine Go.run hsz hn1 2 (pc' := 48) (lv' := [some (gr 148), some (gi x), some (gi y), some (gi z), some (gi w), none, none]) (st' := [gi 100, gi z]) (M' := gw mi ml) rfl ?_
            refine Go.iremN (by rfl) r_z (by decide) (by omega) ?_
            refine Go.run hsz hn1 2 (pc' := 52) (lv' := [some (gr 148), some (gi x), some (gi y), some (gi z), some (gi w), none, none]) (st' := [gi 32, gi 0, gi (z % 100)]) (M' := gw mi ml) rfl ?_
            refine Go.callS (As := [gi (z % 100), gi 0, gi 32]) (st := []) (mc1 := 0) (mc := 0) (ms1 := 0) (ms := 0) (by rfl) rfl (gcn 153 (by decide)).1 (gcn 153 (by decide)).2 (Nat.le_of_ble_eq_true rfl) (by omega) (cM_in hsz (n := n - 1) (by omega) mi ml (z % 100) 0 32 ⟨by omega, by omega⟩ ⟨by decide, by decide⟩ ⟨by decide, by decide⟩) ?_
            rintro _ _ ⟨rfl, rfl⟩
            refine Go.run hsz hn1 0 (pc' := 55) (lv' := [some (gr 148), some (gi x), some (gi y), some (gi z), some (gi w), none, none]) (st' := [gi (b2 (0 ≤ z % 100 ∧ z % 100 ≤ 32))]) (M' := gw mi ml) rfl ?_
            refine Go.if_eq (by rfl) (b2_rng _) (fun kq11 => ?_) (fun kq11 => ?_)
            · replace kq11 := b2_neg kq11
              refine Go.run hsz hn1 3 (pc' := 99) (lv' := [some (gr 148), some (gi x), some (gi y), some (gi z), some (gi w), some (gi 0), none]) (st' := [gi 0]) (M' := gw mi ml) rfl ?_
              refine Go.if_ne (by rfl) ⟨by decide, by decide⟩ (fun kq12 => ?_) (fun kq12 => ?_)
              · exact absurd kq12 (by decide)
              · refine Go.run hsz hn1 2 (pc' := 104) (lv' := [some (gr 148), some (gi x), some (gi y), some (gi z), some (gi w), some (gi 0), none]) (st' := [gi 0, gr 148]) (M' := gw mi ml) rfl ?_
                refine Go.callV (As := [gi 0]) (b := 148) (st := []) (mc1 := 0) (mc := 0) (ms1 := 0) (ms := 0) (by rfl) rfl (c := 11) (N := 46) (by rfl) (by decide) (by rfl) (gcn 154 (by decide)).1 (gcn 154 (by decide)).2 rfl (Nat.le_of_ble_eq_true rfl) (by omega) (cM_finds hsz (n := n - 1) (by omega) mi ml 0 (by decide) (by decide)) ?_
                rintro _ _ ⟨rfl, rfl⟩
                refine Go.run hsz hn1 0 (pc' := 107) (lv' := [some (gr 148), some (gi x), some (gi y), some (gi z), some (gi w), some (gi 0), none]) (st' := [gi (-1000001)]) (M' := gw (mFd mi 0) ml) rfl ?_
                refine Go.iret (by rfl) ?_
                first | (exact Or.inl ⟨by omega, rfl, rfl⟩) | (exact Or.inr (Or.inl ⟨by omega, rfl, rfl⟩)) | (exact Or.inr (Or.inr (⟨by omega, rfl, rfl⟩)))
            · replace kq11 := b2_pos kq11
              refine Go.run hsz hn1 1 (pc' := 60) (lv' := [some (gr 148), some (gi x), some (gi y), some (gi z), some (gi w), none, none]) (st' := [gi w]) (M' := gw mi ml) rfl ?_
              refine Go.if_lt (by rfl) r_w (fun kq13 => ?_) (fun kq13 => ?_)
              · refine Go.run hsz hn1 3 (pc' := 99) (lv' := [some (gr 148), some (gi x), some (gi y), some (gi z), some (gi w), some (gi 0), none]) (st' := [gi 0]) (M' := gw mi ml) rfl ?_
                refine Go.if_ne (by rfl) ⟨by decide, by decide⟩ (fun kq14 => ?_) (fun kq14 => ?_)
                · exact absurd kq14 (by decide)
                · refine Go.run hsz hn1 2 (pc' := 104) (lv' := [some (gr 148), some (gi x), some (gi y), some (gi z), some (gi w), some (gi 0), none]) (st' := [gi 0, gr 148]) (M' := gw mi ml) rfl ?_
                  refine Go.callV (As := [gi 0]) (b := 148) (st := []) (mc1 := 0) (mc := 0) (ms1 := 0) (ms := 0) (by rfl) rfl (c := 11) (N := 46) (by rfl) (by decide) (by rfl) (gcn 154 (by decide)).1 (gcn 154 (by decide)).2 rfl (Nat.le_of_ble_eq_true rfl) (by omega) (cM_finds hsz (n := n - 1) (by omega) mi ml 0 (by decide) (by decide)) ?_
                  rintro _ _ ⟨rfl, rfl⟩
                  refine Go.run hsz hn1 0 (pc' := 107) (lv' := [some (gr 148), some (gi x), some (gi y), some (gi z), some (gi w), some (gi 0), none]) (st' := [gi (-1000001)]) (M' := gw (mFd mi 0) ml) rfl ?_
                  refine Go.iret (by rfl) ?_
                  first | (exact Or.inl ⟨by omega, rfl, rfl⟩) | (exact Or.inr (Or.inl ⟨by omega, rfl, rfl⟩)) | (exact Or.inr (Or.inr (⟨by omega, rfl, rfl⟩)))
              · refine Go.run hsz hn1 2 (pc' := 67) (lv' := [some (gr 148), some (gi x), some (gi y), some (gi z), some (gi w), none, none]) (st' := [gi 10, gi w]) (M' := gw mi ml) rfl ?_
                refine Go.idivN (by rfl) r_w (by decide) (by omega) ?_
                refine Go.run hsz hn1 2 (pc' := 71) (lv' := [some (gr 148), some (gi x), some (gi y), some (gi z), some (gi w), none, none]) (st' := [gi 7, gi 0, gi (w / 10)]) (M' := gw mi ml) rfl ?_
                refine Go.callS (As := [gi (w / 10), gi 0, gi 7]) (st := []) (mc1 := 0) (mc := 0) (ms1 := 0) (ms := 0) (by rfl) rfl (gcn 153 (by decide)).1 (gcn 153 (by decide)).2 (Nat.le_of_ble_eq_true rfl) (by omega) (cM_in hsz (n := n - 1) (by omega) mi ml (w / 10) 0 7 ⟨by omega, by omega⟩ ⟨by decide, by decide⟩ ⟨by decide, by decide⟩) ?_
                rintro _ _ ⟨rfl, rfl⟩
                refine Go.run hsz hn1 0 (pc' := 74) (lv' := [some (gr 148), some (gi x), some (gi y), some (gi z), some (gi w), none, none]) (st' := [gi (b2 (0 ≤ w / 10 ∧ w / 10 ≤ 7))]) (M' := gw mi ml) rfl ?_
                refine Go.if_eq (by rfl) (b2_rng _) (fun kq15 => ?_) (fun kq15 => ?_)
                · replace kq15 := b2_neg kq15
                  refine Go.run hsz hn1 3 (pc' := 99) (lv' := [some (gr 148), some (gi x), some (gi y), some (gi z), some (gi w), some (gi 0), none]) (st' := [gi 0]) (M' := gw mi ml) rfl ?_
                  refine Go.if_ne (by rfl) ⟨by decide, by decide⟩ (fun kq16 => ?_) (fun kq16 => ?_)
                  · exact absurd kq16 (by decide)
                  · refine Go.run hsz hn1 2 (pc' := 104) (lv' := [some (gr 148), some (gi x), some (gi y), some (gi z), some (gi w), some (gi 0), none]) (st' := [gi 0, gr 148]) (M' := gw mi ml) rfl ?_
                    refine Go.callV (As := [gi 0]) (b := 148) (st := []) (mc1 := 0) (mc := 0) (ms1 := 0) (ms := 0) (by rfl) rfl (c := 11) (N := 46) (by rfl) (by decide) (by rfl) (gcn 154 (by decide)).1 (gcn 154 (by decide)).2 rfl (Nat.le_of_ble_eq_true rfl) (by omega) (cM_finds hsz (n := n - 1) (by omega) mi ml 0 (by decide) (by decide)) ?_
                    rintro _ _ ⟨rfl, rfl⟩
                    refine Go.run hsz hn1 0 (pc' := 107) (lv' := [some (gr 148), some (gi x), some (gi y), some (gi z), some (gi w), some (gi 0), none]) (st' := [gi (-1000001)]) (M' := gw (mFd mi 0) ml) rfl ?_
                    refine Go.iret (by rfl) ?_
                    first | (exact Or.inl ⟨by omega, rfl, rfl⟩) | (exact Or.inr (Or.inl ⟨by omega, rfl, rfl⟩)) | (exact Or.inr (Or.inr (⟨by omega, rfl, rfl⟩)))
                · replace kq15 := b2_pos kq15
                  refine Go.run hsz hn1 2 (pc' := 81) (lv' := [some (gr 148), some (gi x), some (gi y), some (gi z), some (gi w), none, none]) (st' := [gi 10, gi w]) (M' := gw mi ml) rfl ?_
                  refine Go.iremN (by rfl) r_w (by decide) (by omega) ?_
                  refine Go.run hsz hn1 2 (pc' := 84) (lv' := [some (gr 148), some (gi x), some (gi y), some (gi z), some (gi w), none, none]) (st' := [gi 3, gi 0, gi (w % 10)]) (M' := gw mi ml) rfl ?_
                  refine Go.callS (As := [gi (w % 10), gi 0, gi 3]) (st := []) (mc1 := 0) (mc := 0) (ms1 := 0) (ms := 0) (by rfl) rfl (gcn 153 (by decide)).1 (gcn 153 (by decide)).2 (Nat.le_of_ble_eq_true rfl) (by omega) (cM_in hsz (n := n - 1) (by omega) mi ml (w % 10) 0 3 ⟨by omega, by omega⟩ ⟨by decide, by decide⟩ ⟨by decide, by decide⟩) ?_
                  rintro _ _ ⟨rfl, rfl⟩
                  refine Go.run hsz hn1 0 (pc' := 87) (lv' := [some (gr 148), some (gi x), some (gi y), some (gi z), some (gi w), none, none]) (st' := [gi (b2 (0 ≤ w % 10 ∧ w % 10 ≤ 3))]) (M' := gw mi ml) rfl ?_
                  refine Go.if_eq (by rfl) (b2_rng _) (fun kq17 => ?_) (fun kq17 => ?_)
                  · replace kq17 := b2_neg kq17
                    refine Go.run hsz hn1 3 (pc' := 99) (lv' := [some (gr 148), some (gi x), some (gi y), some (gi z), some (gi w), some (gi 0), none]) (st' := [gi 0]) (M' := gw mi ml) rfl ?_
                    refine Go.if_ne (by rfl) ⟨by decide, by decide⟩ (fun kq18 => ?_) (fun kq18 => ?_)
                    · exact absurd kq18 (by decide)
                    · refine Go.run hsz hn1 2 (pc' := 104) (lv' := [some (gr 148), some (gi x), some (gi y), some (gi z), some (gi w), some (gi 0), none]) (st' := [gi 0, gr 148]) (M' := gw mi ml) rfl ?_
                      refine Go.callV (As := [gi 0]) (b := 148) (st := []) (mc1 := 0) (mc := 0) (ms1 := 0) (ms := 0) (by rfl) rfl (c := 11) (N := 46) (by rfl) (by decide) (by rfl) (gcn 154 (by decide)).1 (gcn 154 (by decide)).2 rfl (Nat.le_of_ble_eq_true rfl) (by omega) (cM_finds hsz (n := n - 1) (by omega) mi ml 0 (by decide) (by decide)) ?_
                      rintro _ _ ⟨rfl, rfl⟩
                      refine Go.run hsz hn1 0 (pc' := 107) (lv' := [some (gr 148), some (gi x), some (gi y), some (gi z), some (gi w), some (gi 0), none]) (st' := [gi (-1000001)]) (M' := gw (mFd mi 0) ml) rfl ?_
                      refine Go.iret (by rfl) ?_
                      first | (exact Or.inl ⟨by omega, rfl, rfl⟩) | (exact Or.inr (Or.inl ⟨by omega, rfl, rfl⟩)) | (exact Or.inr (Or.inr (⟨by omega, rfl, rfl⟩)))
                  · replace kq17 := b2_pos kq17
                    refine Go.run hsz hn1 4 (pc' := 99) (lv' := [some (gr 148), some (gi x), some (gi y), some (gi z), some (gi w), some (gi 1), none]) (st' := [gi 1]) (M' := gw mi ml) rfl ?_
                    refine Go.if_ne (by rfl) ⟨by decide, by decide⟩ (fun kq19 => ?_) (fun kq19 => ?_)
                    · refine Go.run hsz hn1 3 (pc' := 114) (lv' := [some (gr 148), some (gi x), some (gi y), some (gi z), some (gi w), some (gi 1), none]) (st' := [gi 12, gi (mi 148 2)]) (M' := gw mi ml) rfl ?_
                      refine Go.icmp_ne (by rfl) (hR _ _) ⟨by decide, by decide⟩ (fun kq20 => ?_) (fun kq20 => ?_)
                      · refine Go.run hsz hn1 10 (pc' := 141) (lv' := [some (gr 148), some (gi x), some (gi y), some (gi z), some (gi w), some (gi 1), some (gi (8 * (mi 148 2)))]) (st' := [gi 100, gi x, gi (8 * (mi 148 2)), gr 149]) (M' := gw mi ml) rfl ?_
                        refine Go.idivN (by rfl) r_x (by decide) (by omega) ?_
                        refine Go.run hsz hn1 0 (pc' := 142) (lv' := [some (gr 148), some (gi x), some (gi y), some (gi z), some (gi w), some (gi 1), some (gi (8 * (mi 148 2)))]) (st' := [gi (x / 100), gi (8 * (mi 148 2)), gr 149]) (M' := gw mi ml) rfl ?_
                        refine Go.iast (by rfl) (N := 96) (by rfl) (by omega) (by omega) (by decide) ?_
                        refine Go.run hsz hn1 7 (pc' := 154) (lv' := [some (gr 148), some (gi x), some (gi y), some (gi z), some (gi w), some (gi 1), some (gi (8 * (mi 148 2)))]) (st' := [gi 100, gi x, gi ((8 * (mi 148 2)) + 1), gr 149]) (M' := gw (gu mi 149 ((8 * (mi 148 2)).toNat) (x / 100)) ml) rfl ?_
                        refine Go.iremN (by rfl) r_x (by decide) (by omega) ?_
                        refine Go.run hsz hn1 0 (pc' := 155) (lv' := [some (gr 148), some (gi x), some (gi y), some (gi z), some (gi w), some (gi 1), some (gi (8 * (mi 148 2)))]) (st' := [gi (x % 100), gi ((8 * (mi 148 2)) + 1), gr 149]) (M' := gw (gu mi 149 ((8 * (mi 148 2)).toNat) (x / 100)) ml) rfl ?_
                        refine Go.iast (by rfl) (N := 96) (by rfl) (by omega) (by omega) (by decide) ?_
                        refine Go.run hsz hn1 7 (pc' := 167) (lv' := [some (gr 148), some (gi x), some (gi y), some (gi z), some (gi w), some (gi 1), some (gi (8 * (mi 148 2)))]) (st' := [gi 100, gi y, gi ((8 * (mi 148 2)) + 2), gr 149]) (M' := gw (gu (gu mi 149 ((8 * (mi 148 2)).toNat) (x / 100)) 149 (((8 * (mi 148 2)) + 1).toNat) (x % 100)) ml) rfl ?_
                        refine Go.idivN (by rfl) r_y (by decide) (by omega) ?_
                        refine Go.run hsz hn1 0 (pc' := 168) (lv' := [some (gr 148), some (gi x), some (gi y), some (gi z), some (gi w), some (gi 1), some (gi (8 * (mi 148 2)))]) (st' := [gi (y / 100), gi ((8 * (mi 148 2)) + 2), gr 149]) (M' := gw (gu (gu mi 149 ((8 * (mi 148 2)).toNat) (x / 100)) 149 (((8 * (mi 148 2)) + 1).toNat) (x % 100)) ml) rfl ?_
                        refine Go.iast (by rfl) (N := 96) (by rfl) (by omega) (by omega) (by decide) ?_
                        refine Go.run hsz hn1 7 (pc' := 180) (lv' := [some (gr 148), some (gi x), some (gi y), some (gi z), some (gi w), some (gi 1), some (gi (8 * (mi 148 2)))]) (st' := [gi 100, gi y, gi ((8 * (mi 148 2)) + 3), gr 149]) (M' := gw (gu (gu (gu mi 149 ((8 * (mi 148 2)).toNat) (x / 100)) 149 (((8 * (mi 148 2)) + 1).toNat) (x % 100)) 149 (((8 * (mi 148 2)) + 2).toNat) (y / 100)) ml) rfl ?_
                        refine Go.iremN (by rfl) r_y (by decide) (by omega) ?_
                        refine Go.run hsz hn1 0 (pc' := 181) (lv' := [some (gr 148), some (gi x), some (gi y), some (gi z), some (gi w), some (gi 1), some (gi (8 * (mi 148 2)))]) (st' := [gi (y % 100), gi ((8 * (mi 148 2)) + 3), gr 149]) (M' := gw (gu (gu (gu mi 149 ((8 * (mi 148 2)).toNat) (x / 100)) 149 (((8 * (mi 148 2)) + 1).toNat) (x % 100)) 149 (((8 * (mi 148 2)) + 2).toNat) (y / 100)) ml) rfl ?_
                        refine Go.iast (by rfl) (N := 96) (by rfl) (by omega) (by omega) (by decide) ?_
                        refine Go.run hsz hn1 7 (pc' := 193) (lv' := [some (gr 148), some (gi x), some (gi y), some (gi z), some (gi w), some (gi 1), some (gi (8 * (mi 148 2)))]) (st' := [gi 100, gi z, gi ((8 * (mi 148 2)) + 4), gr 149]) (M' := gw (gu (gu (gu (gu mi 149 ((8 * (mi 148 2)).toNat) (x / 100)) 149 (((8 * (mi 148 2)) + 1).toNat) (x % 100)) 149 (((8 * (mi 148 2)) + 2).toNat) (y / 100)) 149 (((8 * (mi 148 2)) + 3).toNat) (y % 100)) ml) rfl ?_
                        refine Go.idivN (by rfl) r_z (by decide) (by omega) ?_
                        refine Go.run hsz hn1 0 (pc' := 194) (lv' := [some (gr 148), some (gi x), some (gi y), some (gi z), some (gi w), some (gi 1), some (gi (8 * (mi 148 2)))]) (st' := [gi (z / 100), gi ((8 * (mi 148 2)) + 4), gr 149]) (M' := gw (gu (gu (gu (gu mi 149 ((8 * (mi 148 2)).toNat) (x / 100)) 149 (((8 * (mi 148 2)) + 1).toNat) (x % 100)) 149 (((8 * (mi 148 2)) + 2).toNat) (y / 100)) 149 (((8 * (mi 148 2)) + 3).toNat) (y % 100)) ml) rfl ?_
                        refine Go.iast (by rfl) (N := 96) (by rfl) (by omega) (by omega) (by decide) ?_
                        refine Go.run hsz hn1 7 (pc' := 206) (lv' := [some (gr 148), some (gi x), some (gi y), some (gi z), some (gi w), some (gi 1), some (gi (8 * (mi 148 2)))]) (st' := [gi 100, gi z, gi ((8 * (mi 148 2)) + 5), gr 149]) (M' := gw (gu (gu (gu (gu (gu mi 149 ((8 * (mi 148 2)).toNat) (x / 100)) 149 (((8 * (mi 148 2)) + 1).toNat) (x % 100)) 149 (((8 * (mi 148 2)) + 2).toNat) (y / 100)) 149 (((8 * (mi 148 2)) + 3).toNat) (y % 100)) 149 (((8 * (mi 148 2)) + 4).toNat) (z / 100)) ml) rfl ?_
                        refine Go.iremN (by rfl) r_z (by decide) (by omega) ?_
                        refine Go.run hsz hn1 0 (pc' := 207) (lv' := [some (gr 148), some (gi x), some (gi y), some (gi z), some (gi w), some (gi 1), some (gi (8 * (mi 148 2)))]) (st' := [gi (z % 100), gi ((8 * (mi 148 2)) + 5), gr 149]) (M' := gw (gu (gu (gu (gu (gu mi 149 ((8 * (mi 148 2)).toNat) (x / 100)) 149 (((8 * (mi 148 2)) + 1).toNat) (x % 100)) 149 (((8 * (mi 148 2)) + 2).toNat) (y / 100)) 149 (((8 * (mi 148 2)) + 3).toNat) (y % 100)) 149 (((8 * (mi 148 2)) + 4).toNat) (z / 100)) ml) rfl ?_
                        refine Go.iast (by rfl) (N := 96) (by rfl) (by omega) (by omega) (by decide) ?_
                        refine Go.run hsz hn1 7 (pc' := 221) (lv' := [some (gr 148), some (gi x), some (gi y), some (gi z), some (gi w), some (gi 1), some (gi (8 * (mi 148 2)))]) (st' := [gi 10, gi w, gi ((8 * (mi 148 2)) + 6), gr 149]) (M' := gw (gu (gu (gu (gu (gu (gu mi 149 ((8 * (mi 148 2)).toNat) (x / 100)) 149 (((8 * (mi 148 2)) + 1).toNat) (x % 100)) 149 (((8 * (mi 148 2)) + 2).toNat) (y / 100)) 149 (((8 * (mi 148 2)) + 3).toNat) (y % 100)) 149 (((8 * (mi 148 2)) + 4).toNat) (z / 100)) 149 (((8 * (mi 148 2)) + 5).toNat) (z % 100)) ml) rfl ?_
                        refine Go.idivN (by rfl) r_w (by decide) (by omega) ?_
                        refine Go.run hsz hn1 0 (pc' := 222) (lv' := [some (gr 148), some (gi x), some (gi y), some (gi z), some (gi w), some (gi 1), some (gi (8 * (mi 148 2)))]) (st' := [gi (w / 10), gi ((8 * (mi 148 2)) + 6), gr 149]) (M' := gw (gu (gu (gu (gu (gu (gu mi 149 ((8 * (mi 148 2)).toNat) (x / 100)) 149 (((8 * (mi 148 2)) + 1).toNat) (x % 100)) 149 (((8 * (mi 148 2)) + 2).toNat) (y / 100)) 149 (((8 * (mi 148 2)) + 3).toNat) (y % 100)) 149 (((8 * (mi 148 2)) + 4).toNat) (z / 100)) 149 (((8 * (mi 148 2)) + 5).toNat) (z % 100)) ml) rfl ?_
                        refine Go.iast (by rfl) (N := 96) (by rfl) (by omega) (by omega) (by decide) ?_
                        refine Go.run hsz hn1 7 (pc' := 236) (lv' := [some (gr 148), some (gi x), some (gi y), some (gi z), some (gi w), some (gi 1), some (gi (8 * (mi 148 2)))]) (st' := [gi 10, gi w, gi ((8 * (mi 148 2)) + 7), gr 149]) (M' := gw (gu (gu (gu (gu (gu (gu (gu mi 149 ((8 * (mi 148 2)).toNat) (x / 100)) 149 (((8 * (mi 148 2)) + 1).toNat) (x % 100)) 149 (((8 * (mi 148 2)) + 2).toNat) (y / 100)) 149 (((8 * (mi 148 2)) + 3).toNat) (y % 100)) 149 (((8 * (mi 148 2)) + 4).toNat) (z / 100)) 149 (((8 * (mi 148 2)) + 5).toNat) (z % 100)) 149 (((8 * (mi 148 2)) + 6).toNat) (w / 10)) ml) rfl ?_
                        refine Go.iremN (by rfl) r_w (by decide) (by omega) ?_
                        refine Go.run hsz hn1 0 (pc' := 237) (lv' := [some (gr 148), some (gi x), some (gi y), some (gi z), some (gi w), some (gi 1), some (gi (8 * (mi 148 2)))]) (st' := [gi (w % 10), gi ((8 * (mi 148 2)) + 7), gr 149]) (M' := gw (gu (gu (gu (gu (gu (gu (gu mi 149 ((8 * (mi 148 2)).toNat) (x / 100)) 149 (((8 * (mi 148 2)) + 1).toNat) (x % 100)) 149 (((8 * (mi 148 2)) + 2).toNat) (y / 100)) 149 (((8 * (mi 148 2)) + 3).toNat) (y % 100)) 149 (((8 * (mi 148 2)) + 4).toNat) (z / 100)) 149 (((8 * (mi 148 2)) + 5).toNat) (z % 100)) 149 (((8 * (mi 148 2)) + 6).toNat) (w / 10)) ml) rfl ?_
                        refine Go.iast (by rfl) (N := 96) (by rfl) (by omega) (by omega) (by decide) ?_
                        refine Go.run hsz hn1 4 (pc' := 246) (lv' := [some (gr 148), some (gi x), some (gi y), some (gi z), some (gi w), some (gi 1), some (gi (8 * (mi 148 2)))]) (st' := [gi (mi 148 2), gr 150]) (M' := gw (gu (gu (gu (gu (gu (gu (gu (gu mi 149 ((8 * (mi 148 2)).toNat) (x / 100)) 149 (((8 * (mi 148 2)) + 1).toNat) (x % 100)) 149 (((8 * (mi 148 2)) + 2).toNat) (y / 100)) 149 (((8 * (mi 148 2)) + 3).toNat) (y % 100)) 149 (((8 * (mi 148 2)) + 4).toNat) (z / 100)) 149 (((8 * (mi 148 2)) + 5).toNat) (z % 100)) 149 (((8 * (mi 148 2)) + 6).toNat) (w / 10)) 149 (((8 * (mi 148 2)) + 7).toNat) (w % 10)) ml) rfl ?_
                        refine Go.run hsz hn1 0 (pc' := 246) (lv' := [some (gr 148), some (gi x), some (gi y), some (gi z), some (gi w), some (gi 1), some (gi (8 * (mi 148 2)))]) (st' := [gi ((gu (gu (gu (gu (gu (gu (gu (gu mi 149 ((8 * (mi 148 2)).toNat) (x / 100)) 149 (((8 * (mi 148 2)) + 1).toNat) (x % 100)) 149 (((8 * (mi 148 2)) + 2).toNat) (y / 100)) 149 (((8 * (mi 148 2)) + 3).toNat) (y % 100)) 149 (((8 * (mi 148 2)) + 4).toNat) (z / 100)) 149 (((8 * (mi 148 2)) + 5).toNat) (z % 100)) 149 (((8 * (mi 148 2)) + 6).toNat) (w / 10)) 149 (((8 * (mi 148 2)) + 7).toNat) (w % 10)) 148 2), gr 150]) (M' := gw (gu (gu (gu (gu (gu (gu (gu (gu mi 149 ((8 * (mi 148 2)).toNat) (x / 100)) 149 (((8 * (mi 148 2)) + 1).toNat) (x % 100)) 149 (((8 * (mi 148 2)) + 2).toNat) (y / 100)) 149 (((8 * (mi 148 2)) + 3).toNat) (y % 100)) 149 (((8 * (mi 148 2)) + 4).toNat) (z / 100)) 149 (((8 * (mi 148 2)) + 5).toNat) (z % 100)) 149 (((8 * (mi 148 2)) + 6).toNat) (w / 10)) 149 (((8 * (mi 148 2)) + 7).toNat) (w % 10)) ml) rfl ?_
                        rw [show (gu (gu (gu (gu (gu (gu (gu (gu mi 149 ((8 * (mi 148 2)).toNat) (x / 100)) 149 (((8 * (mi 148 2)) + 1).toNat) (x % 100)) 149 (((8 * (mi 148 2)) + 2).toNat) (y / 100)) 149 (((8 * (mi 148 2)) + 3).toNat) (y % 100)) 149 (((8 * (mi 148 2)) + 4).toNat) (z / 100)) 149 (((8 * (mi 148 2)) + 5).toNat) (z % 100)) 149 (((8 * (mi 148 2)) + 6).toNat) (w / 10)) 149 (((8 * (mi 148 2)) + 7).toNat) (w % 10)) 148 2 = mi 148 2 from (gu_ne (Or.inl (by decide))).trans ((gu_ne (Or.inl (by decide))).trans ((gu_ne (Or.inl (by decide))).trans ((gu_ne (Or.inl (by decide))).trans ((gu_ne (Or.inl (by decide))).trans ((gu_ne (Or.inl (by decide))).trans ((gu_ne (Or.inl (by decide))).trans (gu_ne (Or.inl (by decide)))))))))]
                        refine Go.run hsz hn1 1 (pc' := 247) (lv' := [some (gr 148), some (gi x), some (gi y), some (gi z), some (gi w), some (gi 1), some (gi (8 * (mi 148 2)))]) (st' := [gi 0, gi (mi 148 2), gr 150]) (M' := gw (gu (gu (gu (gu (gu (gu (gu (gu mi 149 ((8 * (mi 148 2)).toNat) (x / 100)) 149 (((8 * (mi 148 2)) + 1).toNat) (x % 100)) 149 (((8 * (mi 148 2)) + 2).toNat) (y / 100)) 149 (((8 * (mi 148 2)) + 3).toNat) (y % 100)) 149 (((8 * (mi 148 2)) + 4).toNat) (z / 100)) 149 (((8 * (mi 148 2)) + 5).toNat) (z % 100)) 149 (((8 * (mi 148 2)) + 6).toNat) (w / 10)) 149 (((8 * (mi 148 2)) + 7).toNat) (w % 10)) ml) rfl ?_
                        refine Go.iast (by rfl) (N := 12) (by rfl) (by omega) (by omega) (by decide) ?_
                        refine Go.run hsz hn1 4 (pc' := 256) (lv' := [some (gr 148), some (gi x), some (gi y), some (gi z), some (gi w), some (gi 1), some (gi (8 * (mi 148 2)))]) (st' := [gi (mi 148 2), gr 151]) (M' := gw (gu (gu (gu (gu (gu (gu (gu (gu (gu mi 149 ((8 * (mi 148 2)).toNat) (x / 100)) 149 (((8 * (mi 148 2)) + 1).toNat) (x % 100)) 149 (((8 * (mi 148 2)) + 2).toNat) (y / 100)) 149 (((8 * (mi 148 2)) + 3).toNat) (y % 100)) 149 (((8 * (mi 148 2)) + 4).toNat) (z / 100)) 149 (((8 * (mi 148 2)) + 5).toNat) (z % 100)) 149 (((8 * (mi 148 2)) + 6).toNat) (w / 10)) 149 (((8 * (mi 148 2)) + 7).toNat) (w % 10)) 150 ((mi 148 2).toNat) 0) ml) rfl ?_
                        refine Go.run hsz hn1 0 (pc' := 256) (lv' := [some (gr 148), some (gi x), some (gi y), some (gi z), some (gi w), some (gi 1), some (gi (8 * (mi 148 2)))]) (st' := [gi ((gu (gu (gu (gu (gu (gu (gu (gu (gu mi 149 ((8 * (mi 148 2)).toNat) (x / 100)) 149 (((8 * (mi 148 2)) + 1).toNat) (x % 100)) 149 (((8 * (mi 148 2)) + 2).toNat) (y / 100)) 149 (((8 * (mi 148 2)) + 3).toNat) (y % 100)) 149 (((8 * (mi 148 2)) + 4).toNat) (z / 100)) 149 (((8 * (mi 148 2)) + 5).toNat) (z % 100)) 149 (((8 * (mi 148 2)) + 6).toNat) (w / 10)) 149 (((8 * (mi 148 2)) + 7).toNat) (w % 10)) 150 ((mi 148 2).toNat) 0) 148 2), gr 151]) (M' := gw (gu (gu (gu (gu (gu (gu (gu (gu (gu mi 149 ((8 * (mi 148 2)).toNat) (x / 100)) 149 (((8 * (mi 148 2)) + 1).toNat) (x % 100)) 149 (((8 * (mi 148 2)) + 2).toNat) (y / 100)) 149 (((8 * (mi 148 2)) + 3).toNat) (y % 100)) 149 (((8 * (mi 148 2)) + 4).toNat) (z / 100)) 149 (((8 * (mi 148 2)) + 5).toNat) (z % 100)) 149 (((8 * (mi 148 2)) + 6).toNat) (w / 10)) 149 (((8 * (mi 148 2)) + 7).toNat) (w % 10)) 150 ((mi 148 2).toNat) 0) ml) rfl ?_
                        rw [show (gu (gu (gu (gu (gu (gu (gu (gu (gu mi 149 ((8 * (mi 148 2)).toNat) (x / 100)) 149 (((8 * (mi 148 2)) + 1).toNat) (x % 100)) 149 (((8 * (mi 148 2)) + 2).toNat) (y / 100)) 149 (((8 * (mi 148 2)) + 3).toNat) (y % 100)) 149 (((8 * (mi 148 2)) + 4).toNat) (z / 100)) 149 (((8 * (mi 148 2)) + 5).toNat) (z % 100)) 149 (((8 * (mi 148 2)) + 6).toNat) (w / 10)) 149 (((8 * (mi 148 2)) + 7).toNat) (w % 10)) 150 ((mi 148 2).toNat) 0) 148 2 = mi 148 2 from (gu_ne (Or.inl (by decide))).trans ((gu_ne (Or.inl (by decide))).trans ((gu_ne (Or.inl (by decide))).trans ((gu_ne (Or.inl (by decide))).trans ((gu_ne (Or.inl (by decide))).trans ((gu_ne (Or.inl (by decide))).trans ((gu_ne (Or.inl (by decide))).trans ((gu_ne (Or.inl (by decide))).trans (gu_ne (Or.inl (by decide))))))))))]
                        refine Go.run hsz hn1 1 (pc' := 257) (lv' := [some (gr 148), some (gi x), some (gi y), some (gi z), some (gi w), some (gi 1), some (gi (8 * (mi 148 2)))]) (st' := [gi 0, gi (mi 148 2), gr 151]) (M' := gw (gu (gu (gu (gu (gu (gu (gu (gu (gu mi 149 ((8 * (mi 148 2)).toNat) (x / 100)) 149 (((8 * (mi 148 2)) + 1).toNat) (x % 100)) 149 (((8 * (mi 148 2)) + 2).toNat) (y / 100)) 149 (((8 * (mi 148 2)) + 3).toNat) (y % 100)) 149 (((8 * (mi 148 2)) + 4).toNat) (z / 100)) 149 (((8 * (mi 148 2)) + 5).toNat) (z % 100)) 149 (((8 * (mi 148 2)) + 6).toNat) (w / 10)) 149 (((8 * (mi 148 2)) + 7).toNat) (w % 10)) 150 ((mi 148 2).toNat) 0) ml) rfl ?_
                        refine Go.iast (by rfl) (N := 12) (by rfl) (by omega) (by omega) (by decide) ?_
                        refine Go.run hsz hn1 3 (pc' := 263) (lv' := [some (gr 148), some (gi x), some (gi y), some (gi z), some (gi w), some (gi 1), some (gi (8 * (mi 148 2)))]) (st' := [gi (mi 148 2), gr 148]) (M' := gw (gu (gu (gu (gu (gu (gu (gu (gu (gu (gu mi 149 ((8 * (mi 148 2)).toNat) (x / 100)) 149 (((8 * (mi 148 2)) + 1).toNat) (x % 100)) 149 (((8 * (mi 148 2)) + 2).toNat) (y / 100)) 149 (((8 * (mi 148 2)) + 3).toNat) (y % 100)) 149 (((8 * (mi 148 2)) + 4).toNat) (z / 100)) 149 (((8 * (mi 148 2)) + 5).toNat) (z % 100)) 149 (((8 * (mi 148 2)) + 6).toNat) (w / 10)) 149 (((8 * (mi 148 2)) + 7).toNat) (w % 10)) 150 ((mi 148 2).toNat) 0) 151 ((mi 148 2).toNat) 0) ml) rfl ?_
                        refine Go.run hsz hn1 0 (pc' := 263) (lv' := [some (gr 148), some (gi x), some (gi y), some (gi z), some (gi w), some (gi 1), some (gi (8 * (mi 148 2)))]) (st' := [gi ((gu (gu (gu (gu (gu (gu (gu (gu (gu (gu mi 149 ((8 * (mi 148 2)).toNat) (x / 100)) 149 (((8 * (mi 148 2)) + 1).toNat) (x % 100)) 149 (((8 * (mi 148 2)) + 2).toNat) (y / 100)) 149 (((8 * (mi 148 2)) + 3).toNat) (y % 100)) 149 (((8 * (mi 148 2)) + 4).toNat) (z / 100)) 149 (((8 * (mi 148 2)) + 5).toNat) (z % 100)) 149 (((8 * (mi 148 2)) + 6).toNat) (w / 10)) 149 (((8 * (mi 148 2)) + 7).toNat) (w % 10)) 150 ((mi 148 2).toNat) 0) 151 ((mi 148 2).toNat) 0) 148 2), gr 148]) (M' := gw (gu (gu (gu (gu (gu (gu (gu (gu (gu (gu mi 149 ((8 * (mi 148 2)).toNat) (x / 100)) 149 (((8 * (mi 148 2)) + 1).toNat) (x % 100)) 149 (((8 * (mi 148 2)) + 2).toNat) (y / 100)) 149 (((8 * (mi 148 2)) + 3).toNat) (y % 100)) 149 (((8 * (mi 148 2)) + 4).toNat) (z / 100)) 149 (((8 * (mi 148 2)) + 5).toNat) (z % 100)) 149 (((8 * (mi 148 2)) + 6).toNat) (w / 10)) 149 (((8 * (mi 148 2)) + 7).toNat) (w % 10)) 150 ((mi 148 2).toNat) 0) 151 ((mi 148 2).toNat) 0) ml) rfl ?_
                        rw [show (gu (gu (gu (gu (gu (gu (gu (gu (gu (gu mi 149 ((8 * (mi 148 2)).toNat) (x / 100)) 149 (((8 * (mi 148 2)) + 1).toNat) (x % 100)) 149 (((8 * (mi 148 2)) + 2).toNat) (y / 100)) 149 (((8 * (mi 148 2)) + 3).toNat) (y % 100)) 149 (((8 * (mi 148 2)) + 4).toNat) (z / 100)) 149 (((8 * (mi 148 2)) + 5).toNat) (z % 100)) 149 (((8 * (mi 148 2)) + 6).toNat) (w / 10)) 149 (((8 * (mi 148 2)) + 7).toNat) (w % 10)) 150 ((mi 148 2).toNat) 0) 151 ((mi 148 2).toNat) 0) 148 2 = mi 148 2 from (gu_ne (Or.inl (by decide))).trans ((gu_ne (Or.inl (by decide))).trans ((gu_ne (Or.inl (by decide))).trans ((gu_ne (Or.inl (by decide))).trans ((gu_ne (Or.inl (by decide))).trans ((gu_ne (Or.inl (by decide))).trans ((gu_ne (Or.inl (by decide))).trans ((gu_ne (Or.inl (by decide))).trans ((gu_ne (Or.inl (by decide))).trans (gu_ne (Or.inl (by decide)))))))))))]
                        refine Go.run hsz hn1 7 (pc' := 274) (lv' := [some (gr 148), some (gi x), some (gi y), some (gi z), some (gi w), some (gi 1), some (gi (8 * (mi 148 2)))]) (st' := [gi (((mi 148 2) + 1) - 1)]) (M' := gw (gu (gu (gu (gu (gu (gu (gu (gu (gu (gu (gu mi 149 ((8 * (mi 148 2)).toNat) (x / 100)) 149 (((8 * (mi 148 2)) + 1).toNat) (x % 100)) 149 (((8 * (mi 148 2)) + 2).toNat) (y / 100)) 149 (((8 * (mi 148 2)) + 3).toNat) (y % 100)) 149 (((8 * (mi 148 2)) + 4).toNat) (z / 100)) 149 (((8 * (mi 148 2)) + 5).toNat) (z % 100)) 149 (((8 * (mi 148 2)) + 6).toNat) (w / 10)) 149 (((8 * (mi 148 2)) + 7).toNat) (w % 10)) 150 ((mi 148 2).toNat) 0) 151 ((mi 148 2).toNat) 0) 148 2 ((mi 148 2) + 1)) ml) rfl ?_
                        refine Go.iret (by rfl) ?_
                        first | (exact Or.inl ⟨by omega, rfl, rfl⟩) | (exact Or.inr (Or.inl ⟨by omega, rfl, rfl⟩)) | (exact Or.inr (Or.inr (⟨by omega, rfl, rfl⟩)))
                      · refine Go.run hsz hn1 2 (pc' := 119) (lv' := [some (gr 148), some (gi x), some (gi y), some (gi z), some (gi w), some (gi 1), none]) (st' := [gi 1, gr 148]) (M' := gw mi ml) rfl ?_
                        refine Go.callV (As := [gi 1]) (b := 148) (st := []) (mc1 := 0) (mc := 0) (ms1 := 0) (ms := 0) (by rfl) rfl (c := 11) (N := 46) (by rfl) (by decide) (by rfl) (gcn 154 (by decide)).1 (gcn 154 (by decide)).2 rfl (Nat.le_of_ble_eq_true rfl) (by omega) (cM_finds hsz (n := n - 1) (by omega) mi ml 1 (by decide) (by decide)) ?_
                        rintro _ _ ⟨rfl, rfl⟩
                        refine Go.run hsz hn1 0 (pc' := 122) (lv' := [some (gr 148), some (gi x), some (gi y), some (gi z), some (gi w), some (gi 1), none]) (st' := [gi (-1000002)]) (M' := gw (mFd mi 1) ml) rfl ?_
                        refine Go.iret (by rfl) ?_
                        first | (exact Or.inl ⟨by omega, rfl, rfl⟩) | (exact Or.inr (Or.inl ⟨by omega, rfl, rfl⟩)) | (exact Or.inr (Or.inr (⟨by omega, rfl, rfl⟩)))
                    · exact absurd kq19 (by decide)
def mPar (mi : Nat → Nat → Int) (x y z w : Int) : Nat → Nat → Int := gu (gu (gu (gu (gu (gu (gu (gu (gu (gu (gu (gu (gu mi 152 ((12 * (mi 148 6)).toNat) x) 152 (((12 * (mi 148 6)) + 1).toNat) (y / 100)) 152 (((12 * (mi 148 6)) + 2).toNat) (y % 100)) 152 (((12 * (mi 148 6)) + 3).toNat) z) 152 (((12 * (mi 148 6)) + 4).toNat) (w / 100)) 152 (((12 * (mi 148 6)) + 5).toNat) (w % 100)) 152 (((12 * (mi 148 6)) + 6).toNat) (-1)) 152 (((12 * (mi 148 6)) + 7).toNat) (-1)) 152 (((12 * (mi 148 6)) + 8).toNat) (-1)) 152 (((12 * (mi 148 6)) + 9).toNat) 0) 152 (((12 * (mi 148 6)) + 10).toNat) 0) 152 (((12 * (mi 148 6)) + 11).toNat) 0) 148 6 ((mi 148 6) + 1)
set_option maxRecDepth 100000 in
set_option maxHeartbeats 4000000 in
theorem pM_party {G : gG} (hsz : G.2.2.2.2.2.2 = true) {n : Nat} (hn : 4 ≤ n) (mi : Nat → Nat → Int) (ml : Nat → Nat → Int64) (x y z w : Int) (r_x : rng x) (r_y : rng y) (r_z : rng z) (r_w : rng w) (hv : SV mi)  : gM G 164 n 0 0 [gr 148, gi x, gi y, gi z, gi w] (gw mi ml) (fun r M => gE (¬ ((0 ≤ x ∧ x ≤ 4) ∧ 0 ≤ y ∧ (1 ≤ y / 100 ∧ y / 100 ≤ 30) ∧ (0 ≤ y % 100 ∧ y % 100 ≤ 32) ∧ (0 ≤ z ∧ z ≤ 7) ∧ 0 ≤ w ∧ (mi 148 0 ≤ w / 100 ∧ w / 100 ≤ 99) ∧ (1 ≤ w % 100 ∧ w % 100 ≤ 30) ∧ w / 100 + w % 100 ≤ 100)) (-1000001) (mFd mi 0) (ml) r M ∨ gE (((0 ≤ x ∧ x ≤ 4) ∧ 0 ≤ y ∧ (1 ≤ y / 100 ∧ y / 100 ≤ 30) ∧ (0 ≤ y % 100 ∧ y % 100 ≤ 32) ∧ (0 ≤ z ∧ z ≤ 7) ∧ 0 ≤ w ∧ (mi 148 0 ≤ w / 100 ∧ w / 100 ≤ 99) ∧ (1 ≤ w % 100 ∧ w % 100 ≤ 30) ∧ w / 100 + w % 100 ≤ 100) ∧ mi 148 6 = 24) (-1000002) (mFd mi 1) (ml) r M ∨ gE (((0 ≤ x ∧ x ≤ 4) ∧ 0 ≤ y ∧ (1 ≤ y / 100 ∧ y / 100 ≤ 30) ∧ (0 ≤ y % 100 ∧ y % 100 ≤ 32) ∧ (0 ≤ z ∧ z ≤ 7) ∧ 0 ≤ w ∧ (mi 148 0 ≤ w / 100 ∧ w / 100 ≤ 99) ∧ (1 ≤ w % 100 ∧ w % 100 ≤ 30) ∧ w / 100 + w % 100 ≤ 100) ∧ ¬ mi 148 6 = 24) (((mi 148 6) + 1) - 1) (mPar mi x y z w) (ml) r M) := by
  have hn1 : 1 ≤ n := by omega
  obtain ⟨hR, ht, hp, hq, hP, hQ⟩ := id hv
  have q_x : -2147483648 ≤ x ∧ x < 2147483648 := r_x
  have q_y : -2147483648 ≤ y ∧ y < 2147483648 := r_y
  have q_z : -2147483648 ≤ z ∧ z < 2147483648 := r_z
  have q_w : -2147483648 ≤ w ∧ w < 2147483648 := r_w
  refine gM.of mX12_party okX12_party (gcp 164 (by decide)).1 (gcp 164 (by decide)).2 (Nat.le_of_ble_eq_true rfl) ?_
  refine Go.run hsz hn1 3 (pc' := 3) (lv' := [some (gr 148), some (gi x), some (gi y), some (gi z), some (gi w), none, none]) (st' := [gi 4, gi 0, gi x]) (M' := gw mi ml) rfl ?_
  refine Go.callS (As := [gi x, gi 0, gi 4]) (st := []) (mc1 := 0) (mc := 0) (ms1 := 0) (ms := 0) (by rfl) rfl (gcn 153 (by decide)).1 (gcn 153 (by decide)).2 (Nat.le_of_ble_eq_true rfl) (by omega) (cM_in hsz (n := n - 1) (by omega) mi ml x 0 4 r_x ⟨by decide, by decide⟩ ⟨by decide, by decide⟩) ?_
  rintro _ _ ⟨rfl, rfl⟩
  refine Go.run hsz hn1 0 (pc' := 6) (lv' := [some (gr 148), some (gi x), some (gi y), some (gi z), some (gi w), none, none]) (st' := [gi (b2 (0 ≤ x ∧ x ≤ 4))]) (M' := gw mi ml) rfl ?_
  refine Go.if_eq (by rfl) (b2_rng _) (fun kq1 => ?_) (fun kq1 => ?_)
  · replace kq1 := b2_neg kq1
    refine Go.run hsz hn1 3 (pc' := 63) (lv' := [some (gr 148), some (gi x), some (gi y), some (gi z), some (gi w), some (gi 0), none]) (st' := [gi 0]) (M' := gw mi ml) rfl ?_
    refine Go.if_eq (by rfl) ⟨by decide, by decide⟩ (fun kq2 => ?_) (fun kq2 => ?_)
    · refine Go.run hsz hn1 3 (pc' := 122) (lv' := [some (gr 148), some (gi x), some (gi y), some (gi z), some (gi w), some (gi 0), none]) (st' := [gi 0]) (M' := gw mi ml) rfl ?_
      refine Go.if_ne (by rfl) ⟨by decide, by decide⟩ (fun kq3 => ?_) (fun kq3 => ?_)
      · exact absurd kq3 (by decide)
      · refine Go.run hsz hn1 2 (pc' := 127) (lv' := [some (gr 148), some (gi x), some (gi y), some (gi z), some (gi w), some (gi 0), none]) (st' := [gi 0, gr 148]) (M' := gw mi ml) rfl ?_
        refine Go.callV (As := [gi 0]) (b := 148) (st := []) (mc1 := 0) (mc := 0) (ms1 := 0) (ms := 0) (by rfl) rfl (c := 11) (N := 46) (by rfl) (by decide) (by rfl) (gcn 154 (by decide)).1 (gcn 154 (by decide)).2 rfl (Nat.le_of_ble_eq_true rfl) (by omega) (cM_finds hsz (n := n - 1) (by omega) mi ml 0 (by decide) (by decide)) ?_
        rintro _ _ ⟨rfl, rfl⟩
        refine Go.run hsz hn1 0 (pc' := 130) (lv' := [some (gr 148), some (gi x), some (gi y), some (gi z), some (gi w), some (gi 0), none]) (st' := [gi (-1000001)]) (M' := gw (mFd mi 0) ml) rfl ?_
        refine Go.iret (by rfl) ?_
        first | (exact Or.inl ⟨by omega, rfl, rfl⟩) | (exact Or.inr (Or.inl ⟨by omega, rfl, rfl⟩)) | (exact Or.inr (Or.inr (⟨by omega, rfl, rfl⟩)))
    · exact absurd kq2 (by decide)
  · replace kq1 := b2_pos kq1
    refine Go.run hsz hn1 1 (pc' := 10) (lv' := [some (gr 148), some (gi x), some (gi y), some (gi z), some (gi w), none, none]) (st' := [gi y]) (M' := gw mi ml) rfl ?_
    refine Go.if_lt (by rfl) r_y (fun kq4 => ?_) (fun kq4 => ?_)
    · refine Go.run hsz hn1 3 (pc' := 63) (lv' := [some (gr 148), some (gi x), some (gi y), some (gi z), some (gi w), some (gi 0), none]) (st' := [gi 0]) (M' := gw mi ml) rfl ?_
      refine Go.if_eq (by rfl) ⟨by decide, by decide⟩ (fun kq5 => ?_) (fun kq5 => ?_)
      · refine Go.run hsz hn1 3 (pc' := 122) (lv' := [some (gr 148), some (gi x), some (gi y), some (gi z), some (gi w), some (gi 0), none]) (st' := [gi 0]) (M' := gw mi ml) rfl ?_
        refine Go.if_ne (by rfl) ⟨by decide, by decide⟩ (fun kq6 => ?_) (fun kq6 => ?_)
        · exact absurd kq6 (by decide)
        · refine Go.run hsz hn1 2 (pc' := 127) (lv' := [some (gr 148), some (gi x), some (gi y), some (gi z), some (gi w), some (gi 0), none]) (st' := [gi 0, gr 148]) (M' := gw mi ml) rfl ?_
          refine Go.callV (As := [gi 0]) (b := 148) (st := []) (mc1 := 0) (mc := 0) (ms1 := 0) (ms := 0) (by rfl) rfl (c := 11) (N := 46) (by rfl) (by decide) (by rfl) (gcn 154 (by decide)).1 (gcn 154 (by decide)).2 rfl (Nat.le_of_ble_eq_true rfl) (by omega) (cM_finds hsz (n := n - 1) (by omega) mi ml 0 (by decide) (by decide)) ?_
          rintro _ _ ⟨rfl, rfl⟩
          refine Go.run hsz hn1 0 (pc' := 130) (lv' := [some (gr 148), some (gi x), some (gi y), some (gi z), some (gi w), some (gi 0), none]) (st' := [gi (-1000001)]) (M' := gw (mFd mi 0) ml) rfl ?_
          refine Go.iret (by rfl) ?_
          first | (exact Or.inl ⟨by omega, rfl, rfl⟩) | (exact Or.inr (Or.inl ⟨by omega, rfl, rfl⟩)) | (exact Or.inr (Or.inr (⟨by omega, rfl, rfl⟩)))
      · exact absurd kq5 (by decide)
    · refine Go.run hsz hn1 2 (pc' := 16) (lv' := [some (gr 148), some (gi x), some (gi y), some (gi z), some (gi w), none, none]) (st' := [gi 100, gi y]) (M' := gw mi ml) rfl ?_
      refine Go.idivN (by rfl) r_y (by decide) (by omega) ?_
      refine Go.run hsz hn1 2 (pc' := 20) (lv' := [some (gr 148), some (gi x), some (gi y), some (gi z), some (gi w), none, none]) (st' := [gi 30, gi 1, gi (y / 100)]) (M' := gw mi ml) rfl ?_
      refine Go.callS (As := [gi (y / 100), gi 1, gi 30]) (st := []) (mc1 := 0) (mc := 0) (ms1 := 0) (ms := 0) (by rfl) rfl (gcn 153 (by decide)).1 (gcn 153 (by decide)).2 (Nat.le_of_ble_eq_true rfl) (by omega) (cM_in hsz (n := n - 1) (by omega) mi ml (y / 100) 1 30 ⟨by omega, by omega⟩ ⟨by decide, by decide⟩ ⟨by decide, by decide⟩) ?_
      rintro _ _ ⟨rfl, rfl⟩
      refine Go.run hsz hn1 0 (pc' := 23) (lv' := [some (gr 148), some (gi x), some (gi y), some (gi z), some (gi w), none, none]) (st' := [gi (b2 (1 ≤ y / 100 ∧ y / 100 ≤ 30))]) (M' := gw mi ml) rfl ?_
      refine Go.if_eq (by rfl) (b2_rng _) (fun kq7 => ?_) (fun kq7 => ?_)
      · replace kq7 := b2_neg kq7
        refine Go.run hsz hn1 3 (pc' := 63) (lv' := [some (gr 148), some (gi x), some (gi y), some (gi z), some (gi w), some (gi 0), none]) (st' := [gi 0]) (M' := gw mi ml) rfl ?_
        refine Go.if_eq (by rfl) ⟨by decide, by decide⟩ (fun kq8 => ?_) (fun kq8 => ?_)
        · refine Go.run hsz hn1 3 (pc' := 122) (lv' := [some (gr 148), some (gi x), some (gi y), some (gi z), some (gi w), some (gi 0), none]) (st' := [gi 0]) (M' := gw mi ml) rfl ?_
          refine Go.if_ne (by rfl) ⟨by decide, by decide⟩ (fun kq9 => ?_) (fun kq9 => ?_)
          · exact absurd kq9 (by decide)
          · refine Go.run hsz hn1 2 (pc' := 127) (lv' := [some (gr 148), some (gi x), some (gi y), some (gi z), some (gi w), some (gi 0), none]) (st' := [gi 0, gr 148]) (M' := gw mi ml) rfl ?_
            refine Go.callV (As := [gi 0]) (b := 148) (st := []) (mc1 := 0) (mc := 0) (ms1 := 0) (ms := 0) (by rfl) rfl (c := 11) (N := 46) (by rfl) (by decide) (by rfl) (gcn 154 (by decide)).1 (gcn 154 (by decide)).2 rfl (Nat.le_of_ble_eq_true rfl) (by omega) (cM_finds hsz (n := n - 1) (by omega) mi ml 0 (by decide) (by decide)) ?_
            rintro _ _ ⟨rfl, rfl⟩
            refine Go.run hsz hn1 0 (pc' := 130) (lv' := [some (gr 148), some (gi x), some (gi y), some (gi z), some (gi w), some (gi 0), none]) (st' := [gi (-1000001)]) (M' := gw (mFd mi 0) ml) rfl ?_
            refine Go.iret (by rfl) ?_
            first | (exact Or.inl ⟨by omega, rfl, rfl⟩) | (exact Or.inr (Or.inl ⟨by omega, rfl, rfl⟩)) | (exact Or.inr (Or.inr (⟨by omega, rfl, rfl⟩)))
        · exact absurd kq8 (by decide)
      · replace kq7 := b2_pos kq7
        refine Go.run hsz hn1 2 (pc' := 29) (lv' := [some (gr 148), some (gi x), some (gi y), some (gi z), some (gi w), none, none]) (st' := [gi 100, gi y]) (M' := gw mi ml) rfl ?_
        refine Go.iremN (by rfl) r_y (by decide) (by omega) ?_
        refine Go.run hsz hn1 2 (pc' := 33) (lv' := [some (gr 148), some (gi x), some (gi y), some (gi z), some (gi w), none, none]) (st' := [gi 32, gi 0, gi (y % 100)]) (M' := gw mi ml) rfl ?_
        refine Go.callS (As := [gi (y % 100), gi 0, gi 32]) (st := []) (mc1 := 0) (mc := 0) (ms1 := 0) (ms := 0) (by rfl) rfl (gcn 153 (by decide)).1 (gcn 153 (by decide)).2 (Nat.le_of_ble_eq_true rfl) (by omega) (cM_in hsz (n := n - 1) (by omega) mi ml (y % 100) 0 32 ⟨by omega, by omega⟩ ⟨by decide, by decide⟩ ⟨by decide, by decide⟩) ?_
        rintro _ _ ⟨rfl, rfl⟩
        refine Go.run hsz hn1 0 (pc' := 36) (lv' := [some (gr 148), some (gi x), some (gi y), some (gi z), some (gi w), none, none]) (st' := [gi (b2 (0 ≤ y % 100 ∧ y % 100 ≤ 32))]) (M' := gw mi ml) rfl ?_
        refine Go.if_eq (by rfl) (b2_rng _) (fun kq10 => ?_) (fun kq10 => ?_)
        · replace kq10 := b2_neg kq10
          refine Go.run hsz hn1 3 (pc' := 63) (lv' := [some (gr 148), some (gi x), some (gi y), some (gi z), some (gi w), some (gi 0), none]) (st' := [gi 0]) (M' := gw mi ml) rfl ?_
          refine Go.if_eq (by rfl) ⟨by decide, by decide⟩ (fun kq11 => ?_) (fun kq11 => ?_)
          · refine Go.run hsz hn1 3 (pc' := 122) (lv' := [some (gr 148), some (gi x), some (gi y), some (gi z), some (gi w), some (gi 0), none]) (st' := [gi 0]) (M' := gw mi ml) rfl ?_
            refine Go.if_ne (by rfl) ⟨by decide, by decide⟩ (fun kq12 => ?_) (fun kq12 => ?_)
            · exact absurd kq12 (by decide)
            · refine Go.run hsz hn1 2 (pc' := 127) (lv' := [some (gr 148), some (gi x), some (gi y), some (gi z), some (gi w), some (gi 0), none]) (st' := [gi 0, gr 148]) (M' := gw mi ml) rfl ?_
              refine Go.callV (As := [gi 0]) (b := 148) (st := []) (mc1 := 0) (mc := 0) (ms1 := 0) (ms := 0) (by rfl) rfl (c := 11) (N := 46) (by rfl) (by decide) (by rfl) (gcn 154 (by decide)).1 (gcn 154 (by decide)).2 rfl (Nat.le_of_ble_eq_true rfl) (by omega) (cM_finds hsz (n := n - 1) (by omega) mi ml 0 (by decide) (by decide)) ?_
              rintro _ _ ⟨rfl, rfl⟩
              refine Go.run hsz hn1 0 (pc' := 130) (lv' := [some (gr 148), some (gi x), some (gi y), some (gi z), some (gi w), some (gi 0), none]) (st' := [gi (-1000001)]) (M' := gw (mFd mi 0) ml) rfl ?_
              refine Go.iret (by rfl) ?_
              first | (exact Or.inl ⟨by omega, rfl, rfl⟩) | (exact Or.inr (Or.inl ⟨by omega, rfl, rfl⟩)) | (exact Or.inr (Or.inr (⟨by omega, rfl, rfl⟩)))
          · exact absurd kq11 (by decide)
        · replace kq10 := b2_pos kq10
          refine Go.run hsz hn1 3 (pc' := 43) (lv' := [some (gr 148), some (gi x), some (gi y), some (gi z), some (gi w), none, none]) (st' := [gi 7, gi 0, gi z]) (M' := gw mi ml) rfl ?_
          refine Go.callS (As := [gi z, gi 0, gi 7]) (st := []) (mc1 := 0) (mc := 0) (ms1 := 0) (ms := 0) (by rfl) rfl (gcn 153 (by decide)).1 (gcn 153 (by decide)).2 (Nat.le_of_ble_eq_true rfl) (by omega) (cM_in hsz (n := n - 1) (by omega) mi ml z 0 7 r_z ⟨by decide, by decide⟩ ⟨by decide, by decide⟩) ?_
          rintro _ _ ⟨rfl, rfl⟩
          refine Go.run hsz hn1 0 (pc' := 46) (lv' := [some (gr 148), some (gi x), some (gi y), some (gi z), some (gi w), none, none]) (st' := [gi (b2 (0 ≤ z ∧ z ≤ 7))]) (M' := gw mi ml) rfl ?_
          refine Go.if_eq (by rfl) (b2_rng _) (fun kq13 => ?_) (fun kq13 => ?_)
          · replace kq13 := b2_neg kq13
            refine Go.run hsz hn1 3 (pc' := 63) (lv' := [some (gr 148), some (gi x), some (gi y), some (gi z), some (gi w), some (gi 0), none]) (st' := [gi 0]) (M' := gw mi ml) rfl ?_
            refine Go.if_eq (by rfl) ⟨by decide, by decide⟩ (fun kq14 => ?_) (fun kq14 => ?_)
            · refine Go.run hsz hn1 3 (pc' := 122) (lv' := [some (gr 148), some (gi x), some (gi y), some (gi z), some (gi w), some (gi 0), none]) (st' := [gi 0]) (M' := gw mi ml) rfl ?_
              refine Go.if_ne (by rfl) ⟨by decide, by decide⟩ (fun kq15 => ?_) (fun kq15 => ?_)
              · exact absurd kq15 (by decide)
              · refine Go.run hsz hn1 2 (pc' := 127) (lv' := [some (gr 148), some (gi x), some (gi y), some (gi z), some (gi w), some (gi 0), none]) (st' := [gi 0, gr 148]) (M' := gw mi ml) rfl ?_
                refine Go.callV (As := [gi 0]) (b := 148) (st := []) (mc1 := 0) (mc := 0) (ms1 := 0) (ms := 0) (by rfl) rfl (c := 11) (N := 46) (by rfl) (by decide) (by rfl) (gcn 154 (by decide)).1 (gcn 154 (by decide)).2 rfl (Nat.le_of_ble_eq_true rfl) (by omega) (cM_finds hsz (n := n - 1) (by omega) mi ml 0 (by decide) (by decide)) ?_
                rintro _ _ ⟨rfl, rfl⟩
                refine Go.run hsz hn1 0 (pc' := 130) (lv' := [some (gr 148), some (gi x), some (gi y), some (gi z), some (gi w), some (gi 0), none]) (st' := [gi (-1000001)]) (M' := gw (mFd mi 0) ml) rfl ?_
                refine Go.iret (by rfl) ?_
                first | (exact Or.inl ⟨by omega, rfl, rfl⟩) | (exact Or.inr (Or.inl ⟨by omega, rfl, rfl⟩)) | (exact Or.inr (Or.inr (⟨by omega, rfl, rfl⟩)))
            · exact absurd kq14 (by decide)
          · replace kq13 := b2_pos kq13
            refine Go.run hsz hn1 1 (pc' := 51) (lv' := [some (gr 148), some (gi x), some (gi y), some (gi z), some (gi w), none, none]) (st' := [gi w]) (M' := gw mi ml) rfl ?_
            refine Go.if_lt (by rfl) r_w (fun kq16 => ?_) (fun kq16 => ?_)
            · refine Go.run hsz hn1 3 (pc' := 63) (lv' := [some (gr 148), some (gi x), some (gi y), some (gi z), some (gi w), some (gi 0), none]) (st' := [gi 0]) (M' := gw mi ml) rfl ?_
              refine Go.if_eq (by rfl) ⟨by decide, by decide⟩ (fun kq17 => ?_) (fun kq17 => ?_)
              · refine Go.run hsz hn1 3 (pc' := 122) (lv' := [some (gr 148), some (gi x), some (gi y), some (gi z), some (gi w), some (gi 0), none]) (st' := [gi 0]) (M' := gw mi ml) rfl ?_
                refine Go.if_ne (by rfl) ⟨by decide, by decide⟩ (fun kq18 => ?_) (fun kq18 => ?_)
                · exact absurd kq18 (by decide)
                · refine Go.run hsz hn1 2 (pc' := 127) (lv' := [some (gr 148), some (gi x), some (gi y), some (gi z), some (gi w), some (gi 0), none]) (st' := [gi 0, gr 148]) (M' := gw mi ml) rfl ?_
                  refine Go.callV (As := [gi 0]) (b := 148) (st := []) (mc1 := 0) (mc := 0) (ms1 := 0) (ms := 0) (by rfl) rfl (c := 11) (N := 46) (by rfl) (by decide) (by rfl) (gcn 154 (by decide)).1 (gcn 154 (by decide)).2 rfl (Nat.le_of_ble_eq_true rfl) (by omega) (cM_finds hsz (n := n - 1) (by omega) mi ml 0 (by decide) (by decide)) ?_
                  rintro _ _ ⟨rfl, rfl⟩
                  refine Go.run hsz hn1 0 (pc' := 130) (lv' := [some (gr 148), some (gi x), some (gi y), some (gi z), some (gi w), some (gi 0), none]) (st' := [gi (-1000001)]) (M' := gw (mFd mi 0) ml) rfl ?_
                  refine Go.iret (by rfl) ?_
                  first | (exact Or.inl ⟨by omega, rfl, rfl⟩) | (exact Or.inr (Or.inl ⟨by omega, rfl, rfl⟩)) | (exact Or.inr (Or.inr (⟨by omega, rfl, rfl⟩)))
              · exact absurd kq17 (by decide)
            · refine Go.run hsz hn1 4 (pc' := 63) (lv' := [some (gr 148), some (gi x), some (gi y), some (gi z), some (gi w), some (gi 1), none]) (st' := [gi 1]) (M' := gw mi ml) rfl ?_
              refine Go.if_eq (by rfl) ⟨by decide, by decide⟩ (fun kq19 => ?_) (fun kq19 => ?_)
              · exact absurd kq19 (by decide)
              · refine Go.run hsz hn1 2 (pc' := 70) (lv' := [some (gr 148), some (gi x), some (gi y), some (gi z), some (gi w), some (gi 1), none]) (st' := [gi 100, gi w]) (M' := gw mi ml) rfl ?_
                refine Go.idivN (by rfl) r_w (by decide) (by omega) ?_
                refine Go.run hsz hn1 3 (pc' := 77) (lv' := [some (gr 148), some (gi x), some (gi y), some (gi z), some (gi w), some (gi 1), none]) (st' := [gi 99, gi (mi 148 0), gi (w / 100)]) (M' := gw mi ml) rfl ?_
                refine Go.callS (As := [gi (w / 100), gi (mi 148 0), gi 99]) (st := []) (mc1 := 0) (mc := 0) (ms1 := 0) (ms := 0) (by rfl) rfl (gcn 153 (by decide)).1 (gcn 153 (by decide)).2 (Nat.le_of_ble_eq_true rfl) (by omega) (cM_in hsz (n := n - 1) (by omega) mi ml (w / 100) (mi 148 0) 99 ⟨by omega, by omega⟩ (hR _ _) ⟨by decide, by decide⟩) ?_
                rintro _ _ ⟨rfl, rfl⟩
                refine Go.run hsz hn1 0 (pc' := 80) (lv' := [some (gr 148), some (gi x), some (gi y), some (gi z), some (gi w), some (gi 1), none]) (st' := [gi (b2 (mi 148 0 ≤ w / 100 ∧ w / 100 ≤ 99))]) (M' := gw mi ml) rfl ?_
                refine Go.if_eq (by rfl) (b2_rng _) (fun kq20 => ?_) (fun kq20 => ?_)
                · replace kq20 := b2_neg kq20
                  refine Go.run hsz hn1 3 (pc' := 122) (lv' := [some (gr 148), some (gi x), some (gi y), some (gi z), some (gi w), some (gi 0), none]) (st' := [gi 0]) (M' := gw mi ml) rfl ?_
                  refine Go.if_ne (by rfl) ⟨by decide, by decide⟩ (fun kq21 => ?_) (fun kq21 => ?_)
                  · exact absurd kq21 (by decide)
                  · refine Go.run hsz hn1 2 (pc' := 127) (lv' := [some (gr 148), some (gi x), some (gi y), some (gi z), some (gi w), some (gi 0), none]) (st' := [gi 0, gr 148]) (M' := gw mi ml) rfl ?_
                    refine Go.callV (As := [gi 0]) (b := 148) (st := []) (mc1 := 0) (mc := 0) (ms1 := 0) (ms := 0) (by rfl) rfl (c := 11) (N := 46) (by rfl) (by decide) (by rfl) (gcn 154 (by decide)).1 (gcn 154 (by decide)).2 rfl (Nat.le_of_ble_eq_true rfl) (by omega) (cM_finds hsz (n := n - 1) (by omega) mi ml 0 (by decide) (by decide)) ?_
                    rintro _ _ ⟨rfl, rfl⟩
                    refine Go.run hsz hn1 0 (pc' := 130) (lv' := [some (gr 148), some (gi x), some (gi y), some (gi z), some (gi w), some (gi 0), none]) (st' := [gi (-1000001)]) (M' := gw (mFd mi 0) ml) rfl ?_
                    refine Go.iret (by rfl) ?_
                    first | (exact Or.inl ⟨by omega, rfl, rfl⟩) | (exact Or.inr (Or.inl ⟨by omega, rfl, rfl⟩)) | (exact Or.inr (Or.inr (⟨by omega, rfl, rfl⟩)))
                · replace kq20 := b2_pos kq20
                  refine Go.run hsz hn1 2 (pc' := 87) (lv' := [some (gr 148), some (gi x), some (gi y), some (gi z), some (gi w), some (gi 1), none]) (st' := [gi 100, gi w]) (M' := gw mi ml) rfl ?_
                  refine Go.iremN (by rfl) r_w (by decide) (by omega) ?_
                  refine Go.run hsz hn1 2 (pc' := 91) (lv' := [some (gr 148), some (gi x), some (gi y), some (gi z), some (gi w), some (gi 1), none]) (st' := [gi 30, gi 1, gi (w % 100)]) (M' := gw mi ml) rfl ?_
                  refine Go.callS (As := [gi (w % 100), gi 1, gi 30]) (st := []) (mc1 := 0) (mc := 0) (ms1 := 0) (ms := 0) (by rfl) rfl (gcn 153 (by decide)).1 (gcn 153 (by decide)).2 (Nat.le_of_ble_eq_true rfl) (by omega) (cM_in hsz (n := n - 1) (by omega) mi ml (w % 100) 1 30 ⟨by omega, by omega⟩ ⟨by decide, by decide⟩ ⟨by decide, by decide⟩) ?_
                  rintro _ _ ⟨rfl, rfl⟩
                  refine Go.run hsz hn1 0 (pc' := 94) (lv' := [some (gr 148), some (gi x), some (gi y), some (gi z), some (gi w), some (gi 1), none]) (st' := [gi (b2 (1 ≤ w % 100 ∧ w % 100 ≤ 30))]) (M' := gw mi ml) rfl ?_
                  refine Go.if_eq (by rfl) (b2_rng _) (fun kq22 => ?_) (fun kq22 => ?_)
                  · replace kq22 := b2_neg kq22
                    refine Go.run hsz hn1 3 (pc' := 122) (lv' := [some (gr 148), some (gi x), some (gi y), some (gi z), some (gi w), some (gi 0), none]) (st' := [gi 0]) (M' := gw mi ml) rfl ?_
                    refine Go.if_ne (by rfl) ⟨by decide, by decide⟩ (fun kq23 => ?_) (fun kq23 => ?_)
                    · exact absurd kq23 (by decide)
                    · refine Go.run hsz hn1 2 (pc' := 127) (lv' := [some (gr 148), some (gi x), some (gi y), some (gi z), some (gi w), some (gi 0), none]) (st' := [gi 0, gr 148]) (M' := gw mi ml) rfl ?_
                      refine Go.callV (As := [gi 0]) (b := 148) (st := []) (mc1 := 0) (mc := 0) (ms1 := 0) (ms := 0) (by rfl) rfl (c := 11) (N := 46) (by rfl) (by decide) (by rfl) (gcn 154 (by decide)).1 (gcn 154 (by decide)).2 rfl (Nat.le_of_ble_eq_true rfl) (by omega) (cM_finds hsz (n := n - 1) (by omega) mi ml 0 (by decide) (by decide)) ?_
                      rintro _ _ ⟨rfl, rfl⟩
                      refine Go.run hsz hn1 0 (pc' := 130) (lv' := [some (gr 148), some (gi x), some (gi y), some (gi z), some (gi w), some (gi 0), none]) (st' := [gi (-1000001)]) (M' := gw (mFd mi 0) ml) rfl ?_
                      refine Go.iret (by rfl) ?_
                      first | (exact Or.inl ⟨by omega, rfl, rfl⟩) | (exact Or.inr (Or.inl ⟨by omega, rfl, rfl⟩)) | (exact Or.inr (Or.inr (⟨by omega, rfl, rfl⟩)))
                  · replace kq22 := b2_pos kq22
                    refine Go.run hsz hn1 2 (pc' := 101) (lv' := [some (gr 148), some (gi x), some (gi y), some (gi z), some (gi w), some (gi 1), none]) (st' := [gi 100, gi w]) (M' := gw mi ml) rfl ?_
                    refine Go.idivN (by rfl) r_w (by decide) (by omega) ?_
                    refine Go.run hsz hn1 2 (pc' := 106) (lv' := [some (gr 148), some (gi x), some (gi y), some (gi z), some (gi w), some (gi 1), none]) (st' := [gi 100, gi w, gi (w / 100)]) (M' := gw mi ml) rfl ?_
                    refine Go.iremN (by rfl) r_w (by decide) (by omega) ?_
                    refine Go.run hsz hn1 2 (pc' := 110) (lv' := [some (gr 148), some (gi x), some (gi y), some (gi z), some (gi w), some (gi 1), none]) (st' := [gi 100, gi ((w / 100) + (w % 100))]) (M' := gw mi ml) rfl ?_
                    refine Go.icmp_gt (by rfl) ⟨by omega, by omega⟩ ⟨by decide, by decide⟩ (fun kq24 => ?_) (fun kq24 => ?_)
                    · refine Go.run hsz hn1 3 (pc' := 122) (lv' := [some (gr 148), some (gi x), some (gi y), some (gi z), some (gi w), some (gi 0), none]) (st' := [gi 0]) (M' := gw mi ml) rfl ?_
                      refine Go.if_ne (by rfl) ⟨by decide, by decide⟩ (fun kq25 => ?_) (fun kq25 => ?_)
                      · exact absurd kq25 (by decide)
                      · refine Go.run hsz hn1 2 (pc' := 127) (lv' := [some (gr 148), some (gi x), some (gi y), some (gi z), some (gi w), some (gi 0), none]) (st' := [gi 0, gr 148]) (M' := gw mi ml) rfl ?_
                        refine Go.callV (As := [gi 0]) (b := 148) (st := []) (mc1 := 0) (mc := 0) (ms1 := 0) (ms := 0) (by rfl) rfl (c := 11) (N := 46) (by rfl) (by decide) (by rfl) (gcn 154 (by decide)).1 (gcn 154 (by decide)).2 rfl (Nat.le_of_ble_eq_true rfl) (by omega) (cM_finds hsz (n := n - 1) (by omega) mi ml 0 (by decide) (by decide)) ?_
                        rintro _ _ ⟨rfl, rfl⟩
                        refine Go.run hsz hn1 0 (pc' := 130) (lv' := [some (gr 148), some (gi x), some (gi y), some (gi z), some (gi w), some (gi 0), none]) (st' := [gi (-1000001)]) (M' := gw (mFd mi 0) ml) rfl ?_
                        refine Go.iret (by rfl) ?_
                        first | (exact Or.inl ⟨by omega, rfl, rfl⟩) | (exact Or.inr (Or.inl ⟨by omega, rfl, rfl⟩)) | (exact Or.inr (Or.inr (⟨by omega, rfl, rfl⟩)))
                    · refine Go.run hsz hn1 4 (pc' := 122) (lv' := [some (gr 148), some (gi x), some (gi y), some (gi z), some (gi w), some (gi 1), none]) (st' := [gi 1]) (M' := gw mi ml) rfl ?_
                      refine Go.if_ne (by rfl) ⟨by decide, by decide⟩ (fun kq26 => ?_) (fun kq26 => ?_)
                      · refine Go.run hsz hn1 3 (pc' := 137) (lv' := [some (gr 148), some (gi x), some (gi y), some (gi z), some (gi w), some (gi 1), none]) (st' := [gi 24, gi (mi 148 6)]) (M' := gw mi ml) rfl ?_
                        refine Go.icmp_ne (by rfl) (hR _ _) ⟨by decide, by decide⟩ (fun kq27 => ?_) (fun kq27 => ?_)
                        · refine Go.run hsz hn1 9 (pc' := 162) (lv' := [some (gr 148), some (gi x), some (gi y), some (gi z), some (gi w), some (gi 1), some (gi (12 * (mi 148 6)))]) (st' := [gi x, gi (12 * (mi 148 6)), gr 152]) (M' := gw mi ml) rfl ?_
                          refine Go.iast (by rfl) (N := 288) (by rfl) (by omega) (by omega) (by decide) ?_
                          refine Go.run hsz hn1 7 (pc' := 174) (lv' := [some (gr 148), some (gi x), some (gi y), some (gi z), some (gi w), some (gi 1), some (gi (12 * (mi 148 6)))]) (st' := [gi 100, gi y, gi ((12 * (mi 148 6)) + 1), gr 152]) (M' := gw (gu mi 152 ((12 * (mi 148 6)).toNat) x) ml) rfl ?_
                          refine Go.idivN (by rfl) r_y (by decide) (by omega) ?_
                          refine Go.run hsz hn1 0 (pc' := 175) (lv' := [some (gr 148), some (gi x), some (gi y), some (gi z), some (gi w), some (gi 1), some (gi (12 * (mi 148 6)))]) (st' := [gi (y / 100), gi ((12 * (mi 148 6)) + 1), gr 152]) (M' := gw (gu mi 152 ((12 * (mi 148 6)).toNat) x) ml) rfl ?_
                          refine Go.iast (by rfl) (N := 288) (by rfl) (by omega) (by omega) (by decide) ?_
                          refine Go.run hsz hn1 7 (pc' := 187) (lv' := [some (gr 148), some (gi x), some (gi y), some (gi z), some (gi w), some (gi 1), some (gi (12 * (mi 148 6)))]) (st' := [gi 100, gi y, gi ((12 * (mi 148 6)) + 2), gr 152]) (M' := gw (gu (gu mi 152 ((12 * (mi 148 6)).toNat) x) 152 (((12 * (mi 148 6)) + 1).toNat) (y / 100)) ml) rfl ?_
                          refine Go.iremN (by rfl) r_y (by decide) (by omega) ?_
                          refine Go.run hsz hn1 0 (pc' := 188) (lv' := [some (gr 148), some (gi x), some (gi y), some (gi z), some (gi w), some (gi 1), some (gi (12 * (mi 148 6)))]) (st' := [gi (y % 100), gi ((12 * (mi 148 6)) + 2), gr 152]) (M' := gw (gu (gu mi 152 ((12 * (mi 148 6)).toNat) x) 152 (((12 * (mi 148 6)) + 1).toNat) (y / 100)) ml) rfl ?_
                          refine Go.iast (by rfl) (N := 288) (by rfl) (by omega) (by omega) (by decide) ?_
                          refine Go.run hsz hn1 6 (pc' := 198) (lv' := [some (gr 148), some (gi x), some (gi y), some (gi z), some (gi w), some (gi 1), some (gi (12 * (mi 148 6)))]) (st' := [gi z, gi ((12 * (mi 148 6)) + 3), gr 152]) (M' := gw (gu (gu (gu mi 152 ((12 * (mi 148 6)).toNat) x) 152 (((12 * (mi 148 6)) + 1).toNat) (y / 100)) 152 (((12 * (mi 148 6)) + 2).toNat) (y % 100)) ml) rfl ?_
                          refine Go.iast (by rfl) (N := 288) (by rfl) (by omega) (by omega) (by decide) ?_
                          refine Go.run hsz hn1 7 (pc' := 211) (lv' := [some (gr 148), some (gi x), some (gi y), some (gi z), some (gi w), some (gi 1), some (gi (12 * (mi 148 6)))]) (st' := [gi 100, gi w, gi ((12 * (mi 148 6)) + 4), gr 152]) (M' := gw (gu (gu (gu (gu mi 152 ((12 * (mi 148 6)).toNat) x) 152 (((12 * (mi 148 6)) + 1).toNat) (y / 100)) 152 (((12 * (mi 148 6)) + 2).toNat) (y % 100)) 152 (((12 * (mi 148 6)) + 3).toNat) z) ml) rfl ?_
                          refine Go.idivN (by rfl) r_w (by decide) (by omega) ?_
                          refine Go.run hsz hn1 0 (pc' := 212) (lv' := [some (gr 148), some (gi x), some (gi y), some (gi z), some (gi w), some (gi 1), some (gi (12 * (mi 148 6)))]) (st' := [gi (w / 100), gi ((12 * (mi 148 6)) + 4), gr 152]) (M' := gw (gu (gu (gu (gu mi 152 ((12 * (mi 148 6)).toNat) x) 152 (((12 * (mi 148 6)) + 1).toNat) (y / 100)) 152 (((12 * (mi 148 6)) + 2).toNat) (y % 100)) 152 (((12 * (mi 148 6)) + 3).toNat) z) ml) rfl ?_
                          refine Go.iast (by rfl) (N := 288) (by rfl) (by omega) (by omega) (by decide) ?_
                          refine Go.run hsz hn1 7 (pc' := 225) (lv' := [some (gr 148), some (gi x), some (gi y), some (gi z), some (gi w), some (gi 1), some (gi (12 * (mi 148 6)))]) (st' := [gi 100, gi w, gi ((12 * (mi 148 6)) + 5), gr 152]) (M' := gw (gu (gu (gu (gu (gu mi 152 ((12 * (mi 148 6)).toNat) x) 152 (((12 * (mi 148 6)) + 1).toNat) (y / 100)) 152 (((12 * (mi 148 6)) + 2).toNat) (y % 100)) 152 (((12 * (mi 148 6)) + 3).toNat) z) 152 (((12 * (mi 148 6)) + 4).toNat) (w / 100)) ml) rfl ?_
                          refine Go.iremN (by rfl) r_w (by decide) (by omega) ?_
                          refine Go.run hsz hn1 0 (pc' := 226) (lv' := [some (gr 148), some (gi x), some (gi y), some (gi z), some (gi w), some (gi 1), some (gi (12 * (mi 148 6)))]) (st' := [gi (w % 100), gi ((12 * (mi 148 6)) + 5), gr 152]) (M' := gw (gu (gu (gu (gu (gu mi 152 ((12 * (mi 148 6)).toNat) x) 152 (((12 * (mi 148 6)) + 1).toNat) (y / 100)) 152 (((12 * (mi 148 6)) + 2).toNat) (y % 100)) 152 (((12 * (mi 148 6)) + 3).toNat) z) 152 (((12 * (mi 148 6)) + 4).toNat) (w / 100)) ml) rfl ?_
                          refine Go.iast (by rfl) (N := 288) (by rfl) (by omega) (by omega) (by decide) ?_
                          refine Go.run hsz hn1 6 (pc' := 237) (lv' := [some (gr 148), some (gi x), some (gi y), some (gi z), some (gi w), some (gi 1), some (gi (12 * (mi 148 6)))]) (st' := [gi (-1), gi ((12 * (mi 148 6)) + 6), gr 152]) (M' := gw (gu (gu (gu (gu (gu (gu mi 152 ((12 * (mi 148 6)).toNat) x) 152 (((12 * (mi 148 6)) + 1).toNat) (y / 100)) 152 (((12 * (mi 148 6)) + 2).toNat) (y % 100)) 152 (((12 * (mi 148 6)) + 3).toNat) z) 152 (((12 * (mi 148 6)) + 4).toNat) (w / 100)) 152 (((12 * (mi 148 6)) + 5).toNat) (w % 100)) ml) rfl ?_
                          refine Go.iast (by rfl) (N := 288) (by rfl) (by omega) (by omega) (by decide) ?_
                          refine Go.run hsz hn1 6 (pc' := 248) (lv' := [some (gr 148), some (gi x), some (gi y), some (gi z), some (gi w), some (gi 1), some (gi (12 * (mi 148 6)))]) (st' := [gi (-1), gi ((12 * (mi 148 6)) + 7), gr 152]) (M' := gw (gu (gu (gu (gu (gu (gu (gu mi 152 ((12 * (mi 148 6)).toNat) x) 152 (((12 * (mi 148 6)) + 1).toNat) (y / 100)) 152 (((12 * (mi 148 6)) + 2).toNat) (y % 100)) 152 (((12 * (mi 148 6)) + 3).toNat) z) 152 (((12 * (mi 148 6)) + 4).toNat) (w / 100)) 152 (((12 * (mi 148 6)) + 5).toNat) (w % 100)) 152 (((12 * (mi 148 6)) + 6).toNat) (-1)) ml) rfl ?_
                          refine Go.iast (by rfl) (N := 288) (by rfl) (by omega) (by omega) (by decide) ?_
                          refine Go.run hsz hn1 6 (pc' := 259) (lv' := [some (gr 148), some (gi x), some (gi y), some (gi z), some (gi w), some (gi 1), some (gi (12 * (mi 148 6)))]) (st' := [gi (-1), gi ((12 * (mi 148 6)) + 8), gr 152]) (M' := gw (gu (gu (gu (gu (gu (gu (gu (gu mi 152 ((12 * (mi 148 6)).toNat) x) 152 (((12 * (mi 148 6)) + 1).toNat) (y / 100)) 152 (((12 * (mi 148 6)) + 2).toNat) (y % 100)) 152 (((12 * (mi 148 6)) + 3).toNat) z) 152 (((12 * (mi 148 6)) + 4).toNat) (w / 100)) 152 (((12 * (mi 148 6)) + 5).toNat) (w % 100)) 152 (((12 * (mi 148 6)) + 6).toNat) (-1)) 152 (((12 * (mi 148 6)) + 7).toNat) (-1)) ml) rfl ?_
                          refine Go.iast (by rfl) (N := 288) (by rfl) (by omega) (by omega) (by decide) ?_
                          refine Go.run hsz hn1 6 (pc' := 270) (lv' := [some (gr 148), some (gi x), some (gi y), some (gi z), some (gi w), some (gi 1), some (gi (12 * (mi 148 6)))]) (st' := [gi 0, gi ((12 * (mi 148 6)) + 9), gr 152]) (M' := gw (gu (gu (gu (gu (gu (gu (gu (gu (gu mi 152 ((12 * (mi 148 6)).toNat) x) 152 (((12 * (mi 148 6)) + 1).toNat) (y / 100)) 152 (((12 * (mi 148 6)) + 2).toNat) (y % 100)) 152 (((12 * (mi 148 6)) + 3).toNat) z) 152 (((12 * (mi 148 6)) + 4).toNat) (w / 100)) 152 (((12 * (mi 148 6)) + 5).toNat) (w % 100)) 152 (((12 * (mi 148 6)) + 6).toNat) (-1)) 152 (((12 * (mi 148 6)) + 7).toNat) (-1)) 152 (((12 * (mi 148 6)) + 8).toNat) (-1)) ml) rfl ?_
                          refine Go.iast (by rfl) (N := 288) (by rfl) (by omega) (by omega) (by decide) ?_
                          refine Go.run hsz hn1 6 (pc' := 281) (lv' := [some (gr 148), some (gi x), some (gi y), some (gi z), some (gi w), some (gi 1), some (gi (12 * (mi 148 6)))]) (st' := [gi 0, gi ((12 * (mi 148 6)) + 10), gr 152]) (M' := gw (gu (gu (gu (gu (gu (gu (gu (gu (gu (gu mi 152 ((12 * (mi 148 6)).toNat) x) 152 (((12 * (mi 148 6)) + 1).toNat) (y / 100)) 152 (((12 * (mi 148 6)) + 2).toNat) (y % 100)) 152 (((12 * (mi 148 6)) + 3).toNat) z) 152 (((12 * (mi 148 6)) + 4).toNat) (w / 100)) 152 (((12 * (mi 148 6)) + 5).toNat) (w % 100)) 152 (((12 * (mi 148 6)) + 6).toNat) (-1)) 152 (((12 * (mi 148 6)) + 7).toNat) (-1)) 152 (((12 * (mi 148 6)) + 8).toNat) (-1)) 152 (((12 * (mi 148 6)) + 9).toNat) 0) ml) rfl ?_
                          refine Go.iast (by rfl) (N := 288) (by rfl) (by omega) (by omega) (by decide) ?_
                          refine Go.run hsz hn1 6 (pc' := 292) (lv' := [some (gr 148), some (gi x), some (gi y), some (gi z), some (gi w), some (gi 1), some (gi (12 * (mi 148 6)))]) (st' := [gi 0, gi ((12 * (mi 148 6)) + 11), gr 152]) (M' := gw (gu (gu (gu (gu (gu (gu (gu (gu (gu (gu (gu mi 152 ((12 * (mi 148 6)).toNat) x) 152 (((12 * (mi 148 6)) + 1).toNat) (y / 100)) 152 (((12 * (mi 148 6)) + 2).toNat) (y % 100)) 152 (((12 * (mi 148 6)) + 3).toNat) z) 152 (((12 * (mi 148 6)) + 4).toNat) (w / 100)) 152 (((12 * (mi 148 6)) + 5).toNat) (w % 100)) 152 (((12 * (mi 148 6)) + 6).toNat) (-1)) 152 (((12 * (mi 148 6)) + 7).toNat) (-1)) 152 (((12 * (mi 148 6)) + 8).toNat) (-1)) 152 (((12 * (mi 148 6)) + 9).toNat) 0) 152 (((12 * (mi 148 6)) + 10).toNat) 0) ml) rfl ?_
                          refine Go.iast (by rfl) (N := 288) (by rfl) (by omega) (by omega) (by decide) ?_
                          refine Go.run hsz hn1 3 (pc' := 298) (lv' := [some (gr 148), some (gi x), some (gi y), some (gi z), some (gi w), some (gi 1), some (gi (12 * (mi 148 6)))]) (st' := [gi (mi 148 6), gr 148]) (M' := gw (gu (gu (gu (gu (gu (gu (gu (gu (gu (gu (gu (gu mi 152 ((12 * (mi 148 6)).toNat) x) 152 (((12 * (mi 148 6)) + 1).toNat) (y / 100)) 152 (((12 * (mi 148 6)) + 2).toNat) (y % 100)) 152 (((12 * (mi 148 6)) + 3).toNat) z) 152 (((12 * (mi 148 6)) + 4).toNat) (w / 100)) 152 (((12 * (mi 148 6)) + 5).toNat) (w % 100)) 152 (((12 * (mi 148 6)) + 6).toNat) (-1)) 152 (((12 * (mi 148 6)) + 7).toNat) (-1)) 152 (((12 * (mi 148 6)) + 8).toNat) (-1)) 152 (((12 * (mi 148 6)) + 9).toNat) 0) 152 (((12 * (mi 148 6)) + 10).toNat) 0) 152 (((12 * (mi 148 6)) + 11).toNat) 0) ml) rfl ?_
                          refine Go.run hsz hn1 0 (pc' := 298) (lv' := [some (gr 148), some (gi x), some (gi y), some (gi z), some (gi w), some (gi 1), some (gi (12 * (mi 148 6)))]) (st' := [gi ((gu (gu (gu (gu (gu (gu (gu (gu (gu (gu (gu (gu mi 152 ((12 * (mi 148 6)).toNat) x) 152 (((12 * (mi 148 6)) + 1).toNat) (y / 100)) 152 (((12 * (mi 148 6)) + 2).toNat) (y % 100)) 152 (((12 * (mi 148 6)) + 3).toNat) z) 152 (((12 * (mi 148 6)) + 4).toNat) (w / 100)) 152 (((12 * (mi 148 6)) + 5).toNat) (w % 100)) 152 (((12 * (mi 148 6)) + 6).toNat) (-1)) 152 (((12 * (mi 148 6)) + 7).toNat) (-1)) 152 (((12 * (mi 148 6)) + 8).toNat) (-1)) 152 (((12 * (mi 148 6)) + 9).toNat) 0) 152 (((12 * (mi 148 6)) + 10).toNat) 0) 152 (((12 * (mi 148 6)) + 11).toNat) 0) 148 6), gr 148]) (M' := gw (gu (gu (gu (gu (gu (gu (gu (gu (gu (gu (gu (gu mi 152 ((12 * (mi 148 6)).toNat) x) 152 (((12 * (mi 148 6)) + 1).toNat) (y / 100)) 152 (((12 * (mi 148 6)) + 2).toNat) (y % 100)) 152 (((12 * (mi 148 6)) + 3).toNat) z) 152 (((12 * (mi 148 6)) + 4).toNat) (w / 100)) 152 (((12 * (mi 148 6)) + 5).toNat) (w % 100)) 152 (((12 * (mi 148 6)) + 6).toNat) (-1)) 152 (((12 * (mi 148 6)) + 7).toNat) (-1)) 152 (((12 * (mi 148 6)) + 8).toNat) (-1)) 152 (((12 * (mi 148 6)) + 9).toNat) 0) 152 (((12 * (mi 148 6)) + 10).toNat) 0) 152 (((12 * (mi 148 6)) + 11).toNat) 0) ml) rfl ?_
                          rw [show (gu (gu (gu (gu (gu (gu (gu (gu (gu (gu (gu (gu mi 152 ((12 * (mi 148 6)).toNat) x) 152 (((12 * (mi 148 6)) + 1).toNat) (y / 100)) 152 (((12 * (mi 148 6)) + 2).toNat) (y % 100)) 152 (((12 * (mi 148 6)) + 3).toNat) z) 152 (((12 * (mi 148 6)) + 4).toNat) (w / 100)) 152 (((12 * (mi 148 6)) + 5).toNat) (w % 100)) 152 (((12 * (mi 148 6)) + 6).toNat) (-1)) 152 (((12 * (mi 148 6)) + 7).toNat) (-1)) 152 (((12 * (mi 148 6)) + 8).toNat) (-1)) 152 (((12 * (mi 148 6)) + 9).toNat) 0) 152 (((12 * (mi 148 6)) + 10).toNat) 0) 152 (((12 * (mi 148 6)) + 11).toNat) 0) 148 6 = mi 148 6 from (gu_ne (Or.inl (by decide))).trans ((gu_ne (Or.inl (by decide))).trans ((gu_ne (Or.inl (by decide))).trans ((gu_ne (Or.inl (by decide))).trans ((gu_ne (Or.inl (by decide))).trans ((gu_ne (Or.inl (by decide))).trans ((gu_ne (Or.inl (by decide))).trans ((gu_ne (Or.inl (by decide))).trans ((gu_ne (Or.inl (by decide))).trans ((gu_ne (Or.inl (by decide))).trans ((gu_ne (Or.inl (by decide))).trans (gu_ne (Or.inl (by decide)))))))))))))]
                          refine Go.run hsz hn1 7 (pc' := 309) (lv' := [some (gr 148), some (gi x), some (gi y), some (gi z), some (gi w), some (gi 1), some (gi (12 * (mi 148 6)))]) (st' := [gi (((mi 148 6) + 1) - 1)]) (M' := gw (gu (gu (gu (gu (gu (gu (gu (gu (gu (gu (gu (gu (gu mi 152 ((12 * (mi 148 6)).toNat) x) 152 (((12 * (mi 148 6)) + 1).toNat) (y / 100)) 152 (((12 * (mi 148 6)) + 2).toNat) (y % 100)) 152 (((12 * (mi 148 6)) + 3).toNat) z) 152 (((12 * (mi 148 6)) + 4).toNat) (w / 100)) 152 (((12 * (mi 148 6)) + 5).toNat) (w % 100)) 152 (((12 * (mi 148 6)) + 6).toNat) (-1)) 152 (((12 * (mi 148 6)) + 7).toNat) (-1)) 152 (((12 * (mi 148 6)) + 8).toNat) (-1)) 152 (((12 * (mi 148 6)) + 9).toNat) 0) 152 (((12 * (mi 148 6)) + 10).toNat) 0) 152 (((12 * (mi 148 6)) + 11).toNat) 0) 148 6 ((mi 148 6) + 1)) ml) rfl ?_
                          refine Go.iret (by rfl) ?_
                          first | (exact Or.inl ⟨by omega, rfl, rfl⟩) | (exact Or.inr (Or.inl ⟨by omega, rfl, rfl⟩)) | (exact Or.inr (Or.inr (⟨by omega, rfl, rfl⟩)))
                        · refine Go.run hsz hn1 2 (pc' := 142) (lv' := [some (gr 148), some (gi x), some (gi y), some (gi z), some (gi w), some (gi 1), none]) (st' := [gi 1, gr 148]) (M' := gw mi ml) rfl ?_
                          refine Go.callV (As := [gi 1]) (b := 148) (st := []) (mc1 := 0) (mc := 0) (ms1 := 0) (ms := 0) (by rfl) rfl (c := 11) (N := 46) (by rfl) (by decide) (by rfl) (gcn 154 (by decide)).1 (gcn 154 (by decide)).2 rfl (Nat.le_of_ble_eq_true rfl) (by omega) (cM_finds hsz (n := n - 1) (by omega) mi ml 1 (by decide) (by decide)) ?_
                          rintro _ _ ⟨rfl, rfl⟩
                          refine Go.run hsz hn1 0 (pc' := 145) (lv' := [some (gr 148), some (gi x), some (gi y), some (gi z), some (gi w), some (gi 1), none]) (st' := [gi (-1000002)]) (M' := gw (mFd mi 1) ml) rfl ?_
                          refine Go.iret (by rfl) ?_
                          first | (exact Or.inl ⟨by omega, rfl, rfl⟩) | (exact Or.inr (Or.inl ⟨by omega, rfl, rfl⟩)) | (exact Or.inr (Or.inr (⟨by omega, rfl, rfl⟩)))
                      · exact absurd kq26 (by decide)

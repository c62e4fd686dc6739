set_option maxRecDepth 100000 in
set_option maxHeartbeats 4000000 in
theorem cT_append {G : gG} (hsz : G.2.2.2.2.2.2 = true) {n : Nat} (hn : 1 ≤ n) (mi : Nat → Nat → Int) (ml : Nat → Nat → Int64) (x : Int) (h0 : 0 ≤ mi 132 0) (h1 : mi 132 0 < 120) : gM G 78 n 0 0 [gr 132, gi x] (gw mi ml) (gvd (gw (gu (gu mi 134 (mi 132 0).toNat x) 132 0 (mi 132 0 + 1)) ml)) := by
  refine gM.of mX9_append okX9_append (gcp 78 (by decide)).1 (gcp 78 (by decide)).2 (Nat.le_of_ble_eq_true rfl) ?_
  refine Go.run hsz hn 3 (pc' := 6) (lv' := [some (gr 132), some (gi x)]) (st' := [gi 120, gi (mi 132 0)]) (M' := gw mi ml) rfl ?_
  refine Go.icmp_ge (by rfl) ⟨by omega, by omega⟩ ⟨by decide, by decide⟩ (fun kq1 => ?_) (fun kq1 => ?_)
  · first | exact Go.vret (by rfl) ⟨rfl, rfl⟩ | (exfalso; omega)
  · refine Go.run hsz hn 5 (pc' := 18) (lv' := [some (gr 132), some (gi x)]) (st' := [gi x, gi (mi 132 0), gr 134]) (M' := gw mi ml) rfl ?_
    refine Go.iast (by rfl) (N := 120) (by rfl) (by omega) (by omega) (by decide) ?_
    refine Go.run hsz hn 3 (pc' := 24) (lv' := [some (gr 132), some (gi x)]) (st' := [gi (mi 132 0), gr 132]) (M' := gw (gu mi 134 ((mi 132 0).toNat) x) ml) rfl ?_
    refine Go.run hsz hn 0 (pc' := 24) (lv' := [some (gr 132), some (gi x)]) (st' := [gi ((gu mi 134 ((mi 132 0).toNat) x) 132 0), gr 132]) (M' := gw (gu mi 134 ((mi 132 0).toNat) x) ml) rfl ?_
    rw [show (gu mi 134 ((mi 132 0).toNat) x) 132 0 = mi 132 0 from gu_ne (Or.inl (by decide))]
    refine Go.run hsz hn 3 (pc' := 29) (lv' := [some (gr 132), some (gi x)]) (st' := []) (M' := gw (gu (gu mi 134 ((mi 132 0).toNat) x) 132 0 ((mi 132 0) + 1)) ml) rfl ?_
    first | exact Go.vret (by rfl) ⟨rfl, rfl⟩ | (exfalso; omega)
set_option maxRecDepth 100000 in
set_option maxHeartbeats 4000000 in
theorem pC_feed {G : gG} (hsz : G.2.2.2.2.2.2 = true) {n : Nat} (hn : 3 ≤ n) (mi : Nat → Nat → Int) (ml : Nat → Nat → Int64) (x n_ : Int) (r_x : rng x) (r_n : rng n_) (hv : CV mi) (hz : 0 ≤ mi 132 0 ∧ mi 132 0 ≤ 120) : gM G 117 n 0 0 [gr 0, gi x, gi n_] (gw mi ml) (fun r M => gE (n_ = 1 ∧ mi 132 0 + 1 ≤ 120) (mi 132 0 + 1) (gu (gu mi 134 (mi 132 0).toNat (gby x 0)) 132 0 (mi 132 0 + 1)) ml r M ∨ gE (n_ = 2 ∧ mi 132 0 + 2 ≤ 120) ((mi 132 0 + 1) + 1) (gu (gu (gu (gu mi 134 (mi 132 0).toNat (gby x 1)) 132 0 (mi 132 0 + 1)) 134 (mi 132 0 + 1).toNat (gby x 0)) 132 0 (mi 132 0 + 1 + 1)) ml r M ∨ gE (n_ = 3 ∧ mi 132 0 + 3 ≤ 120) (((mi 132 0 + 1) + 1) + 1) (gu (gu (gu (gu (gu (gu mi 134 (mi 132 0).toNat (gby x 2)) 132 0 (mi 132 0 + 1)) 134 (mi 132 0 + 1).toNat (gby x 1)) 132 0 (mi 132 0 + 1 + 1)) 134 ((mi 132 0 + 1) + 1).toNat (gby x 0)) 132 0 ((mi 132 0 + 1) + 1 + 1)) ml r M ∨ gE (n_ = 4 ∧ mi 132 0 + 4 ≤ 120) ((((mi 132 0 + 1) + 1) + 1) + 1) (gu (gu (gu (gu (gu (gu (gu (gu mi 134 (mi 132 0).toNat (gby x 3)) 132 0 (mi 132 0 + 1)) 134 (mi 132 0 + 1).toNat (gby x 2)) 132 0 (mi 132 0 + 1 + 1)) 134 ((mi 132 0 + 1) + 1).toNat (gby x 1)) 132 0 ((mi 132 0 + 1) + 1 + 1)) 134 (((mi 132 0 + 1) + 1) + 1).toNat (gby x 0)) 132 0 (((mi 132 0 + 1) + 1) + 1 + 1)) ml r M ∨ gE (¬ (1 ≤ n_ ∧ n_ ≤ 4)) (-1000001) (cFd mi 0) ml r M ∨ gE ((1 ≤ n_ ∧ n_ ≤ 4) ∧ 120 < mi 132 0 + n_) (-1000002) (cFd mi 1) ml r M) := by
  have hn1 : 1 ≤ n := by omega
  obtain ⟨hR, ht, hp, hq, hP, hQ⟩ := id hv
  refine gM.of mX11_feed okX11_feed (gcp 117 (by decide)).1 (gcp 117 (by decide)).2 (Nat.le_of_ble_eq_true rfl) ?_
  rcases (show n_ = 1 ∨ n_ = 2 ∨ n_ = 3 ∨ n_ = 4 ∨ (n_ < 1 ∨ 4 < n_) by omega) with rfl | rfl | rfl | rfl | hd
  · refine Go.run hsz hn1 3 (pc' := 3) (lv' := [some (gr 0), some (gi x), some (gi 1), none]) (st' := [gi 4, gi 1, gi 1]) (M' := gw mi ml) rfl ?_
    refine Go.callS (As := [gi 1, gi 1, gi 4]) (st := []) (mc1 := 0) (mc := 0) (ms1 := 0) (ms := 0) (by rfl) rfl (gcn 150 (by decide)).1 (gcn 150 (by decide)).2 (Nat.le_of_ble_eq_true rfl) (by omega) (cC_isIn hsz (n := n - 1) (by omega) mi ml 1 1 4 ⟨by decide, by decide⟩ ⟨by decide, by decide⟩ ⟨by decide, by decide⟩) ?_
    rintro _ _ ⟨rfl, rfl⟩
    refine Go.run hsz hn1 0 (pc' := 6) (lv' := [some (gr 0), some (gi x), some (gi 1), none]) (st' := [gi (b2 (1 ≤ 1 ∧ 1 ≤ 4))]) (M' := gw mi ml) rfl ?_
    refine Go.if_ne (by rfl) (b2_rng _) (fun kq1 => ?_) (fun kq1 => ?_)
    · replace kq1 := b2_pos kq1
      refine Go.run hsz hn1 6 (pc' := 27) (lv' := [some (gr 0), some (gi x), some (gi 1), none]) (st' := [gi 120, gi ((mi 132 0) + 1)]) (M' := gw mi ml) rfl ?_
      refine Go.icmp_le (by rfl) ⟨by omega, by omega⟩ ⟨by decide, by decide⟩ (fun kq2 => ?_) (fun kq2 => ?_)
      · refine Go.run hsz hn1 4 (pc' := 41) (lv' := [some (gr 0), some (gi x), some (gi 1), some (gi 0)]) (st' := []) (M' := gw mi ml) rfl ?_
        refine Go.run hsz hn1 1 (pc' := 42) (lv' := [some (gr 0), some (gi x), some (gi 1), some (gi 0)]) (st' := [gi 0]) (M' := gw mi ml) rfl ?_
        refine Go.if_lt (by rfl) ⟨by decide, by decide⟩ (fun kq3 => ?_) (fun kq3 => ?_)
        · exact absurd kq3 (by decide)
        · refine Go.run hsz hn1 9 (pc' := 59) (lv' := [some (gr 0), some (gi x), some (gi 1), some (gi 0)]) (st' := [gi (andI (((iI x).toUInt32 >>> ((iI 0).toUInt32 &&& Int32.toUInt32 31)).toInt32.toInt) 255), gr 132]) (M' := gw mi ml) rfl ?_
          rw [show andI (((iI x).toUInt32 >>> ((iI 0).toUInt32 &&& Int32.toUInt32 31)).toInt32.toInt) 255 = gby x 0 from ush_by x 0 (by decide)]
          refine Go.callV (As := [gi (gby x 0)]) (b := 132) (st := []) (mc1 := 0) (mc := 0) (ms1 := 0) (ms := 0) (by rfl) rfl (c := 8) (N := 11) (by rfl) (by decide) (by rfl) (gcn 78 (by decide)).1 (gcn 78 (by decide)).2 rfl (Nat.le_of_ble_eq_true rfl) (by omega) (cT_append hsz (n := n - 1) (by omega) mi ml (gby x 0) (by show 0 ≤ mi 132 0; omega) (by show mi 132 0 < 120; omega)) ?_
          rintro _ _ ⟨rfl, rfl⟩
          refine Go.run hsz hn1 2 (pc' := 41) (lv' := [some (gr 0), some (gi x), some (gi 1), some (gi (-1))]) (st' := []) (M' := gw (gu (gu mi 134 (mi 132 0).toNat (gby x 0)) 132 0 (mi 132 0 + 1)) ml) rfl ?_
          refine Go.run hsz hn1 1 (pc' := 42) (lv' := [some (gr 0), some (gi x), some (gi 1), some (gi (-1))]) (st' := [gi (-1)]) (M' := gw (gu (gu mi 134 (mi 132 0).toNat (gby x 0)) 132 0 (mi 132 0 + 1)) ml) rfl ?_
          refine Go.if_lt (by rfl) ⟨by decide, by decide⟩ (fun kq4 => ?_) (fun kq4 => ?_)
          · refine Go.run hsz hn1 3 (pc' := 75) (lv' := [some (gr 0), some (gi x), some (gi 1), some (gi (-1))]) (st' := [gi (mi 132 0 + 1)]) (M' := gw (gu (gu mi 134 (mi 132 0).toNat (gby x 0)) 132 0 (mi 132 0 + 1)) ml) rfl ?_
            refine Go.iret (by rfl) ?_
            first | (exact Or.inl ⟨by omega, rfl, rfl⟩) | (exact Or.inr (Or.inl ⟨by omega, rfl, rfl⟩)) | (exact Or.inr (Or.inr (Or.inl ⟨by omega, rfl, rfl⟩))) | (exact Or.inr (Or.inr (Or.inr (Or.inl ⟨by omega, rfl, rfl⟩)))) | (exact Or.inr (Or.inr (Or.inr (Or.inr (Or.inl ⟨by omega, rfl, rfl⟩))))) | (exact Or.inr (Or.inr (Or.inr (Or.inr (Or.inr (⟨by omega, rfl, rfl⟩))))))
          · exact absurd kq4 (by decide)
      · refine Go.run hsz hn1 2 (pc' := 33) (lv' := [some (gr 0), some (gi x), some (gi 1), none]) (st' := [gi (-1000002), gr 0]) (M' := gw mi ml) rfl ?_
        refine Go.callV (As := [gi (-1000002)]) (b := 0) (st := []) (mc1 := 0) (mc := 0) (ms1 := 0) (ms := 0) (by rfl) rfl (c := 10) (N := 9) (by rfl) (by decide) (by rfl) (gcn 147 (by decide)).1 (gcn 147 (by decide)).2 rfl (Nat.le_of_ble_eq_true rfl) (by omega) (cC_finding hsz (n := n - 1) (by omega) mi ml (-1000002) (by decide) (by decide)) ?_
        rintro _ _ ⟨rfl, rfl⟩
        refine Go.run hsz hn1 0 (pc' := 36) (lv' := [some (gr 0), some (gi x), some (gi 1), none]) (st' := [gi (-1000002)]) (M' := gw (cFd mi 1) ml) rfl ?_
        refine Go.iret (by rfl) ?_
        first | (exact Or.inl ⟨by omega, rfl, rfl⟩) | (exact Or.inr (Or.inl ⟨by omega, rfl, rfl⟩)) | (exact Or.inr (Or.inr (Or.inl ⟨by omega, rfl, rfl⟩))) | (exact Or.inr (Or.inr (Or.inr (Or.inl ⟨by omega, rfl, rfl⟩)))) | (exact Or.inr (Or.inr (Or.inr (Or.inr (Or.inl ⟨by omega, rfl, rfl⟩))))) | (exact Or.inr (Or.inr (Or.inr (Or.inr (Or.inr (⟨by omega, rfl, rfl⟩))))))
    · replace kq1 := b2_neg kq1
      refine Go.run hsz hn1 2 (pc' := 12) (lv' := [some (gr 0), some (gi x), some (gi 1), none]) (st' := [gi (-1000001), gr 0]) (M' := gw mi ml) rfl ?_
      refine Go.callV (As := [gi (-1000001)]) (b := 0) (st := []) (mc1 := 0) (mc := 0) (ms1 := 0) (ms := 0) (by rfl) rfl (c := 10) (N := 9) (by rfl) (by decide) (by rfl) (gcn 147 (by decide)).1 (gcn 147 (by decide)).2 rfl (Nat.le_of_ble_eq_true rfl) (by omega) (cC_finding hsz (n := n - 1) (by omega) mi ml (-1000001) (by decide) (by decide)) ?_
      rintro _ _ ⟨rfl, rfl⟩
      refine Go.run hsz hn1 0 (pc' := 15) (lv' := [some (gr 0), some (gi x), some (gi 1), none]) (st' := [gi (-1000001)]) (M' := gw (cFd mi 0) ml) rfl ?_
      refine Go.iret (by rfl) ?_
      first | (exact Or.inl ⟨by omega, rfl, rfl⟩) | (exact Or.inr (Or.inl ⟨by omega, rfl, rfl⟩)) | (exact Or.inr (Or.inr (Or.inl ⟨by omega, rfl, rfl⟩))) | (exact Or.inr (Or.inr (Or.inr (Or.inl ⟨by omega, rfl, rfl⟩)))) | (exact Or.inr (Or.inr (Or.inr (Or.inr (Or.inl ⟨by omega, rfl, rfl⟩))))) | (exact Or.inr (Or.inr (Or.inr (Or.inr (Or.inr (⟨by omega, rfl, rfl⟩))))))
  · refine Go.run hsz hn1 3 (pc' := 3) (lv' := [some (gr 0), some (gi x), some (gi 2), none]) (st' := [gi 4, gi 1, gi 2]) (M' := gw mi ml) rfl ?_
    refine Go.callS (As := [gi 2, gi 1, gi 4]) (st := []) (mc1 := 0) (mc := 0) (ms1 := 0) (ms := 0) (by rfl) rfl (gcn 150 (by decide)).1 (gcn 150 (by decide)).2 (Nat.le_of_ble_eq_true rfl) (by omega) (cC_isIn hsz (n := n - 1) (by omega) mi ml 2 1 4 ⟨by decide, by decide⟩ ⟨by decide, by decide⟩ ⟨by decide, by decide⟩) ?_
    rintro _ _ ⟨rfl, rfl⟩
    refine Go.run hsz hn1 0 (pc' := 6) (lv' := [some (gr 0), some (gi x), some (gi 2), none]) (st' := [gi (b2 (1 ≤ 2 ∧ 2 ≤ 4))]) (M' := gw mi ml) rfl ?_
    refine Go.if_ne (by rfl) (b2_rng _) (fun kq5 => ?_) (fun kq5 => ?_)
    · replace kq5 := b2_pos kq5
      refine Go.run hsz hn1 6 (pc' := 27) (lv' := [some (gr 0), some (gi x), some (gi 2), none]) (st' := [gi 120, gi ((mi 132 0) + 2)]) (M' := gw mi ml) rfl ?_
      refine Go.icmp_le (by rfl) ⟨by omega, by omega⟩ ⟨by decide, by decide⟩ (fun kq6 => ?_) (fun kq6 => ?_)
      · refine Go.run hsz hn1 4 (pc' := 41) (lv' := [some (gr 0), some (gi x), some (gi 2), some (gi 1)]) (st' := []) (M' := gw mi ml) rfl ?_
        refine Go.run hsz hn1 1 (pc' := 42) (lv' := [some (gr 0), some (gi x), some (gi 2), some (gi 1)]) (st' := [gi 1]) (M' := gw mi ml) rfl ?_
        refine Go.if_lt (by rfl) ⟨by decide, by decide⟩ (fun kq7 => ?_) (fun kq7 => ?_)
        · exact absurd kq7 (by decide)
        · refine Go.run hsz hn1 9 (pc' := 59) (lv' := [some (gr 0), some (gi x), some (gi 2), some (gi 1)]) (st' := [gi (andI (((iI x).toUInt32 >>> ((iI 8).toUInt32 &&& Int32.toUInt32 31)).toInt32.toInt) 255), gr 132]) (M' := gw mi ml) rfl ?_
          rw [show andI (((iI x).toUInt32 >>> ((iI 8).toUInt32 &&& Int32.toUInt32 31)).toInt32.toInt) 255 = gby x 1 from ush_by x 1 (by decide)]
          refine Go.callV (As := [gi (gby x 1)]) (b := 132) (st := []) (mc1 := 0) (mc := 0) (ms1 := 0) (ms := 0) (by rfl) rfl (c := 8) (N := 11) (by rfl) (by decide) (by rfl) (gcn 78 (by decide)).1 (gcn 78 (by decide)).2 rfl (Nat.le_of_ble_eq_true rfl) (by omega) (cT_append hsz (n := n - 1) (by omega) mi ml (gby x 1) (by show 0 ≤ mi 132 0; omega) (by show mi 132 0 < 120; omega)) ?_
          rintro _ _ ⟨rfl, rfl⟩
          refine Go.run hsz hn1 2 (pc' := 41) (lv' := [some (gr 0), some (gi x), some (gi 2), some (gi 0)]) (st' := []) (M' := gw (gu (gu mi 134 (mi 132 0).toNat (gby x 1)) 132 0 (mi 132 0 + 1)) ml) rfl ?_
          refine Go.run hsz hn1 1 (pc' := 42) (lv' := [some (gr 0), some (gi x), some (gi 2), some (gi 0)]) (st' := [gi 0]) (M' := gw (gu (gu mi 134 (mi 132 0).toNat (gby x 1)) 132 0 (mi 132 0 + 1)) ml) rfl ?_
          refine Go.if_lt (by rfl) ⟨by decide, by decide⟩ (fun kq8 => ?_) (fun kq8 => ?_)
          · exact absurd kq8 (by decide)
          · refine Go.run hsz hn1 9 (pc' := 59) (lv' := [some (gr 0), some (gi x), some (gi 2), some (gi 0)]) (st' := [gi (andI (((iI x).toUInt32 >>> ((iI 0).toUInt32 &&& Int32.toUInt32 31)).toInt32.toInt) 255), gr 132]) (M' := gw (gu (gu mi 134 (mi 132 0).toNat (gby x 1)) 132 0 (mi 132 0 + 1)) ml) rfl ?_
            rw [show andI (((iI x).toUInt32 >>> ((iI 0).toUInt32 &&& Int32.toUInt32 31)).toInt32.toInt) 255 = gby x 0 from ush_by x 0 (by decide)]
            refine Go.callV (As := [gi (gby x 0)]) (b := 132) (st := []) (mc1 := 0) (mc := 0) (ms1 := 0) (ms := 0) (by rfl) rfl (c := 8) (N := 11) (by rfl) (by decide) (by rfl) (gcn 78 (by decide)).1 (gcn 78 (by decide)).2 rfl (Nat.le_of_ble_eq_true rfl) (by omega) (cT_append hsz (n := n - 1) (by omega) (gu (gu mi 134 (mi 132 0).toNat (gby x 1)) 132 0 (mi 132 0 + 1)) ml (gby x 0) (by show 0 ≤ mi 132 0 + 1; omega) (by show mi 132 0 + 1 < 120; omega)) ?_
            rintro _ _ ⟨rfl, rfl⟩
            refine Go.run hsz hn1 2 (pc' := 41) (lv' := [some (gr 0), some (gi x), some (gi 2), some (gi (-1))]) (st' := []) (M' := gw (gu (gu (gu (gu mi 134 (mi 132 0).toNat (gby x 1)) 132 0 (mi 132 0 + 1)) 134 (mi 132 0 + 1).toNat (gby x 0)) 132 0 (mi 132 0 + 1 + 1)) ml) rfl ?_
            refine Go.run hsz hn1 1 (pc' := 42) (lv' := [some (gr 0), some (gi x), some (gi 2), some (gi (-1))]) (st' := [gi (-1)]) (M' := gw (gu (gu (gu (gu mi 134 (mi 132 0).toNat (gby x 1)) 132 0 (mi 132 0 + 1)) 134 (mi 132 0 + 1).toNat (gby x 0)) 132 0 (mi 132 0 + 1 + 1)) ml) rfl ?_
            refine Go.if_lt (by rfl) ⟨by decide, by decide⟩ (fun kq9 => ?_) (fun kq9 => ?_)
            · refine Go.run hsz hn1 3 (pc' := 75) (lv' := [some (gr 0), some (gi x), some (gi 2), some (gi (-1))]) (st' := [gi (mi 132 0 + 1 + 1)]) (M' := gw (gu (gu (gu (gu mi 134 (mi 132 0).toNat (gby x 1)) 132 0 (mi 132 0 + 1)) 134 (mi 132 0 + 1).toNat (gby x 0)) 132 0 (mi 132 0 + 1 + 1)) ml) rfl ?_
              refine Go.iret (by rfl) ?_
              first | (exact Or.inl ⟨by omega, rfl, rfl⟩) | (exact Or.inr (Or.inl ⟨by omega, rfl, rfl⟩)) | (exact Or.inr (Or.inr (Or.inl ⟨by omega, rfl, rfl⟩))) | (exact Or.inr (Or.inr (Or.inr (Or.inl ⟨by omega, rfl, rfl⟩)))) | (exact Or.inr (Or.inr (Or.inr (Or.inr (Or.inl ⟨by omega, rfl, rfl⟩))))) | (exact Or.inr (Or.inr (Or.inr (Or.inr (Or.inr (⟨by omega, rfl, rfl⟩))))))
            · exact absurd kq9 (by decide)
      · refine Go.run hsz hn1 2 (pc' := 33) (lv' := [some (gr 0), some (gi x), some (gi 2), none]) (st' := [gi (-1000002), gr 0]) (M' := gw mi ml) rfl ?_
        refine Go.callV (As := [gi (-1000002)]) (b := 0) (st := []) (mc1 := 0) (mc := 0) (ms1 := 0) (ms := 0) (by rfl) rfl (c := 10) (N := 9) (by rfl) (by decide) (by rfl) (gcn 147 (by decide)).1 (gcn 147 (by decide)).2 rfl (Nat.le_of_ble_eq_true rfl) (by omega) (cC_finding hsz (n := n - 1) (by omega) mi ml (-1000002) (by decide) (by decide)) ?_
        rintro _ _ ⟨rfl, rfl⟩
        refine Go.run hsz hn1 0 (pc' := 36) (lv' := [some (gr 0), some (gi x), some (gi 2), none]) (st' := [gi (-1000002)]) (M' := gw (cFd mi 1) ml) rfl ?_
        refine Go.iret (by rfl) ?_
        first | (exact Or.inl ⟨by omega, rfl, rfl⟩) | (exact Or.inr (Or.inl ⟨by omega, rfl, rfl⟩)) | (exact Or.inr (Or.inr (Or.inl ⟨by omega, rfl, rfl⟩))) | (exact Or.inr (Or.inr (Or.inr (Or.inl ⟨by omega, rfl, rfl⟩)))) | (exact Or.inr (Or.inr (Or.inr (Or.inr (Or.inl ⟨by omega, rfl, rfl⟩))))) | (exact Or.inr (Or.inr (Or.inr (Or.inr (Or.inr (⟨by omega, rfl, rfl⟩))))))
    · replace kq5 := b2_neg kq5
      refine Go.run hsz hn1 2 (pc' := 12) (lv' := [some (gr 0), some (gi x), some (gi 2), none]) (st' := [gi (-1000001), gr 0]) (M' := gw mi ml) rfl ?_
      refine Go.callV (As := [gi (-1000001)]) (b := 0) (st := []) (mc1 := 0) (mc := 0) (ms1 := 0) (ms := 0) (by rfl) rfl (c := 10) (N := 9) (by rfl) (by decide) (by rfl) (gcn 147 (by decide)).1 (gcn 147 (by decide)).2 rfl (Nat.le_of_ble_eq_true rfl) (by omega) (cC_finding hsz (n := n - 1) (by omega) mi ml (-1000001) (by decide) (by decide)) ?_
      rintro _ _ ⟨rfl, rfl⟩
      refine Go.run hsz hn1 0 (pc' := 15) (lv' := [some (gr 0), some (gi x), some (gi 2), none]) (st' := [gi (-1000001)]) (M' := gw (cFd mi 0) ml) rfl ?_
      refine Go.iret (by rfl) ?_
      first | (exact Or.inl ⟨by omega, rfl, rfl⟩) | (exact Or.inr (Or.inl ⟨by omega, rfl, rfl⟩)) | (exact Or.inr (Or.inr (Or.inl ⟨by omega, rfl, rfl⟩))) | (exact Or.inr (Or.inr (Or.inr (Or.inl ⟨by omega, rfl, rfl⟩)))) | (exact Or.inr (Or.inr (Or.inr (Or.inr (Or.inl ⟨by omega, rfl, rfl⟩))))) | (exact Or.inr (Or.inr (Or.inr (Or.inr (Or.inr (⟨by omega, rfl, rfl⟩))))))
  · refine Go.run hsz hn1 3 (pc' := 3) (lv' := [some (gr 0), some (gi x), some (gi 3), none]) (st' := [gi 4, gi 1, gi 3]) (M' := gw mi ml) rfl ?_
    refine Go.callS (As := [gi 3, gi 1, gi 4]) (st := []) (mc1 := 0) (mc := 0) (ms1 := 0) (ms := 0) (by rfl) rfl (gcn 150 (by decide)).1 (gcn 150 (by decide)).2 (Nat.le_of_ble_eq_true rfl) (by omega) (cC_isIn hsz (n := n - 1) (by omega) mi ml 3 1 4 ⟨by decide, by decide⟩ ⟨by decide, by decide⟩ ⟨by decide, by decide⟩) ?_
    rintro _ _ ⟨rfl, rfl⟩
    refine Go.run hsz hn1 0 (pc' := 6) (lv' := [some (gr 0), some (gi x), some (gi 3), none]) (st' := [gi (b2 (1 ≤ 3 ∧ 3 ≤ 4))]) (M' := gw mi ml) rfl ?_
    refine Go.if_ne (by rfl) (b2_rng _) (fun kq10 => ?_) (fun kq10 => ?_)
    · replace kq10 := b2_pos kq10
      refine Go.run hsz hn1 6 (pc' := 27) (lv' := [some (gr 0), some (gi x), some (gi 3), none]) (st' := [gi 120, gi ((mi 132 0) + 3)]) (M' := gw mi ml) rfl ?_
      refine Go.icmp_le (by rfl) ⟨by omega, by omega⟩ ⟨by decide, by decide⟩ (fun kq11 => ?_) (fun kq11 => ?_)
      · refine Go.run hsz hn1 4 (pc' := 41) (lv' := [some (gr 0), some (gi x), some (gi 3), some (gi 2)]) (st' := []) (M' := gw mi ml) rfl ?_
        refine Go.run hsz hn1 1 (pc' := 42) (lv' := [some (gr 0), some (gi x), some (gi 3), some (gi 2)]) (st' := [gi 2]) (M' := gw mi ml) rfl ?_
        refine Go.if_lt (by rfl) ⟨by decide, by decide⟩ (fun kq12 => ?_) (fun kq12 => ?_)
        · exact absurd kq12 (by decide)
        · refine Go.run hsz hn1 9 (pc' := 59) (lv' := [some (gr 0), some (gi x), some (gi 3), some (gi 2)]) (st' := [gi (andI (((iI x).toUInt32 >>> ((iI 16).toUInt32 &&& Int32.toUInt32 31)).toInt32.toInt) 255), gr 132]) (M' := gw mi ml) rfl ?_
          rw [show andI (((iI x).toUInt32 >>> ((iI 16).toUInt32 &&& Int32.toUInt32 31)).toInt32.toInt) 255 = gby x 2 from ush_by x 2 (by decide)]
          refine Go.callV (As := [gi (gby x 2)]) (b := 132) (st := []) (mc1 := 0) (mc := 0) (ms1 := 0) (ms := 0) (by rfl) rfl (c := 8) (N := 11) (by rfl) (by decide) (by rfl) (gcn 78 (by decide)).1 (gcn 78 (by decide)).2 rfl (Nat.le_of_ble_eq_true rfl) (by omega) (cT_append hsz (n := n - 1) (by omega) mi ml (gby x 2) (by show 0 ≤ mi 132 0; omega) (by show mi 132 0 < 120; omega)) ?_
          rintro _ _ ⟨rfl, rfl⟩
          refine Go.run hsz hn1 2 (pc' := 41) (lv' := [some (gr 0), some (gi x), some (gi 3), some (gi 1)]) (st' := []) (M' := gw (gu (gu mi 134 (mi 132 0).toNat (gby x 2)) 132 0 (mi 132 0 + 1)) ml) rfl ?_
          refine Go.run hsz hn1 1 (pc' := 42) (lv' := [some (gr 0), some (gi x), some (gi 3), some (gi 1)]) (st' := [gi 1]) (M' := gw (gu (gu mi 134 (mi 132 0).toNat (gby x 2)) 132 0 (mi 132 0 + 1)) ml) rfl ?_
          refine Go.if_lt (by rfl) ⟨by decide, by decide⟩ (fun kq13 => ?_) (fun kq13 => ?_)
          · exact absurd kq13 (by decide)
          · refine Go.run hsz hn1 9 (pc' := 59) (lv' := [some (gr 0), some (gi x), some (gi 3), some (gi 1)]) (st' := [gi (andI (((iI x).toUInt32 >>> ((iI 8).toUInt32 &&& Int32.toUInt32 31)).toInt32.toInt) 255), gr 132]) (M' := gw (gu (gu mi 134 (mi 132 0).toNat (gby x 2)) 132 0 (mi 132 0 + 1)) ml) rfl ?_
            rw [show andI (((iI x).toUInt32 >>> ((iI 8).toUInt32 &&& Int32.toUInt32 31)).toInt32.toInt) 255 = gby x 1 from ush_by x 1 (by decide)]
            refine Go.callV (As := [gi (gby x 1)]) (b := 132) (st := []) (mc1 := 0) (mc := 0) (ms1 := 0) (ms := 0) (by rfl) rfl (c := 8) (N := 11) (by rfl) (by decide) (by rfl) (gcn 78 (by decide)).1 (gcn 78 (by decide)).2 rfl (Nat.le_of_ble_eq_true rfl) (by omega) (cT_append hsz (n := n - 1) (by omega) (gu (gu mi 134 (mi 132 0).toNat (gby x 2)) 132 0 (mi 132 0 + 1)) ml (gby x 1) (by show 0 ≤ mi 132 0 + 1; omega) (by show mi 132 0 + 1 < 120; omega)) ?_
            rintro _ _ ⟨rfl, rfl⟩
            refine Go.run hsz hn1 2 (pc' := 41) (lv' := [some (gr 0), some (gi x), some (gi 3), some (gi 0)]) (st' := []) (M' := gw (gu (gu (gu (gu mi 134 (mi 132 0).toNat (gby x 2)) 132 0 (mi 132 0 + 1)) 134 (mi 132 0 + 1).toNat (gby x 1)) 132 0 (mi 132 0 + 1 + 1)) ml) rfl ?_
            refine Go.run hsz hn1 1 (pc' := 42) (lv' := [some (gr 0), some (gi x), some (gi 3), some (gi 0)]) (st' := [gi 0]) (M' := gw (gu (gu (gu (gu mi 134 (mi 132 0).toNat (gby x 2)) 132 0 (mi 132 0 + 1)) 134 (mi 132 0 + 1).toNat (gby x 1)) 132 0 (mi 132 0 + 1 + 1)) ml) rfl ?_
            refine Go.if_lt (by rfl) ⟨by decide, by decide⟩ (fun kq14 => ?_) (fun kq14 => ?_)
            · exact absurd kq14 (by decide)
            · refine Go.run hsz hn1 9 (pc' := 59) (lv' := [some (gr 0), some (gi x), some (gi 3), some (gi 0)]) (st' := [gi (andI (((iI x).toUInt32 >>> ((iI 0).toUInt32 &&& Int32.toUInt32 31)).toInt32.toInt) 255), gr 132]) (M' := gw (gu (gu (gu (gu mi 134 (mi 132 0).toNat (gby x 2)) 132 0 (mi 132 0 + 1)) 134 (mi 132 0 + 1).toNat (gby x 1)) 132 0 (mi 132 0 + 1 + 1)) ml) rfl ?_
              rw [show andI (((iI x).toUInt32 >>> ((iI 0).toUInt32 &&& Int32.toUInt32 31)).toInt32.toInt) 255 = gby x 0 from ush_by x 0 (by decide)]
              refine Go.callV (As := [gi (gby x 0)]) (b := 132) (st := []) (mc1 := 0) (mc := 0) (ms1 := 0) (ms := 0) (by rfl) rfl (c := 8) (N := 11) (by rfl) (by decide) (by rfl) (gcn 78 (by decide)).1 (gcn 78 (by decide)).2 rfl (Nat.le_of_ble_eq_true rfl) (by omega) (cT_append hsz (n := n - 1) (by omega) (gu (gu (gu (gu mi 134 (mi 132 0).toNat (gby x 2)) 132 0 (mi 132 0 + 1)) 134 (mi 132 0 + 1).toNat (gby x 1)) 132 0 (mi 132 0 + 1 + 1)) ml (gby x 0) (by show 0 ≤ mi 132 0 + 1 + 1; omega) (by show mi 132 0 + 1 + 1 < 120; omega)) ?_
              rintro _ _ ⟨rfl, rfl⟩
              refine Go.run hsz hn1 2 (pc' := 41) (lv' := [some (gr 0), some (gi x), some (gi 3), some (gi (-1))]) (st' := []) (M' := gw (gu (gu (gu (gu (gu (gu mi 134 (mi 132 0).toNat (gby x 2)) 132 0 (mi 132 0 + 1)) 134 (mi 132 0 + 1).toNat (gby x 1)) 132 0 (mi 132 0 + 1 + 1)) 134 (mi 132 0 + 1 + 1).toNat (gby x 0)) 132 0 (mi 132 0 + 1 + 1 + 1)) ml) rfl ?_
              refine Go.run hsz hn1 1 (pc' := 42) (lv' := [some (gr 0), some (gi x), some (gi 3), some (gi (-1))]) (st' := [gi (-1)]) (M' := gw (gu (gu (gu (gu (gu (gu mi 134 (mi 132 0).toNat (gby x 2)) 132 0 (mi 132 0 + 1)) 134 (mi 132 0 + 1).toNat (gby x 1)) 132 0 (mi 132 0 + 1 + 1)) 134 (mi 132 0 + 1 + 1).toNat (gby x 0)) 132 0 (mi 132 0 + 1 + 1 + 1)) ml) rfl ?_
              refine Go.if_lt (by rfl) ⟨by decide, by decide⟩ (fun kq15 => ?_) (fun kq15 => ?_)
              · refine Go.run hsz hn1 3 (pc' := 75) (lv' := [some (gr 0), some (gi x), some (gi 3), some (gi (-1))]) (st' := [gi (mi 132 0 + 1 + 1 + 1)]) (M' := gw (gu (gu (gu (gu (gu (gu mi 134 (mi 132 0).toNat (gby x 2)) 132 0 (mi 132 0 + 1)) 134 (mi 132 0 + 1).toNat (gby x 1)) 132 0 (mi 132 0 + 1 + 1)) 134 (mi 132 0 + 1 + 1).toNat (gby x 0)) 132 0 (mi 132 0 + 1 + 1 + 1)) ml) rfl ?_
                refine Go.iret (by rfl) ?_
                first | (exact Or.inl ⟨by omega, rfl, rfl⟩) | (exact Or.inr (Or.inl ⟨by omega, rfl, rfl⟩)) | (exact Or.inr (Or.inr (Or.inl ⟨by omega, rfl, rfl⟩))) | (exact Or.inr (Or.inr (Or.inr (Or.inl ⟨by omega, rfl, rfl⟩)))) | (exact Or.inr (Or.inr (Or.inr (Or.inr (Or.inl ⟨by omega, rfl, rfl⟩))))) | (exact Or.inr (Or.inr (Or.inr (Or.inr (Or.inr (⟨by omega, rfl, rfl⟩))))))
              · exact absurd kq15 (by decide)
      · refine Go.run hsz hn1 2 (pc' := 33) (lv' := [some (gr 0), some (gi x), some (gi 3), none]) (st' := [gi (-1000002), gr 0]) (M' := gw mi ml) rfl ?_
        refine Go.callV (As := [gi (-1000002)]) (b := 0) (st := []) (mc1 := 0) (mc := 0) (ms1 := 0) (ms := 0) (by rfl) rfl (c := 10) (N := 9) (by rfl) (by decide) (by rfl) (gcn 147 (by decide)).1 (gcn 147 (by decide)).2 rfl (Nat.le_of_ble_eq_true rfl) (by omega) (cC_finding hsz (n := n - 1) (by omega) mi ml (-1000002) (by decide) (by decide)) ?_
        rintro _ _ ⟨rfl, rfl⟩
        refine Go.run hsz hn1 0 (pc' := 36) (lv' := [some (gr 0), some (gi x), some (gi 3), none]) (st' := [gi (-1000002)]) (M' := gw (cFd mi 1) ml) rfl ?_
        refine Go.iret (by rfl) ?_
        first | (exact Or.inl ⟨by omega, rfl, rfl⟩) | (exact Or.inr (Or.inl ⟨by omega, rfl, rfl⟩)) | (exact Or.inr (Or.inr (Or.inl ⟨by omega, rfl, rfl⟩))) | (exact Or.inr (Or.inr (Or.inr (Or.inl ⟨by omega, rfl, rfl⟩)))) | (exact Or.inr (Or.inr (Or.inr (Or.inr (Or.inl ⟨by omega, rfl, rfl⟩))))) | (exact Or.inr (Or.inr (Or.inr (Or.inr (Or.inr (⟨by omega, rfl, rfl⟩))))))
    · replace kq10 := b2_neg kq10
      refine Go.run hsz hn1 2 (pc' := 12) (lv' := [some (gr 0), some (gi x), some (gi 3), none]) (st' := [gi (-1000001), gr 0]) (M' := gw mi ml) rfl ?_
      refine Go.callV (As := [gi (-1000001)]) (b := 0) (st := []) (mc1 := 0) (mc := 0) (ms1 := 0) (ms := 0) (by rfl) rfl (c := 10) (N := 9) (by rfl) (by decide) (by rfl) (gcn 147 (by decide)).1 (gcn 147 (by decide)).2 rfl (Nat.le_of_ble_eq_true rfl) (by omega) (cC_finding hsz (n := n - 1) (by omega) mi ml (-1000001) (by decide) (by decide)) ?_
      rintro _ _ ⟨rfl, rfl⟩
      refine Go.run hsz hn1 0 (pc' := 15) (lv' := [some (gr 0), some (gi x), some (gi 3), none]) (st' := [gi (-1000001)]) (M' := gw (cFd mi 0) ml) rfl ?_
      refine Go.iret (by rfl) ?_
      first | (exact Or.inl ⟨by omega, rfl, rfl⟩) | (exact Or.inr (Or.inl ⟨by omega, rfl, rfl⟩)) | (exact Or.inr (Or.inr (Or.inl ⟨by omega, rfl, rfl⟩))) | (exact Or.inr (Or.inr (Or.inr (Or.inl ⟨by omega, rfl, rfl⟩)))) | (exact Or.inr (Or.inr (Or.inr (Or.inr (Or.inl ⟨by omega, rfl, rfl⟩))))) | (exact Or.inr (Or.inr (Or.inr (Or.inr (Or.inr (⟨by omega, rfl, rfl⟩))))))
  · refine Go.run hsz hn1 3 (pc' := 3) (lv' := [some (gr 0), some (gi x), some (gi 4), none]) (st' := [gi 4, gi 1, gi 4]) (M' := gw mi ml) rfl ?_
    refine Go.callS (As := [gi 4, gi 1, gi 4]) (st := []) (mc1 := 0) (mc := 0) (ms1 := 0) (ms := 0) (by rfl) rfl (gcn 150 (by decide)).1 (gcn 150 (by decide)).2 (Nat.le_of_ble_eq_true rfl) (by omega) (cC_isIn hsz (n := n - 1) (by omega) mi ml 4 1 4 ⟨by decide, by decide⟩ ⟨by decide, by decide⟩ ⟨by decide, by decide⟩) ?_
    rintro _ _ ⟨rfl, rfl⟩
    refine Go.run hsz hn1 0 (pc' := 6) (lv' := [some (gr 0), some (gi x), some (gi 4), none]) (st' := [gi (b2 (1 ≤ 4 ∧ 4 ≤ 4))]) (M' := gw mi ml) rfl ?_
    refine Go.if_ne (by rfl) (b2_rng _) (fun kq16 => ?_) (fun kq16 => ?_)
    · replace kq16 := b2_pos kq16
      refine Go.run hsz hn1 6 (pc' := 27) (lv' := [some (gr 0), some (gi x), some (gi 4), none]) (st' := [gi 120, gi ((mi 132 0) + 4)]) (M' := gw mi ml) rfl ?_
      refine Go.icmp_le (by rfl) ⟨by omega, by omega⟩ ⟨by decide, by decide⟩ (fun kq17 => ?_) (fun kq17 => ?_)
      · refine Go.run hsz hn1 4 (pc' := 41) (lv' := [some (gr 0), some (gi x), some (gi 4), some (gi 3)]) (st' := []) (M' := gw mi ml) rfl ?_
        refine Go.run hsz hn1 1 (pc' := 42) (lv' := [some (gr 0), some (gi x), some (gi 4), some (gi 3)]) (st' := [gi 3]) (M' := gw mi ml) rfl ?_
        refine Go.if_lt (by rfl) ⟨by decide, by decide⟩ (fun kq18 => ?_) (fun kq18 => ?_)
        · exact absurd kq18 (by decide)
        · refine Go.run hsz hn1 9 (pc' := 59) (lv' := [some (gr 0), some (gi x), some (gi 4), some (gi 3)]) (st' := [gi (andI (((iI x).toUInt32 >>> ((iI 24).toUInt32 &&& Int32.toUInt32 31)).toInt32.toInt) 255), gr 132]) (M' := gw mi ml) rfl ?_
          rw [show andI (((iI x).toUInt32 >>> ((iI 24).toUInt32 &&& Int32.toUInt32 31)).toInt32.toInt) 255 = gby x 3 from ush_by x 3 (by decide)]
          refine Go.callV (As := [gi (gby x 3)]) (b := 132) (st := []) (mc1 := 0) (mc := 0) (ms1 := 0) (ms := 0) (by rfl) rfl (c := 8) (N := 11) (by rfl) (by decide) (by rfl) (gcn 78 (by decide)).1 (gcn 78 (by decide)).2 rfl (Nat.le_of_ble_eq_true rfl) (by omega) (cT_append hsz (n := n - 1) (by omega) mi ml (gby x 3) (by show 0 ≤ mi 132 0; omega) (by show mi 132 0 < 120; omega)) ?_
          rintro _ _ ⟨rfl, rfl⟩
          refine Go.run hsz hn1 2 (pc' := 41) (lv' := [some (gr 0), some (gi x), some (gi 4), some (gi 2)]) (st' := []) (M' := gw (gu (gu mi 134 (mi 132 0).toNat (gby x 3)) 132 0 (mi 132 0 + 1)) ml) rfl ?_
          refine Go.run hsz hn1 1 (pc' := 42) (lv' := [some (gr 0), some (gi x), some (gi 4), some (gi 2)]) (st' := [gi 2]) (M' := gw (gu (gu mi 134 (mi 132 0).toNat (gby x 3)) 132 0 (mi 132 0 + 1)) ml) rfl ?_
          refine Go.if_lt (by rfl) ⟨by decide, by decide⟩ (fun kq19 => ?_) (fun kq19 => ?_)
          · exact absurd kq19 (by decide)
          · refine Go.run hsz hn1 9 (pc' := 59) (lv' := [some (gr 0), some (gi x), some (gi 4), some (gi 2)]) (st' := [gi (andI (((iI x).toUInt32 >>> ((iI 16).toUInt32 &&& Int32.toUInt32 31)).toInt32.toInt) 255), gr 132]) (M' := gw (gu (gu mi 134 (mi 132 0).toNat (gby x 3)) 132 0 (mi 132 0 + 1)) ml) rfl ?_
            rw [show andI (((iI x).toUInt32 >>> ((iI 16).toUInt32 &&& Int32.toUInt32 31)).toInt32.toInt) 255 = gby x 2 from ush_by x 2 (by decide)]
            refine Go.callV (As := [gi (gby x 2)]) (b := 132) (st := []) (mc1 := 0) (mc := 0) (ms1 := 0) (ms := 0) (by rfl) rfl (c := 8) (N := 11) (by rfl) (by decide) (by rfl) (gcn 78 (by decide)).1 (gcn 78 (by decide)).2 rfl (Nat.le_of_ble_eq_true rfl) (by omega) (cT_append hsz (n := n - 1) (by omega) (gu (gu mi 134 (mi 132 0).toNat (gby x 3)) 132 0 (mi 132 0 + 1)) ml (gby x 2) (by show 0 ≤ mi 132 0 + 1; omega) (by show mi 132 0 + 1 < 120; omega)) ?_
            rintro _ _ ⟨rfl, rfl⟩
            refine Go.run hsz hn1 2 (pc' := 41) (lv' := [some (gr 0), some (gi x), some (gi 4), some (gi 1)]) (st' := []) (M' := gw (gu (gu (gu (gu mi 134 (mi 132 0).toNat (gby x 3)) 132 0 (mi 132 0 + 1)) 134 (mi 132 0 + 1).toNat (gby x 2)) 132 0 (mi 132 0 + 1 + 1)) ml) rfl ?_
            refine Go.run hsz hn1 1 (pc' := 42) (lv' := [some (gr 0), some (gi x), some (gi 4), some (gi 1)]) (st' := [gi 1]) (M' := gw (gu (gu (gu (gu mi 134 (mi 132 0).toNat (gby x 3)) 132 0 (mi 132 0 + 1)) 134 (mi 132 0 + 1).toNat (gby x 2)) 132 0 (mi 132 0 + 1 + 1)) ml) rfl ?_
            refine Go.if_lt (by rfl) ⟨by decide, by decide⟩ (fun kq20 => ?_) (fun kq20 => ?_)
            · exact absurd kq20 (by decide)
            · refine Go.run hsz hn1 9 (pc' := 59) (lv' := [some (gr 0), some (gi x), some (gi 4), some (gi 1)]) (st' := [gi (andI (((iI x).toUInt32 >>> ((iI 8).toUInt32 &&& Int32.toUInt32 31)).toInt32.toInt) 255), gr 132]) (M' := gw (gu (gu (gu (gu mi 134 (mi 132 0).toNat (gby x 3)) 132 0 (mi 132 0 + 1)) 134 (mi 132 0 + 1).toNat (gby x 2)) 132 0 (mi 132 0 + 1 + 1)) ml) rfl ?_
              rw [show andI (((iI x).toUInt32 >>> ((iI 8).toUInt32 &&& Int32.toUInt32 31)).toInt32.toInt) 255 = gby x 1 from ush_by x 1 (by decide)]
              refine Go.callV (As := [gi (gby x 1)]) (b := 132) (st := []) (mc1 := 0) (mc := 0) (ms1 := 0) (ms := 0) (by rfl) rfl (c := 8) (N := 11) (by rfl) (by decide) (by rfl) (gcn 78 (by decide)).1 (gcn 78 (by decide)).2 rfl (Nat.le_of_ble_eq_true rfl) (by omega) (cT_append hsz (n := n - 1) (by omega) (gu (gu (gu (gu mi 134 (mi 132 0).toNat (gby x 3)) 132 0 (mi 132 0 + 1)) 134 (mi 132 0 + 1).toNat (gby x 2)) 132 0 (mi 132 0 + 1 + 1)) ml (gby x 1) (by show 0 ≤ mi 132 0 + 1 + 1; omega) (by show mi 132 0 + 1 + 1 < 120; omega)) ?_
              rintro _ _ ⟨rfl, rfl⟩
              refine Go.run hsz hn1 2 (pc' := 41) (lv' := [some (gr 0), some (gi x), some (gi 4), some (gi 0)]) (st' := []) (M' := gw (gu (gu (gu (gu (gu (gu mi 134 (mi 132 0).toNat (gby x 3)) 132 0 (mi 132 0 + 1)) 134 (mi 132 0 + 1).toNat (gby x 2)) 132 0 (mi 132 0 + 1 + 1)) 134 (mi 132 0 + 1 + 1).toNat (gby x 1)) 132 0 (mi 132 0 + 1 + 1 + 1)) ml) rfl ?_
              refine Go.run hsz hn1 1 (pc' := 42) (lv' := [some (gr 0), some (gi x), some (gi 4), some (gi 0)]) (st' := [gi 0]) (M' := gw (gu (gu (gu (gu (gu (gu mi 134 (mi 132 0).toNat (gby x 3)) 132 0 (mi 132 0 + 1)) 134 (mi 132 0 + 1).toNat (gby x 2)) 132 0 (mi 132 0 + 1 + 1)) 134 (mi 132 0 + 1 + 1).toNat (gby x 1)) 132 0 (mi 132 0 + 1 + 1 + 1)) ml) rfl ?_
              refine Go.if_lt (by rfl) ⟨by decide, by decide⟩ (fun kq21 => ?_) (fun kq21 => ?_)
              · exact absurd kq21 (by decide)
              · refine Go.run hsz hn1 9 (pc' := 59) (lv' := [some (gr 0), some (gi x), some (gi 4), some (gi 0)]) (st' := [gi (andI (((iI x).toUInt32 >>> ((iI 0).toUInt32 &&& Int32.toUInt32 31)).toInt32.toInt) 255), gr 132]) (M' := gw (gu (gu (gu (gu (gu (gu mi 134 (mi 132 0).toNat (gby x 3)) 132 0 (mi 132 0 + 1)) 134 (mi 132 0 + 1).toNat (gby x 2)) 132 0 (mi 132 0 + 1 + 1)) 134 (mi 132 0 + 1 + 1).toNat (gby x 1)) 132 0 (mi 132 0 + 1 + 1 + 1)) ml) rfl ?_
                rw [show andI (((iI x).toUInt32 >>> ((iI 0).toUInt32 &&& Int32.toUInt32 31)).toInt32.toInt) 255 = gby x 0 from ush_by x 0 (by decide)]
                refine Go.callV (As := [gi (gby x 0)]) (b := 132) (st := []) (mc1 := 0) (mc := 0) (ms1 := 0) (ms := 0) (by rfl) rfl (c := 8) (N := 11) (by rfl) (by decide) (by rfl) (gcn 78 (by decide)).1 (gcn 78 (by decide)).2 rfl (Nat.le_of_ble_eq_true rfl) (by omega) (cT_append hsz (n := n - 1) (by omega) (gu (gu (gu (gu (gu (gu mi 134 (mi 132 0).toNat (gby x 3)) 132 0 (mi 132 0 + 1)) 134 (mi 132 0 + 1).toNat (gby x 2)) 132 0 (mi 132 0 + 1 + 1)) 134 (mi 132 0 + 1 + 1).toNat (gby x 1)) 132 0 (mi 132 0 + 1 + 1 + 1)) ml (gby x 0) (by show 0 ≤ mi 132 0 + 1 + 1 + 1; omega) (by show mi 132 0 + 1 + 1 + 1 < 120; omega)) ?_
                rintro _ _ ⟨rfl, rfl⟩
                refine Go.run hsz hn1 2 (pc' := 41) (lv' := [some (gr 0), some (gi x), some (gi 4), some (gi (-1))]) (st' := []) (M' := gw (gu (gu (gu (gu (gu (gu (gu (gu mi 134 (mi 132 0).toNat (gby x 3)) 132 0 (mi 132 0 + 1)) 134 (mi 132 0 + 1).toNat (gby x 2)) 132 0 (mi 132 0 + 1 + 1)) 134 (mi 132 0 + 1 + 1).toNat (gby x 1)) 132 0 (mi 132 0 + 1 + 1 + 1)) 134 (mi 132 0 + 1 + 1 + 1).toNat (gby x 0)) 132 0 (mi 132 0 + 1 + 1 + 1 + 1)) ml) rfl ?_
                refine Go.run hsz hn1 1 (pc' := 42) (lv' := [some (gr 0), some (gi x), some (gi 4), some (gi (-1))]) (st' := [gi (-1)]) (M' := gw (gu (gu (gu (gu (gu (gu (gu (gu mi 134 (mi 132 0).toNat (gby x 3)) 132 0 (mi 132 0 + 1)) 134 (mi 132 0 + 1).toNat (gby x 2)) 132 0 (mi 132 0 + 1 + 1)) 134 (mi 132 0 + 1 + 1).toNat (gby x 1)) 132 0 (mi 132 0 + 1 + 1 + 1)) 134 (mi 132 0 + 1 + 1 + 1).toNat (gby x 0)) 132 0 (mi 132 0 + 1 + 1 + 1 + 1)) ml) rfl ?_
                refine Go.if_lt (by rfl) ⟨by decide, by decide⟩ (fun kq22 => ?_) (fun kq22 => ?_)
                · refine Go.run hsz hn1 3 (pc' := 75) (lv' := [some (gr 0), some (gi x), some (gi 4), some (gi (-1))]) (st' := [gi (mi 132 0 + 1 + 1 + 1 + 1)]) (M' := gw (gu (gu (gu (gu (gu (gu (gu (gu mi 134 (mi 132 0).toNat (gby x 3)) 132 0 (mi 132 0 + 1)) 134 (mi 132 0 + 1).toNat (gby x 2)) 132 0 (mi 132 0 + 1 + 1)) 134 (mi 132 0 + 1 + 1).toNat (gby x 1)) 132 0 (mi 132 0 + 1 + 1 + 1)) 134 (mi 132 0 + 1 + 1 + 1).toNat (gby x 0)) 132 0 (mi 132 0 + 1 + 1 + 1 + 1)) ml) rfl ?_
                  refine Go.iret (by rfl) ?_
                  first | (exact Or.inl ⟨by omega, rfl, rfl⟩) | (exact Or.inr (Or.inl ⟨by omega, rfl, rfl⟩)) | (exact Or.inr (Or.inr (Or.inl ⟨by omega, rfl, rfl⟩))) | (exact Or.inr (Or.inr (Or.inr (Or.inl ⟨by omega, rfl, rfl⟩)))) | (exact Or.inr (Or.inr (Or.inr (Or.inr (Or.inl ⟨by omega, rfl, rfl⟩))))) | (exact Or.inr (Or.inr (Or.inr (Or.inr (Or.inr (⟨by omega, rfl, rfl⟩))))))
                · exact absurd kq22 (by decide)
      · refine Go.run hsz hn1 2 (pc' := 33) (lv' := [some (gr 0), some (gi x), some (gi 4), none]) (st' := [gi (-1000002), gr 0]) (M' := gw mi ml) rfl ?_
        refine Go.callV (As := [gi (-1000002)]) (b := 0) (st := []) (mc1 := 0) (mc := 0) (ms1 := 0) (ms := 0) (by rfl) rfl (c := 10) (N := 9) (by rfl) (by decide) (by rfl) (gcn 147 (by decide)).1 (gcn 147 (by decide)).2 rfl (Nat.le_of_ble_eq_true rfl) (by omega) (cC_finding hsz (n := n - 1) (by omega) mi ml (-1000002) (by decide) (by decide)) ?_
        rintro _ _ ⟨rfl, rfl⟩
        refine Go.run hsz hn1 0 (pc' := 36) (lv' := [some (gr 0), some (gi x), some (gi 4), none]) (st' := [gi (-1000002)]) (M' := gw (cFd mi 1) ml) rfl ?_
        refine Go.iret (by rfl) ?_
        first | (exact Or.inl ⟨by omega, rfl, rfl⟩) | (exact Or.inr (Or.inl ⟨by omega, rfl, rfl⟩)) | (exact Or.inr (Or.inr (Or.inl ⟨by omega, rfl, rfl⟩))) | (exact Or.inr (Or.inr (Or.inr (Or.inl ⟨by omega, rfl, rfl⟩)))) | (exact Or.inr (Or.inr (Or.inr (Or.inr (Or.inl ⟨by omega, rfl, rfl⟩))))) | (exact Or.inr (Or.inr (Or.inr (Or.inr (Or.inr (⟨by omega, rfl, rfl⟩))))))
    · replace kq16 := b2_neg kq16
      refine Go.run hsz hn1 2 (pc' := 12) (lv' := [some (gr 0), some (gi x), some (gi 4), none]) (st' := [gi (-1000001), gr 0]) (M' := gw mi ml) rfl ?_
      refine Go.callV (As := [gi (-1000001)]) (b := 0) (st := []) (mc1 := 0) (mc := 0) (ms1 := 0) (ms := 0) (by rfl) rfl (c := 10) (N := 9) (by rfl) (by decide) (by rfl) (gcn 147 (by decide)).1 (gcn 147 (by decide)).2 rfl (Nat.le_of_ble_eq_true rfl) (by omega) (cC_finding hsz (n := n - 1) (by omega) mi ml (-1000001) (by decide) (by decide)) ?_
      rintro _ _ ⟨rfl, rfl⟩
      refine Go.run hsz hn1 0 (pc' := 15) (lv' := [some (gr 0), some (gi x), some (gi 4), none]) (st' := [gi (-1000001)]) (M' := gw (cFd mi 0) ml) rfl ?_
      refine Go.iret (by rfl) ?_
      first | (exact Or.inl ⟨by omega, rfl, rfl⟩) | (exact Or.inr (Or.inl ⟨by omega, rfl, rfl⟩)) | (exact Or.inr (Or.inr (Or.inl ⟨by omega, rfl, rfl⟩))) | (exact Or.inr (Or.inr (Or.inr (Or.inl ⟨by omega, rfl, rfl⟩)))) | (exact Or.inr (Or.inr (Or.inr (Or.inr (Or.inl ⟨by omega, rfl, rfl⟩))))) | (exact Or.inr (Or.inr (Or.inr (Or.inr (Or.inr (⟨by omega, rfl, rfl⟩))))))
  · refine Go.run hsz hn1 3 (pc' := 3) (lv' := [some (gr 0), some (gi x), some (gi n_), none]) (st' := [gi 4, gi 1, gi n_]) (M' := gw mi ml) rfl ?_
    refine Go.callS (As := [gi n_, gi 1, gi 4]) (st := []) (mc1 := 0) (mc := 0) (ms1 := 0) (ms := 0) (by rfl) rfl (gcn 150 (by decide)).1 (gcn 150 (by decide)).2 (Nat.le_of_ble_eq_true rfl) (by omega) (cC_isIn hsz (n := n - 1) (by omega) mi ml n_ 1 4 r_n ⟨by decide, by decide⟩ ⟨by decide, by decide⟩) ?_
    rintro _ _ ⟨rfl, rfl⟩
    refine Go.run hsz hn1 0 (pc' := 6) (lv' := [some (gr 0), some (gi x), some (gi n_), none]) (st' := [gi (b2 (1 ≤ n_ ∧ n_ ≤ 4))]) (M' := gw mi ml) rfl ?_
    refine Go.if_ne (by rfl) (b2_rng _) (fun kq23 => ?_) (fun kq23 => ?_)
    · replace kq23 := b2_pos kq23
      refine Go.run hsz hn1 6 (pc' := 27) (lv' := [some (gr 0), some (gi x), some (gi n_), none]) (st' := [gi 120, gi ((mi 132 0) + n_)]) (M' := gw mi ml) rfl ?_
      refine Go.icmp_le (by rfl) ⟨by omega, by omega⟩ ⟨by decide, by decide⟩ (fun kq24 => ?_) (fun kq24 => ?_)
      · refine Go.run hsz hn1 4 (pc' := 41) (lv' := [some (gr 0), some (gi x), some (gi n_), some (gi (n_ - 1))]) (st' := []) (M' := gw mi ml) rfl ?_
        exfalso; omega
      · refine Go.run hsz hn1 2 (pc' := 33) (lv' := [some (gr 0), some (gi x), some (gi n_), none]) (st' := [gi (-1000002), gr 0]) (M' := gw mi ml) rfl ?_
        refine Go.callV (As := [gi (-1000002)]) (b := 0) (st := []) (mc1 := 0) (mc := 0) (ms1 := 0) (ms := 0) (by rfl) rfl (c := 10) (N := 9) (by rfl) (by decide) (by rfl) (gcn 147 (by decide)).1 (gcn 147 (by decide)).2 rfl (Nat.le_of_ble_eq_true rfl) (by omega) (cC_finding hsz (n := n - 1) (by omega) mi ml (-1000002) (by decide) (by decide)) ?_
        rintro _ _ ⟨rfl, rfl⟩
        refine Go.run hsz hn1 0 (pc' := 36) (lv' := [some (gr 0), some (gi x), some (gi n_), none]) (st' := [gi (-1000002)]) (M' := gw (cFd mi 1) ml) rfl ?_
        refine Go.iret (by rfl) ?_
        first | (exact Or.inl ⟨by omega, rfl, rfl⟩) | (exact Or.inr (Or.inl ⟨by omega, rfl, rfl⟩)) | (exact Or.inr (Or.inr (Or.inl ⟨by omega, rfl, rfl⟩))) | (exact Or.inr (Or.inr (Or.inr (Or.inl ⟨by omega, rfl, rfl⟩)))) | (exact Or.inr (Or.inr (Or.inr (Or.inr (Or.inl ⟨by omega, rfl, rfl⟩))))) | (exact Or.inr (Or.inr (Or.inr (Or.inr (Or.inr (⟨by omega, rfl, rfl⟩))))))
    · replace kq23 := b2_neg kq23
      refine Go.run hsz hn1 2 (pc' := 12) (lv' := [some (gr 0), some (gi x), some (gi n_), none]) (st' := [gi (-1000001), gr 0]) (M' := gw mi ml) rfl ?_
      refine Go.callV (As := [gi (-1000001)]) (b := 0) (st := []) (mc1 := 0) (mc := 0) (ms1 := 0) (ms := 0) (by rfl) rfl (c := 10) (N := 9) (by rfl) (by decide) (by rfl) (gcn 147 (by decide)).1 (gcn 147 (by decide)).2 rfl (Nat.le_of_ble_eq_true rfl) (by omega) (cC_finding hsz (n := n - 1) (by omega) mi ml (-1000001) (by decide) (by decide)) ?_
      rintro _ _ ⟨rfl, rfl⟩
      refine Go.run hsz hn1 0 (pc' := 15) (lv' := [some (gr 0), some (gi x), some (gi n_), none]) (st' := [gi (-1000001)]) (M' := gw (cFd mi 0) ml) rfl ?_
      refine Go.iret (by rfl) ?_
      first | (exact Or.inl ⟨by omega, rfl, rfl⟩) | (exact Or.inr (Or.inl ⟨by omega, rfl, rfl⟩)) | (exact Or.inr (Or.inr (Or.inl ⟨by omega, rfl, rfl⟩))) | (exact Or.inr (Or.inr (Or.inr (Or.inl ⟨by omega, rfl, rfl⟩)))) | (exact Or.inr (Or.inr (Or.inr (Or.inr (Or.inl ⟨by omega, rfl, rfl⟩))))) | (exact Or.inr (Or.inr (Or.inr (Or.inr (Or.inr (⟨by omega, rfl, rfl⟩))))))
set_option maxRecDepth 100000 in
set_option maxHeartbeats 4000000 in
theorem pM_feed {G : gG} (hsz : G.2.2.2.2.2.2 = true) {n : Nat} (hn : 3 ≤ n) (mi : Nat → Nat → Int) (ml : Nat → Nat → Int64) (x n_ : Int) (r_x : rng x) (r_n : rng n_) (hv : SV mi) (hz : 0 ≤ mi 148 22 ∧ mi 148 22 ≤ 120) : gM G 187 n 0 0 [gr 148, gi x, gi n_] (gw mi ml) (fun r M => gE (n_ = 1 ∧ mi 148 22 + 1 ≤ 120) (mi 148 22 + 1) (gu (gu mi 164 (mi 148 22).toNat (gby x 0)) 148 22 (mi 148 22 + 1)) ml r M ∨ gE (n_ = 2 ∧ mi 148 22 + 2 ≤ 120) ((mi 148 22 + 1) + 1) (gu (gu (gu (gu mi 164 (mi 148 22).toNat (gby x 1)) 148 22 (mi 148 22 + 1)) 164 (mi 148 22 + 1).toNat (gby x 0)) 148 22 (mi 148 22 + 1 + 1)) ml r M ∨ gE (n_ = 3 ∧ mi 148 22 + 3 ≤ 120) (((mi 148 22 + 1) + 1) + 1) (gu (gu (gu (gu (gu (gu mi 164 (mi 148 22).toNat (gby x 2)) 148 22 (mi 148 22 + 1)) 164 (mi 148 22 + 1).toNat (gby x 1)) 148 22 (mi 148 22 + 1 + 1)) 164 ((mi 148 22 + 1) + 1).toNat (gby x 0)) 148 22 ((mi 148 22 + 1) + 1 + 1)) ml r M ∨ gE (n_ = 4 ∧ mi 148 22 + 4 ≤ 120) ((((mi 148 22 + 1) + 1) + 1) + 1) (gu (gu (gu (gu (gu (gu (gu (gu mi 164 (mi 148 22).toNat (gby x 3)) 148 22 (mi 148 22 + 1)) 164 (mi 148 22 + 1).toNat (gby x 2)) 148 22 (mi 148 22 + 1 + 1)) 164 ((mi 148 22 + 1) + 1).toNat (gby x 1)) 148 22 ((mi 148 22 + 1) + 1 + 1)) 164 (((mi 148 22 + 1) + 1) + 1).toNat (gby x 0)) 148 22 (((mi 148 22 + 1) + 1) + 1 + 1)) ml r M ∨ gE (¬ (1 ≤ n_ ∧ n_ ≤ 4)) (-1000001) (mFd mi 0) ml r M ∨ gE ((1 ≤ n_ ∧ n_ ≤ 4) ∧ 120 < mi 148 22 + n_) (-1000002) (mFd mi 1) ml r M) := by
  have hn1 : 1 ≤ n := by omega
  obtain ⟨hR, ht, hp, hq, hP, hQ⟩ := id hv
  refine gM.of mX12_feed okX12_feed (gcp 187 (by decide)).1 (gcp 187 (by decide)).2 (Nat.le_of_ble_eq_true rfl) ?_
  rcases (show n_ = 1 ∨ n_ = 2 ∨ n_ = 3 ∨ n_ = 4 ∨ (n_ < 1 ∨ 4 < n_) by omega) with rfl | rfl | rfl | rfl | hd
  · refine Go.run hsz hn1 3 (pc' := 3) (lv' := [some (gr 148), some (gi x), some (gi 1), none]) (st' := [gi 4, gi 1, gi 1]) (M' := gw mi ml) rfl ?_
    refine Go.callS (As := [gi 1, gi 1, gi 4]) (st := []) (mc1 := 0) (mc := 0) (ms1 := 0) (ms := 0) (by rfl) rfl (gcn 153 (by decide)).1 (gcn 153 (by decide)).2 (Nat.le_of_ble_eq_true rfl) (by omega) (cM_in hsz (n := n - 1) (by omega) mi ml 1 1 4 ⟨by decide, by decide⟩ ⟨by decide, by decide⟩ ⟨by decide, by decide⟩) ?_
    rintro _ _ ⟨rfl, rfl⟩
    refine Go.run hsz hn1 0 (pc' := 6) (lv' := [some (gr 148), some (gi x), some (gi 1), none]) (st' := [gi (b2 (1 ≤ 1 ∧ 1 ≤ 4))]) (M' := gw mi ml) rfl ?_
    refine Go.if_ne (by rfl) (b2_rng _) (fun kq1 => ?_) (fun kq1 => ?_)
    · replace kq1 := b2_pos kq1
      refine Go.run hsz hn1 5 (pc' := 23) (lv' := [some (gr 148), some (gi x), some (gi 1), none]) (st' := [gi 120, gi ((mi 148 22) + 1)]) (M' := gw mi ml) rfl ?_
      refine Go.icmp_le (by rfl) ⟨by omega, by omega⟩ ⟨by decide, by decide⟩ (fun kq2 => ?_) (fun kq2 => ?_)
      · refine Go.run hsz hn1 4 (pc' := 36) (lv' := [some (gr 148), some (gi x), some (gi 1), some (gi 0)]) (st' := []) (M' := gw mi ml) rfl ?_
        refine Go.run hsz hn1 1 (pc' := 37) (lv' := [some (gr 148), some (gi x), some (gi 1), some (gi 0)]) (st' := [gi 0]) (M' := gw mi ml) rfl ?_
        refine Go.if_lt (by rfl) ⟨by decide, by decide⟩ (fun kq3 => ?_) (fun kq3 => ?_)
        · exact absurd kq3 (by decide)
        · refine Go.run hsz hn1 11 (pc' := 58) (lv' := [some (gr 148), some (gi x), some (gi 1), some (gi 0)]) (st' := [gi (andI (shrI x 0) 255), gi (mi 148 22), gr 164]) (M' := gw mi ml) rfl ?_
          refine Go.iast (by rfl) (N := 120) (by rfl) (by omega) (by omega) (by decide) ?_
          refine Go.run hsz hn1 3 (pc' := 64) (lv' := [some (gr 148), some (gi x), some (gi 1), some (gi 0)]) (st' := [gi (mi 148 22), gr 148]) (M' := gw (gu mi 164 ((mi 148 22).toNat) (andI (shrI x 0) 255)) ml) rfl ?_
          refine Go.run hsz hn1 0 (pc' := 64) (lv' := [some (gr 148), some (gi x), some (gi 1), some (gi 0)]) (st' := [gi ((gu mi 164 ((mi 148 22).toNat) (andI (shrI x 0) 255)) 148 22), gr 148]) (M' := gw (gu mi 164 ((mi 148 22).toNat) (andI (shrI x 0) 255)) ml) rfl ?_
          rw [show (gu mi 164 ((mi 148 22).toNat) (andI (shrI x 0) 255)) 148 22 = mi 148 22 from gu_ne (Or.inl (by decide))]
          refine Go.run hsz hn1 5 (pc' := 36) (lv' := [some (gr 148), some (gi x), some (gi 1), some (gi (-1))]) (st' := []) (M' := gw (gu (gu mi 164 ((mi 148 22).toNat) (andI (shrI x 0) 255)) 148 22 ((mi 148 22) + 1)) ml) rfl ?_
          refine Go.run hsz hn1 1 (pc' := 37) (lv' := [some (gr 148), some (gi x), some (gi 1), some (gi (-1))]) (st' := [gi (-1)]) (M' := gw (gu (gu mi 164 ((mi 148 22).toNat) (andI (shrI x 0) 255)) 148 22 ((mi 148 22) + 1)) ml) rfl ?_
          refine Go.if_lt (by rfl) ⟨by decide, by decide⟩ (fun kq4 => ?_) (fun kq4 => ?_)
          · refine Go.run hsz hn1 2 (pc' := 79) (lv' := [some (gr 148), some (gi x), some (gi 1), some (gi (-1))]) (st' := [gi ((mi 148 22) + 1)]) (M' := gw (gu (gu mi 164 ((mi 148 22).toNat) (andI (shrI x 0) 255)) 148 22 ((mi 148 22) + 1)) ml) rfl ?_
            refine Go.iret (by rfl) ?_
            first | (exact Or.inl ⟨by omega, rfl, rfl⟩) | (exact Or.inr (Or.inl ⟨by omega, rfl, rfl⟩)) | (exact Or.inr (Or.inr (Or.inl ⟨by omega, rfl, rfl⟩))) | (exact Or.inr (Or.inr (Or.inr (Or.inl ⟨by omega, rfl, rfl⟩)))) | (exact Or.inr (Or.inr (Or.inr (Or.inr (Or.inl ⟨by omega, rfl, rfl⟩))))) | (exact Or.inr (Or.inr (Or.inr (Or.inr (Or.inr (⟨by omega, rfl, rfl⟩))))))
          · exact absurd kq4 (by decide)
      · refine Go.run hsz hn1 2 (pc' := 28) (lv' := [some (gr 148), some (gi x), some (gi 1), none]) (st' := [gi 1, gr 148]) (M' := gw mi ml) rfl ?_
        refine Go.callV (As := [gi 1]) (b := 148) (st := []) (mc1 := 0) (mc := 0) (ms1 := 0) (ms := 0) (by rfl) rfl (c := 11) (N := 46) (by rfl) (by decide) (by rfl) (gcn 154 (by decide)).1 (gcn 154 (by decide)).2 rfl (Nat.le_of_ble_eq_true rfl) (by omega) (cM_finds hsz (n := n - 1) (by omega) mi ml 1 (by decide) (by decide)) ?_
        rintro _ _ ⟨rfl, rfl⟩
        refine Go.run hsz hn1 0 (pc' := 31) (lv' := [some (gr 148), some (gi x), some (gi 1), none]) (st' := [gi (-1000002)]) (M' := gw (mFd mi 1) ml) rfl ?_
        refine Go.iret (by rfl) ?_
        first | (exact Or.inl ⟨by omega, rfl, rfl⟩) | (exact Or.inr (Or.inl ⟨by omega, rfl, rfl⟩)) | (exact Or.inr (Or.inr (Or.inl ⟨by omega, rfl, rfl⟩))) | (exact Or.inr (Or.inr (Or.inr (Or.inl ⟨by omega, rfl, rfl⟩)))) | (exact Or.inr (Or.inr (Or.inr (Or.inr (Or.inl ⟨by omega, rfl, rfl⟩))))) | (exact Or.inr (Or.inr (Or.inr (Or.inr (Or.inr (⟨by omega, rfl, rfl⟩))))))
    · replace kq1 := b2_neg kq1
      refine Go.run hsz hn1 2 (pc' := 11) (lv' := [some (gr 148), some (gi x), some (gi 1), none]) (st' := [gi 0, gr 148]) (M' := gw mi ml) rfl ?_
      refine Go.callV (As := [gi 0]) (b := 148) (st := []) (mc1 := 0) (mc := 0) (ms1 := 0) (ms := 0) (by rfl) rfl (c := 11) (N := 46) (by rfl) (by decide) (by rfl) (gcn 154 (by decide)).1 (gcn 154 (by decide)).2 rfl (Nat.le_of_ble_eq_true rfl) (by omega) (cM_finds hsz (n := n - 1) (by omega) mi ml 0 (by decide) (by decide)) ?_
      rintro _ _ ⟨rfl, rfl⟩
      refine Go.run hsz hn1 0 (pc' := 14) (lv' := [some (gr 148), some (gi x), some (gi 1), none]) (st' := [gi (-1000001)]) (M' := gw (mFd mi 0) ml) rfl ?_
      refine Go.iret (by rfl) ?_
      first | (exact Or.inl ⟨by omega, rfl, rfl⟩) | (exact Or.inr (Or.inl ⟨by omega, rfl, rfl⟩)) | (exact Or.inr (Or.inr (Or.inl ⟨by omega, rfl, rfl⟩))) | (exact Or.inr (Or.inr (Or.inr (Or.inl ⟨by omega, rfl, rfl⟩)))) | (exact Or.inr (Or.inr (Or.inr (Or.inr (Or.inl ⟨by omega, rfl, rfl⟩))))) | (exact Or.inr (Or.inr (Or.inr (Or.inr (Or.inr (⟨by omega, rfl, rfl⟩))))))
  · refine Go.run hsz hn1 3 (pc' := 3) (lv' := [some (gr 148), some (gi x), some (gi 2), none]) (st' := [gi 4, gi 1, gi 2]) (M' := gw mi ml) rfl ?_
    refine Go.callS (As := [gi 2, gi 1, gi 4]) (st := []) (mc1 := 0) (mc := 0) (ms1 := 0) (ms := 0) (by rfl) rfl (gcn 153 (by decide)).1 (gcn 153 (by decide)).2 (Nat.le_of_ble_eq_true rfl) (by omega) (cM_in hsz (n := n - 1) (by omega) mi ml 2 1 4 ⟨by decide, by decide⟩ ⟨by decide, by decide⟩ ⟨by decide, by decide⟩) ?_
    rintro _ _ ⟨rfl, rfl⟩
    refine Go.run hsz hn1 0 (pc' := 6) (lv' := [some (gr 148), some (gi x), some (gi 2), none]) (st' := [gi (b2 (1 ≤ 2 ∧ 2 ≤ 4))]) (M' := gw mi ml) rfl ?_
    refine Go.if_ne (by rfl) (b2_rng _) (fun kq5 => ?_) (fun kq5 => ?_)
    · replace kq5 := b2_pos kq5
      refine Go.run hsz hn1 5 (pc' := 23) (lv' := [some (gr 148), some (gi x), some (gi 2), none]) (st' := [gi 120, gi ((mi 148 22) + 2)]) (M' := gw mi ml) rfl ?_
      refine Go.icmp_le (by rfl) ⟨by omega, by omega⟩ ⟨by decide, by decide⟩ (fun kq6 => ?_) (fun kq6 => ?_)
      · refine Go.run hsz hn1 4 (pc' := 36) (lv' := [some (gr 148), some (gi x), some (gi 2), some (gi 1)]) (st' := []) (M' := gw mi ml) rfl ?_
        refine Go.run hsz hn1 1 (pc' := 37) (lv' := [some (gr 148), some (gi x), some (gi 2), some (gi 1)]) (st' := [gi 1]) (M' := gw mi ml) rfl ?_
        refine Go.if_lt (by rfl) ⟨by decide, by decide⟩ (fun kq7 => ?_) (fun kq7 => ?_)
        · exact absurd kq7 (by decide)
        · refine Go.run hsz hn1 11 (pc' := 58) (lv' := [some (gr 148), some (gi x), some (gi 2), some (gi 1)]) (st' := [gi (andI (shrI x 8) 255), gi (mi 148 22), gr 164]) (M' := gw mi ml) rfl ?_
          refine Go.iast (by rfl) (N := 120) (by rfl) (by omega) (by omega) (by decide) ?_
          refine Go.run hsz hn1 3 (pc' := 64) (lv' := [some (gr 148), some (gi x), some (gi 2), some (gi 1)]) (st' := [gi (mi 148 22), gr 148]) (M' := gw (gu mi 164 ((mi 148 22).toNat) (andI (shrI x 8) 255)) ml) rfl ?_
          refine Go.run hsz hn1 0 (pc' := 64) (lv' := [some (gr 148), some (gi x), some (gi 2), some (gi 1)]) (st' := [gi ((gu mi 164 ((mi 148 22).toNat) (andI (shrI x 8) 255)) 148 22), gr 148]) (M' := gw (gu mi 164 ((mi 148 22).toNat) (andI (shrI x 8) 255)) ml) rfl ?_
          rw [show (gu mi 164 ((mi 148 22).toNat) (andI (shrI x 8) 255)) 148 22 = mi 148 22 from gu_ne (Or.inl (by decide))]
          refine Go.run hsz hn1 5 (pc' := 36) (lv' := [some (gr 148), some (gi x), some (gi 2), some (gi 0)]) (st' := []) (M' := gw (gu (gu mi 164 ((mi 148 22).toNat) (andI (shrI x 8) 255)) 148 22 ((mi 148 22) + 1)) ml) rfl ?_
          refine Go.run hsz hn1 1 (pc' := 37) (lv' := [some (gr 148), some (gi x), some (gi 2), some (gi 0)]) (st' := [gi 0]) (M' := gw (gu (gu mi 164 ((mi 148 22).toNat) (andI (shrI x 8) 255)) 148 22 ((mi 148 22) + 1)) ml) rfl ?_
          refine Go.if_lt (by rfl) ⟨by decide, by decide⟩ (fun kq8 => ?_) (fun kq8 => ?_)
          · exact absurd kq8 (by decide)
          · refine Go.run hsz hn1 11 (pc' := 58) (lv' := [some (gr 148), some (gi x), some (gi 2), some (gi 0)]) (st' := [gi (andI (shrI x 0) 255), gi ((mi 148 22) + 1), gr 164]) (M' := gw (gu (gu mi 164 ((mi 148 22).toNat) (andI (shrI x 8) 255)) 148 22 ((mi 148 22) + 1)) ml) rfl ?_
            refine Go.iast (by rfl) (N := 120) (by rfl) (by omega) (by omega) (by decide) ?_
            refine Go.run hsz hn1 3 (pc' := 64) (lv' := [some (gr 148), some (gi x), some (gi 2), some (gi 0)]) (st' := [gi ((mi 148 22) + 1), gr 148]) (M' := gw (gu (gu (gu mi 164 ((mi 148 22).toNat) (andI (shrI x 8) 255)) 148 22 ((mi 148 22) + 1)) 164 (((mi 148 22) + 1).toNat) (andI (shrI x 0) 255)) ml) rfl ?_
            refine Go.run hsz hn1 0 (pc' := 64) (lv' := [some (gr 148), some (gi x), some (gi 2), some (gi 0)]) (st' := [gi ((gu (gu (gu mi 164 ((mi 148 22).toNat) (andI (shrI x 8) 255)) 148 22 ((mi 148 22) + 1)) 164 (((mi 148 22) + 1).toNat) (andI (shrI x 0) 255)) 148 22), gr 148]) (M' := gw (gu (gu (gu mi 164 ((mi 148 22).toNat) (andI (shrI x 8) 255)) 148 22 ((mi 148 22) + 1)) 164 (((mi 148 22) + 1).toNat) (andI (shrI x 0) 255)) ml) rfl ?_
            rw [show (gu (gu (gu mi 164 ((mi 148 22).toNat) (andI (shrI x 8) 255)) 148 22 ((mi 148 22) + 1)) 164 (((mi 148 22) + 1).toNat) (andI (shrI x 0) 255)) 148 22 = (mi 148 22) + 1 from (gu_ne (Or.inl (by decide))).trans (gu_self _ _ _ _)]
            refine Go.run hsz hn1 5 (pc' := 36) (lv' := [some (gr 148), some (gi x), some (gi 2), some (gi (-1))]) (st' := []) (M' := gw (gu (gu (gu (gu mi 164 ((mi 148 22).toNat) (andI (shrI x 8) 255)) 148 22 ((mi 148 22) + 1)) 164 (((mi 148 22) + 1).toNat) (andI (shrI x 0) 255)) 148 22 (((mi 148 22) + 1) + 1)) ml) rfl ?_
            refine Go.run hsz hn1 1 (pc' := 37) (lv' := [some (gr 148), some (gi x), some (gi 2), some (gi (-1))]) (st' := [gi (-1)]) (M' := gw (gu (gu (gu (gu mi 164 ((mi 148 22).toNat) (andI (shrI x 8) 255)) 148 22 ((mi 148 22) + 1)) 164 (((mi 148 22) + 1).toNat) (andI (shrI x 0) 255)) 148 22 (((mi 148 22) + 1) + 1)) ml) rfl ?_
            refine Go.if_lt (by rfl) ⟨by decide, by decide⟩ (fun kq9 => ?_) (fun kq9 => ?_)
            · refine Go.run hsz hn1 2 (pc' := 79) (lv' := [some (gr 148), some (gi x), some (gi 2), some (gi (-1))]) (st' := [gi (((mi 148 22) + 1) + 1)]) (M' := gw (gu (gu (gu (gu mi 164 ((mi 148 22).toNat) (andI (shrI x 8) 255)) 148 22 ((mi 148 22) + 1)) 164 (((mi 148 22) + 1).toNat) (andI (shrI x 0) 255)) 148 22 (((mi 148 22) + 1) + 1)) ml) rfl ?_
              refine Go.iret (by rfl) ?_
              first | (exact Or.inl ⟨by omega, rfl, rfl⟩) | (exact Or.inr (Or.inl ⟨by omega, rfl, rfl⟩)) | (exact Or.inr (Or.inr (Or.inl ⟨by omega, rfl, rfl⟩))) | (exact Or.inr (Or.inr (Or.inr (Or.inl ⟨by omega, rfl, rfl⟩)))) | (exact Or.inr (Or.inr (Or.inr (Or.inr (Or.inl ⟨by omega, rfl, rfl⟩))))) | (exact Or.inr (Or.inr (Or.inr (Or.inr (Or.inr (⟨by omega, rfl, rfl⟩))))))
            · exact absurd kq9 (by decide)
      · refine Go.run hsz hn1 2 (pc' := 28) (lv' := [some (gr 148), some (gi x), some (gi 2), none]) (st' := [gi 1, gr 148]) (M' := gw mi ml) rfl ?_
        refine Go.callV (As := [gi 1]) (b := 148) (st := []) (mc1 := 0) (mc := 0) (ms1 := 0) (ms := 0) (by rfl) rfl (c := 11) (N := 46) (by rfl) (by decide) (by rfl) (gcn 154 (by decide)).1 (gcn 154 (by decide)).2 rfl (Nat.le_of_ble_eq_true rfl) (by omega) (cM_finds hsz (n := n - 1) (by omega) mi ml 1 (by decide) (by decide)) ?_
        rintro _ _ ⟨rfl, rfl⟩
        refine Go.run hsz hn1 0 (pc' := 31) (lv' := [some (gr 148), some (gi x), some (gi 2), none]) (st' := [gi (-1000002)]) (M' := gw (mFd mi 1) ml) rfl ?_
        refine Go.iret (by rfl) ?_
        first | (exact Or.inl ⟨by omega, rfl, rfl⟩) | (exact Or.inr (Or.inl ⟨by omega, rfl, rfl⟩)) | (exact Or.inr (Or.inr (Or.inl ⟨by omega, rfl, rfl⟩))) | (exact Or.inr (Or.inr (Or.inr (Or.inl ⟨by omega, rfl, rfl⟩)))) | (exact Or.inr (Or.inr (Or.inr (Or.inr (Or.inl ⟨by omega, rfl, rfl⟩))))) | (exact Or.inr (Or.inr (Or.inr (Or.inr (Or.inr (⟨by omega, rfl, rfl⟩))))))
    · replace kq5 := b2_neg kq5
      refine Go.run hsz hn1 2 (pc' := 11) (lv' := [some (gr 148), some (gi x), some (gi 2), none]) (st' := [gi 0, gr 148]) (M' := gw mi ml) rfl ?_
      refine Go.callV (As := [gi 0]) (b := 148) (st := []) (mc1 := 0) (mc := 0) (ms1 := 0) (ms := 0) (by rfl) rfl (c := 11) (N := 46) (by rfl) (by decide) (by rfl) (gcn 154 (by decide)).1 (gcn 154 (by decide)).2 rfl (Nat.le_of_ble_eq_true rfl) (by omega) (cM_finds hsz (n := n - 1) (by omega) mi ml 0 (by decide) (by decide)) ?_
      rintro _ _ ⟨rfl, rfl⟩
      refine Go.run hsz hn1 0 (pc' := 14) (lv' := [some (gr 148), some (gi x), some (gi 2), none]) (st' := [gi (-1000001)]) (M' := gw (mFd mi 0) ml) rfl ?_
      refine Go.iret (by rfl) ?_
      first | (exact Or.inl ⟨by omega, rfl, rfl⟩) | (exact Or.inr (Or.inl ⟨by omega, rfl, rfl⟩)) | (exact Or.inr (Or.inr (Or.inl ⟨by omega, rfl, rfl⟩))) | (exact Or.inr (Or.inr (Or.inr (Or.inl ⟨by omega, rfl, rfl⟩)))) | (exact Or.inr (Or.inr (Or.inr (Or.inr (Or.inl ⟨by omega, rfl, rfl⟩))))) | (exact Or.inr (Or.inr (Or.inr (Or.inr (Or.inr (⟨by omega, rfl, rfl⟩))))))
  · refine Go.run hsz hn1 3 (pc' := 3) (lv' := [some (gr 148), some (gi x), some (gi 3), none]) (st' := [gi 4, gi 1, gi 3]) (M' := gw mi ml) rfl ?_
    refine Go.callS (As := [gi 3, gi 1, gi 4]) (st := []) (mc1 := 0) (mc := 0) (ms1 := 0) (ms := 0) (by rfl) rfl (gcn 153 (by decide)).1 (gcn 153 (by decide)).2 (Nat.le_of_ble_eq_true rfl) (by omega) (cM_in hsz (n := n - 1) (by omega) mi ml 3 1 4 ⟨by decide, by decide⟩ ⟨by decide, by decide⟩ ⟨by decide, by decide⟩) ?_
    rintro _ _ ⟨rfl, rfl⟩
    refine Go.run hsz hn1 0 (pc' := 6) (lv' := [some (gr 148), some (gi x), some (gi 3), none]) (st' := [gi (b2 (1 ≤ 3 ∧ 3 ≤ 4))]) (M' := gw mi ml) rfl ?_
    refine Go.if_ne (by rfl) (b2_rng _) (fun kq10 => ?_) (fun kq10 => ?_)
    · replace kq10 := b2_pos kq10
      refine Go.run hsz hn1 5 (pc' := 23) (lv' := [some (gr 148), some (gi x), some (gi 3), none]) (st' := [gi 120, gi ((mi 148 22) + 3)]) (M' := gw mi ml) rfl ?_
      refine Go.icmp_le (by rfl) ⟨by omega, by omega⟩ ⟨by decide, by decide⟩ (fun kq11 => ?_) (fun kq11 => ?_)
      · refine Go.run hsz hn1 4 (pc' := 36) (lv' := [some (gr 148), some (gi x), some (gi 3), some (gi 2)]) (st' := []) (M' := gw mi ml) rfl ?_
        refine Go.run hsz hn1 1 (pc' := 37) (lv' := [some (gr 148), some (gi x), some (gi 3), some (gi 2)]) (st' := [gi 2]) (M' := gw mi ml) rfl ?_
        refine Go.if_lt (by rfl) ⟨by decide, by decide⟩ (fun kq12 => ?_) (fun kq12 => ?_)
        · exact absurd kq12 (by decide)
        · refine Go.run hsz hn1 11 (pc' := 58) (lv' := [some (gr 148), some (gi x), some (gi 3), some (gi 2)]) (st' := [gi (andI (shrI x 16) 255), gi (mi 148 22), gr 164]) (M' := gw mi ml) rfl ?_
          refine Go.iast (by rfl) (N := 120) (by rfl) (by omega) (by omega) (by decide) ?_
          refine Go.run hsz hn1 3 (pc' := 64) (lv' := [some (gr 148), some (gi x), some (gi 3), some (gi 2)]) (st' := [gi (mi 148 22), gr 148]) (M' := gw (gu mi 164 ((mi 148 22).toNat) (andI (shrI x 16) 255)) ml) rfl ?_
          refine Go.run hsz hn1 0 (pc' := 64) (lv' := [some (gr 148), some (gi x), some (gi 3), some (gi 2)]) (st' := [gi ((gu mi 164 ((mi 148 22).toNat) (andI (shrI x 16) 255)) 148 22), gr 148]) (M' := gw (gu mi 164 ((mi 148 22).toNat) (andI (shrI x 16) 255)) ml) rfl ?_
          rw [show (gu mi 164 ((mi 148 22).toNat) (andI (shrI x 16) 255)) 148 22 = mi 148 22 from gu_ne (Or.inl (by decide))]
          refine Go.run hsz hn1 5 (pc' := 36) (lv' := [some (gr 148), some (gi x), some (gi 3), some (gi 1)]) (st' := []) (M' := gw (gu (gu mi 164 ((mi 148 22).toNat) (andI (shrI x 16) 255)) 148 22 ((mi 148 22) + 1)) ml) rfl ?_
          refine Go.run hsz hn1 1 (pc' := 37) (lv' := [some (gr 148), some (gi x), some (gi 3), some (gi 1)]) (st' := [gi 1]) (M' := gw (gu (gu mi 164 ((mi 148 22).toNat) (andI (shrI x 16) 255)) 148 22 ((mi 148 22) + 1)) ml) rfl ?_
          refine Go.if_lt (by rfl) ⟨by decide, by decide⟩ (fun kq13 => ?_) (fun kq13 => ?_)
          · exact absurd kq13 (by decide)
          · refine Go.run hsz hn1 11 (pc' := 58) (lv' := [some (gr 148), some (gi x), some (gi 3), some (gi 1)]) (st' := [gi (andI (shrI x 8) 255), gi ((mi 148 22) + 1), gr 164]) (M' := gw (gu (gu mi 164 ((mi 148 22).toNat) (andI (shrI x 16) 255)) 148 22 ((mi 148 22) + 1)) ml) rfl ?_
            refine Go.iast (by rfl) (N := 120) (by rfl) (by omega) (by omega) (by decide) ?_
            refine Go.run hsz hn1 3 (pc' := 64) (lv' := [some (gr 148), some (gi x), some (gi 3), some (gi 1)]) (st' := [gi ((mi 148 22) + 1), gr 148]) (M' := gw (gu (gu (gu mi 164 ((mi 148 22).toNat) (andI (shrI x 16) 255)) 148 22 ((mi 148 22) + 1)) 164 (((mi 148 22) + 1).toNat) (andI (shrI x 8) 255)) ml) rfl ?_
            refine Go.run hsz hn1 0 (pc' := 64) (lv' := [some (gr 148), some (gi x), some (gi 3), some (gi 1)]) (st' := [gi ((gu (gu (gu mi 164 ((mi 148 22).toNat) (andI (shrI x 16) 255)) 148 22 ((mi 148 22) + 1)) 164 (((mi 148 22) + 1).toNat) (andI (shrI x 8) 255)) 148 22), gr 148]) (M' := gw (gu (gu (gu mi 164 ((mi 148 22).toNat) (andI (shrI x 16) 255)) 148 22 ((mi 148 22) + 1)) 164 (((mi 148 22) + 1).toNat) (andI (shrI x 8) 255)) ml) rfl ?_
            rw [show (gu (gu (gu mi 164 ((mi 148 22).toNat) (andI (shrI x 16) 255)) 148 22 ((mi 148 22) + 1)) 164 (((mi 148 22) + 1).toNat) (andI (shrI x 8) 255)) 148 22 = (mi 148 22) + 1 from (gu_ne (Or.inl (by decide))).trans (gu_self _ _ _ _)]
            refine Go.run hsz hn1 5 (pc' := 36) (lv' := [some (gr 148), some (gi x), some (gi 3), some (gi 0)]) (st' := []) (M' := gw (gu (gu (gu (gu mi 164 ((mi 148 22).toNat) (andI (shrI x 16) 255)) 148 22 ((mi 148 22) + 1)) 164 (((mi 148 22) + 1).toNat) (andI (shrI x 8) 255)) 148 22 (((mi 148 22) + 1) + 1)) ml) rfl ?_
            refine Go.run hsz hn1 1 (pc' := 37) (lv' := [some (gr 148), some (gi x), some (gi 3), some (gi 0)]) (st' := [gi 0]) (M' := gw (gu (gu (gu (gu mi 164 ((mi 148 22).toNat) (andI (shrI x 16) 255)) 148 22 ((mi 148 22) + 1)) 164 (((mi 148 22) + 1).toNat) (andI (shrI x 8) 255)) 148 22 (((mi 148 22) + 1) + 1)) ml) rfl ?_
            refine Go.if_lt (by rfl) ⟨by decide, by decide⟩ (fun kq14 => ?_) (fun kq14 => ?_)
            · exact absurd kq14 (by decide)
            · refine Go.run hsz hn1 11 (pc' := 58) (lv' := [some (gr 148), some (gi x), some (gi 3), some (gi 0)]) (st' := [gi (andI (shrI x 0) 255), gi (((mi 148 22) + 1) + 1), gr 164]) (M' := gw (gu (gu (gu (gu mi 164 ((mi 148 22).toNat) (andI (shrI x 16) 255)) 148 22 ((mi 148 22) + 1)) 164 (((mi 148 22) + 1).toNat) (andI (shrI x 8) 255)) 148 22 (((mi 148 22) + 1) + 1)) ml) rfl ?_
              refine Go.iast (by rfl) (N := 120) (by rfl) (by omega) (by omega) (by decide) ?_
              refine Go.run hsz hn1 3 (pc' := 64) (lv' := [some (gr 148), some (gi x), some (gi 3), some (gi 0)]) (st' := [gi (((mi 148 22) + 1) + 1), gr 148]) (M' := gw (gu (gu (gu (gu (gu mi 164 ((mi 148 22).toNat) (andI (shrI x 16) 255)) 148 22 ((mi 148 22) + 1)) 164 (((mi 148 22) + 1).toNat) (andI (shrI x 8) 255)) 148 22 (((mi 148 22) + 1) + 1)) 164 ((((mi 148 22) + 1) + 1).toNat) (andI (shrI x 0) 255)) ml) rfl ?_
              refine Go.run hsz hn1 0 (pc' := 64) (lv' := [some (gr 148), some (gi x), some (gi 3), some (gi 0)]) (st' := [gi ((gu (gu (gu (gu (gu mi 164 ((mi 148 22).toNat) (andI (shrI x 16) 255)) 148 22 ((mi 148 22) + 1)) 164 (((mi 148 22) + 1).toNat) (andI (shrI x 8) 255)) 148 22 (((mi 148 22) + 1) + 1)) 164 ((((mi 148 22) + 1) + 1).toNat) (andI (shrI x 0) 255)) 148 22), gr 148]) (M' := gw (gu (gu (gu (gu (gu mi 164 ((mi 148 22).toNat) (andI (shrI x 16) 255)) 148 22 ((mi 148 22) + 1)) 164 (((mi 148 22) + 1).toNat) (andI (shrI x 8) 255)) 148 22 (((mi 148 22) + 1) + 1)) 164 ((((mi 148 22) + 1) + 1).toNat) (andI (shrI x 0) 255)) ml) rfl ?_
              rw [show (gu (gu (gu (gu (gu mi 164 ((mi 148 22).toNat) (andI (shrI x 16) 255)) 148 22 ((mi 148 22) + 1)) 164 (((mi 148 22) + 1).toNat) (andI (shrI x 8) 255)) 148 22 (((mi 148 22) + 1) + 1)) 164 ((((mi 148 22) + 1) + 1).toNat) (andI (shrI x 0) 255)) 148 22 = ((mi 148 22) + 1) + 1 from (gu_ne (Or.inl (by decide))).trans (gu_self _ _ _ _)]
              refine Go.run hsz hn1 5 (pc' := 36) (lv' := [some (gr 148), some (gi x), some (gi 3), some (gi (-1))]) (st' := []) (M' := gw (gu (gu (gu (gu (gu (gu mi 164 ((mi 148 22).toNat) (andI (shrI x 16) 255)) 148 22 ((mi 148 22) + 1)) 164 (((mi 148 22) + 1).toNat) (andI (shrI x 8) 255)) 148 22 (((mi 148 22) + 1) + 1)) 164 ((((mi 148 22) + 1) + 1).toNat) (andI (shrI x 0) 255)) 148 22 ((((mi 148 22) + 1) + 1) + 1)) ml) rfl ?_
              refine Go.run hsz hn1 1 (pc' := 37) (lv' := [some (gr 148), some (gi x), some (gi 3), some (gi (-1))]) (st' := [gi (-1)]) (M' := gw (gu (gu (gu (gu (gu (gu mi 164 ((mi 148 22).toNat) (andI (shrI x 16) 255)) 148 22 ((mi 148 22) + 1)) 164 (((mi 148 22) + 1).toNat) (andI (shrI x 8) 255)) 148 22 (((mi 148 22) + 1) + 1)) 164 ((((mi 148 22) + 1) + 1).toNat) (andI (shrI x 0) 255)) 148 22 ((((mi 148 22) + 1) + 1) + 1)) ml) rfl ?_
              refine Go.if_lt (by rfl) ⟨by decide, by decide⟩ (fun kq15 => ?_) (fun kq15 => ?_)
              · refine Go.run hsz hn1 2 (pc' := 79) (lv' := [some (gr 148), some (gi x), some (gi 3), some (gi (-1))]) (st' := [gi ((((mi 148 22) + 1) + 1) + 1)]) (M' := gw (gu (gu (gu (gu (gu (gu mi 164 ((mi 148 22).toNat) (andI (shrI x 16) 255)) 148 22 ((mi 148 22) + 1)) 164 (((mi 148 22) + 1).toNat) (andI (shrI x 8) 255)) 148 22 (((mi 148 22) + 1) + 1)) 164 ((((mi 148 22) + 1) + 1).toNat) (andI (shrI x 0) 255)) 148 22 ((((mi 148 22) + 1) + 1) + 1)) ml) rfl ?_
                refine Go.iret (by rfl) ?_
                first | (exact Or.inl ⟨by omega, rfl, rfl⟩) | (exact Or.inr (Or.inl ⟨by omega, rfl, rfl⟩)) | (exact Or.inr (Or.inr (Or.inl ⟨by omega, rfl, rfl⟩))) | (exact Or.inr (Or.inr (Or.inr (Or.inl ⟨by omega, rfl, rfl⟩)))) | (exact Or.inr (Or.inr (Or.inr (Or.inr (Or.inl ⟨by omega, rfl, rfl⟩))))) | (exact Or.inr (Or.inr (Or.inr (Or.inr (Or.inr (⟨by omega, rfl, rfl⟩))))))
              · exact absurd kq15 (by decide)
      · refine Go.run hsz hn1 2 (pc' := 28) (lv' := [some (gr 148), some (gi x), some (gi 3), none]) (st' := [gi 1, gr 148]) (M' := gw mi ml) rfl ?_
        refine Go.callV (As := [gi 1]) (b := 148) (st := []) (mc1 := 0) (mc := 0) (ms1 := 0) (ms := 0) (by rfl) rfl (c := 11) (N := 46) (by rfl) (by decide) (by rfl) (gcn 154 (by decide)).1 (gcn 154 (by decide)).2 rfl (Nat.le_of_ble_eq_true rfl) (by omega) (cM_finds hsz (n := n - 1) (by omega) mi ml 1 (by decide) (by decide)) ?_
        rintro _ _ ⟨rfl, rfl⟩
        refine Go.run hsz hn1 0 (pc' := 31) (lv' := [some (gr 148), some (gi x), some (gi 3), none]) (st' := [gi (-1000002)]) (M' := gw (mFd mi 1) ml) rfl ?_
        refine Go.iret (by rfl) ?_
        first | (exact Or.inl ⟨by omega, rfl, rfl⟩) | (exact Or.inr (Or.inl ⟨by omega, rfl, rfl⟩)) | (exact Or.inr (Or.inr (Or.inl ⟨by omega, rfl, rfl⟩))) | (exact Or.inr (Or.inr (Or.inr (Or.inl ⟨by omega, rfl, rfl⟩)))) | (exact Or.inr (Or.inr (Or.inr (Or.inr (Or.inl ⟨by omega, rfl, rfl⟩))))) | (exact Or.inr (Or.inr (Or.inr (Or.inr (Or.inr (⟨by omega, rfl, rfl⟩))))))
    · replace kq10 := b2_neg kq10
      refine Go.run hsz hn1 2 (pc' := 11) (lv' := [some (gr 148), some (gi x), some (gi 3), none]) (st' := [gi 0, gr 148]) (M' := gw mi ml) rfl ?_
      refine Go.callV (As := [gi 0]) (b := 148) (st := []) (mc1 := 0) (mc := 0) (ms1 := 0) (ms := 0) (by rfl) rfl (c := 11) (N := 46) (by rfl) (by decide) (by rfl) (gcn 154 (by decide)).1 (gcn 154 (by decide)).2 rfl (Nat.le_of_ble_eq_true rfl) (by omega) (cM_finds hsz (n := n - 1) (by omega) mi ml 0 (by decide) (by decide)) ?_
      rintro _ _ ⟨rfl, rfl⟩
      refine Go.run hsz hn1 0 (pc' := 14) (lv' := [some (gr 148), some (gi x), some (gi 3), none]) (st' := [gi (-1000001)]) (M' := gw (mFd mi 0) ml) rfl ?_
      refine Go.iret (by rfl) ?_
      first | (exact Or.inl ⟨by omega, rfl, rfl⟩) | (exact Or.inr (Or.inl ⟨by omega, rfl, rfl⟩)) | (exact Or.inr (Or.inr (Or.inl ⟨by omega, rfl, rfl⟩))) | (exact Or.inr (Or.inr (Or.inr (Or.inl ⟨by omega, rfl, rfl⟩)))) | (exact Or.inr (Or.inr (Or.inr (Or.inr (Or.inl ⟨by omega, rfl, rfl⟩))))) | (exact Or.inr (Or.inr (Or.inr (Or.inr (Or.inr (⟨by omega, rfl, rfl⟩))))))
  · refine Go.run hsz hn1 3 (pc' := 3) (lv' := [some (gr 148), some (gi x), some (gi 4), none]) (st' := [gi 4, gi 1, gi 4]) (M' := gw mi ml) rfl ?_
    refine Go.callS (As := [gi 4, gi 1, gi 4]) (st := []) (mc1 := 0) (mc := 0) (ms1 := 0) (ms := 0) (by rfl) rfl (gcn 153 (by decide)).1 (gcn 153 (by decide)).2 (Nat.le_of_ble_eq_true rfl) (by omega) (cM_in hsz (n := n - 1) (by omega) mi ml 4 1 4 ⟨by decide, by decide⟩ ⟨by decide, by decide⟩ ⟨by decide, by decide⟩) ?_
    rintro _ _ ⟨rfl, rfl⟩
    refine Go.run hsz hn1 0 (pc' := 6) (lv' := [some (gr 148), some (gi x), some (gi 4), none]) (st' := [gi (b2 (1 ≤ 4 ∧ 4 ≤ 4))]) (M' := gw mi ml) rfl ?_
    refine Go.if_ne (by rfl) (b2_rng _) (fun kq16 => ?_) (fun kq16 => ?_)
    · replace kq16 := b2_pos kq16
      refine Go.run hsz hn1 5 (pc' := 23) (lv' := [some (gr 148), some (gi x), some (gi 4), none]) (st' := [gi 120, gi ((mi 148 22) + 4)]) (M' := gw mi ml) rfl ?_
      refine Go.icmp_le (by rfl) ⟨by omega, by omega⟩ ⟨by decide, by decide⟩ (fun kq17 => ?_) (fun kq17 => ?_)
      · refine Go.run hsz hn1 4 (pc' := 36) (lv' := [some (gr 148), some (gi x), some (gi 4), some (gi 3)]) (st' := []) (M' := gw mi ml) rfl ?_
        refine Go.run hsz hn1 1 (pc' := 37) (lv' := [some (gr 148), some (gi x), some (gi 4), some (gi 3)]) (st' := [gi 3]) (M' := gw mi ml) rfl ?_
        refine Go.if_lt (by rfl) ⟨by decide, by decide⟩ (fun kq18 => ?_) (fun kq18 => ?_)
        · exact absurd kq18 (by decide)
        · refine Go.run hsz hn1 11 (pc' := 58) (lv' := [some (gr 148), some (gi x), some (gi 4), some (gi 3)]) (st' := [gi (andI (shrI x 24) 255), gi (mi 148 22), gr 164]) (M' := gw mi ml) rfl ?_
          refine Go.iast (by rfl) (N := 120) (by rfl) (by omega) (by omega) (by decide) ?_
          refine Go.run hsz hn1 3 (pc' := 64) (lv' := [some (gr 148), some (gi x), some (gi 4), some (gi 3)]) (st' := [gi (mi 148 22), gr 148]) (M' := gw (gu mi 164 ((mi 148 22).toNat) (andI (shrI x 24) 255)) ml) rfl ?_
          refine Go.run hsz hn1 0 (pc' := 64) (lv' := [some (gr 148), some (gi x), some (gi 4), some (gi 3)]) (st' := [gi ((gu mi 164 ((mi 148 22).toNat) (andI (shrI x 24) 255)) 148 22), gr 148]) (M' := gw (gu mi 164 ((mi 148 22).toNat) (andI (shrI x 24) 255)) ml) rfl ?_
          rw [show (gu mi 164 ((mi 148 22).toNat) (andI (shrI x 24) 255)) 148 22 = mi 148 22 from gu_ne (Or.inl (by decide))]
          refine Go.run hsz hn1 5 (pc' := 36) (lv' := [some (gr 148), some (gi x), some (gi 4), some (gi 2)]) (st' := []) (M' := gw (gu (gu mi 164 ((mi 148 22).toNat) (andI (shrI x 24) 255)) 148 22 ((mi 148 22) + 1)) ml) rfl ?_
          refine Go.run hsz hn1 1 (pc' := 37) (lv' := [some (gr 148), some (gi x), some (gi 4), some (gi 2)]) (st' := [gi 2]) (M' := gw (gu (gu mi 164 ((mi 148 22).toNat) (andI (shrI x 24) 255)) 148 22 ((mi 148 22) + 1)) ml) rfl ?_
          refine Go.if_lt (by rfl) ⟨by decide, by decide⟩ (fun kq19 => ?_) (fun kq19 => ?_)
          · exact absurd kq19 (by decide)
          · refine Go.run hsz hn1 11 (pc' := 58) (lv' := [some (gr 148), some (gi x), some (gi 4), some (gi 2)]) (st' := [gi (andI (shrI x 16) 255), gi ((mi 148 22) + 1), gr 164]) (M' := gw (gu (gu mi 164 ((mi 148 22).toNat) (andI (shrI x 24) 255)) 148 22 ((mi 148 22) + 1)) ml) rfl ?_
            refine Go.iast (by rfl) (N := 120) (by rfl) (by omega) (by omega) (by decide) ?_
            refine Go.run hsz hn1 3 (pc' := 64) (lv' := [some (gr 148), some (gi x), some (gi 4), some (gi 2)]) (st' := [gi ((mi 148 22) + 1), gr 148]) (M' := gw (gu (gu (gu mi 164 ((mi 148 22).toNat) (andI (shrI x 24) 255)) 148 22 ((mi 148 22) + 1)) 164 (((mi 148 22) + 1).toNat) (andI (shrI x 16) 255)) ml) rfl ?_
            refine Go.run hsz hn1 0 (pc' := 64) (lv' := [some (gr 148), some (gi x), some (gi 4), some (gi 2)]) (st' := [gi ((gu (gu (gu mi 164 ((mi 148 22).toNat) (andI (shrI x 24) 255)) 148 22 ((mi 148 22) + 1)) 164 (((mi 148 22) + 1).toNat) (andI (shrI x 16) 255)) 148 22), gr 148]) (M' := gw (gu (gu (gu mi 164 ((mi 148 22).toNat) (andI (shrI x 24) 255)) 148 22 ((mi 148 22) + 1)) 164 (((mi 148 22) + 1).toNat) (andI (shrI x 16) 255)) ml) rfl ?_
            rw [show (gu (gu (gu mi 164 ((mi 148 22).toNat) (andI (shrI x 24) 255)) 148 22 ((mi 148 22) + 1)) 164 (((mi 148 22) + 1).toNat) (andI (shrI x 16) 255)) 148 22 = (mi 148 22) + 1 from (gu_ne (Or.inl (by decide))).trans (gu_self _ _ _ _)]
            refine Go.run hsz hn1 5 (pc' := 36) (lv' := [some (gr 148), some (gi x), some (gi 4), some (gi 1)]) (st' := []) (M' := gw (gu (gu (gu (gu mi 164 ((mi 148 22).toNat) (andI (shrI x 24) 255)) 148 22 ((mi 148 22) + 1)) 164 (((mi 148 22) + 1).toNat) (andI (shrI x 16) 255)) 148 22 (((mi 148 22) + 1) + 1)) ml) rfl ?_
            refine Go.run hsz hn1 1 (pc' := 37) (lv' := [some (gr 148), some (gi x), some (gi 4), some (gi 1)]) (st' := [gi 1]) (M' := gw (gu (gu (gu (gu mi 164 ((mi 148 22).toNat) (andI (shrI x 24) 255)) 148 22 ((mi 148 22) + 1)) 164 (((mi 148 22) + 1).toNat) (andI (shrI x 16) 255)) 148 22 (((mi 148 22) + 1) + 1)) ml) rfl ?_
            refine Go.if_lt (by rfl) ⟨by decide, by decide⟩ (fun kq20 => ?_) (fun kq20 => ?_)
            · exact absurd kq20 (by decide)
            · refine Go.run hsz hn1 11 (pc' := 58) (lv' := [some (gr 148), some (gi x), some (gi 4), some (gi 1)]) (st' := [gi (andI (shrI x 8) 255), gi (((mi 148 22) + 1) + 1), gr 164]) (M' := gw (gu (gu (gu (gu mi 164 ((mi 148 22).toNat) (andI (shrI x 24) 255)) 148 22 ((mi 148 22) + 1)) 164 (((mi 148 22) + 1).toNat) (andI (shrI x 16) 255)) 148 22 (((mi 148 22) + 1) + 1)) ml) rfl ?_
              refine Go.iast (by rfl) (N := 120) (by rfl) (by omega) (by omega) (by decide) ?_
              refine Go.run hsz hn1 3 (pc' := 64) (lv' := [some (gr 148), some (gi x), some (gi 4), some (gi 1)]) (st' := [gi (((mi 148 22) + 1) + 1), gr 148]) (M' := gw (gu (gu (gu (gu (gu mi 164 ((mi 148 22).toNat) (andI (shrI x 24) 255)) 148 22 ((mi 148 22) + 1)) 164 (((mi 148 22) + 1).toNat) (andI (shrI x 16) 255)) 148 22 (((mi 148 22) + 1) + 1)) 164 ((((mi 148 22) + 1) + 1).toNat) (andI (shrI x 8) 255)) ml) rfl ?_
              refine Go.run hsz hn1 0 (pc' := 64) (lv' := [some (gr 148), some (gi x), some (gi 4), some (gi 1)]) (st' := [gi ((gu (gu (gu (gu (gu mi 164 ((mi 148 22).toNat) (andI (shrI x 24) 255)) 148 22 ((mi 148 22) + 1)) 164 (((mi 148 22) + 1).toNat) (andI (shrI x 16) 255)) 148 22 (((mi 148 22) + 1) + 1)) 164 ((((mi 148 22) + 1) + 1).toNat) (andI (shrI x 8) 255)) 148 22), gr 148]) (M' := gw (gu (gu (gu (gu (gu mi 164 ((mi 148 22).toNat) (andI (shrI x 24) 255)) 148 22 ((mi 148 22) + 1)) 164 (((mi 148 22) + 1).toNat) (andI (shrI x 16) 255)) 148 22 (((mi 148 22) + 1) + 1)) 164 ((((mi 148 22) + 1) + 1).toNat) (andI (shrI x 8) 255)) ml) rfl ?_
              rw [show (gu (gu (gu (gu (gu mi 164 ((mi 148 22).toNat) (andI (shrI x 24) 255)) 148 22 ((mi 148 22) + 1)) 164 (((mi 148 22) + 1).toNat) (andI (shrI x 16) 255)) 148 22 (((mi 148 22) + 1) + 1)) 164 ((((mi 148 22) + 1) + 1).toNat) (andI (shrI x 8) 255)) 148 22 = ((mi 148 22) + 1) + 1 from (gu_ne (Or.inl (by decide))).trans (gu_self _ _ _ _)]
              refine Go.run hsz hn1 5 (pc' := 36) (lv' := [some (gr 148), some (gi x), some (gi 4), some (gi 0)]) (st' := []) (M' := gw (gu (gu (gu (gu (gu (gu mi 164 ((mi 148 22).toNat) (andI (shrI x 24) 255)) 148 22 ((mi 148 22) + 1)) 164 (((mi 148 22) + 1).toNat) (andI (shrI x 16) 255)) 148 22 (((mi 148 22) + 1) + 1)) 164 ((((mi 148 22) + 1) + 1).toNat) (andI (shrI x 8) 255)) 148 22 ((((mi 148 22) + 1) + 1) + 1)) ml) rfl ?_
              refine Go.run hsz hn1 1 (pc' := 37) (lv' := [some (gr 148), some (gi x), some (gi 4), some (gi 0)]) (st' := [gi 0]) (M' := gw (gu (gu (gu (gu (gu (gu mi 164 ((mi 148 22).toNat) (andI (shrI x 24) 255)) 148 22 ((mi 148 22) + 1)) 164 (((mi 148 22) + 1).toNat) (andI (shrI x 16) 255)) 148 22 (((mi 148 22) + 1) + 1)) 164 ((((mi 148 22) + 1) + 1).toNat) (andI (shrI x 8) 255)) 148 22 ((((mi 148 22) + 1) + 1) + 1)) ml) rfl ?_
              refine Go.if_lt (by rfl) ⟨by decide, by decide⟩ (fun kq21 => ?_) (fun kq21 => ?_)
              · exact absurd kq21 (by decide)
              · refine Go.run hsz hn1 11 (pc' := 58) (lv' := [some (gr 148), some (gi x), some (gi 4), some (gi 0)]) (st' := [gi (andI (shrI x 0) 255), gi ((((mi 148 22) + 1) + 1) + 1), gr 164]) (M' := gw (gu (gu (gu (gu (gu (gu mi 164 ((mi 148 22).toNat) (andI (shrI x 24) 255)) 148 22 ((mi 148 22) + 1)) 164 (((mi 148 22) + 1).toNat) (andI (shrI x 16) 255)) 148 22 (((mi 148 22) + 1) + 1)) 164 ((((mi 148 22) + 1) + 1).toNat) (andI (shrI x 8) 255)) 148 22 ((((mi 148 22) + 1) + 1) + 1)) ml) rfl ?_
                refine Go.iast (by rfl) (N := 120) (by rfl) (by omega) (by omega) (by decide) ?_
                refine Go.run hsz hn1 3 (pc' := 64) (lv' := [some (gr 148), some (gi x), some (gi 4), some (gi 0)]) (st' := [gi ((((mi 148 22) + 1) + 1) + 1), gr 148]) (M' := gw (gu (gu (gu (gu (gu (gu (gu mi 164 ((mi 148 22).toNat) (andI (shrI x 24) 255)) 148 22 ((mi 148 22) + 1)) 164 (((mi 148 22) + 1).toNat) (andI (shrI x 16) 255)) 148 22 (((mi 148 22) + 1) + 1)) 164 ((((mi 148 22) + 1) + 1).toNat) (andI (shrI x 8) 255)) 148 22 ((((mi 148 22) + 1) + 1) + 1)) 164 (((((mi 148 22) + 1) + 1) + 1).toNat) (andI (shrI x 0) 255)) ml) rfl ?_
                refine Go.run hsz hn1 0 (pc' := 64) (lv' := [some (gr 148), some (gi x), some (gi 4), some (gi 0)]) (st' := [gi ((gu (gu (gu (gu (gu (gu (gu mi 164 ((mi 148 22).toNat) (andI (shrI x 24) 255)) 148 22 ((mi 148 22) + 1)) 164 (((mi 148 22) + 1).toNat) (andI (shrI x 16) 255)) 148 22 (((mi 148 22) + 1) + 1)) 164 ((((mi 148 22) + 1) + 1).toNat) (andI (shrI x 8) 255)) 148 22 ((((mi 148 22) + 1) + 1) + 1)) 164 (((((mi 148 22) + 1) + 1) + 1).toNat) (andI (shrI x 0) 255)) 148 22), gr 148]) (M' := gw (gu (gu (gu (gu (gu (gu (gu mi 164 ((mi 148 22).toNat) (andI (shrI x 24) 255)) 148 22 ((mi 148 22) + 1)) 164 (((mi 148 22) + 1).toNat) (andI (shrI x 16) 255)) 148 22 (((mi 148 22) + 1) + 1)) 164 ((((mi 148 22) + 1) + 1).toNat) (andI (shrI x 8) 255)) 148 22 ((((mi 148 22) + 1) + 1) + 1)) 164 (((((mi 148 22) + 1) + 1) + 1).toNat) (andI (shrI x 0) 255)) ml) rfl ?_
                rw [show (gu (gu (gu (gu (gu (gu (gu mi 164 ((mi 148 22).toNat) (andI (shrI x 24) 255)) 148 22 ((mi 148 22) + 1)) 164 (((mi 148 22) + 1).toNat) (andI (shrI x 16) 255)) 148 22 (((mi 148 22) + 1) + 1)) 164 ((((mi 148 22) + 1) + 1).toNat) (andI (shrI x 8) 255)) 148 22 ((((mi 148 22) + 1) + 1) + 1)) 164 (((((mi 148 22) + 1) + 1) + 1).toNat) (andI (shrI x 0) 255)) 148 22 = (((mi 148 22) + 1) + 1) + 1 from (gu_ne (Or.inl (by decide))).trans (gu_self _ _ _ _)]
                refine Go.run hsz hn1 5 (pc' := 36) (lv' := [some (gr 148), some (gi x), some (gi 4), some (gi (-1))]) (st' := []) (M' := gw (gu (gu (gu (gu (gu (gu (gu (gu mi 164 ((mi 148 22).toNat) (andI (shrI x 24) 255)) 148 22 ((mi 148 22) + 1)) 164 (((mi 148 22) + 1).toNat) (andI (shrI x 16) 255)) 148 22 (((mi 148 22) + 1) + 1)) 164 ((((mi 148 22) + 1) + 1).toNat) (andI (shrI x 8) 255)) 148 22 ((((mi 148 22) + 1) + 1) + 1)) 164 (((((mi 148 22) + 1) + 1) + 1).toNat) (andI (shrI x 0) 255)) 148 22 (((((mi 148 22) + 1) + 1) + 1) + 1)) ml) rfl ?_
                refine Go.run hsz hn1 1 (pc' := 37) (lv' := [some (gr 148), some (gi x), some (gi 4), some (gi (-1))]) (st' := [gi (-1)]) (M' := gw (gu (gu (gu (gu (gu (gu (gu (gu mi 164 ((mi 148 22).toNat) (andI (shrI x 24) 255)) 148 22 ((mi 148 22) + 1)) 164 (((mi 148 22) + 1).toNat) (andI (shrI x 16) 255)) 148 22 (((mi 148 22) + 1) + 1)) 164 ((((mi 148 22) + 1) + 1).toNat) (andI (shrI x 8) 255)) 148 22 ((((mi 148 22) + 1) + 1) + 1)) 164 (((((mi 148 22) + 1) + 1) + 1).toNat) (andI (shrI x 0) 255)) 148 22 (((((mi 148 22) + 1) + 1) + 1) + 1)) ml) rfl ?_
                refine Go.if_lt (by rfl) ⟨by decide, by decide⟩ (fun kq22 => ?_) (fun kq22 => ?_)
                · refine Go.run hsz hn1 2 (pc' := 79) (lv' := [some (gr 148), some (gi x), some (gi 4), some (gi (-1))]) (st' := [gi (((((mi 148 22) + 1) + 1) + 1) + 1)]) (M' := gw (gu (gu (gu (gu (gu (gu (gu (gu mi 164 ((mi 148 22).toNat) (andI (shrI x 24) 255)) 148 22 ((mi 148 22) + 1)) 164 (((mi 148 22) + 1).toNat) (andI (shrI x 16) 255)) 148 22 (((mi 148 22) + 1) + 1)) 164 ((((mi 148 22) + 1) + 1).toNat) (andI (shrI x 8) 255)) 148 22 ((((mi 148 22) + 1) + 1) + 1)) 164 (((((mi 148 22) + 1) + 1) + 1).toNat) (andI (shrI x 0) 255)) 148 22 (((((mi 148 22) + 1) + 1) + 1) + 1)) ml) rfl ?_
                  refine Go.iret (by rfl) ?_
                  first | (exact Or.inl ⟨by omega, rfl, rfl⟩) | (exact Or.inr (Or.inl ⟨by omega, rfl, rfl⟩)) | (exact Or.inr (Or.inr (Or.inl ⟨by omega, rfl, rfl⟩))) | (exact Or.inr (Or.inr (Or.inr (Or.inl ⟨by omega, rfl, rfl⟩)))) | (exact Or.inr (Or.inr (Or.inr (Or.inr (Or.inl ⟨by omega, rfl, rfl⟩))))) | (exact Or.inr (Or.inr (Or.inr (Or.inr (Or.inr (⟨by omega, rfl, rfl⟩))))))
                · exact absurd kq22 (by decide)
      · refine Go.run hsz hn1 2 (pc' := 28) (lv' := [some (gr 148), some (gi x), some (gi 4), none]) (st' := [gi 1, gr 148]) (M' := gw mi ml) rfl ?_
        refine Go.callV (As := [gi 1]) (b := 148) (st := []) (mc1 := 0) (mc := 0) (ms1 := 0) (ms := 0) (by rfl) rfl (c := 11) (N := 46) (by rfl) (by decide) (by rfl) (gcn 154 (by decide)).1 (gcn 154 (by decide)).2 rfl (Nat.le_of_ble_eq_true rfl) (by omega) (cM_finds hsz (n := n - 1) (by omega) mi ml 1 (by decide) (by decide)) ?_
        rintro _ _ ⟨rfl, rfl⟩
        refine Go.run hsz hn1 0 (pc' := 31) (lv' := [some (gr 148), some (gi x), some (gi 4), none]) (st' := [gi (-1000002)]) (M' := gw (mFd mi 1) ml) rfl ?_
        refine Go.iret (by rfl) ?_
        first | (exact Or.inl ⟨by omega, rfl, rfl⟩) | (exact Or.inr (Or.inl ⟨by omega, rfl, rfl⟩)) | (exact Or.inr (Or.inr (Or.inl ⟨by omega, rfl, rfl⟩))) | (exact Or.inr (Or.inr (Or.inr (Or.inl ⟨by omega, rfl, rfl⟩)))) | (exact Or.inr (Or.inr (Or.inr (Or.inr (Or.inl ⟨by omega, rfl, rfl⟩))))) | (exact Or.inr (Or.inr (Or.inr (Or.inr (Or.inr (⟨by omega, rfl, rfl⟩))))))
    · replace kq16 := b2_neg kq16
      refine Go.run hsz hn1 2 (pc' := 11) (lv' := [some (gr 148), some (gi x), some (gi 4), none]) (st' := [gi 0, gr 148]) (M' := gw mi ml) rfl ?_
      refine Go.callV (As := [gi 0]) (b := 148) (st := []) (mc1 := 0) (mc := 0) (ms1 := 0) (ms := 0) (by rfl) rfl (c := 11) (N := 46) (by rfl) (by decide) (by rfl) (gcn 154 (by decide)).1 (gcn 154 (by decide)).2 rfl (Nat.le_of_ble_eq_true rfl) (by omega) (cM_finds hsz (n := n - 1) (by omega) mi ml 0 (by decide) (by decide)) ?_
      rintro _ _ ⟨rfl, rfl⟩
      refine Go.run hsz hn1 0 (pc' := 14) (lv' := [some (gr 148), some (gi x), some (gi 4), none]) (st' := [gi (-1000001)]) (M' := gw (mFd mi 0) ml) rfl ?_
      refine Go.iret (by rfl) ?_
      first | (exact Or.inl ⟨by omega, rfl, rfl⟩) | (exact Or.inr (Or.inl ⟨by omega, rfl, rfl⟩)) | (exact Or.inr (Or.inr (Or.inl ⟨by omega, rfl, rfl⟩))) | (exact Or.inr (Or.inr (Or.inr (Or.inl ⟨by omega, rfl, rfl⟩)))) | (exact Or.inr (Or.inr (Or.inr (Or.inr (Or.inl ⟨by omega, rfl, rfl⟩))))) | (exact Or.inr (Or.inr (Or.inr (Or.inr (Or.inr (⟨by omega, rfl, rfl⟩))))))
  · refine Go.run hsz hn1 3 (pc' := 3) (lv' := [some (gr 148), some (gi x), some (gi n_), none]) (st' := [gi 4, gi 1, gi n_]) (M' := gw mi ml) rfl ?_
    refine Go.callS (As := [gi n_, gi 1, gi 4]) (st := []) (mc1 := 0) (mc := 0) (ms1 := 0) (ms := 0) (by rfl) rfl (gcn 153 (by decide)).1 (gcn 153 (by decide)).2 (Nat.le_of_ble_eq_true rfl) (by omega) (cM_in hsz (n := n - 1) (by omega) mi ml n_ 1 4 r_n ⟨by decide, by decide⟩ ⟨by decide, by decide⟩) ?_
    rintro _ _ ⟨rfl, rfl⟩
    refine Go.run hsz hn1 0 (pc' := 6) (lv' := [some (gr 148), some (gi x), some (gi n_), none]) (st' := [gi (b2 (1 ≤ n_ ∧ n_ ≤ 4))]) (M' := gw mi ml) rfl ?_
    refine Go.if_ne (by rfl) (b2_rng _) (fun kq23 => ?_) (fun kq23 => ?_)
    · replace kq23 := b2_pos kq23
      refine Go.run hsz hn1 5 (pc' := 23) (lv' := [some (gr 148), some (gi x), some (gi n_), none]) (st' := [gi 120, gi ((mi 148 22) + n_)]) (M' := gw mi ml) rfl ?_
      refine Go.icmp_le (by rfl) ⟨by omega, by omega⟩ ⟨by decide, by decide⟩ (fun kq24 => ?_) (fun kq24 => ?_)
      · refine Go.run hsz hn1 4 (pc' := 36) (lv' := [some (gr 148), some (gi x), some (gi n_), some (gi (n_ - 1))]) (st' := []) (M' := gw mi ml) rfl ?_
        exfalso; omega
      · refine Go.run hsz hn1 2 (pc' := 28) (lv' := [some (gr 148), some (gi x), some (gi n_), none]) (st' := [gi 1, gr 148]) (M' := gw mi ml) rfl ?_
        refine Go.callV (As := [gi 1]) (b := 148) (st := []) (mc1 := 0) (mc := 0) (ms1 := 0) (ms := 0) (by rfl) rfl (c := 11) (N := 46) (by rfl) (by decide) (by rfl) (gcn 154 (by decide)).1 (gcn 154 (by decide)).2 rfl (Nat.le_of_ble_eq_true rfl) (by omega) (cM_finds hsz (n := n - 1) (by omega) mi ml 1 (by decide) (by decide)) ?_
        rintro _ _ ⟨rfl, rfl⟩
        refine Go.run hsz hn1 0 (pc' := 31) (lv' := [some (gr 148), some (gi x), some (gi n_), none]) (st' := [gi (-1000002)]) (M' := gw (mFd mi 1) ml) rfl ?_
        refine Go.iret (by rfl) ?_
        first | (exact Or.inl ⟨by omega, rfl, rfl⟩) | (exact Or.inr (Or.inl ⟨by omega, rfl, rfl⟩)) | (exact Or.inr (Or.inr (Or.inl ⟨by omega, rfl, rfl⟩))) | (exact Or.inr (Or.inr (Or.inr (Or.inl ⟨by omega, rfl, rfl⟩)))) | (exact Or.inr (Or.inr (Or.inr (Or.inr (Or.inl ⟨by omega, rfl, rfl⟩))))) | (exact Or.inr (Or.inr (Or.inr (Or.inr (Or.inr (⟨by omega, rfl, rfl⟩))))))
    · replace kq23 := b2_neg kq23
      refine Go.run hsz hn1 2 (pc' := 11) (lv' := [some (gr 148), some (gi x), some (gi n_), none]) (st' := [gi 0, gr 148]) (M' := gw mi ml) rfl ?_
      refine Go.callV (As := [gi 0]) (b := 148) (st := []) (mc1 := 0) (mc := 0) (ms1 := 0) (ms := 0) (by rfl) rfl (c := 11) (N := 46) (by rfl) (by decide) (by rfl) (gcn 154 (by decide)).1 (gcn 154 (by decide)).2 rfl (Nat.le_of_ble_eq_true rfl) (by omega) (cM_finds hsz (n := n - 1) (by omega) mi ml 0 (by decide) (by decide)) ?_
      rintro _ _ ⟨rfl, rfl⟩
      refine Go.run hsz hn1 0 (pc' := 14) (lv' := [some (gr 148), some (gi x), some (gi n_), none]) (st' := [gi (-1000001)]) (M' := gw (mFd mi 0) ml) rfl ?_
      refine Go.iret (by rfl) ?_
      first | (exact Or.inl ⟨by omega, rfl, rfl⟩) | (exact Or.inr (Or.inl ⟨by omega, rfl, rfl⟩)) | (exact Or.inr (Or.inr (Or.inl ⟨by omega, rfl, rfl⟩))) | (exact Or.inr (Or.inr (Or.inr (Or.inl ⟨by omega, rfl, rfl⟩)))) | (exact Or.inr (Or.inr (Or.inr (Or.inr (Or.inl ⟨by omega, rfl, rfl⟩))))) | (exact Or.inr (Or.inr (Or.inr (Or.inr (Or.inr (⟨by omega, rfl, rfl⟩))))))

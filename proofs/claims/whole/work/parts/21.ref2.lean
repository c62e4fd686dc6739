set_option maxRecDepth 100000 in
set_option maxHeartbeats 4000000 in
theorem cM_hasCome {G : gG} (hsz : G.2.2.2.2.2.2 = true) {n : Nat} (hn : 2 ≤ n) (mi : Nat → Nat → Int) (ml : Nat → Nat → Int64) (a : Int) (h0 : 0 ≤ a) (h1 : a < 24) (hR : gR32 mi) : gM G 166 n 0 0 [gr 148, gi a] (gw mi ml) (gret (b2 (mOf mi a 4 ≤ mi 148 0)) (gw mi ml)) := by
  have hn1 : 1 ≤ n := by omega
  refine gM.of mX12_hasCome okX12_hasCome (gcp 166 (by decide)).1 (gcp 166 (by decide)).2 (Nat.le_of_ble_eq_true rfl) ?_
  refine Go.run hsz hn1 3 (pc' := 3) (lv' := [some (gr 148), some (gi a)]) (st' := [gi 4, gi a, gr 148]) (M' := gw mi ml) rfl ?_
  refine Go.callV (As := [gi a, gi 4]) (b := 148) (st := []) (mc1 := 0) (mc := 0) (ms1 := 0) (ms := 0) (by rfl) rfl (c := 11) (N := 46) (by rfl) (by decide) (by rfl) (gcn 165 (by decide)).1 (gcn 165 (by decide)).2 rfl (Nat.le_of_ble_eq_true rfl) (by omega) (cM_of hsz (n := n - 1) (by omega) mi ml a 4 h0 h1 (by decide) (by decide)) ?_
  rintro _ _ ⟨rfl, rfl⟩
  refine Go.run hsz hn1 2 (pc' := 10) (lv' := [some (gr 148), some (gi a)]) (st' := [gi (mi 148 0), gi (mOf mi a 4)]) (M' := gw mi ml) rfl ?_
  refine Go.icmp_gt (by rfl) (hR _ _) (hR _ _) (fun kq1 => ?_) (fun kq1 => ?_)
  · refine Go.run hsz hn1 1 (pc' := 18) (lv' := [some (gr 148), some (gi a)]) (st' := [gi 0]) (M' := gw mi ml) rfl ?_
    exact Go.zret (by rfl) (Or.inl rfl) ⟨congrArg (fun z => some (gi z)) (by unfold b2; split <;> omega), rfl⟩
  · refine Go.run hsz hn1 2 (pc' := 18) (lv' := [some (gr 148), some (gi a)]) (st' := [gi 1]) (M' := gw mi ml) rfl ?_
    exact Go.zret (by rfl) (Or.inr rfl) ⟨congrArg (fun z => some (gi z)) (by unfold b2; split <;> omega), rfl⟩
set_option maxRecDepth 100000 in
set_option maxHeartbeats 4000000 in
theorem cM_lacks {G : gG} (hsz : G.2.2.2.2.2.2 = true) {n : Nat} (hn : 2 ≤ n) (mi : Nat → Nat → Int) (ml : Nat → Nat → Int64) (a p f : Int) (h0 : 0 ≤ a) (h1 : a < 24) (p0 : 0 ≤ p) (p1 : p < 12) (hR : gR32 mi) : gM G 168 n 0 0 [gr 148, gi a, gi p, gi f] (gw mi ml) (gret (mLacks mi a p f) (gw mi ml)) := by
  have hn1 : 1 ≤ n := by omega
  refine gM.of mX12_lacks okX12_lacks (gcp 168 (by decide)).1 (gcp 168 (by decide)).2 (Nat.le_of_ble_eq_true rfl) ?_
  refine Go.run hsz hn1 3 (pc' := 3) (lv' := [some (gr 148), some (gi a), some (gi p), some (gi f)]) (st' := [gi 3, gi a, gr 148]) (M' := gw mi ml) rfl ?_
  refine Go.callV (As := [gi a, gi 3]) (b := 148) (st := []) (mc1 := 0) (mc := 0) (ms1 := 0) (ms := 0) (by rfl) rfl (c := 11) (N := 46) (by rfl) (by decide) (by rfl) (gcn 165 (by decide)).1 (gcn 165 (by decide)).2 rfl (Nat.le_of_ble_eq_true rfl) (by omega) (cM_of hsz (n := n - 1) (by omega) mi ml a 3 h0 h1 (by decide) (by decide)) ?_
  rintro _ _ ⟨rfl, rfl⟩
  refine Go.run hsz hn1 2 (pc' := 8) (lv' := [some (gr 148), some (gi a), some (gi p), some (gi f)]) (st' := [gi (andI (mOf mi a 3) f)]) (M' := gw mi ml) rfl ?_
  refine Go.if_eq (by rfl) (rng_of _) (fun kq1 => ?_) (fun kq1 => ?_)
  · refine Go.run hsz hn1 1 (pc' := 33) (lv' := [some (gr 148), some (gi a), some (gi p), some (gi f)]) (st' := [gi 0]) (M' := gw mi ml) rfl ?_
    exact Go.zret (by rfl) (Or.inl rfl) ⟨congrArg (fun z => some (gi z)) (by unfold mLacks b2; split <;> omega), rfl⟩
  · refine Go.run hsz hn1 7 (pc' := 22) (lv' := [some (gr 148), some (gi a), some (gi p), some (gi f)]) (st' := [gi ((8 * p) + 6), gr 149]) (M' := gw mi ml) rfl ?_
    refine Go.iald (by rfl) (N := 96) (by rfl) (by omega) (by omega) (by decide) ?_
    refine Go.run hsz hn1 2 (pc' := 25) (lv' := [some (gr 148), some (gi a), some (gi p), some (gi f)]) (st' := [gi (andI (mPi mi p 6) f)]) (M' := gw mi ml) rfl ?_
    refine Go.if_ne (by rfl) (rng_of _) (fun kq2 => ?_) (fun kq2 => ?_)
    · refine Go.run hsz hn1 1 (pc' := 33) (lv' := [some (gr 148), some (gi a), some (gi p), some (gi f)]) (st' := [gi 0]) (M' := gw mi ml) rfl ?_
      exact Go.zret (by rfl) (Or.inl rfl) ⟨congrArg (fun z => some (gi z)) (by unfold mLacks b2; split <;> omega), rfl⟩
    · refine Go.run hsz hn1 2 (pc' := 33) (lv' := [some (gr 148), some (gi a), some (gi p), some (gi f)]) (st' := [gi 1]) (M' := gw mi ml) rfl ?_
      exact Go.zret (by rfl) (Or.inr rfl) ⟨congrArg (fun z => some (gi z)) (by unfold mLacks b2; split <;> omega), rfl⟩
set_option maxRecDepth 100000 in
set_option maxHeartbeats 4000000 in
theorem cM_staysIn {G : gG} (hsz : G.2.2.2.2.2.2 = true) {n : Nat} (hn : 2 ≤ n) (mi : Nat → Nat → Int) (ml : Nat → Nat → Int64) (a x : Int) (h0 : 0 ≤ a) (h1 : a < 24) (hR : gR32 mi) (hx : rng x) (hb : PV mi a) : gM G 172 n 0 0 [gr 148, gi a, gi x] (gw mi ml) (gret (mStays mi a x) (gw mi ml)) := by
  have hn1 : 1 ≤ n := by omega
  obtain ⟨b0, b1, b2x, b3, b4, b5, b6, -⟩ := id hb
  refine gM.of mX12_staysIn okX12_staysIn (gcp 172 (by decide)).1 (gcp 172 (by decide)).2 (Nat.le_of_ble_eq_true rfl) ?_
  refine Go.run hsz hn1 4 (pc' := 4) (lv' := [some (gr 148), some (gi a), some (gi x)]) (st' := [gi 4, gi a, gr 148, gi x]) (M' := gw mi ml) rfl ?_
  refine Go.callV (As := [gi a, gi 4]) (b := 148) (st := [gi x]) (mc1 := 0) (mc := 0) (ms1 := 0) (ms := 0) (by rfl) rfl (c := 11) (N := 46) (by rfl) (by decide) (by rfl) (gcn 165 (by decide)).1 (gcn 165 (by decide)).2 rfl (Nat.le_of_ble_eq_true rfl) (by omega) (cM_of hsz (n := n - 1) (by omega) mi ml a 4 h0 h1 (by decide) (by decide)) ?_
  rintro _ _ ⟨rfl, rfl⟩
  refine Go.run hsz hn1 0 (pc' := 7) (lv' := [some (gr 148), some (gi a), some (gi x)]) (st' := [gi (mOf mi a 4), gi x]) (M' := gw mi ml) rfl ?_
  refine Go.icmp_lt (by rfl) hx (hR _ _) (fun kq1 => ?_) (fun kq1 => ?_)
  · refine Go.run hsz hn1 1 (pc' := 32) (lv' := [some (gr 148), some (gi a), some (gi x)]) (st' := [gi 0]) (M' := gw mi ml) rfl ?_
    exact Go.zret (by rfl) (Or.inl rfl) ⟨congrArg (fun z => some (gi z)) (by unfold mStays b2; split <;> omega), rfl⟩
  · refine Go.run hsz hn1 4 (pc' := 14) (lv' := [some (gr 148), some (gi a), some (gi x)]) (st' := [gi 4, gi a, gr 148, gi x]) (M' := gw mi ml) rfl ?_
    refine Go.callV (As := [gi a, gi 4]) (b := 148) (st := [gi x]) (mc1 := 0) (mc := 0) (ms1 := 0) (ms := 0) (by rfl) rfl (c := 11) (N := 46) (by rfl) (by decide) (by rfl) (gcn 165 (by decide)).1 (gcn 165 (by decide)).2 rfl (Nat.le_of_ble_eq_true rfl) (by omega) (cM_of hsz (n := n - 1) (by omega) mi ml a 4 h0 h1 (by decide) (by decide)) ?_
    rintro _ _ ⟨rfl, rfl⟩
    refine Go.run hsz hn1 3 (pc' := 20) (lv' := [some (gr 148), some (gi a), some (gi x)]) (st' := [gi 5, gi a, gr 148, gi (mOf mi a 4), gi x]) (M' := gw mi ml) rfl ?_
    refine Go.callV (As := [gi a, gi 5]) (b := 148) (st := [gi (mOf mi a 4), gi x]) (mc1 := 0) (mc := 0) (ms1 := 0) (ms := 0) (by rfl) rfl (c := 11) (N := 46) (by rfl) (by decide) (by rfl) (gcn 165 (by decide)).1 (gcn 165 (by decide)).2 rfl (Nat.le_of_ble_eq_true rfl) (by omega) (cM_of hsz (n := n - 1) (by omega) mi ml a 5 h0 h1 (by decide) (by decide)) ?_
    rintro _ _ ⟨rfl, rfl⟩
    refine Go.run hsz hn1 1 (pc' := 24) (lv' := [some (gr 148), some (gi a), some (gi x)]) (st' := [gi ((mOf mi a 4) + (mOf mi a 5)), gi x]) (M' := gw mi ml) rfl ?_
    refine Go.icmp_ge (by rfl) hx ⟨by omega, by omega⟩ (fun kq2 => ?_) (fun kq2 => ?_)
    · refine Go.run hsz hn1 1 (pc' := 32) (lv' := [some (gr 148), some (gi a), some (gi x)]) (st' := [gi 0]) (M' := gw mi ml) rfl ?_
      exact Go.zret (by rfl) (Or.inl rfl) ⟨congrArg (fun z => some (gi z)) (by unfold mStays b2; split <;> omega), rfl⟩
    · refine Go.run hsz hn1 2 (pc' := 32) (lv' := [some (gr 148), some (gi a), some (gi x)]) (st' := [gi 1]) (M' := gw mi ml) rfl ?_
      exact Go.zret (by rfl) (Or.inr rfl) ⟨congrArg (fun z => some (gi z)) (by unfold mStays b2; split <;> omega), rfl⟩
set_option maxRecDepth 100000 in
set_option maxHeartbeats 4000000 in
theorem cM_meet {G : gG} (hsz : G.2.2.2.2.2.2 = true) {n : Nat} (hn : 2 ≤ n) (mi : Nat → Nat → Int) (ml : Nat → Nat → Int64) (a b : Int) (h0 : 0 ≤ a) (h1 : a < 24) (g0 : 0 ≤ b) (g1 : b < 24) (hR : gR32 mi) (hb : PV mi a) (hc : PV mi b) : gM G 173 n 0 0 [gr 148, gi a, gi b] (gw mi ml) (gret (mMeet mi a b) (gw mi ml)) := by
  have hn1 : 1 ≤ n := by omega
  obtain ⟨-, -, -, -, b4, b5, b6, -⟩ := id hb
  obtain ⟨-, -, -, -, c4, c5, c6, -⟩ := id hc
  refine gM.of mX12_meet okX12_meet (gcp 173 (by decide)).1 (gcp 173 (by decide)).2 (Nat.le_of_ble_eq_true rfl) ?_
  refine Go.run hsz hn1 3 (pc' := 3) (lv' := [some (gr 148), some (gi a), some (gi b)]) (st' := [gi 4, gi a, gr 148]) (M' := gw mi ml) rfl ?_
  refine Go.callV (As := [gi a, gi 4]) (b := 148) (st := []) (mc1 := 0) (mc := 0) (ms1 := 0) (ms := 0) (by rfl) rfl (c := 11) (N := 46) (by rfl) (by decide) (by rfl) (gcn 165 (by decide)).1 (gcn 165 (by decide)).2 rfl (Nat.le_of_ble_eq_true rfl) (by omega) (cM_of hsz (n := n - 1) (by omega) mi ml a 4 h0 h1 (by decide) (by decide)) ?_
  rintro _ _ ⟨rfl, rfl⟩
  refine Go.run hsz hn1 3 (pc' := 9) (lv' := [some (gr 148), some (gi a), some (gi b)]) (st' := [gi 4, gi b, gr 148, gi (mOf mi a 4)]) (M' := gw mi ml) rfl ?_
  refine Go.callV (As := [gi b, gi 4]) (b := 148) (st := [gi (mOf mi a 4)]) (mc1 := 0) (mc := 0) (ms1 := 0) (ms := 0) (by rfl) rfl (c := 11) (N := 46) (by rfl) (by decide) (by rfl) (gcn 165 (by decide)).1 (gcn 165 (by decide)).2 rfl (Nat.le_of_ble_eq_true rfl) (by omega) (cM_of hsz (n := n - 1) (by omega) mi ml b 4 g0 g1 (by decide) (by decide)) ?_
  rintro _ _ ⟨rfl, rfl⟩
  refine Go.run hsz hn1 3 (pc' := 15) (lv' := [some (gr 148), some (gi a), some (gi b)]) (st' := [gi 5, gi b, gr 148, gi (mOf mi b 4), gi (mOf mi a 4)]) (M' := gw mi ml) rfl ?_
  refine Go.callV (As := [gi b, gi 5]) (b := 148) (st := [gi (mOf mi b 4), gi (mOf mi a 4)]) (mc1 := 0) (mc := 0) (ms1 := 0) (ms := 0) (by rfl) rfl (c := 11) (N := 46) (by rfl) (by decide) (by rfl) (gcn 165 (by decide)).1 (gcn 165 (by decide)).2 rfl (Nat.le_of_ble_eq_true rfl) (by omega) (cM_of hsz (n := n - 1) (by omega) mi ml b 5 g0 g1 (by decide) (by decide)) ?_
  rintro _ _ ⟨rfl, rfl⟩
  refine Go.run hsz hn1 1 (pc' := 19) (lv' := [some (gr 148), some (gi a), some (gi b)]) (st' := [gi ((mOf mi b 4) + (mOf mi b 5)), gi (mOf mi a 4)]) (M' := gw mi ml) rfl ?_
  refine Go.icmp_ge (by rfl) (hR _ _) ⟨by omega, by omega⟩ (fun kq1 => ?_) (fun kq1 => ?_)
  · refine Go.run hsz hn1 1 (pc' := 49) (lv' := [some (gr 148), some (gi a), some (gi b)]) (st' := [gi 0]) (M' := gw mi ml) rfl ?_
    exact Go.zret (by rfl) (Or.inl rfl) ⟨congrArg (fun z => some (gi z)) (by unfold mMeet b2; split <;> omega), rfl⟩
  · refine Go.run hsz hn1 3 (pc' := 25) (lv' := [some (gr 148), some (gi a), some (gi b)]) (st' := [gi 4, gi b, gr 148]) (M' := gw mi ml) rfl ?_
    refine Go.callV (As := [gi b, gi 4]) (b := 148) (st := []) (mc1 := 0) (mc := 0) (ms1 := 0) (ms := 0) (by rfl) rfl (c := 11) (N := 46) (by rfl) (by decide) (by rfl) (gcn 165 (by decide)).1 (gcn 165 (by decide)).2 rfl (Nat.le_of_ble_eq_true rfl) (by omega) (cM_of hsz (n := n - 1) (by omega) mi ml b 4 g0 g1 (by decide) (by decide)) ?_
    rintro _ _ ⟨rfl, rfl⟩
    refine Go.run hsz hn1 3 (pc' := 31) (lv' := [some (gr 148), some (gi a), some (gi b)]) (st' := [gi 4, gi a, gr 148, gi (mOf mi b 4)]) (M' := gw mi ml) rfl ?_
    refine Go.callV (As := [gi a, gi 4]) (b := 148) (st := [gi (mOf mi b 4)]) (mc1 := 0) (mc := 0) (ms1 := 0) (ms := 0) (by rfl) rfl (c := 11) (N := 46) (by rfl) (by decide) (by rfl) (gcn 165 (by decide)).1 (gcn 165 (by decide)).2 rfl (Nat.le_of_ble_eq_true rfl) (by omega) (cM_of hsz (n := n - 1) (by omega) mi ml a 4 h0 h1 (by decide) (by decide)) ?_
    rintro _ _ ⟨rfl, rfl⟩
    refine Go.run hsz hn1 3 (pc' := 37) (lv' := [some (gr 148), some (gi a), some (gi b)]) (st' := [gi 5, gi a, gr 148, gi (mOf mi a 4), gi (mOf mi b 4)]) (M' := gw mi ml) rfl ?_
    refine Go.callV (As := [gi a, gi 5]) (b := 148) (st := [gi (mOf mi a 4), gi (mOf mi b 4)]) (mc1 := 0) (mc := 0) (ms1 := 0) (ms := 0) (by rfl) rfl (c := 11) (N := 46) (by rfl) (by decide) (by rfl) (gcn 165 (by decide)).1 (gcn 165 (by decide)).2 rfl (Nat.le_of_ble_eq_true rfl) (by omega) (cM_of hsz (n := n - 1) (by omega) mi ml a 5 h0 h1 (by decide) (by decide)) ?_
    rintro _ _ ⟨rfl, rfl⟩
    refine Go.run hsz hn1 1 (pc' := 41) (lv' := [some (gr 148), some (gi a), some (gi b)]) (st' := [gi ((mOf mi a 4) + (mOf mi a 5)), gi (mOf mi b 4)]) (M' := gw mi ml) rfl ?_
    refine Go.icmp_ge (by rfl) (hR _ _) ⟨by omega, by omega⟩ (fun kq2 => ?_) (fun kq2 => ?_)
    · refine Go.run hsz hn1 1 (pc' := 49) (lv' := [some (gr 148), some (gi a), some (gi b)]) (st' := [gi 0]) (M' := gw mi ml) rfl ?_
      exact Go.zret (by rfl) (Or.inl rfl) ⟨congrArg (fun z => some (gi z)) (by unfold mMeet b2; split <;> omega), rfl⟩
    · refine Go.run hsz hn1 2 (pc' := 49) (lv' := [some (gr 148), some (gi a), some (gi b)]) (st' := [gi 1]) (M' := gw mi ml) rfl ?_
      exact Go.zret (by rfl) (Or.inr rfl) ⟨congrArg (fun z => some (gi z)) (by unfold mMeet b2; split <;> omega), rfl⟩
set_option maxRecDepth 100000 in
set_option maxHeartbeats 4000000 in
theorem cM_whyNot {G : gG} (hsz : G.2.2.2.2.2.2 = true) {n : Nat} (hn : 3 ≤ n) (mi : Nat → Nat → Int) (ml : Nat → Nat → Int64) (a p : Int) (h0 : 0 ≤ a) (h1 : a < 24) (p0 : 0 ≤ p) (p1 : p < 12) (hR : gR32 mi) (hb : PV mi a) : gM G 169 n 0 0 [gr 148, gi a, gi p] (gw mi ml) (gret (mWhy mi a p) (gw mi ml)) := by
  have hn1 : 1 ≤ n := by omega
  obtain ⟨b0, b1, -⟩ := id hb
  refine gM.of mX12_whyNot okX12_whyNot (gcp 169 (by decide)).1 (gcp 169 (by decide)).2 (Nat.le_of_ble_eq_true rfl) ?_
  refine Go.run hsz hn1 3 (pc' := 3) (lv' := [some (gr 148), some (gi a), some (gi p), none, none]) (st' := [gi 0, gi a, gr 148]) (M' := gw mi ml) rfl ?_
  refine Go.callV (As := [gi a, gi 0]) (b := 148) (st := []) (mc1 := 0) (mc := 0) (ms1 := 0) (ms := 0) (by rfl) rfl (c := 11) (N := 46) (by rfl) (by decide) (by rfl) (gcn 165 (by decide)).1 (gcn 165 (by decide)).2 rfl (Nat.le_of_ble_eq_true rfl) (by omega) (cM_of hsz (n := n - 1) (by omega) mi ml a 0 h0 h1 (by decide) (by decide)) ?_
  rintro _ _ ⟨rfl, rfl⟩
  refine Go.run hsz hn1 8 (pc' := 16) (lv' := [some (gr 148), some (gi a), some (gi p), some (gi (mOf mi a 0)), some (gi (8 * p))]) (st' := [gi 1, gi a, gr 148]) (M' := gw mi ml) rfl ?_
  refine Go.callV (As := [gi a, gi 1]) (b := 148) (st := []) (mc1 := 0) (mc := 0) (ms1 := 0) (ms := 0) (by rfl) rfl (c := 11) (N := 46) (by rfl) (by decide) (by rfl) (gcn 165 (by decide)).1 (gcn 165 (by decide)).2 rfl (Nat.le_of_ble_eq_true rfl) (by omega) (cM_of hsz (n := n - 1) (by omega) mi ml a 1 h0 h1 (by decide) (by decide)) ?_
  rintro _ _ ⟨rfl, rfl⟩
  refine Go.run hsz hn1 5 (pc' := 27) (lv' := [some (gr 148), some (gi a), some (gi p), some (gi (mOf mi a 0)), some (gi (8 * p))]) (st' := [gi ((8 * p) + 2), gr 149, gi (mOf mi a 1)]) (M' := gw mi ml) rfl ?_
  refine Go.iald (by rfl) (N := 96) (by rfl) (by omega) (by omega) (by decide) ?_
  refine Go.run hsz hn1 0 (pc' := 28) (lv' := [some (gr 148), some (gi a), some (gi p), some (gi (mOf mi a 0)), some (gi (8 * p))]) (st' := [gi (mPi mi p 2), gi (mOf mi a 1)]) (M' := gw mi ml) rfl ?_
  refine Go.icmp_le (by rfl) (hR _ _) (hR _ _) (fun kq1 => ?_) (fun kq1 => ?_)
  · refine Go.run hsz hn1 4 (pc' := 37) (lv' := [some (gr 148), some (gi a), some (gi p), some (gi (mOf mi a 0)), some (gi (8 * p))]) (st' := [gi 1, gi p, gi a, gr 148]) (M' := gw mi ml) rfl ?_
    refine Go.callV (As := [gi a, gi p, gi 1]) (b := 148) (st := []) (mc1 := 0) (mc := 0) (ms1 := 0) (ms := 0) (by rfl) rfl (c := 11) (N := 46) (by rfl) (by decide) (by rfl) (gcn 168 (by decide)).1 (gcn 168 (by decide)).2 rfl (Nat.le_of_ble_eq_true rfl) (by omega) (cM_lacks hsz (n := n - 1) (by omega) mi ml a p 1 h0 h1 p0 p1 hR) ?_
    rintro _ _ ⟨rfl, rfl⟩
    refine Go.run hsz hn1 0 (pc' := 40) (lv' := [some (gr 148), some (gi a), some (gi p), some (gi (mOf mi a 0)), some (gi (8 * p))]) (st' := [gi (mLacks mi a p 1)]) (M' := gw mi ml) rfl ?_
    refine Go.if_eq (by rfl) (b2_rng _) (fun kq2 => ?_) (fun kq2 => ?_)
    · refine Go.run hsz hn1 4 (pc' := 49) (lv' := [some (gr 148), some (gi a), some (gi p), some (gi (mOf mi a 0)), some (gi (8 * p))]) (st' := [gi 2, gi p, gi a, gr 148]) (M' := gw mi ml) rfl ?_
      refine Go.callV (As := [gi a, gi p, gi 2]) (b := 148) (st := []) (mc1 := 0) (mc := 0) (ms1 := 0) (ms := 0) (by rfl) rfl (c := 11) (N := 46) (by rfl) (by decide) (by rfl) (gcn 168 (by decide)).1 (gcn 168 (by decide)).2 rfl (Nat.le_of_ble_eq_true rfl) (by omega) (cM_lacks hsz (n := n - 1) (by omega) mi ml a p 2 h0 h1 p0 p1 hR) ?_
      rintro _ _ ⟨rfl, rfl⟩
      refine Go.run hsz hn1 0 (pc' := 52) (lv' := [some (gr 148), some (gi a), some (gi p), some (gi (mOf mi a 0)), some (gi (8 * p))]) (st' := [gi (mLacks mi a p 2)]) (M' := gw mi ml) rfl ?_
      refine Go.if_eq (by rfl) (b2_rng _) (fun kq3 => ?_) (fun kq3 => ?_)
      · refine Go.run hsz hn1 2 (pc' := 59) (lv' := [some (gr 148), some (gi a), some (gi p), some (gi (mOf mi a 0)), some (gi (8 * p))]) (st' := [gi 1, gi (mOf mi a 0)]) (M' := gw mi ml) rfl ?_
        refine Go.icmp_ne (by rfl) (hR _ _) ⟨by decide, by decide⟩ (fun kq4 => ?_) (fun kq4 => ?_)
        · refine Go.run hsz hn1 1 (pc' := 83) (lv' := [some (gr 148), some (gi a), some (gi p), some (gi (mOf mi a 0)), some (gi (8 * p))]) (st' := [gi (mOf mi a 0)]) (M' := gw mi ml) rfl ?_
          refine Go.if_ne (by rfl) (hR _ _) (fun kq5 => ?_) (fun kq5 => ?_)
          · refine Go.run hsz hn1 3 (pc' := 91) (lv' := [some (gr 148), some (gi a), some (gi p), some (gi (mOf mi a 0)), some (gi (8 * p))]) (st' := [gi 2, gi a, gr 148]) (M' := gw mi ml) rfl ?_
            refine Go.callV (As := [gi a, gi 2]) (b := 148) (st := []) (mc1 := 0) (mc := 0) (ms1 := 0) (ms := 0) (by rfl) rfl (c := 11) (N := 46) (by rfl) (by decide) (by rfl) (gcn 165 (by decide)).1 (gcn 165 (by decide)).2 rfl (Nat.le_of_ble_eq_true rfl) (by omega) (cM_of hsz (n := n - 1) (by omega) mi ml a 2 h0 h1 (by decide) (by decide)) ?_
            rintro _ _ ⟨rfl, rfl⟩
            refine Go.run hsz hn1 5 (pc' := 102) (lv' := [some (gr 148), some (gi a), some (gi p), some (gi (mOf mi a 0)), some (gi (8 * p))]) (st' := [gi ((8 * p) + 5), gr 149, gi (mOf mi a 2)]) (M' := gw mi ml) rfl ?_
            refine Go.iald (by rfl) (N := 96) (by rfl) (by omega) (by omega) (by decide) ?_
            refine Go.run hsz hn1 0 (pc' := 103) (lv' := [some (gr 148), some (gi a), some (gi p), some (gi (mOf mi a 0)), some (gi (8 * p))]) (st' := [gi (mPi mi p 5), gi (mOf mi a 2)]) (M' := gw mi ml) rfl ?_
            refine Go.icmp_le (by rfl) (hR _ _) (hR _ _) (fun kq6 => ?_) (fun kq6 => ?_)
            · refine Go.run hsz hn1 4 (pc' := 112) (lv' := [some (gr 148), some (gi a), some (gi p), some (gi (mOf mi a 0)), some (gi (8 * p))]) (st' := [gi 4, gi p, gi a, gr 148]) (M' := gw mi ml) rfl ?_
              refine Go.callV (As := [gi a, gi p, gi 4]) (b := 148) (st := []) (mc1 := 0) (mc := 0) (ms1 := 0) (ms := 0) (by rfl) rfl (c := 11) (N := 46) (by rfl) (by decide) (by rfl) (gcn 168 (by decide)).1 (gcn 168 (by decide)).2 rfl (Nat.le_of_ble_eq_true rfl) (by omega) (cM_lacks hsz (n := n - 1) (by omega) mi ml a p 4 h0 h1 p0 p1 hR) ?_
              rintro _ _ ⟨rfl, rfl⟩
              refine Go.run hsz hn1 0 (pc' := 115) (lv' := [some (gr 148), some (gi a), some (gi p), some (gi (mOf mi a 0)), some (gi (8 * p))]) (st' := [gi (mLacks mi a p 4)]) (M' := gw mi ml) rfl ?_
              refine Go.if_ne (by rfl) (b2_rng _) (fun kq7 => ?_) (fun kq7 => ?_)
              · refine Go.run hsz hn1 1 (pc' := 140) (lv' := [some (gr 148), some (gi a), some (gi p), some (gi (mOf mi a 0)), some (gi (8 * p))]) (st' := [gi 6]) (M' := gw mi ml) rfl ?_
                first | exact Go.iret (by rfl) ⟨congrArg (fun z => some (gi z)) (by unfold mWhy; (repeat' split) <;> omega), rfl⟩ | (exfalso; omega)
              · refine Go.run hsz hn1 2 (pc' := 120) (lv' := [some (gr 148), some (gi a), some (gi p), some (gi (mOf mi a 0)), some (gi (8 * p))]) (st' := [gi 4, gi (mOf mi a 0)]) (M' := gw mi ml) rfl ?_
                refine Go.icmp_ne (by rfl) (hR _ _) ⟨by decide, by decide⟩ (fun kq8 => ?_) (fun kq8 => ?_)
                · refine Go.run hsz hn1 2 (pc' := 143) (lv' := [some (gr 148), some (gi a), some (gi p), some (gi (mOf mi a 0)), some (gi (8 * p))]) (st' := [gi 3, gi (mOf mi a 0)]) (M' := gw mi ml) rfl ?_
                  refine Go.icmp_ne (by rfl) (hR _ _) ⟨by decide, by decide⟩ (fun kq9 => ?_) (fun kq9 => ?_)
                  · refine Go.run hsz hn1 1 (pc' := 172) (lv' := [some (gr 148), some (gi a), some (gi p), some (gi (mOf mi a 0)), some (gi (8 * p))]) (st' := [gi 0]) (M' := gw mi ml) rfl ?_
                    first | exact Go.iret (by rfl) ⟨congrArg (fun z => some (gi z)) (by unfold mWhy; (repeat' split) <;> omega), rfl⟩ | (exfalso; omega)
                  · refine Go.run hsz hn1 3 (pc' := 149) (lv' := [some (gr 148), some (gi a), some (gi p), some (gi (mOf mi a 0)), some (gi (8 * p))]) (st' := [gi 1, gi a, gr 148]) (M' := gw mi ml) rfl ?_
                    refine Go.callV (As := [gi a, gi 1]) (b := 148) (st := []) (mc1 := 0) (mc := 0) (ms1 := 0) (ms := 0) (by rfl) rfl (c := 11) (N := 46) (by rfl) (by decide) (by rfl) (gcn 165 (by decide)).1 (gcn 165 (by decide)).2 rfl (Nat.le_of_ble_eq_true rfl) (by omega) (cM_of hsz (n := n - 1) (by omega) mi ml a 1 h0 h1 (by decide) (by decide)) ?_
                    rintro _ _ ⟨rfl, rfl⟩
                    refine Go.run hsz hn1 7 (pc' := 162) (lv' := [some (gr 148), some (gi a), some (gi p), some (gi (mOf mi a 0)), some (gi (8 * p))]) (st' := [gi ((8 * p) + 2), gr 149, gi ((mOf mi a 1) + 3)]) (M' := gw mi ml) rfl ?_
                    refine Go.iald (by rfl) (N := 96) (by rfl) (by omega) (by omega) (by decide) ?_
                    refine Go.run hsz hn1 0 (pc' := 163) (lv' := [some (gr 148), some (gi a), some (gi p), some (gi (mOf mi a 0)), some (gi (8 * p))]) (st' := [gi (mPi mi p 2), gi ((mOf mi a 1) + 3)]) (M' := gw mi ml) rfl ?_
                    refine Go.icmp_le (by rfl) ⟨by omega, by omega⟩ (hR _ _) (fun kq10 => ?_) (fun kq10 => ?_)
                    · refine Go.run hsz hn1 1 (pc' := 172) (lv' := [some (gr 148), some (gi a), some (gi p), some (gi (mOf mi a 0)), some (gi (8 * p))]) (st' := [gi 0]) (M' := gw mi ml) rfl ?_
                      first | exact Go.iret (by rfl) ⟨congrArg (fun z => some (gi z)) (by unfold mWhy; (repeat' split) <;> omega), rfl⟩ | (exfalso; omega)
                    · refine Go.run hsz hn1 2 (pc' := 172) (lv' := [some (gr 148), some (gi a), some (gi p), some (gi (mOf mi a 0)), some (gi (8 * p))]) (st' := [gi 7]) (M' := gw mi ml) rfl ?_
                      first | exact Go.iret (by rfl) ⟨congrArg (fun z => some (gi z)) (by unfold mWhy; (repeat' split) <;> omega), rfl⟩ | (exfalso; omega)
                · refine Go.run hsz hn1 5 (pc' := 132) (lv' := [some (gr 148), some (gi a), some (gi p), some (gi (mOf mi a 0)), some (gi (8 * p))]) (st' := [gi ((8 * p) + 6), gr 149]) (M' := gw mi ml) rfl ?_
                  refine Go.iald (by rfl) (N := 96) (by rfl) (by omega) (by omega) (by decide) ?_
                  refine Go.run hsz hn1 2 (pc' := 135) (lv' := [some (gr 148), some (gi a), some (gi p), some (gi (mOf mi a 0)), some (gi (8 * p))]) (st' := [gi (andI (mPi mi p 6) 4)]) (M' := gw mi ml) rfl ?_
                  refine Go.if_ne (by rfl) (rng_of _) (fun kq11 => ?_) (fun kq11 => ?_)
                  · refine Go.run hsz hn1 2 (pc' := 143) (lv' := [some (gr 148), some (gi a), some (gi p), some (gi (mOf mi a 0)), some (gi (8 * p))]) (st' := [gi 3, gi (mOf mi a 0)]) (M' := gw mi ml) rfl ?_
                    refine Go.icmp_ne (by rfl) (hR _ _) ⟨by decide, by decide⟩ (fun kq12 => ?_) (fun kq12 => ?_)
                    · refine Go.run hsz hn1 1 (pc' := 172) (lv' := [some (gr 148), some (gi a), some (gi p), some (gi (mOf mi a 0)), some (gi (8 * p))]) (st' := [gi 0]) (M' := gw mi ml) rfl ?_
                      first | exact Go.iret (by rfl) ⟨congrArg (fun z => some (gi z)) (by unfold mWhy; (repeat' split) <;> omega), rfl⟩ | (exfalso; omega)
                    · refine Go.run hsz hn1 3 (pc' := 149) (lv' := [some (gr 148), some (gi a), some (gi p), some (gi (mOf mi a 0)), some (gi (8 * p))]) (st' := [gi 1, gi a, gr 148]) (M' := gw mi ml) rfl ?_
                      refine Go.callV (As := [gi a, gi 1]) (b := 148) (st := []) (mc1 := 0) (mc := 0) (ms1 := 0) (ms := 0) (by rfl) rfl (c := 11) (N := 46) (by rfl) (by decide) (by rfl) (gcn 165 (by decide)).1 (gcn 165 (by decide)).2 rfl (Nat.le_of_ble_eq_true rfl) (by omega) (cM_of hsz (n := n - 1) (by omega) mi ml a 1 h0 h1 (by decide) (by decide)) ?_
                      rintro _ _ ⟨rfl, rfl⟩
                      refine Go.run hsz hn1 7 (pc' := 162) (lv' := [some (gr 148), some (gi a), some (gi p), some (gi (mOf mi a 0)), some (gi (8 * p))]) (st' := [gi ((8 * p) + 2), gr 149, gi ((mOf mi a 1) + 3)]) (M' := gw mi ml) rfl ?_
                      refine Go.iald (by rfl) (N := 96) (by rfl) (by omega) (by omega) (by decide) ?_
                      refine Go.run hsz hn1 0 (pc' := 163) (lv' := [some (gr 148), some (gi a), some (gi p), some (gi (mOf mi a 0)), some (gi (8 * p))]) (st' := [gi (mPi mi p 2), gi ((mOf mi a 1) + 3)]) (M' := gw mi ml) rfl ?_
                      refine Go.icmp_le (by rfl) ⟨by omega, by omega⟩ (hR _ _) (fun kq13 => ?_) (fun kq13 => ?_)
                      · refine Go.run hsz hn1 1 (pc' := 172) (lv' := [some (gr 148), some (gi a), some (gi p), some (gi (mOf mi a 0)), some (gi (8 * p))]) (st' := [gi 0]) (M' := gw mi ml) rfl ?_
                        first | exact Go.iret (by rfl) ⟨congrArg (fun z => some (gi z)) (by unfold mWhy; (repeat' split) <;> omega), rfl⟩ | (exfalso; omega)
                      · refine Go.run hsz hn1 2 (pc' := 172) (lv' := [some (gr 148), some (gi a), some (gi p), some (gi (mOf mi a 0)), some (gi (8 * p))]) (st' := [gi 7]) (M' := gw mi ml) rfl ?_
                        first | exact Go.iret (by rfl) ⟨congrArg (fun z => some (gi z)) (by unfold mWhy; (repeat' split) <;> omega), rfl⟩ | (exfalso; omega)
                  · refine Go.run hsz hn1 1 (pc' := 140) (lv' := [some (gr 148), some (gi a), some (gi p), some (gi (mOf mi a 0)), some (gi (8 * p))]) (st' := [gi 6]) (M' := gw mi ml) rfl ?_
                    first | exact Go.iret (by rfl) ⟨congrArg (fun z => some (gi z)) (by unfold mWhy; (repeat' split) <;> omega), rfl⟩ | (exfalso; omega)
            · refine Go.run hsz hn1 1 (pc' := 107) (lv' := [some (gr 148), some (gi a), some (gi p), some (gi (mOf mi a 0)), some (gi (8 * p))]) (st' := [gi 5]) (M' := gw mi ml) rfl ?_
              first | exact Go.iret (by rfl) ⟨congrArg (fun z => some (gi z)) (by unfold mWhy; (repeat' split) <;> omega), rfl⟩ | (exfalso; omega)
          · refine Go.run hsz hn1 1 (pc' := 87) (lv' := [some (gr 148), some (gi a), some (gi p), some (gi (mOf mi a 0)), some (gi (8 * p))]) (st' := [gi 0]) (M' := gw mi ml) rfl ?_
            first | exact Go.iret (by rfl) ⟨congrArg (fun z => some (gi z)) (by unfold mWhy; (repeat' split) <;> omega), rfl⟩ | (exfalso; omega)
        · refine Go.run hsz hn1 5 (pc' := 70) (lv' := [some (gr 148), some (gi a), some (gi p), some (gi (mOf mi a 0)), some (gi (8 * p))]) (st' := [gi ((8 * p) + 4), gr 149]) (M' := gw mi ml) rfl ?_
          refine Go.iald (by rfl) (N := 96) (by rfl) (by omega) (by omega) (by decide) ?_
          refine Go.run hsz hn1 1 (pc' := 73) (lv' := [some (gr 148), some (gi a), some (gi p), some (gi (mOf mi a 0)), some (gi (8 * p))]) (st' := [gi 6, gi (mPi mi p 4)]) (M' := gw mi ml) rfl ?_
          refine Go.icmp_le (by rfl) (hR _ _) ⟨by decide, by decide⟩ (fun kq14 => ?_) (fun kq14 => ?_)
          · refine Go.run hsz hn1 1 (pc' := 81) (lv' := [some (gr 148), some (gi a), some (gi p), some (gi (mOf mi a 0)), some (gi (8 * p))]) (st' := [gi 0]) (M' := gw mi ml) rfl ?_
            first | exact Go.iret (by rfl) ⟨congrArg (fun z => some (gi z)) (by unfold mWhy; (repeat' split) <;> omega), rfl⟩ | (exfalso; omega)
          · refine Go.run hsz hn1 2 (pc' := 81) (lv' := [some (gr 148), some (gi a), some (gi p), some (gi (mOf mi a 0)), some (gi (8 * p))]) (st' := [gi 4]) (M' := gw mi ml) rfl ?_
            first | exact Go.iret (by rfl) ⟨congrArg (fun z => some (gi z)) (by unfold mWhy; (repeat' split) <;> omega), rfl⟩ | (exfalso; omega)
      · refine Go.run hsz hn1 1 (pc' := 56) (lv' := [some (gr 148), some (gi a), some (gi p), some (gi (mOf mi a 0)), some (gi (8 * p))]) (st' := [gi 3]) (M' := gw mi ml) rfl ?_
        first | exact Go.iret (by rfl) ⟨congrArg (fun z => some (gi z)) (by unfold mWhy; (repeat' split) <;> omega), rfl⟩ | (exfalso; omega)
    · refine Go.run hsz hn1 1 (pc' := 44) (lv' := [some (gr 148), some (gi a), some (gi p), some (gi (mOf mi a 0)), some (gi (8 * p))]) (st' := [gi 2]) (M' := gw mi ml) rfl ?_
      first | exact Go.iret (by rfl) ⟨congrArg (fun z => some (gi z)) (by unfold mWhy; (repeat' split) <;> omega), rfl⟩ | (exfalso; omega)
  · refine Go.run hsz hn1 1 (pc' := 32) (lv' := [some (gr 148), some (gi a), some (gi p), some (gi (mOf mi a 0)), some (gi (8 * p))]) (st' := [gi 1]) (M' := gw mi ml) rfl ?_
    first | exact Go.iret (by rfl) ⟨congrArg (fun z => some (gi z)) (by unfold mWhy; (repeat' split) <;> omega), rfl⟩ | (exfalso; omega)
set_option maxRecDepth 100000 in
set_option maxHeartbeats 4000000 in
theorem cM_isHere {G : gG} (hsz : G.2.2.2.2.2.2 = true) {n : Nat} (hn : 3 ≤ n) (mi : Nat → Nat → Int) (ml : Nat → Nat → Int64) (a : Int) (h0 : 0 ≤ a) (h1 : a < 24) (hR : gR32 mi) (hb : PV mi a) : gM G 221 n 0 0 [gr 148, gi a] (gw mi ml) (gret (mHere mi a) (gw mi ml)) := by
  have hn1 : 1 ≤ n := by omega
  refine gM.of mX12_isHere okX12_isHere (gcp 221 (by decide)).1 (gcp 221 (by decide)).2 (Nat.le_of_ble_eq_true rfl) ?_
  refine Go.run hsz hn1 3 (pc' := 4) (lv' := [some (gr 148), some (gi a)]) (st' := [gi 6, gi a, gr 148]) (M' := gw mi ml) rfl ?_
  refine Go.callV (As := [gi a, gi 6]) (b := 148) (st := []) (mc1 := 0) (mc := 0) (ms1 := 0) (ms := 0) (by rfl) rfl (c := 11) (N := 46) (by rfl) (by decide) (by rfl) (gcn 165 (by decide)).1 (gcn 165 (by decide)).2 rfl (Nat.le_of_ble_eq_true rfl) (by omega) (cM_of hsz (n := n - 1) (by omega) mi ml a 6 h0 h1 (by decide) (by decide)) ?_
  rintro _ _ ⟨rfl, rfl⟩
  refine Go.run hsz hn1 0 (pc' := 7) (lv' := [some (gr 148), some (gi a)]) (st' := [gi (mOf mi a 6)]) (M' := gw mi ml) rfl ?_
  refine Go.if_lt (by rfl) (hR _ _) (fun kq1 => ?_) (fun kq1 => ?_)
  · refine Go.run hsz hn1 1 (pc' := 27) (lv' := [some (gr 148), some (gi a)]) (st' := [gi 0]) (M' := gw mi ml) rfl ?_
    exact Go.zret (by rfl) (Or.inl rfl) ⟨congrArg (fun z => some (gi z)) (by unfold mHere; unfold b2; split <;> omega), rfl⟩
  · refine Go.run hsz hn1 4 (pc' := 16) (lv' := [some (gr 148), some (gi a)]) (st' := [gi (mi 148 0), gi a, gr 148]) (M' := gw mi ml) rfl ?_
    refine Go.callV (As := [gi a, gi (mi 148 0)]) (b := 148) (st := []) (mc1 := 0) (mc := 0) (ms1 := 0) (ms := 0) (by rfl) rfl (c := 11) (N := 46) (by rfl) (by decide) (by rfl) (gcn 172 (by decide)).1 (gcn 172 (by decide)).2 rfl (Nat.le_of_ble_eq_true rfl) (by omega) (cM_staysIn hsz (n := n - 1) (by omega) mi ml a (mi 148 0) (by omega) (by omega) hR (hR _ _) hb) ?_
    rintro _ _ ⟨rfl, rfl⟩
    refine Go.run hsz hn1 0 (pc' := 19) (lv' := [some (gr 148), some (gi a)]) (st' := [gi (mStays mi a (mi 148 0))]) (M' := gw mi ml) rfl ?_
    refine Go.if_eq (by rfl) (b2_rng _) (fun kq2 => ?_) (fun kq2 => ?_)
    · refine Go.run hsz hn1 1 (pc' := 27) (lv' := [some (gr 148), some (gi a)]) (st' := [gi 0]) (M' := gw mi ml) rfl ?_
      exact Go.zret (by rfl) (Or.inl rfl) ⟨congrArg (fun z => some (gi z)) (by unfold mHere; unfold b2; split <;> omega), rfl⟩
    · refine Go.run hsz hn1 2 (pc' := 27) (lv' := [some (gr 148), some (gi a)]) (st' := [gi 1]) (M' := gw mi ml) rfl ?_
      exact Go.zret (by rfl) (Or.inr rfl) ⟨congrArg (fun z => some (gi z)) (by unfold mHere; unfold b2; split <;> omega), rfl⟩

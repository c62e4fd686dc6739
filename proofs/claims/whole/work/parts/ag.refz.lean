def plC (mi : Nat → Nat → Int) (x : Int) : Prop := 0 < x ∧ x < shlI 1 (mi 148 6) ∧ popN x.toNat 24 ≤ 4
def plPo (mi : Nat → Nat → Int) (ml : Nat → Nat → Int64) (X : Nat) (r : Option gV) (M : gMe) : Prop := ((∃ b : Nat, b < (mi 148 6).toNat ∧ X.testBit b = true ∧ ¬ plOk mi b) ∧ ∃ m : Nat → Nat → Int, pF mi m (mBn X (mi 148 6).toNat) 0 (fun _ => -1) ∧ r = some (gi (-1000005)) ∧ M = gw (mFd m 4) ml) ∨ ((∀ b : Nat, b < (mi 148 6).toNat → X.testBit b = true → plOk mi b) ∧ plFin mi (mBn X (mi 148 6).toNat) (popN X (mi 148 6).toNat) ml r M)
set_option maxRecDepth 100000 in
set_option maxHeartbeats 4000000 in
theorem pM_plan {G : gG} (hsz : G.2.2.2.2.2.2 = true) {n : Nat} (hn : 10 ≤ n) (mi : Nat → Nat → Int) (ml : Nat → Nat → Int64) (x : Int) (r_x : rng x) (hv : SV mi) : gM G 186 n 0 0 [gr 148, gi x] (gw mi ml) (fun r M => (¬ plC mi x ∧ r = some (gi (-1000001)) ∧ M = gw (mFd mi 0) ml) ∨ (plC mi x ∧ plPo mi ml x.toNat r M)) := by
  have hn1 : 1 ≤ n := by omega
  have r_x2 : -2147483648 ≤ x ∧ x < 2147483648 := r_x
  have hP : 0 ≤ mi 148 2 ∧ mi 148 2 ≤ 12 := hv.2.2.1
  have hN : 0 ≤ mi 148 6 ∧ mi 148 6 ≤ 24 := hv.2.2.2.1
  have hR := hv.1
  have hsh := shl_pow24 (mi 148 6).toNat (by omega)
  rw [show (((mi 148 6).toNat : Nat) : Int) = mi 148 6 by omega] at hsh
  have hpw : 2 ^ (mi 148 6).toNat ≤ 2 ^ 24 := Nat.pow_le_pow_right (by omega) (by omega)
  have hsb : shlI 1 (mi 148 6) ≤ 16777216 := (by rw [hsh]; exact Int.ofNat_le.mpr hpw)
  clear hpw hsh
  refine gM.of mX12_plan okX12_plan (gcp 186 (by decide)).1 (gcp 186 (by decide)).2 (Nat.le_of_ble_eq_true rfl) ?_
  by_cases hx : 0 < x ∧ x < shlI 1 (mi 148 6)
  · obtain ⟨X, rfl⟩ : ∃ X : Nat, x = X := ⟨x.toNat, by omega⟩
    refine Go.run hsz hn1 1 (pc' := 1) (lv' := [some (gr 148), some (gi ((X : Nat) : Int)), none, none, none, none, none, none, none, none, none]) (st' := [gi ((X : Nat) : Int)]) (M' := gw mi ml) rfl ?_
    refine Go.if_le (by rfl) ⟨by omega, by omega⟩ (fun kq1 => ?_) (fun kq1 => ?_)
    · refine Go.run hsz hn1 2 (pc' := 24) (lv' := [some (gr 148), some (gi ((X : Nat) : Int)), none, none, none, none, none, none, none, none, none]) (st' := [gi 0, gr 148]) (M' := gw mi ml) rfl ?_
      refine Go.callV (As := [gi 0]) (b := 148) (st := []) (mc1 := 0) (mc := 0) (ms1 := 0) (ms := 0) (by rfl) rfl (c := 11) (N := 46) (by rfl) (by decide) (by rfl) (gcn 154 (by decide)).1 (gcn 154 (by decide)).2 rfl (Nat.le_of_ble_eq_true rfl) (by omega) (cM_finds hsz (n := n - 1) (by omega) mi ml 0 (by decide) (by decide)) ?_
      rintro _ _ ⟨rfl, rfl⟩
      refine Go.run hsz hn1 0 (pc' := 27) (lv' := [some (gr 148), some (gi ((X : Nat) : Int)), none, none, none, none, none, none, none, none, none]) (st' := [gi (-1000001)]) (M' := gw (mFd mi 0) ml) rfl ?_
      exact Go.iret (by rfl) (Or.inl ⟨fun w9 => (by have w8 := w9.2.2; have w7 := w9.1; have w6 := w9.2.1; rw [show ((X : Nat) : Int).toNat = X by omega] at w8; omega), rfl, rfl⟩)
    · refine Go.run hsz hn1 5 (pc' := 11) (lv' := [some (gr 148), some (gi ((X : Nat) : Int)), none, none, none, none, none, none, none, none, none]) (st' := [gi (shlI 1 (mi 148 6)), gi ((X : Nat) : Int)]) (M' := gw mi ml) rfl ?_
      refine Go.icmp_ge (by rfl) ⟨by omega, by omega⟩ (rng_of _) (fun kq2 => ?_) (fun kq2 => ?_)
      · refine Go.run hsz hn1 2 (pc' := 24) (lv' := [some (gr 148), some (gi ((X : Nat) : Int)), none, none, none, none, none, none, none, none, none]) (st' := [gi 0, gr 148]) (M' := gw mi ml) rfl ?_
        refine Go.callV (As := [gi 0]) (b := 148) (st := []) (mc1 := 0) (mc := 0) (ms1 := 0) (ms := 0) (by rfl) rfl (c := 11) (N := 46) (by rfl) (by decide) (by rfl) (gcn 154 (by decide)).1 (gcn 154 (by decide)).2 rfl (Nat.le_of_ble_eq_true rfl) (by omega) (cM_finds hsz (n := n - 1) (by omega) mi ml 0 (by decide) (by decide)) ?_
        rintro _ _ ⟨rfl, rfl⟩
        refine Go.run hsz hn1 0 (pc' := 27) (lv' := [some (gr 148), some (gi ((X : Nat) : Int)), none, none, none, none, none, none, none, none, none]) (st' := [gi (-1000001)]) (M' := gw (mFd mi 0) ml) rfl ?_
        exact Go.iret (by rfl) (Or.inl ⟨fun w9 => (by have w8 := w9.2.2; have w7 := w9.1; have w6 := w9.2.1; rw [show ((X : Nat) : Int).toNat = X by omega] at w8; omega), rfl, rfl⟩)
      · refine Go.run hsz hn1 1 (pc' := 15) (lv' := [some (gr 148), some (gi ((X : Nat) : Int)), none, none, none, none, none, none, none, none, none]) (st' := [gi ((X : Nat) : Int)]) (M' := gw mi ml) rfl ?_
        refine Go.callS (As := [gi ((X : Nat) : Int)]) (st := []) (mc1 := 0) (mc := 0) (ms1 := 0) (ms := 0) (by rfl) rfl (gcn 183 (by decide)).1 (gcn 183 (by decide)).2 (Nat.le_of_ble_eq_true rfl) (by omega) (cM_ones hsz (n := n - 1) (by omega) mi ml X (by omega)) ?_
        rintro _ _ ⟨rfl, rfl⟩
        have hp24 : popN X 24 ≤ 24 := (by rw [popN_cnt]; exact cntB_le _ _)
        refine Go.run hsz hn1 1 (pc' := 19) (lv' := [some (gr 148), some (gi ((X : Nat) : Int)), none, none, none, none, none, none, none, none, none]) (st' := [gi 4, gi ((popN X 24 : Nat) : Int)]) (M' := gw mi ml) rfl ?_
        refine Go.icmp_le (by rfl) ⟨by omega, by omega⟩ ⟨by decide, by decide⟩ (fun kq3 => ?_) (fun kq3 => ?_)
        · refine Go.run hsz hn1 5 (pc' := 35) (lv' := [some (gr 148), some (gi ((X : Nat) : Int)), some (gi 0), none, none, none, none, none, none, none, none]) (st' := []) (M' := gw (gu mi 148 20 0) ml) rfl ?_
          have h9 := lM_p35 hsz (n := n) (by omega) ml mi hv X (by omega) (by have := popN_mono X (show (mi 148 6).toNat ≤ 24 by omega); omega) ((mi 148 6).toNat + 1) 0 _ (pgM_0 hR _ X) (fun b w1 => by omega) (by omega) (by omega) (by omega)
          refine Go.imp ?_ h9
          exact fun r M hr => Or.inr ⟨⟨hx.1, hx.2, (by rw [show ((X : Nat) : Int).toNat = X by omega]; omega)⟩, hr⟩
        · refine Go.run hsz hn1 2 (pc' := 24) (lv' := [some (gr 148), some (gi ((X : Nat) : Int)), none, none, none, none, none, none, none, none, none]) (st' := [gi 0, gr 148]) (M' := gw mi ml) rfl ?_
          refine Go.callV (As := [gi 0]) (b := 148) (st := []) (mc1 := 0) (mc := 0) (ms1 := 0) (ms := 0) (by rfl) rfl (c := 11) (N := 46) (by rfl) (by decide) (by rfl) (gcn 154 (by decide)).1 (gcn 154 (by decide)).2 rfl (Nat.le_of_ble_eq_true rfl) (by omega) (cM_finds hsz (n := n - 1) (by omega) mi ml 0 (by decide) (by decide)) ?_
          rintro _ _ ⟨rfl, rfl⟩
          refine Go.run hsz hn1 0 (pc' := 27) (lv' := [some (gr 148), some (gi ((X : Nat) : Int)), none, none, none, none, none, none, none, none, none]) (st' := [gi (-1000001)]) (M' := gw (mFd mi 0) ml) rfl ?_
          exact Go.iret (by rfl) (Or.inl ⟨fun w9 => (by have w8 := w9.2.2; have w7 := w9.1; have w6 := w9.2.1; rw [show ((X : Nat) : Int).toNat = X by omega] at w8; omega), rfl, rfl⟩)
  · refine Go.run hsz hn1 1 (pc' := 1) (lv' := [some (gr 148), some (gi x), none, none, none, none, none, none, none, none, none]) (st' := [gi x]) (M' := gw mi ml) rfl ?_
    refine Go.if_le (by rfl) r_x (fun kq4 => ?_) (fun kq4 => ?_)
    · refine Go.run hsz hn1 2 (pc' := 24) (lv' := [some (gr 148), some (gi x), none, none, none, none, none, none, none, none, none]) (st' := [gi 0, gr 148]) (M' := gw mi ml) rfl ?_
      refine Go.callV (As := [gi 0]) (b := 148) (st := []) (mc1 := 0) (mc := 0) (ms1 := 0) (ms := 0) (by rfl) rfl (c := 11) (N := 46) (by rfl) (by decide) (by rfl) (gcn 154 (by decide)).1 (gcn 154 (by decide)).2 rfl (Nat.le_of_ble_eq_true rfl) (by omega) (cM_finds hsz (n := n - 1) (by omega) mi ml 0 (by decide) (by decide)) ?_
      rintro _ _ ⟨rfl, rfl⟩
      refine Go.run hsz hn1 0 (pc' := 27) (lv' := [some (gr 148), some (gi x), none, none, none, none, none, none, none, none, none]) (st' := [gi (-1000001)]) (M' := gw (mFd mi 0) ml) rfl ?_
      exact Go.iret (by rfl) (Or.inl ⟨fun w9 => hx ⟨w9.1, w9.2.1⟩, rfl, rfl⟩)
    · refine Go.run hsz hn1 5 (pc' := 11) (lv' := [some (gr 148), some (gi x), none, none, none, none, none, none, none, none, none]) (st' := [gi (shlI 1 (mi 148 6)), gi x]) (M' := gw mi ml) rfl ?_
      refine Go.icmp_ge (by rfl) r_x (rng_of _) (fun kq5 => ?_) (fun kq5 => ?_)
      · refine Go.run hsz hn1 2 (pc' := 24) (lv' := [some (gr 148), some (gi x), none, none, none, none, none, none, none, none, none]) (st' := [gi 0, gr 148]) (M' := gw mi ml) rfl ?_
        refine Go.callV (As := [gi 0]) (b := 148) (st := []) (mc1 := 0) (mc := 0) (ms1 := 0) (ms := 0) (by rfl) rfl (c := 11) (N := 46) (by rfl) (by decide) (by rfl) (gcn 154 (by decide)).1 (gcn 154 (by decide)).2 rfl (Nat.le_of_ble_eq_true rfl) (by omega) (cM_finds hsz (n := n - 1) (by omega) mi ml 0 (by decide) (by decide)) ?_
        rintro _ _ ⟨rfl, rfl⟩
        refine Go.run hsz hn1 0 (pc' := 27) (lv' := [some (gr 148), some (gi x), none, none, none, none, none, none, none, none, none]) (st' := [gi (-1000001)]) (M' := gw (mFd mi 0) ml) rfl ?_
        exact Go.iret (by rfl) (Or.inl ⟨fun w9 => hx ⟨w9.1, w9.2.1⟩, rfl, rfl⟩)
      · exfalso; omega

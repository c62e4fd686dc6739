set_option maxRecDepth 100000 in
set_option maxHeartbeats 4000000 in
theorem pM_repeal {G : gG} (hsz : G.2.2.2.2.2.2 = true) {n : Nat} (hn : 4 ≤ n) (mi : Nat → Nat → Int) (ml : Nat → Nat → Int64) (l : Int) (r_l : rng l) (hv : SV mi)  : gM G 205 n 0 0 [gr 148, gi l] (gw mi ml) (fun r M => gE ((0 ≤ l ∧ l ≤ 1) ∧ 0 < mi 157 l.toNat) (1) (gu mi 157 l.toNat 0) ml r M ∨ gE ((0 ≤ l ∧ l ≤ 1) ∧ ¬ 0 < mi 157 l.toNat) (0) (gu mi 157 l.toNat 0) ml r M ∨ gE (¬ (0 ≤ l ∧ l ≤ 1)) (-1000001) (mFd mi 0) ml r M) := by
  have hn1 : 1 ≤ n := by omega
  obtain ⟨hR, ht, hp, hq, hP, hQ⟩ := id hv
  refine gM.of mX12_repeal okX12_repeal (gcp 205 (by decide)).1 (gcp 205 (by decide)).2 (Nat.le_of_ble_eq_true rfl) ?_
  refine Go.run hsz hn1 3 (pc' := 3) (lv' := [some (gr 148), some (gi l), none]) (st' := [gi 1, gi 0, gi l]) (M' := gw mi ml) rfl ?_
  refine Go.callS (As := [gi l, gi 0, gi 1]) (st := []) (mc1 := 0) (mc := 0) (ms1 := 0) (ms := 0) (by rfl) rfl (gcn 153 (by decide)).1 (gcn 153 (by decide)).2 (Nat.le_of_ble_eq_true rfl) (by omega) (cM_in hsz (n := n - 1) (by omega) mi ml l 0 1 r_l ⟨by decide, by decide⟩ ⟨by decide, by decide⟩) ?_
  rintro _ _ ⟨rfl, rfl⟩
  refine Go.run hsz hn1 0 (pc' := 6) (lv' := [some (gr 148), some (gi l), none]) (st' := [gi (b2 (0 ≤ l ∧ l ≤ 1))]) (M' := gw mi ml) rfl ?_
  refine Go.if_ne (by rfl) (b2_rng _) (fun kq1 => ?_) (fun kq1 => ?_)
  · replace kq1 := b2_pos kq1
    refine Go.run hsz hn1 3 (pc' := 20) (lv' := [some (gr 148), some (gi l), none]) (st' := [gi l, gr 157]) (M' := gw mi ml) rfl ?_
    refine Go.iald (by rfl) (N := 2) (by rfl) (by omega) (by omega) (by decide) ?_
    refine Go.run hsz hn1 0 (pc' := 21) (lv' := [some (gr 148), some (gi l), none]) (st' := [gi (mi 157 l.toNat)]) (M' := gw mi ml) rfl ?_
    refine Go.if_le (by rfl) (hR _ _) (fun kq2 => ?_) (fun kq2 => ?_)
    · refine Go.run hsz hn1 6 (pc' := 36) (lv' := [some (gr 148), some (gi l), some (gi 0)]) (st' := [gi 0, gi l, gr 157]) (M' := gw mi ml) rfl ?_
      refine Go.iast (by rfl) (N := 2) (by rfl) (by omega) (by omega) (by decide) ?_
      refine Go.run hsz hn1 1 (pc' := 38) (lv' := [some (gr 148), some (gi l), some (gi 0)]) (st' := [gi 0]) (M' := gw (gu mi 157 l.toNat 0) ml) rfl ?_
      refine Go.iret (by rfl) ?_
      first | (exact Or.inl ⟨by omega, rfl, rfl⟩) | (exact Or.inr (Or.inl ⟨by omega, rfl, rfl⟩)) | (exact Or.inr (Or.inr (⟨by omega, rfl, rfl⟩)))
    · refine Go.run hsz hn1 7 (pc' := 36) (lv' := [some (gr 148), some (gi l), some (gi 1)]) (st' := [gi 0, gi l, gr 157]) (M' := gw mi ml) rfl ?_
      refine Go.iast (by rfl) (N := 2) (by rfl) (by omega) (by omega) (by decide) ?_
      refine Go.run hsz hn1 1 (pc' := 38) (lv' := [some (gr 148), some (gi l), some (gi 1)]) (st' := [gi 1]) (M' := gw (gu mi 157 l.toNat 0) ml) rfl ?_
      refine Go.iret (by rfl) ?_
      first | (exact Or.inl ⟨by omega, rfl, rfl⟩) | (exact Or.inr (Or.inl ⟨by omega, rfl, rfl⟩)) | (exact Or.inr (Or.inr (⟨by omega, rfl, rfl⟩)))
  · replace kq1 := b2_neg kq1
    refine Go.run hsz hn1 2 (pc' := 11) (lv' := [some (gr 148), some (gi l), none]) (st' := [gi 0, gr 148]) (M' := gw mi ml) rfl ?_
    refine Go.callV (As := [gi 0]) (b := 148) (st := []) (mc1 := 0) (mc := 0) (ms1 := 0) (ms := 0) (by rfl) rfl (c := 11) (N := 46) (by rfl) (by decide) (by rfl) (gcn 154 (by decide)).1 (gcn 154 (by decide)).2 rfl (Nat.le_of_ble_eq_true rfl) (by omega) (cM_finds hsz (n := n - 1) (by omega) mi ml 0 (by decide) (by decide)) ?_
    rintro _ _ ⟨rfl, rfl⟩
    refine Go.run hsz hn1 0 (pc' := 14) (lv' := [some (gr 148), some (gi l), none]) (st' := [gi (-1000001)]) (M' := gw (mFd mi 0) ml) rfl ?_
    refine Go.iret (by rfl) ?_
    first | (exact Or.inl ⟨by omega, rfl, rfl⟩) | (exact Or.inr (Or.inl ⟨by omega, rfl, rfl⟩)) | (exact Or.inr (Or.inr (⟨by omega, rfl, rfl⟩)))
set_option maxRecDepth 100000 in
set_option maxHeartbeats 4000000 in
theorem pM_stars {G : gG} (hsz : G.2.2.2.2.2.2 = true) {n : Nat} (hn : 4 ≤ n) (mi : Nat → Nat → Int) (ml : Nat → Nat → Int64) (p : Int) (r_p : rng p) (hv : SV mi) (hs : ∀ p : Int, 0 ≤ p → p < mi 148 2 → (0 ≤ mi 151 p.toNat ∧ mi 151 p.toNat ≤ 100) ∧ (0 ≤ mi 150 p.toNat ∧ mi 150 p.toNat ≤ 500)) : gM G 217 n 0 0 [gr 148, gi p] (gw mi ml) (fun r M => gE (¬ (0 ≤ p ∧ p ≤ mi 148 2 - 1)) (-1000001) (mFd mi 0) ml r M ∨ gE ((0 ≤ p ∧ p ≤ mi 148 2 - 1) ∧ mi 151 p.toNat = 0) (-1000004) (mFd mi 3) ml r M ∨ gE ((0 ≤ p ∧ p ≤ mi 148 2 - 1) ∧ ¬ mi 151 p.toNat = 0) ((100 * mi 150 p.toNat).tdiv (mi 151 p.toNat)) (mi) ml r M) := by
  have hn1 : 1 ≤ n := by omega
  obtain ⟨hR, ht, hp, hq, hP, hQ⟩ := id hv
  refine gM.of mX12_stars okX12_stars (gcp 217 (by decide)).1 (gcp 217 (by decide)).2 (Nat.le_of_ble_eq_true rfl) ?_
  refine Go.run hsz hn1 2 (pc' := 2) (lv' := [some (gr 148), some (gi p)]) (st' := [gi p, gr 148]) (M' := gw mi ml) rfl ?_
  refine Go.callV (As := [gi p]) (b := 148) (st := []) (mc1 := 0) (mc := 0) (ms1 := 0) (ms := 0) (by rfl) rfl (c := 11) (N := 46) (by rfl) (by decide) (by rfl) (gcn 155 (by decide)).1 (gcn 155 (by decide)).2 rfl (Nat.le_of_ble_eq_true rfl) (by omega) (cM_isPitch hsz (n := n - 1) (by omega) mi ml p r_p hp.1 hp.2) ?_
  rintro _ _ ⟨rfl, rfl⟩
  refine Go.run hsz hn1 0 (pc' := 5) (lv' := [some (gr 148), some (gi p)]) (st' := [gi (b2 (0 ≤ p ∧ p ≤ mi 148 2 - 1))]) (M' := gw mi ml) rfl ?_
  refine Go.if_ne (by rfl) (b2_rng _) (fun kq1 => ?_) (fun kq1 => ?_)
  · replace kq1 := b2_pos kq1
    refine Go.run hsz hn1 3 (pc' := 19) (lv' := [some (gr 148), some (gi p)]) (st' := [gi p, gr 151]) (M' := gw mi ml) rfl ?_
    refine Go.iald (by rfl) (N := 12) (by rfl) (by omega) (by omega) (by decide) ?_
    refine Go.run hsz hn1 0 (pc' := 20) (lv' := [some (gr 148), some (gi p)]) (st' := [gi (mi 151 p.toNat)]) (M' := gw mi ml) rfl ?_
    refine Go.if_ne (by rfl) (hR _ _) (fun kq2 => ?_) (fun kq2 => ?_)
    · refine Go.run hsz hn1 4 (pc' := 38) (lv' := [some (gr 148), some (gi p)]) (st' := [gi p, gr 150, gi 100]) (M' := gw mi ml) rfl ?_
      refine Go.iald (by rfl) (N := 12) (by rfl) (by omega) (by omega) (by decide) ?_
      refine Go.run hsz hn1 4 (pc' := 45) (lv' := [some (gr 148), some (gi p)]) (st' := [gi p, gr 151, gi (100 * (mi 150 p.toNat))]) (M' := gw mi ml) rfl ?_
      refine Go.iald (by rfl) (N := 12) (by rfl) (by omega) (by omega) (by decide) ?_
      refine Go.run hsz hn1 0 (pc' := 46) (lv' := [some (gr 148), some (gi p)]) (st' := [gi (mi 151 p.toNat), gi (100 * (mi 150 p.toNat))]) (M' := gw mi ml) rfl ?_
      refine Go.idiv (by rfl) (by have := hs p (by omega) (by omega); exact ⟨by omega, by omega⟩) (hR _ _) (by omega) (rng_tdiv (by have := hs p (by omega) (by omega); exact ⟨by omega, by omega⟩) (by have := hs p (by omega) (by omega); omega)) ?_
      refine Go.iret (by rfl) ?_
      first | (exact Or.inl ⟨by omega, rfl, rfl⟩) | (exact Or.inr (Or.inl ⟨by omega, rfl, rfl⟩)) | (exact Or.inr (Or.inr (⟨by omega, rfl, rfl⟩)))
    · refine Go.run hsz hn1 2 (pc' := 25) (lv' := [some (gr 148), some (gi p)]) (st' := [gi 3, gr 148]) (M' := gw mi ml) rfl ?_
      refine Go.callV (As := [gi 3]) (b := 148) (st := []) (mc1 := 0) (mc := 0) (ms1 := 0) (ms := 0) (by rfl) rfl (c := 11) (N := 46) (by rfl) (by decide) (by rfl) (gcn 154 (by decide)).1 (gcn 154 (by decide)).2 rfl (Nat.le_of_ble_eq_true rfl) (by omega) (cM_finds hsz (n := n - 1) (by omega) mi ml 3 (by decide) (by decide)) ?_
      rintro _ _ ⟨rfl, rfl⟩
      refine Go.run hsz hn1 1 (pc' := 47) (lv' := [some (gr 148), some (gi p)]) (st' := [gi (-1000004)]) (M' := gw (mFd mi 3) ml) rfl ?_
      refine Go.iret (by rfl) ?_
      first | (exact Or.inl ⟨by omega, rfl, rfl⟩) | (exact Or.inr (Or.inl ⟨by omega, rfl, rfl⟩)) | (exact Or.inr (Or.inr (⟨by omega, rfl, rfl⟩)))
  · replace kq1 := b2_neg kq1
    refine Go.run hsz hn1 2 (pc' := 10) (lv' := [some (gr 148), some (gi p)]) (st' := [gi 0, gr 148]) (M' := gw mi ml) rfl ?_
    refine Go.callV (As := [gi 0]) (b := 148) (st := []) (mc1 := 0) (mc := 0) (ms1 := 0) (ms := 0) (by rfl) rfl (c := 11) (N := 46) (by rfl) (by decide) (by rfl) (gcn 154 (by decide)).1 (gcn 154 (by decide)).2 rfl (Nat.le_of_ble_eq_true rfl) (by omega) (cM_finds hsz (n := n - 1) (by omega) mi ml 0 (by decide) (by decide)) ?_
    rintro _ _ ⟨rfl, rfl⟩
    refine Go.run hsz hn1 0 (pc' := 13) (lv' := [some (gr 148), some (gi p)]) (st' := [gi (-1000001)]) (M' := gw (mFd mi 0) ml) rfl ?_
    refine Go.iret (by rfl) ?_
    first | (exact Or.inl ⟨by omega, rfl, rfl⟩) | (exact Or.inr (Or.inl ⟨by omega, rfl, rfl⟩)) | (exact Or.inr (Or.inr (⟨by omega, rfl, rfl⟩)))
set_option maxRecDepth 100000 in
set_option maxHeartbeats 4000000 in
theorem pM_review {G : gG} (hsz : G.2.2.2.2.2.2 = true) {n : Nat} (hn : 4 ≤ n) (mi : Nat → Nat → Int) (ml : Nat → Nat → Int64) (a v : Int) (r_a : rng a) (r_v : rng v) (hv : SV mi)  : gM G 216 n 0 0 [gr 148, gi a, gi v] (gw mi ml) (fun r M => gE (¬ ((0 ≤ a ∧ a ≤ mi 148 6 - 1) ∧ (1 ≤ v ∧ v ≤ 5))) (-1000001) (mFd mi 0) ml r M ∨ gE ((0 ≤ a ∧ a ≤ mi 148 6 - 1) ∧ (1 ≤ v ∧ v ≤ 5) ∧ (mOf mi a 6 < 0 ∨ mi 148 0 < mOf mi a 4 + mOf mi a 5 ∨ mOf mi a 11 = 1)) (-1000005) (mFd mi 4) ml r M ∨ gE ((0 ≤ a ∧ a ≤ mi 148 6 - 1) ∧ (1 ≤ v ∧ v ≤ 5) ∧ ¬ (mOf mi a 6 < 0 ∨ mi 148 0 < mOf mi a 4 + mOf mi a 5 ∨ mOf mi a 11 = 1)) (mi 151 (mOf mi a 6).toNat + 1) (gu (gu (gu mi 152 (12 * a + 11).toNat 1) 150 (mOf mi a 6).toNat (mi 150 (mOf mi a 6).toNat + v)) 151 (mOf mi a 6).toNat (mi 151 (mOf mi a 6).toNat + 1)) ml r M) := by
  have hn1 : 1 ≤ n := by omega
  obtain ⟨hR, ht, hp, hq, hP, hQ⟩ := id hv
  have hPa := fun x y => hP a x y
  refine gM.of mX12_review okX12_review (gcp 216 (by decide)).1 (gcp 216 (by decide)).2 (Nat.le_of_ble_eq_true rfl) ?_
  refine Go.run hsz hn1 2 (pc' := 2) (lv' := [some (gr 148), some (gi a), some (gi v), none]) (st' := [gi a, gr 148]) (M' := gw mi ml) rfl ?_
  refine Go.callV (As := [gi a]) (b := 148) (st := []) (mc1 := 0) (mc := 0) (ms1 := 0) (ms := 0) (by rfl) rfl (c := 11) (N := 46) (by rfl) (by decide) (by rfl) (gcn 156 (by decide)).1 (gcn 156 (by decide)).2 rfl (Nat.le_of_ble_eq_true rfl) (by omega) (cM_isParty hsz (n := n - 1) (by omega) mi ml a r_a hq.1 hq.2) ?_
  rintro _ _ ⟨rfl, rfl⟩
  refine Go.run hsz hn1 0 (pc' := 5) (lv' := [some (gr 148), some (gi a), some (gi v), none]) (st' := [gi (b2 (0 ≤ a ∧ a ≤ mi 148 6 - 1))]) (M' := gw mi ml) rfl ?_
  refine Go.if_eq (by rfl) (b2_rng _) (fun kq1 => ?_) (fun kq1 => ?_)
  · replace kq1 := b2_neg kq1
    refine Go.run hsz hn1 2 (pc' := 19) (lv' := [some (gr 148), some (gi a), some (gi v), none]) (st' := [gi 0, gr 148]) (M' := gw mi ml) rfl ?_
    refine Go.callV (As := [gi 0]) (b := 148) (st := []) (mc1 := 0) (mc := 0) (ms1 := 0) (ms := 0) (by rfl) rfl (c := 11) (N := 46) (by rfl) (by decide) (by rfl) (gcn 154 (by decide)).1 (gcn 154 (by decide)).2 rfl (Nat.le_of_ble_eq_true rfl) (by omega) (cM_finds hsz (n := n - 1) (by omega) mi ml 0 (by decide) (by decide)) ?_
    rintro _ _ ⟨rfl, rfl⟩
    refine Go.run hsz hn1 0 (pc' := 22) (lv' := [some (gr 148), some (gi a), some (gi v), none]) (st' := [gi (-1000001)]) (M' := gw (mFd mi 0) ml) rfl ?_
    refine Go.iret (by rfl) ?_
    first | (exact Or.inl ⟨by omega, rfl, rfl⟩) | (exact Or.inr (Or.inl ⟨by omega, rfl, rfl⟩)) | (exact Or.inr (Or.inr (⟨by omega, rfl, rfl⟩)))
  · replace kq1 := b2_pos kq1
    refine Go.run hsz hn1 3 (pc' := 11) (lv' := [some (gr 148), some (gi a), some (gi v), none]) (st' := [gi 5, gi 1, gi v]) (M' := gw mi ml) rfl ?_
    refine Go.callS (As := [gi v, gi 1, gi 5]) (st := []) (mc1 := 0) (mc := 0) (ms1 := 0) (ms := 0) (by rfl) rfl (gcn 153 (by decide)).1 (gcn 153 (by decide)).2 (Nat.le_of_ble_eq_true rfl) (by omega) (cM_in hsz (n := n - 1) (by omega) mi ml v 1 5 r_v ⟨by decide, by decide⟩ ⟨by decide, by decide⟩) ?_
    rintro _ _ ⟨rfl, rfl⟩
    refine Go.run hsz hn1 0 (pc' := 14) (lv' := [some (gr 148), some (gi a), some (gi v), none]) (st' := [gi (b2 (1 ≤ v ∧ v ≤ 5))]) (M' := gw mi ml) rfl ?_
    refine Go.if_ne (by rfl) (b2_rng _) (fun kq2 => ?_) (fun kq2 => ?_)
    · replace kq2 := b2_pos kq2
      refine Go.run hsz hn1 3 (pc' := 27) (lv' := [some (gr 148), some (gi a), some (gi v), none]) (st' := [gi 6, gi a, gr 148]) (M' := gw mi ml) rfl ?_
      refine Go.callV (As := [gi a, gi 6]) (b := 148) (st := []) (mc1 := 0) (mc := 0) (ms1 := 0) (ms := 0) (by rfl) rfl (c := 11) (N := 46) (by rfl) (by decide) (by rfl) (gcn 165 (by decide)).1 (gcn 165 (by decide)).2 rfl (Nat.le_of_ble_eq_true rfl) (by omega) (cM_of hsz (n := n - 1) (by omega) mi ml a 6 (by omega) (by omega) (by omega) (by omega)) ?_
      rintro _ _ ⟨rfl, rfl⟩
      refine Go.run hsz hn1 2 (pc' := 32) (lv' := [some (gr 148), some (gi a), some (gi v), some (gi (mOf mi a 6))]) (st' := [gi (mOf mi a 6)]) (M' := gw mi ml) rfl ?_
      refine Go.if_lt (by rfl) (hR _ _) (fun kq3 => ?_) (fun kq3 => ?_)
      · refine Go.run hsz hn1 2 (pc' := 68) (lv' := [some (gr 148), some (gi a), some (gi v), some (gi (mOf mi a 6))]) (st' := [gi 4, gr 148]) (M' := gw mi ml) rfl ?_
        refine Go.callV (As := [gi 4]) (b := 148) (st := []) (mc1 := 0) (mc := 0) (ms1 := 0) (ms := 0) (by rfl) rfl (c := 11) (N := 46) (by rfl) (by decide) (by rfl) (gcn 154 (by decide)).1 (gcn 154 (by decide)).2 rfl (Nat.le_of_ble_eq_true rfl) (by omega) (cM_finds hsz (n := n - 1) (by omega) mi ml 4 (by decide) (by decide)) ?_
        rintro _ _ ⟨rfl, rfl⟩
        refine Go.run hsz hn1 0 (pc' := 71) (lv' := [some (gr 148), some (gi a), some (gi v), some (gi (mOf mi a 6))]) (st' := [gi (-1000005)]) (M' := gw (mFd mi 4) ml) rfl ?_
        refine Go.iret (by rfl) ?_
        first | (exact Or.inl ⟨by omega, rfl, rfl⟩) | (exact Or.inr (Or.inl ⟨by omega, rfl, rfl⟩)) | (exact Or.inr (Or.inr (⟨by omega, rfl, rfl⟩)))
      · refine Go.run hsz hn1 3 (pc' := 38) (lv' := [some (gr 148), some (gi a), some (gi v), some (gi (mOf mi a 6))]) (st' := [gi 4, gi a, gr 148]) (M' := gw mi ml) rfl ?_
        refine Go.callV (As := [gi a, gi 4]) (b := 148) (st := []) (mc1 := 0) (mc := 0) (ms1 := 0) (ms := 0) (by rfl) rfl (c := 11) (N := 46) (by rfl) (by decide) (by rfl) (gcn 165 (by decide)).1 (gcn 165 (by decide)).2 rfl (Nat.le_of_ble_eq_true rfl) (by omega) (cM_of hsz (n := n - 1) (by omega) mi ml a 4 (by omega) (by omega) (by omega) (by omega)) ?_
        rintro _ _ ⟨rfl, rfl⟩
        refine Go.run hsz hn1 3 (pc' := 44) (lv' := [some (gr 148), some (gi a), some (gi v), some (gi (mOf mi a 6))]) (st' := [gi 5, gi a, gr 148, gi (mOf mi a 4)]) (M' := gw mi ml) rfl ?_
        refine Go.callV (As := [gi a, gi 5]) (b := 148) (st := [gi (mOf mi a 4)]) (mc1 := 0) (mc := 0) (ms1 := 0) (ms := 0) (by rfl) rfl (c := 11) (N := 46) (by rfl) (by decide) (by rfl) (gcn 165 (by decide)).1 (gcn 165 (by decide)).2 rfl (Nat.le_of_ble_eq_true rfl) (by omega) (cM_of hsz (n := n - 1) (by omega) mi ml a 5 (by omega) (by omega) (by omega) (by omega)) ?_
        rintro _ _ ⟨rfl, rfl⟩
        refine Go.run hsz hn1 3 (pc' := 52) (lv' := [some (gr 148), some (gi a), some (gi v), some (gi (mOf mi a 6))]) (st' := [gi (mi 148 0), gi ((mOf mi a 4) + (mOf mi a 5))]) (M' := gw mi ml) rfl ?_
        refine Go.icmp_gt (by rfl) (by have := hP a (by omega) (by omega); unfold PV at this; exact ⟨by omega, by omega⟩) (hR _ _) (fun kq4 => ?_) (fun kq4 => ?_)
        · refine Go.run hsz hn1 2 (pc' := 68) (lv' := [some (gr 148), some (gi a), some (gi v), some (gi (mOf mi a 6))]) (st' := [gi 4, gr 148]) (M' := gw mi ml) rfl ?_
          refine Go.callV (As := [gi 4]) (b := 148) (st := []) (mc1 := 0) (mc := 0) (ms1 := 0) (ms := 0) (by rfl) rfl (c := 11) (N := 46) (by rfl) (by decide) (by rfl) (gcn 154 (by decide)).1 (gcn 154 (by decide)).2 rfl (Nat.le_of_ble_eq_true rfl) (by omega) (cM_finds hsz (n := n - 1) (by omega) mi ml 4 (by decide) (by decide)) ?_
          rintro _ _ ⟨rfl, rfl⟩
          refine Go.run hsz hn1 0 (pc' := 71) (lv' := [some (gr 148), some (gi a), some (gi v), some (gi (mOf mi a 6))]) (st' := [gi (-1000005)]) (M' := gw (mFd mi 4) ml) rfl ?_
          refine Go.iret (by rfl) ?_
          first | (exact Or.inl ⟨by omega, rfl, rfl⟩) | (exact Or.inr (Or.inl ⟨by omega, rfl, rfl⟩)) | (exact Or.inr (Or.inr (⟨by omega, rfl, rfl⟩)))
        · refine Go.run hsz hn1 3 (pc' := 59) (lv' := [some (gr 148), some (gi a), some (gi v), some (gi (mOf mi a 6))]) (st' := [gi 11, gi a, gr 148]) (M' := gw mi ml) rfl ?_
          refine Go.callV (As := [gi a, gi 11]) (b := 148) (st := []) (mc1 := 0) (mc := 0) (ms1 := 0) (ms := 0) (by rfl) rfl (c := 11) (N := 46) (by rfl) (by decide) (by rfl) (gcn 165 (by decide)).1 (gcn 165 (by decide)).2 rfl (Nat.le_of_ble_eq_true rfl) (by omega) (cM_of hsz (n := n - 1) (by omega) mi ml a 11 (by omega) (by omega) (by omega) (by omega)) ?_
          rintro _ _ ⟨rfl, rfl⟩
          refine Go.run hsz hn1 1 (pc' := 63) (lv' := [some (gr 148), some (gi a), some (gi v), some (gi (mOf mi a 6))]) (st' := [gi 1, gi (mOf mi a 11)]) (M' := gw mi ml) rfl ?_
          refine Go.icmp_ne (by rfl) (hR _ _) ⟨by decide, by decide⟩ (fun kq5 => ?_) (fun kq5 => ?_)
          · refine Go.run hsz hn1 8 (pc' := 84) (lv' := [some (gr 148), some (gi a), some (gi v), some (gi (mOf mi a 6))]) (st' := [gi 1, gi ((12 * a) + 11), gr 152]) (M' := gw mi ml) rfl ?_
            refine Go.iast (by rfl) (N := 288) (by rfl) (by omega) (by omega) (by decide) ?_
            refine Go.run hsz hn1 4 (pc' := 91) (lv' := [some (gr 148), some (gi a), some (gi v), some (gi (mOf mi a 6))]) (st' := [gi (mOf mi a 6), gr 150, gi (mOf mi a 6), gr 150]) (M' := gw (gu mi 152 (((12 * a) + 11).toNat) 1) ml) rfl ?_
            refine Go.iald (by rfl) (N := 12) (by rfl) (by have := (hP a (by omega) (by omega)).2.2.2.2.2.2.2.1; omega) (by have := (hP a (by omega) (by omega)).2.2.2.2.2.2.2.1; omega) (by decide) ?_
            refine Go.run hsz hn1 0 (pc' := 92) (lv' := [some (gr 148), some (gi a), some (gi v), some (gi (mOf mi a 6))]) (st' := [gi ((gu mi 152 (((12 * a) + 11).toNat) 1) 150 ((mOf mi a 6).toNat)), gi (mOf mi a 6), gr 150]) (M' := gw (gu mi 152 (((12 * a) + 11).toNat) 1) ml) rfl ?_
            rw [show (gu mi 152 (((12 * a) + 11).toNat) 1) 150 ((mOf mi a 6).toNat) = mi 150 ((mOf mi a 6).toNat) from gu_ne (Or.inl (by decide))]
            refine Go.run hsz hn1 2 (pc' := 94) (lv' := [some (gr 148), some (gi a), some (gi v), some (gi (mOf mi a 6))]) (st' := [gi ((mi 150 ((mOf mi a 6).toNat)) + v), gi (mOf mi a 6), gr 150]) (M' := gw (gu mi 152 (((12 * a) + 11).toNat) 1) ml) rfl ?_
            refine Go.iast (by rfl) (N := 12) (by rfl) (by have := (hP a (by omega) (by omega)).2.2.2.2.2.2.2.1; omega) (by have := (hP a (by omega) (by omega)).2.2.2.2.2.2.2.1; omega) (by decide) ?_
            refine Go.run hsz hn1 4 (pc' := 101) (lv' := [some (gr 148), some (gi a), some (gi v), some (gi (mOf mi a 6))]) (st' := [gi (mOf mi a 6), gr 151, gi (mOf mi a 6), gr 151]) (M' := gw (gu (gu mi 152 (((12 * a) + 11).toNat) 1) 150 ((mOf mi a 6).toNat) ((mi 150 ((mOf mi a 6).toNat)) + v)) ml) rfl ?_
            refine Go.iald (by rfl) (N := 12) (by rfl) (by have := (hP a (by omega) (by omega)).2.2.2.2.2.2.2.1; omega) (by have := (hP a (by omega) (by omega)).2.2.2.2.2.2.2.1; omega) (by decide) ?_
            refine Go.run hsz hn1 0 (pc' := 102) (lv' := [some (gr 148), some (gi a), some (gi v), some (gi (mOf mi a 6))]) (st' := [gi ((gu (gu mi 152 (((12 * a) + 11).toNat) 1) 150 ((mOf mi a 6).toNat) ((mi 150 ((mOf mi a 6).toNat)) + v)) 151 ((mOf mi a 6).toNat)), gi (mOf mi a 6), gr 151]) (M' := gw (gu (gu mi 152 (((12 * a) + 11).toNat) 1) 150 ((mOf mi a 6).toNat) ((mi 150 ((mOf mi a 6).toNat)) + v)) ml) rfl ?_
            rw [show (gu (gu mi 152 (((12 * a) + 11).toNat) 1) 150 ((mOf mi a 6).toNat) ((mi 150 ((mOf mi a 6).toNat)) + v)) 151 ((mOf mi a 6).toNat) = mi 151 ((mOf mi a 6).toNat) from (gu_ne (Or.inl (by decide))).trans (gu_ne (Or.inl (by decide)))]
            refine Go.run hsz hn1 2 (pc' := 104) (lv' := [some (gr 148), some (gi a), some (gi v), some (gi (mOf mi a 6))]) (st' := [gi ((mi 151 ((mOf mi a 6).toNat)) + 1), gi (mOf mi a 6), gr 151]) (M' := gw (gu (gu mi 152 (((12 * a) + 11).toNat) 1) 150 ((mOf mi a 6).toNat) ((mi 150 ((mOf mi a 6).toNat)) + v)) ml) rfl ?_
            refine Go.iast (by rfl) (N := 12) (by rfl) (by have := (hP a (by omega) (by omega)).2.2.2.2.2.2.2.1; omega) (by have := (hP a (by omega) (by omega)).2.2.2.2.2.2.2.1; omega) (by decide) ?_
            refine Go.run hsz hn1 3 (pc' := 110) (lv' := [some (gr 148), some (gi a), some (gi v), some (gi (mOf mi a 6))]) (st' := [gi (mOf mi a 6), gr 151]) (M' := gw (gu (gu (gu mi 152 (((12 * a) + 11).toNat) 1) 150 ((mOf mi a 6).toNat) ((mi 150 ((mOf mi a 6).toNat)) + v)) 151 ((mOf mi a 6).toNat) ((mi 151 ((mOf mi a 6).toNat)) + 1)) ml) rfl ?_
            refine Go.iald (by rfl) (N := 12) (by rfl) (by have := (hP a (by omega) (by omega)).2.2.2.2.2.2.2.1; omega) (by have := (hP a (by omega) (by omega)).2.2.2.2.2.2.2.1; omega) (by decide) ?_
            refine Go.run hsz hn1 0 (pc' := 111) (lv' := [some (gr 148), some (gi a), some (gi v), some (gi (mOf mi a 6))]) (st' := [gi ((gu (gu (gu mi 152 (((12 * a) + 11).toNat) 1) 150 ((mOf mi a 6).toNat) ((mi 150 ((mOf mi a 6).toNat)) + v)) 151 ((mOf mi a 6).toNat) ((mi 151 ((mOf mi a 6).toNat)) + 1)) 151 ((mOf mi a 6).toNat))]) (M' := gw (gu (gu (gu mi 152 (((12 * a) + 11).toNat) 1) 150 ((mOf mi a 6).toNat) ((mi 150 ((mOf mi a 6).toNat)) + v)) 151 ((mOf mi a 6).toNat) ((mi 151 ((mOf mi a 6).toNat)) + 1)) ml) rfl ?_
            rw [show (gu (gu (gu mi 152 (((12 * a) + 11).toNat) 1) 150 ((mOf mi a 6).toNat) ((mi 150 ((mOf mi a 6).toNat)) + v)) 151 ((mOf mi a 6).toNat) ((mi 151 ((mOf mi a 6).toNat)) + 1)) 151 ((mOf mi a 6).toNat) = (mi 151 ((mOf mi a 6).toNat)) + 1 from gu_self _ _ _ _]
            refine Go.run hsz hn1 0 (pc' := 111) (lv' := [some (gr 148), some (gi a), some (gi v), some (gi (mOf mi a 6))]) (st' := [gi ((mi 151 ((mOf mi a 6).toNat)) + 1)]) (M' := gw (gu (gu (gu mi 152 (((12 * a) + 11).toNat) 1) 150 ((mOf mi a 6).toNat) ((mi 150 ((mOf mi a 6).toNat)) + v)) 151 ((mOf mi a 6).toNat) ((mi 151 ((mOf mi a 6).toNat)) + 1)) ml) rfl ?_
            refine Go.iret (by rfl) ?_
            first | (exact Or.inl ⟨by omega, rfl, rfl⟩) | (exact Or.inr (Or.inl ⟨by omega, rfl, rfl⟩)) | (exact Or.inr (Or.inr (⟨by omega, rfl, rfl⟩)))
          · refine Go.run hsz hn1 2 (pc' := 68) (lv' := [some (gr 148), some (gi a), some (gi v), some (gi (mOf mi a 6))]) (st' := [gi 4, gr 148]) (M' := gw mi ml) rfl ?_
            refine Go.callV (As := [gi 4]) (b := 148) (st := []) (mc1 := 0) (mc := 0) (ms1 := 0) (ms := 0) (by rfl) rfl (c := 11) (N := 46) (by rfl) (by decide) (by rfl) (gcn 154 (by decide)).1 (gcn 154 (by decide)).2 rfl (Nat.le_of_ble_eq_true rfl) (by omega) (cM_finds hsz (n := n - 1) (by omega) mi ml 4 (by decide) (by decide)) ?_
            rintro _ _ ⟨rfl, rfl⟩
            refine Go.run hsz hn1 0 (pc' := 71) (lv' := [some (gr 148), some (gi a), some (gi v), some (gi (mOf mi a 6))]) (st' := [gi (-1000005)]) (M' := gw (mFd mi 4) ml) rfl ?_
            refine Go.iret (by rfl) ?_
            first | (exact Or.inl ⟨by omega, rfl, rfl⟩) | (exact Or.inr (Or.inl ⟨by omega, rfl, rfl⟩)) | (exact Or.inr (Or.inr (⟨by omega, rfl, rfl⟩)))
    · replace kq2 := b2_neg kq2
      refine Go.run hsz hn1 2 (pc' := 19) (lv' := [some (gr 148), some (gi a), some (gi v), none]) (st' := [gi 0, gr 148]) (M' := gw mi ml) rfl ?_
      refine Go.callV (As := [gi 0]) (b := 148) (st := []) (mc1 := 0) (mc := 0) (ms1 := 0) (ms := 0) (by rfl) rfl (c := 11) (N := 46) (by rfl) (by decide) (by rfl) (gcn 154 (by decide)).1 (gcn 154 (by decide)).2 rfl (Nat.le_of_ble_eq_true rfl) (by omega) (cM_finds hsz (n := n - 1) (by omega) mi ml 0 (by decide) (by decide)) ?_
      rintro _ _ ⟨rfl, rfl⟩
      refine Go.run hsz hn1 0 (pc' := 22) (lv' := [some (gr 148), some (gi a), some (gi v), none]) (st' := [gi (-1000001)]) (M' := gw (mFd mi 0) ml) rfl ?_
      refine Go.iret (by rfl) ?_
      first | (exact Or.inl ⟨by omega, rfl, rfl⟩) | (exact Or.inr (Or.inl ⟨by omega, rfl, rfl⟩)) | (exact Or.inr (Or.inr (⟨by omega, rfl, rfl⟩)))
set_option maxRecDepth 100000 in
set_option maxHeartbeats 4000000 in
theorem pM_as {G : gG} (hsz : G.2.2.2.2.2.2 = true) {n : Nat} (hn : 4 ≤ n) (mi : Nat → Nat → Int) (ml : Nat → Nat → Int64) (x kd : Int) (r_x : rng x) (r_kd : rng kd) (hv : SV mi) (hsp : ∀ i : Nat, i < 10 → -1 ≤ mi 156 i ∧ mi 156 i < mi 148 6) : gM G 236 n 0 0 [gr 148, gi x, gi kd] (gw mi ml) (fun r M => gE (¬ ((0 ≤ x ∧ x ≤ 9) ∧ (0 ≤ kd ∧ kd ≤ 4))) (-1000001) (mFd mi 0) ml r M ∨ gE ((0 ≤ x ∧ x ≤ 9) ∧ (0 ≤ kd ∧ kd ≤ 4) ∧ mi 156 x.toNat < 0) (-1000006) (mFd mi 5) ml r M ∨ gE ((0 ≤ x ∧ x ≤ 9) ∧ (0 ≤ kd ∧ kd ≤ 4) ∧ 0 ≤ mi 156 x.toNat ∧ (kd = 0 ∨ kd = mOf mi (mi 156 x.toNat) 0 ∨ (kd = 2 ∧ 2 < mOf mi (mi 156 x.toNat) 0))) (mi 156 x.toNat) (mi) ml r M ∨ gE ((0 ≤ x ∧ x ≤ 9) ∧ (0 ≤ kd ∧ kd ≤ 4) ∧ 0 ≤ mi 156 x.toNat ∧ ¬ (kd = 0 ∨ kd = mOf mi (mi 156 x.toNat) 0 ∨ (kd = 2 ∧ 2 < mOf mi (mi 156 x.toNat) 0))) (-1000003) (mFd mi 2) ml r M) := by
  have hn1 : 1 ≤ n := by omega
  obtain ⟨hR, ht, hp, hq, hP, hQ⟩ := id hv
  have hsx : (0 ≤ x ∧ x ≤ 9) → mi 156 x.toNat < mi 148 6 := fun h => (hsp x.toNat (by omega)).2
  refine gM.of mX12_as okX12_as (gcp 236 (by decide)).1 (gcp 236 (by decide)).2 (Nat.le_of_ble_eq_true rfl) ?_
  refine Go.run hsz hn1 3 (pc' := 4) (lv' := [some (gr 148), some (gi x), some (gi kd), none, none]) (st' := [gi 9, gi 0, gi x]) (M' := gw mi ml) rfl ?_
  refine Go.callS (As := [gi x, gi 0, gi 9]) (st := []) (mc1 := 0) (mc := 0) (ms1 := 0) (ms := 0) (by rfl) rfl (gcn 153 (by decide)).1 (gcn 153 (by decide)).2 (Nat.le_of_ble_eq_true rfl) (by omega) (cM_in hsz (n := n - 1) (by omega) mi ml x 0 9 r_x ⟨by decide, by decide⟩ ⟨by decide, by decide⟩) ?_
  rintro _ _ ⟨rfl, rfl⟩
  refine Go.run hsz hn1 0 (pc' := 7) (lv' := [some (gr 148), some (gi x), some (gi kd), none, none]) (st' := [gi (b2 (0 ≤ x ∧ x ≤ 9))]) (M' := gw mi ml) rfl ?_
  refine Go.if_eq (by rfl) (b2_rng _) (fun kq1 => ?_) (fun kq1 => ?_)
  · replace kq1 := b2_neg kq1
    refine Go.run hsz hn1 2 (pc' := 21) (lv' := [some (gr 148), some (gi x), some (gi kd), none, none]) (st' := [gi 0, gr 148]) (M' := gw mi ml) rfl ?_
    refine Go.callV (As := [gi 0]) (b := 148) (st := []) (mc1 := 0) (mc := 0) (ms1 := 0) (ms := 0) (by rfl) rfl (c := 11) (N := 46) (by rfl) (by decide) (by rfl) (gcn 154 (by decide)).1 (gcn 154 (by decide)).2 rfl (Nat.le_of_ble_eq_true rfl) (by omega) (cM_finds hsz (n := n - 1) (by omega) mi ml 0 (by decide) (by decide)) ?_
    rintro _ _ ⟨rfl, rfl⟩
    refine Go.run hsz hn1 0 (pc' := 24) (lv' := [some (gr 148), some (gi x), some (gi kd), none, none]) (st' := [gi (-1000001)]) (M' := gw (mFd mi 0) ml) rfl ?_
    refine Go.iret (by rfl) ?_
    first | (exact Or.inl ⟨by omega, rfl, rfl⟩) | (exact Or.inr (Or.inl ⟨by omega, rfl, rfl⟩)) | (exact Or.inr (Or.inr (Or.inl ⟨by omega, rfl, rfl⟩))) | (exact Or.inr (Or.inr (Or.inr (⟨by omega, rfl, rfl⟩))))
  · replace kq1 := b2_pos kq1
    refine Go.run hsz hn1 3 (pc' := 13) (lv' := [some (gr 148), some (gi x), some (gi kd), none, none]) (st' := [gi 4, gi 0, gi kd]) (M' := gw mi ml) rfl ?_
    refine Go.callS (As := [gi kd, gi 0, gi 4]) (st := []) (mc1 := 0) (mc := 0) (ms1 := 0) (ms := 0) (by rfl) rfl (gcn 153 (by decide)).1 (gcn 153 (by decide)).2 (Nat.le_of_ble_eq_true rfl) (by omega) (cM_in hsz (n := n - 1) (by omega) mi ml kd 0 4 r_kd ⟨by decide, by decide⟩ ⟨by decide, by decide⟩) ?_
    rintro _ _ ⟨rfl, rfl⟩
    refine Go.run hsz hn1 0 (pc' := 16) (lv' := [some (gr 148), some (gi x), some (gi kd), none, none]) (st' := [gi (b2 (0 ≤ kd ∧ kd ≤ 4))]) (M' := gw mi ml) rfl ?_
    refine Go.if_ne (by rfl) (b2_rng _) (fun kq2 => ?_) (fun kq2 => ?_)
    · replace kq2 := b2_pos kq2
      refine Go.run hsz hn1 3 (pc' := 30) (lv' := [some (gr 148), some (gi x), some (gi kd), none, none]) (st' := [gi x, gr 156]) (M' := gw mi ml) rfl ?_
      refine Go.iald (by rfl) (N := 10) (by rfl) (by omega) (by omega) (by decide) ?_
      refine Go.run hsz hn1 2 (pc' := 33) (lv' := [some (gr 148), some (gi x), some (gi kd), some (gi (mi 156 x.toNat)), none]) (st' := [gi (mi 156 x.toNat)]) (M' := gw mi ml) rfl ?_
      refine Go.if_ge (by rfl) (hR _ _) (fun kq3 => ?_) (fun kq3 => ?_)
      · refine Go.run hsz hn1 3 (pc' := 45) (lv' := [some (gr 148), some (gi x), some (gi kd), some (gi (mi 156 x.toNat)), none]) (st' := [gi 0, gi (mi 156 x.toNat), gr 148]) (M' := gw mi ml) rfl ?_
        refine Go.callV (As := [gi (mi 156 x.toNat), gi 0]) (b := 148) (st := []) (mc1 := 0) (mc := 0) (ms1 := 0) (ms := 0) (by rfl) rfl (c := 11) (N := 46) (by rfl) (by decide) (by rfl) (gcn 165 (by decide)).1 (gcn 165 (by decide)).2 rfl (Nat.le_of_ble_eq_true rfl) (by omega) (cM_of hsz (n := n - 1) (by omega) mi ml (mi 156 x.toNat) 0 (by omega) (by omega) (by omega) (by omega)) ?_
        rintro _ _ ⟨rfl, rfl⟩
        refine Go.run hsz hn1 2 (pc' := 51) (lv' := [some (gr 148), some (gi x), some (gi kd), some (gi (mi 156 x.toNat)), some (gi (mOf mi (mi 156 x.toNat) 0))]) (st' := [gi kd]) (M' := gw mi ml) rfl ?_
        refine Go.if_eq (by rfl) r_kd (fun kq4 => ?_) (fun kq4 => ?_)
        · refine Go.run hsz hn1 2 (pc' := 80) (lv' := [some (gr 148), some (gi x), some (gi kd), some (gi (mi 156 x.toNat)), some (gi (mOf mi (mi 156 x.toNat) 0))]) (st' := [gi (mi 156 x.toNat)]) (M' := gw mi ml) rfl ?_
          refine Go.iret (by rfl) ?_
          first | (exact Or.inl ⟨by omega, rfl, rfl⟩) | (exact Or.inr (Or.inl ⟨by omega, rfl, rfl⟩)) | (exact Or.inr (Or.inr (Or.inl ⟨by omega, rfl, rfl⟩))) | (exact Or.inr (Or.inr (Or.inr (⟨by omega, rfl, rfl⟩))))
        · refine Go.run hsz hn1 2 (pc' := 57) (lv' := [some (gr 148), some (gi x), some (gi kd), some (gi (mi 156 x.toNat)), some (gi (mOf mi (mi 156 x.toNat) 0))]) (st' := [gi (mOf mi (mi 156 x.toNat) 0), gi kd]) (M' := gw mi ml) rfl ?_
          refine Go.icmp_eq (by rfl) r_kd (hR _ _) (fun kq5 => ?_) (fun kq5 => ?_)
          · refine Go.run hsz hn1 2 (pc' := 80) (lv' := [some (gr 148), some (gi x), some (gi kd), some (gi (mi 156 x.toNat)), some (gi (mOf mi (mi 156 x.toNat) 0))]) (st' := [gi (mi 156 x.toNat)]) (M' := gw mi ml) rfl ?_
            refine Go.iret (by rfl) ?_
            first | (exact Or.inl ⟨by omega, rfl, rfl⟩) | (exact Or.inr (Or.inl ⟨by omega, rfl, rfl⟩)) | (exact Or.inr (Or.inr (Or.inl ⟨by omega, rfl, rfl⟩))) | (exact Or.inr (Or.inr (Or.inr (⟨by omega, rfl, rfl⟩))))
          · refine Go.run hsz hn1 2 (pc' := 62) (lv' := [some (gr 148), some (gi x), some (gi kd), some (gi (mi 156 x.toNat)), some (gi (mOf mi (mi 156 x.toNat) 0))]) (st' := [gi 2, gi kd]) (M' := gw mi ml) rfl ?_
            refine Go.icmp_ne (by rfl) r_kd ⟨by decide, by decide⟩ (fun kq6 => ?_) (fun kq6 => ?_)
            · refine Go.run hsz hn1 2 (pc' := 77) (lv' := [some (gr 148), some (gi x), some (gi kd), some (gi (mi 156 x.toNat)), some (gi (mOf mi (mi 156 x.toNat) 0))]) (st' := [gi 2, gr 148]) (M' := gw mi ml) rfl ?_
              refine Go.callV (As := [gi 2]) (b := 148) (st := []) (mc1 := 0) (mc := 0) (ms1 := 0) (ms := 0) (by rfl) rfl (c := 11) (N := 46) (by rfl) (by decide) (by rfl) (gcn 154 (by decide)).1 (gcn 154 (by decide)).2 rfl (Nat.le_of_ble_eq_true rfl) (by omega) (cM_finds hsz (n := n - 1) (by omega) mi ml 2 (by decide) (by decide)) ?_
              rintro _ _ ⟨rfl, rfl⟩
              refine Go.run hsz hn1 0 (pc' := 80) (lv' := [some (gr 148), some (gi x), some (gi kd), some (gi (mi 156 x.toNat)), some (gi (mOf mi (mi 156 x.toNat) 0))]) (st' := [gi (-1000003)]) (M' := gw (mFd mi 2) ml) rfl ?_
              refine Go.iret (by rfl) ?_
              first | (exact Or.inl ⟨by omega, rfl, rfl⟩) | (exact Or.inr (Or.inl ⟨by omega, rfl, rfl⟩)) | (exact Or.inr (Or.inr (Or.inl ⟨by omega, rfl, rfl⟩))) | (exact Or.inr (Or.inr (Or.inr (⟨by omega, rfl, rfl⟩))))
            · refine Go.run hsz hn1 2 (pc' := 68) (lv' := [some (gr 148), some (gi x), some (gi kd), some (gi (mi 156 x.toNat)), some (gi (mOf mi (mi 156 x.toNat) 0))]) (st' := [gi 2, gi (mOf mi (mi 156 x.toNat) 0)]) (M' := gw mi ml) rfl ?_
              refine Go.icmp_le (by rfl) (hR _ _) ⟨by decide, by decide⟩ (fun kq7 => ?_) (fun kq7 => ?_)
              · refine Go.run hsz hn1 2 (pc' := 77) (lv' := [some (gr 148), some (gi x), some (gi kd), some (gi (mi 156 x.toNat)), some (gi (mOf mi (mi 156 x.toNat) 0))]) (st' := [gi 2, gr 148]) (M' := gw mi ml) rfl ?_
                refine Go.callV (As := [gi 2]) (b := 148) (st := []) (mc1 := 0) (mc := 0) (ms1 := 0) (ms := 0) (by rfl) rfl (c := 11) (N := 46) (by rfl) (by decide) (by rfl) (gcn 154 (by decide)).1 (gcn 154 (by decide)).2 rfl (Nat.le_of_ble_eq_true rfl) (by omega) (cM_finds hsz (n := n - 1) (by omega) mi ml 2 (by decide) (by decide)) ?_
                rintro _ _ ⟨rfl, rfl⟩
                refine Go.run hsz hn1 0 (pc' := 80) (lv' := [some (gr 148), some (gi x), some (gi kd), some (gi (mi 156 x.toNat)), some (gi (mOf mi (mi 156 x.toNat) 0))]) (st' := [gi (-1000003)]) (M' := gw (mFd mi 2) ml) rfl ?_
                refine Go.iret (by rfl) ?_
                first | (exact Or.inl ⟨by omega, rfl, rfl⟩) | (exact Or.inr (Or.inl ⟨by omega, rfl, rfl⟩)) | (exact Or.inr (Or.inr (Or.inl ⟨by omega, rfl, rfl⟩))) | (exact Or.inr (Or.inr (Or.inr (⟨by omega, rfl, rfl⟩))))
              · refine Go.run hsz hn1 2 (pc' := 80) (lv' := [some (gr 148), some (gi x), some (gi kd), some (gi (mi 156 x.toNat)), some (gi (mOf mi (mi 156 x.toNat) 0))]) (st' := [gi (mi 156 x.toNat)]) (M' := gw mi ml) rfl ?_
                refine Go.iret (by rfl) ?_
                first | (exact Or.inl ⟨by omega, rfl, rfl⟩) | (exact Or.inr (Or.inl ⟨by omega, rfl, rfl⟩)) | (exact Or.inr (Or.inr (Or.inl ⟨by omega, rfl, rfl⟩))) | (exact Or.inr (Or.inr (Or.inr (⟨by omega, rfl, rfl⟩))))
      · refine Go.run hsz hn1 2 (pc' := 38) (lv' := [some (gr 148), some (gi x), some (gi kd), some (gi (mi 156 x.toNat)), none]) (st' := [gi 5, gr 148]) (M' := gw mi ml) rfl ?_
        refine Go.callV (As := [gi 5]) (b := 148) (st := []) (mc1 := 0) (mc := 0) (ms1 := 0) (ms := 0) (by rfl) rfl (c := 11) (N := 46) (by rfl) (by decide) (by rfl) (gcn 154 (by decide)).1 (gcn 154 (by decide)).2 rfl (Nat.le_of_ble_eq_true rfl) (by omega) (cM_finds hsz (n := n - 1) (by omega) mi ml 5 (by decide) (by decide)) ?_
        rintro _ _ ⟨rfl, rfl⟩
        refine Go.run hsz hn1 0 (pc' := 41) (lv' := [some (gr 148), some (gi x), some (gi kd), some (gi (mi 156 x.toNat)), none]) (st' := [gi (-1000006)]) (M' := gw (mFd mi 5) ml) rfl ?_
        refine Go.iret (by rfl) ?_
        first | (exact Or.inl ⟨by omega, rfl, rfl⟩) | (exact Or.inr (Or.inl ⟨by omega, rfl, rfl⟩)) | (exact Or.inr (Or.inr (Or.inl ⟨by omega, rfl, rfl⟩))) | (exact Or.inr (Or.inr (Or.inr (⟨by omega, rfl, rfl⟩))))
    · replace kq2 := b2_neg kq2
      refine Go.run hsz hn1 2 (pc' := 21) (lv' := [some (gr 148), some (gi x), some (gi kd), none, none]) (st' := [gi 0, gr 148]) (M' := gw mi ml) rfl ?_
      refine Go.callV (As := [gi 0]) (b := 148) (st := []) (mc1 := 0) (mc := 0) (ms1 := 0) (ms := 0) (by rfl) rfl (c := 11) (N := 46) (by rfl) (by decide) (by rfl) (gcn 154 (by decide)).1 (gcn 154 (by decide)).2 rfl (Nat.le_of_ble_eq_true rfl) (by omega) (cM_finds hsz (n := n - 1) (by omega) mi ml 0 (by decide) (by decide)) ?_
      rintro _ _ ⟨rfl, rfl⟩
      refine Go.run hsz hn1 0 (pc' := 24) (lv' := [some (gr 148), some (gi x), some (gi kd), none, none]) (st' := [gi (-1000001)]) (M' := gw (mFd mi 0) ml) rfl ?_
      refine Go.iret (by rfl) ?_
      first | (exact Or.inl ⟨by omega, rfl, rfl⟩) | (exact Or.inr (Or.inl ⟨by omega, rfl, rfl⟩)) | (exact Or.inr (Or.inr (Or.inl ⟨by omega, rfl, rfl⟩))) | (exact Or.inr (Or.inr (Or.inr (⟨by omega, rfl, rfl⟩))))
set_option maxRecDepth 100000 in
set_option maxHeartbeats 4000000 in
theorem pM_tear {G : gG} (hsz : G.2.2.2.2.2.2 = true) {n : Nat} (hn : 2 ≤ n) (mi : Nat → Nat → Int) (ml : Nat → Nat → Int64)  (hv : SV mi)  : gM G 245 n 0 0 [gr 148] (gw mi ml) (fun r M => gE (¬ mi 148 42 = 0) (1) (gu mi 148 42 0) ml r M ∨ gE (mi 148 42 = 0) (0) (gu mi 148 42 0) ml r M) := by
  have hn1 : 1 ≤ n := by omega
  obtain ⟨hR, ht, hp, hq, hP, hQ⟩ := id hv
  refine gM.of mX12_tear okX12_tear (gcp 245 (by decide)).1 (gcp 245 (by decide)).2 (Nat.le_of_ble_eq_true rfl) ?_
  refine Go.run hsz hn1 2 (pc' := 4) (lv' := [some (gr 148), none]) (st' := [gi (mi 148 42)]) (M' := gw mi ml) rfl ?_
  refine Go.if_eq (by rfl) (hR _ _) (fun kq1 => ?_) (fun kq1 => ?_)
  · refine Go.run hsz hn1 6 (pc' := 19) (lv' := [some (gr 148), some (gi 0)]) (st' := [gi 0]) (M' := gw (gu mi 148 42 0) ml) rfl ?_
    refine Go.iret (by rfl) ?_
    first | (exact Or.inl ⟨by omega, rfl, rfl⟩) | (exact Or.inr (⟨by omega, rfl, rfl⟩))
  · refine Go.run hsz hn1 7 (pc' := 19) (lv' := [some (gr 148), some (gi 1)]) (st' := [gi 1]) (M' := gw (gu mi 148 42 0) ml) rfl ?_
    refine Go.iret (by rfl) ?_
    first | (exact Or.inl ⟨by omega, rfl, rfl⟩) | (exact Or.inr (⟨by omega, rfl, rfl⟩))
def mWetS (mi : Nat → Nat → Int) (w : Int) (k : Nat) : Int := gset2 (fun a => ¬ mWet mi a w = 0) k
def mTripS (mi : Nat → Nat → Int) (post : Int) (k : Nat) : Int := gset2 (fun h => mi 153 post.toNat < mLoad mi post h (mi 148 6).toNat) k
def mHereN (mi : Nat → Nat → Int) (k : Nat) : Int := gfold (fun a acc => if ¬ mHere mi a = 0 then acc + 1 else acc + 0) 0 k
def mWaitN (mi : Nat → Nat → Int) (k : Nat) : Int := gfold (fun a acc => if mOf mi a 6 = -1 then acc + 1 else acc + 0) 0 k
def mStat (mi : Nat → Nat → Int) (x : Int) (k : Nat) : Int := gfold (fun a acc => if x < 0 ∨ a = x then acc + mi 159 a.toNat else acc + 0) 0 k
theorem mLoad_rng {mi : Nat → Nat → Int} (hv : SV mi) (post hour : Int) : rng (mLoad mi post hour (mi 148 6).toNat) := by
  have h := hv.2.2.2.1
  have := mLoad_b hv post hour (mi 148 6).toNat (by omega)
  exact ⟨by omega, by omega⟩
set_option maxRecDepth 100000 in
set_option maxHeartbeats 4000000 in
theorem lM_wet {G : gG} (hsz : G.2.2.2.2.2.2 = true) {n : Nat} (hn : 5 ≤ n) (mi : Nat → Nat → Int) (ml : Nat → Nat → Int64) (x : Int) (r_x : rng x) (hv : SV mi) : ∀ (f : Nat) (k : Int), 0 ≤ k → k ≤ mi 148 6 → mi 148 6 - k < f → Go G mX12_wet n 0 0 17 [some (gr 148), some (gi x), some (gi (mWetS mi x k.toNat)), some (gi k)] [] (gw mi ml) (gret (mWetS mi x (mi 148 6).toNat) (gw mi ml)) := by
  have hn1 : 1 ≤ n := by omega
  obtain ⟨hR, ht, hp, hq, hP, hQ⟩ := id hv
  intro f
  induction f with
  | zero => intros; omega
  | succ f ih =>
    intro k k0 k1 k2
    refine Go.run hsz hn1 3 (pc' := 22) (lv' := [some (gr 148), some (gi x), some (gi (mWetS mi x k.toNat)), some (gi k)]) (st' := [gi (mi 148 6), gi k]) (M' := gw mi ml) rfl ?_
    refine Go.icmp_ge (by rfl) ⟨by omega, by omega⟩ (hR _ _) (fun kq1 => ?_) (fun kq1 => ?_)
    · refine Go.run hsz hn1 1 (pc' := 51) (lv' := [some (gr 148), some (gi x), some (gi (mWetS mi x k.toNat)), some (gi k)]) (st' := [gi (mWetS mi x k.toNat)]) (M' := gw mi ml) rfl ?_
      obtain rfl : k = mi 148 6 := by omega
      exact Go.iret (by rfl) ⟨rfl, rfl⟩
    · refine Go.run hsz hn1 4 (pc' := 29) (lv' := [some (gr 148), some (gi x), some (gi (mWetS mi x k.toNat)), some (gi k)]) (st' := [gi x, gi k, gr 148, gi (mWetS mi x k.toNat)]) (M' := gw mi ml) rfl ?_
      refine Go.callV (As := [gi k, gi x]) (b := 148) (st := [gi (mWetS mi x k.toNat)]) (mc1 := 0) (mc := 0) (ms1 := 0) (ms := 0) (by rfl) rfl (c := 11) (N := 46) (by rfl) (by decide) (by rfl) (gcn 227 (by decide)).1 (gcn 227 (by decide)).2 rfl (Nat.le_of_ble_eq_true rfl) (by omega) (cM_isWet hsz (n := n - 1) (by omega) mi ml k x (by omega) (by omega) hR r_x (hP _ (by omega) (by omega)) hp.2) ?_
      rintro _ _ ⟨rfl, rfl⟩
      refine Go.run hsz hn1 0 (pc' := 32) (lv' := [some (gr 148), some (gi x), some (gi (mWetS mi x k.toNat)), some (gi k)]) (st' := [gi (mWet mi k x), gi (mWetS mi x k.toNat)]) (M' := gw mi ml) rfl ?_
      refine Go.if_eq (by rfl) (b2_rng _) (fun kq2 => ?_) (fun kq2 => ?_)
      · refine Go.run hsz hn1 5 (pc' := 17) (lv' := [some (gr 148), some (gi x), some (gi (orI (mWetS mi x k.toNat) 0)), some (gi (k + 1))]) (st' := []) (M' := gw mi ml) rfl ?_
        have h9 := ih (k + 1) (by omega) (by omega) (by omega)
        rw [show mWetS mi x (k + 1).toNat = _ from gfold_s k0] at h9
        (try dsimp only at h9)
        (repeat' split at h9) <;> first | exact h9 | (exfalso; omega)
      · refine Go.run hsz hn1 8 (pc' := 17) (lv' := [some (gr 148), some (gi x), some (gi (orI (mWetS mi x k.toNat) (shlI 1 k))), some (gi (k + 1))]) (st' := []) (M' := gw mi ml) rfl ?_
        have h9 := ih (k + 1) (by omega) (by omega) (by omega)
        rw [show mWetS mi x (k + 1).toNat = _ from gfold_s k0] at h9
        (try dsimp only at h9)
        (repeat' split at h9) <;> first | exact h9 | (exfalso; omega)
set_option maxRecDepth 100000 in
set_option maxHeartbeats 4000000 in
theorem pM_wet {G : gG} (hsz : G.2.2.2.2.2.2 = true) {n : Nat} (hn : 5 ≤ n) (mi : Nat → Nat → Int) (ml : Nat → Nat → Int64) (x : Int) (r_x : rng x) (hv : SV mi)  : gM G 228 n 0 0 [gr 148, gi x] (gw mi ml) (fun r M => gE ((0 ≤ x ∧ x ≤ 99)) (mWetS mi x (mi 148 6).toNat) (mi) ml r M ∨ gE (¬ (0 ≤ x ∧ x ≤ 99)) (-1000001) (mFd mi 0) ml r M) := by
  have hn1 : 1 ≤ n := by omega
  obtain ⟨hR, ht, hp, hq, hP, hQ⟩ := id hv
  refine gM.of mX12_wet okX12_wet (gcp 228 (by decide)).1 (gcp 228 (by decide)).2 (Nat.le_of_ble_eq_true rfl) ?_
  refine Go.run hsz hn1 1 (pc' := 1) (lv' := [some (gr 148), some (gi x), none, none]) (st' := [gi x]) (M' := gw mi ml) rfl ?_
  refine Go.callS (As := [gi x]) (st := []) (mc1 := 0) (mc := 0) (ms1 := 0) (ms := 0) (by rfl) rfl (gcn 157 (by decide)).1 (gcn 157 (by decide)).2 (Nat.le_of_ble_eq_true rfl) (by omega) (cM_isNight hsz (n := n - 1) (by omega) mi ml x r_x) ?_
  rintro _ _ ⟨rfl, rfl⟩
  refine Go.run hsz hn1 0 (pc' := 4) (lv' := [some (gr 148), some (gi x), none, none]) (st' := [gi (b2 (0 ≤ x ∧ x ≤ 99))]) (M' := gw mi ml) rfl ?_
  refine Go.if_ne (by rfl) (b2_rng _) (fun kq1 => ?_) (fun kq1 => ?_)
  · replace kq1 := b2_pos kq1
    refine Go.run hsz hn1 4 (pc' := 17) (lv' := [some (gr 148), some (gi x), some (gi 0), some (gi 0)]) (st' := []) (M' := gw mi ml) rfl ?_
    refine Go.imp ?_ (lM_wet hsz hn mi ml x r_x hv ((mi 148 6 - 0 : Int).toNat + 1) (0) (by omega) (by omega) (by omega))
    rintro _ _ ⟨rfl, rfl⟩
    exact Or.inl ⟨by omega, rfl, rfl⟩
  · replace kq1 := b2_neg kq1
    refine Go.run hsz hn1 2 (pc' := 9) (lv' := [some (gr 148), some (gi x), none, none]) (st' := [gi 0, gr 148]) (M' := gw mi ml) rfl ?_
    refine Go.callV (As := [gi 0]) (b := 148) (st := []) (mc1 := 0) (mc := 0) (ms1 := 0) (ms := 0) (by rfl) rfl (c := 11) (N := 46) (by rfl) (by decide) (by rfl) (gcn 154 (by decide)).1 (gcn 154 (by decide)).2 rfl (Nat.le_of_ble_eq_true rfl) (by omega) (cM_finds hsz (n := n - 1) (by omega) mi ml 0 (by decide) (by decide)) ?_
    rintro _ _ ⟨rfl, rfl⟩
    refine Go.run hsz hn1 0 (pc' := 12) (lv' := [some (gr 148), some (gi x), none, none]) (st' := [gi (-1000001)]) (M' := gw (mFd mi 0) ml) rfl ?_
    refine Go.iret (by rfl) ?_
    first | (exact Or.inl ⟨by omega, rfl, rfl⟩) | (exact Or.inr (⟨by omega, rfl, rfl⟩))
set_option maxRecDepth 100000 in
set_option maxHeartbeats 4000000 in
theorem lM_trips {G : gG} (hsz : G.2.2.2.2.2.2 = true) {n : Nat} (hn : 6 ≤ n) (mi : Nat → Nat → Int) (ml : Nat → Nat → Int64) (post : Int) (r_post : rng post) (q0 : 0 ≤ post) (q1 : post ≤ 3) (hv : SV mi) : ∀ (f : Nat) (k : Int), 0 ≤ k → k ≤ 24 → 24 - k < f → Go G mX12_trips n 0 0 17 [some (gr 148), some (gi post), some (gi (mTripS mi post k.toNat)), some (gi k)] [] (gw mi ml) (gret (mTripS mi post 24) (gw mi ml)) := by
  have hn1 : 1 ≤ n := by omega
  obtain ⟨hR, ht, hp, hq, hP, hQ⟩ := id hv
  intro f
  induction f with
  | zero => intros; omega
  | succ f ih =>
    intro k k0 k1 k2
    refine Go.run hsz hn1 2 (pc' := 20) (lv' := [some (gr 148), some (gi post), some (gi (mTripS mi post k.toNat)), some (gi k)]) (st' := [gi 24, gi k]) (M' := gw mi ml) rfl ?_
    refine Go.icmp_ge (by rfl) ⟨by omega, by omega⟩ ⟨by decide, by decide⟩ (fun kq1 => ?_) (fun kq1 => ?_)
    · refine Go.run hsz hn1 1 (pc' := 55) (lv' := [some (gr 148), some (gi post), some (gi (mTripS mi post k.toNat)), some (gi k)]) (st' := [gi (mTripS mi post k.toNat)]) (M' := gw mi ml) rfl ?_
      obtain rfl : k = 24 := by omega
      exact Go.iret (by rfl) ⟨rfl, rfl⟩
    · refine Go.run hsz hn1 4 (pc' := 27) (lv' := [some (gr 148), some (gi post), some (gi (mTripS mi post k.toNat)), some (gi k)]) (st' := [gi k, gi post, gr 148, gi (mTripS mi post k.toNat)]) (M' := gw mi ml) rfl ?_
      refine Go.callV (As := [gi post, gi k]) (b := 148) (st := [gi (mTripS mi post k.toNat)]) (mc1 := 0) (mc := 0) (ms1 := 0) (ms := 0) (by rfl) rfl (c := 11) (N := 46) (by rfl) (by decide) (by rfl) (gcn 223 (by decide)).1 (gcn 223 (by decide)).2 rfl (Nat.le_of_ble_eq_true rfl) (by omega) (cM_loadOf hsz (n := n - 1) (by omega) mi ml post k r_post hv) ?_
      rintro _ _ ⟨rfl, rfl⟩
      refine Go.run hsz hn1 3 (pc' := 35) (lv' := [some (gr 148), some (gi post), some (gi (mTripS mi post k.toNat)), some (gi k)]) (st' := [gi post, gr 153, gi (mLoad mi post k (mi 148 6).toNat), gi (mTripS mi post k.toNat)]) (M' := gw mi ml) rfl ?_
      refine Go.iald (by rfl) (N := 4) (by rfl) (by omega) (by omega) (by decide) ?_
      refine Go.run hsz hn1 0 (pc' := 36) (lv' := [some (gr 148), some (gi post), some (gi (mTripS mi post k.toNat)), some (gi k)]) (st' := [gi (mi 153 post.toNat), gi (mLoad mi post k (mi 148 6).toNat), gi (mTripS mi post k.toNat)]) (M' := gw mi ml) rfl ?_
      refine Go.icmp_le (by rfl) (mLoad_rng hv _ _) (hR _ _) (fun kq2 => ?_) (fun kq2 => ?_)
      · refine Go.run hsz hn1 5 (pc' := 17) (lv' := [some (gr 148), some (gi post), some (gi (orI (mTripS mi post k.toNat) 0)), some (gi (k + 1))]) (st' := []) (M' := gw mi ml) rfl ?_
        have h9 := ih (k + 1) (by omega) (by omega) (by omega)
        rw [show mTripS mi post (k + 1).toNat = _ from gfold_s k0] at h9
        (try dsimp only at h9)
        (repeat' split at h9) <;> first | exact h9 | (exfalso; omega)
      · refine Go.run hsz hn1 8 (pc' := 17) (lv' := [some (gr 148), some (gi post), some (gi (orI (mTripS mi post k.toNat) (shlI 1 k))), some (gi (k + 1))]) (st' := []) (M' := gw mi ml) rfl ?_
        have h9 := ih (k + 1) (by omega) (by omega) (by omega)
        rw [show mTripS mi post (k + 1).toNat = _ from gfold_s k0] at h9
        (try dsimp only at h9)
        (repeat' split at h9) <;> first | exact h9 | (exfalso; omega)
set_option maxRecDepth 100000 in
set_option maxHeartbeats 4000000 in
theorem pM_trips {G : gG} (hsz : G.2.2.2.2.2.2 = true) {n : Nat} (hn : 6 ≤ n) (mi : Nat → Nat → Int) (ml : Nat → Nat → Int64) (post : Int) (r_post : rng post) (hv : SV mi)  : gM G 225 n 0 0 [gr 148, gi post] (gw mi ml) (fun r M => gE ((0 ≤ post ∧ post ≤ 3)) (mTripS mi post 24) (mi) ml r M ∨ gE (¬ (0 ≤ post ∧ post ≤ 3)) (-1000001) (mFd mi 0) ml r M) := by
  have hn1 : 1 ≤ n := by omega
  obtain ⟨hR, ht, hp, hq, hP, hQ⟩ := id hv
  refine gM.of mX12_trips okX12_trips (gcp 225 (by decide)).1 (gcp 225 (by decide)).2 (Nat.le_of_ble_eq_true rfl) ?_
  refine Go.run hsz hn1 1 (pc' := 1) (lv' := [some (gr 148), some (gi post), none, none]) (st' := [gi post]) (M' := gw mi ml) rfl ?_
  refine Go.callS (As := [gi post]) (st := []) (mc1 := 0) (mc := 0) (ms1 := 0) (ms := 0) (by rfl) rfl (gcn 219 (by decide)).1 (gcn 219 (by decide)).2 (Nat.le_of_ble_eq_true rfl) (by omega) (cM_isPost hsz (n := n - 1) (by omega) mi ml post r_post) ?_
  rintro _ _ ⟨rfl, rfl⟩
  refine Go.run hsz hn1 0 (pc' := 4) (lv' := [some (gr 148), some (gi post), none, none]) (st' := [gi (b2 (0 ≤ post ∧ post ≤ 3))]) (M' := gw mi ml) rfl ?_
  refine Go.if_ne (by rfl) (b2_rng _) (fun kq1 => ?_) (fun kq1 => ?_)
  · replace kq1 := b2_pos kq1
    refine Go.run hsz hn1 4 (pc' := 17) (lv' := [some (gr 148), some (gi post), some (gi 0), some (gi 0)]) (st' := []) (M' := gw mi ml) rfl ?_
    refine Go.imp ?_ (lM_trips hsz hn mi ml post r_post (by omega) (by omega) hv ((24 - 0 : Int).toNat + 1) (0) (by omega) (by omega) (by omega))
    rintro _ _ ⟨rfl, rfl⟩
    exact Or.inl ⟨by omega, rfl, rfl⟩
  · replace kq1 := b2_neg kq1
    refine Go.run hsz hn1 2 (pc' := 9) (lv' := [some (gr 148), some (gi post), none, none]) (st' := [gi 0, gr 148]) (M' := gw mi ml) rfl ?_
    refine Go.callV (As := [gi 0]) (b := 148) (st := []) (mc1 := 0) (mc := 0) (ms1 := 0) (ms := 0) (by rfl) rfl (c := 11) (N := 46) (by rfl) (by decide) (by rfl) (gcn 154 (by decide)).1 (gcn 154 (by decide)).2 rfl (Nat.le_of_ble_eq_true rfl) (by omega) (cM_finds hsz (n := n - 1) (by omega) mi ml 0 (by decide) (by decide)) ?_
    rintro _ _ ⟨rfl, rfl⟩
    refine Go.run hsz hn1 0 (pc' := 12) (lv' := [some (gr 148), some (gi post), none, none]) (st' := [gi (-1000001)]) (M' := gw (mFd mi 0) ml) rfl ?_
    refine Go.iret (by rfl) ?_
    first | (exact Or.inl ⟨by omega, rfl, rfl⟩) | (exact Or.inr (⟨by omega, rfl, rfl⟩))
set_option maxRecDepth 100000 in
set_option maxHeartbeats 4000000 in
theorem lM_status {G : gG} (hsz : G.2.2.2.2.2.2 = true) {n : Nat} (hn : 3 ≤ n) (mi : Nat → Nat → Int) (ml : Nat → Nat → Int64) (x : Int) (r_x : rng x) (hv : SV mi) : ∀ (f : Nat) (k : Int), 0 ≤ k → k ≤ 7 → 7 - k < f → Go G mX12_status n 0 0 20 [some (gr 148), some (gi x), some (gi (mStat mi x k.toNat)), some (gi k)] [] (gw mi ml) (gret (mStat mi x 7) (gw mi ml)) := by
  have hn1 : 1 ≤ n := by omega
  obtain ⟨hR, ht, hp, hq, hP, hQ⟩ := id hv
  intro f
  induction f with
  | zero => intros; omega
  | succ f ih =>
    intro k k0 k1 k2
    refine Go.run hsz hn1 2 (pc' := 23) (lv' := [some (gr 148), some (gi x), some (gi (mStat mi x k.toNat)), some (gi k)]) (st' := [gi 7, gi k]) (M' := gw mi ml) rfl ?_
    refine Go.icmp_ge (by rfl) ⟨by omega, by omega⟩ ⟨by decide, by decide⟩ (fun kq1 => ?_) (fun kq1 => ?_)
    · refine Go.run hsz hn1 1 (pc' := 55) (lv' := [some (gr 148), some (gi x), some (gi (mStat mi x k.toNat)), some (gi k)]) (st' := [gi (mStat mi x k.toNat)]) (M' := gw mi ml) rfl ?_
      obtain rfl : k = 7 := by omega
      exact Go.iret (by rfl) ⟨rfl, rfl⟩
    · refine Go.run hsz hn1 2 (pc' := 28) (lv' := [some (gr 148), some (gi x), some (gi (mStat mi x k.toNat)), some (gi k)]) (st' := [gi x, gi (mStat mi x k.toNat)]) (M' := gw mi ml) rfl ?_
      refine Go.if_lt (by rfl) r_x (fun kq2 => ?_) (fun kq2 => ?_)
      · refine Go.run hsz hn1 3 (pc' := 41) (lv' := [some (gr 148), some (gi x), some (gi (mStat mi x k.toNat)), some (gi k)]) (st' := [gi k, gr 159, gi (mStat mi x k.toNat)]) (M' := gw mi ml) rfl ?_
        refine Go.iald (by rfl) (N := 7) (by rfl) (by omega) (by omega) (by decide) ?_
        refine Go.run hsz hn1 5 (pc' := 20) (lv' := [some (gr 148), some (gi x), some (gi ((mStat mi x k.toNat) + (mi 159 k.toNat))), some (gi (k + 1))]) (st' := []) (M' := gw mi ml) rfl ?_
        have h9 := ih (k + 1) (by omega) (by omega) (by omega)
        rw [show mStat mi x (k + 1).toNat = _ from gfold_s k0] at h9
        (try dsimp only at h9)
        (repeat' split at h9) <;> first | exact h9 | (exfalso; omega)
      · refine Go.run hsz hn1 2 (pc' := 33) (lv' := [some (gr 148), some (gi x), some (gi (mStat mi x k.toNat)), some (gi k)]) (st' := [gi x, gi k, gi (mStat mi x k.toNat)]) (M' := gw mi ml) rfl ?_
        refine Go.icmp_ne (by rfl) ⟨by omega, by omega⟩ r_x (fun kq3 => ?_) (fun kq3 => ?_)
        · refine Go.run hsz hn1 5 (pc' := 20) (lv' := [some (gr 148), some (gi x), some (gi ((mStat mi x k.toNat) + 0)), some (gi (k + 1))]) (st' := []) (M' := gw mi ml) rfl ?_
          have h9 := ih (k + 1) (by omega) (by omega) (by omega)
          rw [show mStat mi x (k + 1).toNat = _ from gfold_s k0] at h9
          (try dsimp only at h9)
          (repeat' split at h9) <;> first | exact h9 | (exfalso; omega)
        · refine Go.run hsz hn1 3 (pc' := 41) (lv' := [some (gr 148), some (gi x), some (gi (mStat mi x k.toNat)), some (gi k)]) (st' := [gi k, gr 159, gi (mStat mi x k.toNat)]) (M' := gw mi ml) rfl ?_
          refine Go.iald (by rfl) (N := 7) (by rfl) (by omega) (by omega) (by decide) ?_
          refine Go.run hsz hn1 5 (pc' := 20) (lv' := [some (gr 148), some (gi x), some (gi ((mStat mi x k.toNat) + (mi 159 k.toNat))), some (gi (k + 1))]) (st' := []) (M' := gw mi ml) rfl ?_
          have h9 := ih (k + 1) (by omega) (by omega) (by omega)
          rw [show mStat mi x (k + 1).toNat = _ from gfold_s k0] at h9
          (try dsimp only at h9)
          (repeat' split at h9) <;> first | exact h9 | (exfalso; omega)
set_option maxRecDepth 100000 in
set_option maxHeartbeats 4000000 in
theorem pM_status {G : gG} (hsz : G.2.2.2.2.2.2 = true) {n : Nat} (hn : 3 ≤ n) (mi : Nat → Nat → Int) (ml : Nat → Nat → Int64) (x : Int) (r_x : rng x) (hv : SV mi)  : gM G 247 n 0 0 [gr 148, gi x] (gw mi ml) (fun r M => gE ((-1 ≤ x ∧ x ≤ 6)) (mStat mi x 7) (mi) ml r M ∨ gE (¬ (-1 ≤ x ∧ x ≤ 6)) (-1000001) (mFd mi 0) ml r M) := by
  have hn1 : 1 ≤ n := by omega
  obtain ⟨hR, ht, hp, hq, hP, hQ⟩ := id hv
  refine gM.of mX12_status okX12_status (gcp 247 (by decide)).1 (gcp 247 (by decide)).2 (Nat.le_of_ble_eq_true rfl) ?_
  refine Go.run hsz hn1 3 (pc' := 4) (lv' := [some (gr 148), some (gi x), none, none]) (st' := [gi 6, gi (-1), gi x]) (M' := gw mi ml) rfl ?_
  refine Go.callS (As := [gi x, gi (-1), gi 6]) (st := []) (mc1 := 0) (mc := 0) (ms1 := 0) (ms := 0) (by rfl) rfl (gcn 153 (by decide)).1 (gcn 153 (by decide)).2 (Nat.le_of_ble_eq_true rfl) (by omega) (cM_in hsz (n := n - 1) (by omega) mi ml x (-1) 6 r_x ⟨by decide, by decide⟩ ⟨by decide, by decide⟩) ?_
  rintro _ _ ⟨rfl, rfl⟩
  refine Go.run hsz hn1 0 (pc' := 7) (lv' := [some (gr 148), some (gi x), none, none]) (st' := [gi (b2 (-1 ≤ x ∧ x ≤ 6))]) (M' := gw mi ml) rfl ?_
  refine Go.if_ne (by rfl) (b2_rng _) (fun kq1 => ?_) (fun kq1 => ?_)
  · replace kq1 := b2_pos kq1
    refine Go.run hsz hn1 4 (pc' := 20) (lv' := [some (gr 148), some (gi x), some (gi 0), some (gi 0)]) (st' := []) (M' := gw mi ml) rfl ?_
    refine Go.imp ?_ (lM_status hsz hn mi ml x r_x hv ((7 - 0 : Int).toNat + 1) (0) (by omega) (by omega) (by omega))
    rintro _ _ ⟨rfl, rfl⟩
    exact Or.inl ⟨by omega, rfl, rfl⟩
  · replace kq1 := b2_neg kq1
    refine Go.run hsz hn1 2 (pc' := 12) (lv' := [some (gr 148), some (gi x), none, none]) (st' := [gi 0, gr 148]) (M' := gw mi ml) rfl ?_
    refine Go.callV (As := [gi 0]) (b := 148) (st := []) (mc1 := 0) (mc := 0) (ms1 := 0) (ms := 0) (by rfl) rfl (c := 11) (N := 46) (by rfl) (by decide) (by rfl) (gcn 154 (by decide)).1 (gcn 154 (by decide)).2 rfl (Nat.le_of_ble_eq_true rfl) (by omega) (cM_finds hsz (n := n - 1) (by omega) mi ml 0 (by decide) (by decide)) ?_
    rintro _ _ ⟨rfl, rfl⟩
    refine Go.run hsz hn1 0 (pc' := 15) (lv' := [some (gr 148), some (gi x), none, none]) (st' := [gi (-1000001)]) (M' := gw (mFd mi 0) ml) rfl ?_
    refine Go.iret (by rfl) ?_
    first | (exact Or.inl ⟨by omega, rfl, rfl⟩) | (exact Or.inr (⟨by omega, rfl, rfl⟩))
set_option maxRecDepth 100000 in
set_option maxHeartbeats 4000000 in
theorem lM_count_here {G : gG} (hsz : G.2.2.2.2.2.2 = true) {n : Nat} (hn : 5 ≤ n) (mi : Nat → Nat → Int) (ml : Nat → Nat → Int64) (hv : SV mi) : ∀ (f : Nat) (k : Int), 0 ≤ k → k ≤ mi 148 6 → mi 148 6 - k < f → Go G mX12_count n 0 0 80 [some (gr 148), some (gi 6), some (gi (mHereN mi k.toNat)), some (gi k)] [] (gw mi ml) (gret (mHereN mi (mi 148 6).toNat) (gw mi ml)) := by
  have hn1 : 1 ≤ n := by omega
  obtain ⟨hR, ht, hp, hq, hP, hQ⟩ := id hv
  intro f
  induction f with
  | zero => intros; omega
  | succ f ih =>
    intro k k0 k1 k2
    refine Go.run hsz hn1 3 (pc' := 85) (lv' := [some (gr 148), some (gi 6), some (gi (mHereN mi k.toNat)), some (gi k)]) (st' := [gi (mi 148 6), gi k]) (M' := gw mi ml) rfl ?_
    refine Go.icmp_ge (by rfl) ⟨by omega, by omega⟩ (hR _ _) (fun kq1 => ?_) (fun kq1 => ?_)
    · refine Go.run hsz hn1 1 (pc' := 111) (lv' := [some (gr 148), some (gi 6), some (gi (mHereN mi k.toNat)), some (gi k)]) (st' := [gi (mHereN mi k.toNat)]) (M' := gw mi ml) rfl ?_
      obtain rfl : k = mi 148 6 := by omega
      exact Go.iret (by rfl) ⟨rfl, rfl⟩
    · refine Go.run hsz hn1 3 (pc' := 91) (lv' := [some (gr 148), some (gi 6), some (gi (mHereN mi k.toNat)), some (gi k)]) (st' := [gi k, gr 148, gi (mHereN mi k.toNat)]) (M' := gw mi ml) rfl ?_
      refine Go.callV (As := [gi k]) (b := 148) (st := [gi (mHereN mi k.toNat)]) (mc1 := 0) (mc := 0) (ms1 := 0) (ms := 0) (by rfl) rfl (c := 11) (N := 46) (by rfl) (by decide) (by rfl) (gcn 221 (by decide)).1 (gcn 221 (by decide)).2 rfl (Nat.le_of_ble_eq_true rfl) (by omega) (cM_isHere hsz (n := n - 1) (by omega) mi ml k (by omega) (by omega) hR (hP _ (by omega) (by omega))) ?_
      rintro _ _ ⟨rfl, rfl⟩
      refine Go.run hsz hn1 0 (pc' := 94) (lv' := [some (gr 148), some (gi 6), some (gi (mHereN mi k.toNat)), some (gi k)]) (st' := [gi (mHere mi k), gi (mHereN mi k.toNat)]) (M' := gw mi ml) rfl ?_
      refine Go.if_eq (by rfl) (b2_rng _) (fun kq2 => ?_) (fun kq2 => ?_)
      · refine Go.run hsz hn1 5 (pc' := 80) (lv' := [some (gr 148), some (gi 6), some (gi ((mHereN mi k.toNat) + 0)), some (gi (k + 1))]) (st' := []) (M' := gw mi ml) rfl ?_
        have h9 := ih (k + 1) (by omega) (by omega) (by omega)
        rw [show mHereN mi (k + 1).toNat = _ from gfold_s k0] at h9
        (try dsimp only at h9)
        (repeat' split at h9) <;> first | exact h9 | (exfalso; omega)
      · refine Go.run hsz hn1 6 (pc' := 80) (lv' := [some (gr 148), some (gi 6), some (gi ((mHereN mi k.toNat) + 1)), some (gi (k + 1))]) (st' := []) (M' := gw mi ml) rfl ?_
        have h9 := ih (k + 1) (by omega) (by omega) (by omega)
        rw [show mHereN mi (k + 1).toNat = _ from gfold_s k0] at h9
        (try dsimp only at h9)
        (repeat' split at h9) <;> first | exact h9 | (exfalso; omega)
set_option maxRecDepth 100000 in
set_option maxHeartbeats 4000000 in
theorem lM_count_wait {G : gG} (hsz : G.2.2.2.2.2.2 = true) {n : Nat} (hn : 5 ≤ n) (mi : Nat → Nat → Int) (ml : Nat → Nat → Int64) (hv : SV mi) : ∀ (f : Nat) (k : Int), 0 ≤ k → k ≤ mi 148 6 → mi 148 6 - k < f → Go G mX12_count n 0 0 114 [some (gr 148), some (gi 7), some (gi (mWaitN mi k.toNat)), some (gi k)] [] (gw mi ml) (gret (mWaitN mi (mi 148 6).toNat) (gw mi ml)) := by
  have hn1 : 1 ≤ n := by omega
  obtain ⟨hR, ht, hp, hq, hP, hQ⟩ := id hv
  intro f
  induction f with
  | zero => intros; omega
  | succ f ih =>
    intro k k0 k1 k2
    refine Go.run hsz hn1 3 (pc' := 119) (lv' := [some (gr 148), some (gi 7), some (gi (mWaitN mi k.toNat)), some (gi k)]) (st' := [gi (mi 148 6), gi k]) (M' := gw mi ml) rfl ?_
    refine Go.icmp_ge (by rfl) ⟨by omega, by omega⟩ (hR _ _) (fun kq1 => ?_) (fun kq1 => ?_)
    · refine Go.run hsz hn1 1 (pc' := 148) (lv' := [some (gr 148), some (gi 7), some (gi (mWaitN mi k.toNat)), some (gi k)]) (st' := [gi (mWaitN mi k.toNat)]) (M' := gw mi ml) rfl ?_
      obtain rfl : k = mi 148 6 := by omega
      exact Go.iret (by rfl) ⟨rfl, rfl⟩
    · refine Go.run hsz hn1 4 (pc' := 127) (lv' := [some (gr 148), some (gi 7), some (gi (mWaitN mi k.toNat)), some (gi k)]) (st' := [gi 6, gi k, gr 148, gi (mWaitN mi k.toNat)]) (M' := gw mi ml) rfl ?_
      refine Go.callV (As := [gi k, gi 6]) (b := 148) (st := [gi (mWaitN mi k.toNat)]) (mc1 := 0) (mc := 0) (ms1 := 0) (ms := 0) (by rfl) rfl (c := 11) (N := 46) (by rfl) (by decide) (by rfl) (gcn 165 (by decide)).1 (gcn 165 (by decide)).2 rfl (Nat.le_of_ble_eq_true rfl) (by omega) (cM_of hsz (n := n - 1) (by omega) mi ml k 6 (by omega) (by omega) (by omega) (by omega)) ?_
      rintro _ _ ⟨rfl, rfl⟩
      refine Go.run hsz hn1 1 (pc' := 131) (lv' := [some (gr 148), some (gi 7), some (gi (mWaitN mi k.toNat)), some (gi k)]) (st' := [gi (-1), gi (mOf mi k 6), gi (mWaitN mi k.toNat)]) (M' := gw mi ml) rfl ?_
      refine Go.icmp_ne (by rfl) (hR _ _) ⟨by decide, by decide⟩ (fun kq2 => ?_) (fun kq2 => ?_)
      · refine Go.run hsz hn1 5 (pc' := 114) (lv' := [some (gr 148), some (gi 7), some (gi ((mWaitN mi k.toNat) + 0)), some (gi (k + 1))]) (st' := []) (M' := gw mi ml) rfl ?_
        have h9 := ih (k + 1) (by omega) (by omega) (by omega)
        rw [show mWaitN mi (k + 1).toNat = _ from gfold_s k0] at h9
        (try dsimp only at h9)
        (repeat' split at h9) <;> first | exact h9 | (exfalso; omega)
      · refine Go.run hsz hn1 6 (pc' := 114) (lv' := [some (gr 148), some (gi 7), some (gi ((mWaitN mi k.toNat) + 1)), some (gi (k + 1))]) (st' := []) (M' := gw mi ml) rfl ?_
        have h9 := ih (k + 1) (by omega) (by omega) (by omega)
        rw [show mWaitN mi (k + 1).toNat = _ from gfold_s k0] at h9
        (try dsimp only at h9)
        (repeat' split at h9) <;> first | exact h9 | (exfalso; omega)
set_option maxRecDepth 100000 in
set_option maxHeartbeats 4000000 in
theorem pM_count {G : gG} (hsz : G.2.2.2.2.2.2 = true) {n : Nat} (hn : 5 ≤ n) (mi : Nat → Nat → Int) (ml : Nat → Nat → Int64) (x : Int) (r_x : rng x) (hv : SV mi)  : gM G 246 n 0 0 [gr 148, gi x] (gw mi ml) (fun r M => gE (x = 0) (mi 148 0) (mi) ml r M ∨ gE (x = 1) (mi 148 2) (mi) ml r M ∨ gE (x = 2) (mi 148 6) (mi) ml r M ∨ gE (x = 3) (mi 148 1) (mi) ml r M ∨ gE (x = 4) (mi 148 22) (mi) ml r M ∨ gE (x = 5) (mi 148 9) (mi) ml r M ∨ gE (x = 6) (mHereN mi (mi 148 6).toNat) (mi) ml r M ∨ gE (x = 7) (mWaitN mi (mi 148 6).toNat) (mi) ml r M ∨ gE (x < 0 ∨ 7 < x) (-1000001) (mFd mi 0) ml r M) := by
  have hn1 : 1 ≤ n := by omega
  obtain ⟨hR, ht, hp, hq, hP, hQ⟩ := id hv
  refine gM.of mX12_count okX12_count (gcp 246 (by decide)).1 (gcp 246 (by decide)).2 (Nat.le_of_ble_eq_true rfl) ?_
  rcases (show x = 0 ∨ x = 1 ∨ x = 2 ∨ x = 3 ∨ x = 4 ∨ x = 5 ∨ x = 6 ∨ x = 7 ∨ (x < 0 ∨ 7 < x) by omega) with rfl | rfl | rfl | rfl | rfl | rfl | rfl | rfl | hd
  · refine Go.run hsz hn1 3 (pc' := 3) (lv' := [some (gr 148), some (gi 0), some (gi 0), none]) (st' := [gi 0]) (M' := gw mi ml) rfl ?_
    refine Go.tsw_in (l := _) (w' := 0) (t := 48) (by rfl) (by rfl) ⟨by decide, by decide⟩ (by decide) (by decide) (by rfl) ?_
    refine Go.run hsz hn1 2 (pc' := 52) (lv' := [some (gr 148), some (gi 0), some (gi 0), none]) (st' := [gi (mi 148 0)]) (M' := gw mi ml) rfl ?_
    refine Go.iret (by rfl) ?_
    first | (exact Or.inl ⟨by omega, rfl, rfl⟩) | (exact Or.inr (Or.inl ⟨by omega, rfl, rfl⟩)) | (exact Or.inr (Or.inr (Or.inl ⟨by omega, rfl, rfl⟩))) | (exact Or.inr (Or.inr (Or.inr (Or.inl ⟨by omega, rfl, rfl⟩)))) | (exact Or.inr (Or.inr (Or.inr (Or.inr (Or.inl ⟨by omega, rfl, rfl⟩))))) | (exact Or.inr (Or.inr (Or.inr (Or.inr (Or.inr (Or.inl ⟨by omega, rfl, rfl⟩)))))) | (exact Or.inr (Or.inr (Or.inr (Or.inr (Or.inr (Or.inr (Or.inl ⟨by omega, rfl, rfl⟩))))))) | (exact Or.inr (Or.inr (Or.inr (Or.inr (Or.inr (Or.inr (Or.inr (Or.inl ⟨by omega, rfl, rfl⟩)))))))) | (exact Or.inr (Or.inr (Or.inr (Or.inr (Or.inr (Or.inr (Or.inr (Or.inr (⟨by omega, rfl, rfl⟩)))))))))
  · refine Go.run hsz hn1 3 (pc' := 3) (lv' := [some (gr 148), some (gi 1), some (gi 0), none]) (st' := [gi 1]) (M' := gw mi ml) rfl ?_
    refine Go.tsw_in (l := _) (w' := 1) (t := 53) (by rfl) (by rfl) ⟨by decide, by decide⟩ (by decide) (by decide) (by rfl) ?_
    refine Go.run hsz hn1 2 (pc' := 57) (lv' := [some (gr 148), some (gi 1), some (gi 0), none]) (st' := [gi (mi 148 2)]) (M' := gw mi ml) rfl ?_
    refine Go.iret (by rfl) ?_
    first | (exact Or.inl ⟨by omega, rfl, rfl⟩) | (exact Or.inr (Or.inl ⟨by omega, rfl, rfl⟩)) | (exact Or.inr (Or.inr (Or.inl ⟨by omega, rfl, rfl⟩))) | (exact Or.inr (Or.inr (Or.inr (Or.inl ⟨by omega, rfl, rfl⟩)))) | (exact Or.inr (Or.inr (Or.inr (Or.inr (Or.inl ⟨by omega, rfl, rfl⟩))))) | (exact Or.inr (Or.inr (Or.inr (Or.inr (Or.inr (Or.inl ⟨by omega, rfl, rfl⟩)))))) | (exact Or.inr (Or.inr (Or.inr (Or.inr (Or.inr (Or.inr (Or.inl ⟨by omega, rfl, rfl⟩))))))) | (exact Or.inr (Or.inr (Or.inr (Or.inr (Or.inr (Or.inr (Or.inr (Or.inl ⟨by omega, rfl, rfl⟩)))))))) | (exact Or.inr (Or.inr (Or.inr (Or.inr (Or.inr (Or.inr (Or.inr (Or.inr (⟨by omega, rfl, rfl⟩)))))))))
  · refine Go.run hsz hn1 3 (pc' := 3) (lv' := [some (gr 148), some (gi 2), some (gi 0), none]) (st' := [gi 2]) (M' := gw mi ml) rfl ?_
    refine Go.tsw_in (l := _) (w' := 2) (t := 58) (by rfl) (by rfl) ⟨by decide, by decide⟩ (by decide) (by decide) (by rfl) ?_
    refine Go.run hsz hn1 2 (pc' := 62) (lv' := [some (gr 148), some (gi 2), some (gi 0), none]) (st' := [gi (mi 148 6)]) (M' := gw mi ml) rfl ?_
    refine Go.iret (by rfl) ?_
    first | (exact Or.inl ⟨by omega, rfl, rfl⟩) | (exact Or.inr (Or.inl ⟨by omega, rfl, rfl⟩)) | (exact Or.inr (Or.inr (Or.inl ⟨by omega, rfl, rfl⟩))) | (exact Or.inr (Or.inr (Or.inr (Or.inl ⟨by omega, rfl, rfl⟩)))) | (exact Or.inr (Or.inr (Or.inr (Or.inr (Or.inl ⟨by omega, rfl, rfl⟩))))) | (exact Or.inr (Or.inr (Or.inr (Or.inr (Or.inr (Or.inl ⟨by omega, rfl, rfl⟩)))))) | (exact Or.inr (Or.inr (Or.inr (Or.inr (Or.inr (Or.inr (Or.inl ⟨by omega, rfl, rfl⟩))))))) | (exact Or.inr (Or.inr (Or.inr (Or.inr (Or.inr (Or.inr (Or.inr (Or.inl ⟨by omega, rfl, rfl⟩)))))))) | (exact Or.inr (Or.inr (Or.inr (Or.inr (Or.inr (Or.inr (Or.inr (Or.inr (⟨by omega, rfl, rfl⟩)))))))))
  · refine Go.run hsz hn1 3 (pc' := 3) (lv' := [some (gr 148), some (gi 3), some (gi 0), none]) (st' := [gi 3]) (M' := gw mi ml) rfl ?_
    refine Go.tsw_in (l := _) (w' := 3) (t := 63) (by rfl) (by rfl) ⟨by decide, by decide⟩ (by decide) (by decide) (by rfl) ?_
    refine Go.run hsz hn1 2 (pc' := 67) (lv' := [some (gr 148), some (gi 3), some (gi 0), none]) (st' := [gi (mi 148 1)]) (M' := gw mi ml) rfl ?_
    refine Go.iret (by rfl) ?_
    first | (exact Or.inl ⟨by omega, rfl, rfl⟩) | (exact Or.inr (Or.inl ⟨by omega, rfl, rfl⟩)) | (exact Or.inr (Or.inr (Or.inl ⟨by omega, rfl, rfl⟩))) | (exact Or.inr (Or.inr (Or.inr (Or.inl ⟨by omega, rfl, rfl⟩)))) | (exact Or.inr (Or.inr (Or.inr (Or.inr (Or.inl ⟨by omega, rfl, rfl⟩))))) | (exact Or.inr (Or.inr (Or.inr (Or.inr (Or.inr (Or.inl ⟨by omega, rfl, rfl⟩)))))) | (exact Or.inr (Or.inr (Or.inr (Or.inr (Or.inr (Or.inr (Or.inl ⟨by omega, rfl, rfl⟩))))))) | (exact Or.inr (Or.inr (Or.inr (Or.inr (Or.inr (Or.inr (Or.inr (Or.inl ⟨by omega, rfl, rfl⟩)))))))) | (exact Or.inr (Or.inr (Or.inr (Or.inr (Or.inr (Or.inr (Or.inr (Or.inr (⟨by omega, rfl, rfl⟩)))))))))
  · refine Go.run hsz hn1 3 (pc' := 3) (lv' := [some (gr 148), some (gi 4), some (gi 0), none]) (st' := [gi 4]) (M' := gw mi ml) rfl ?_
    refine Go.tsw_in (l := _) (w' := 4) (t := 68) (by rfl) (by rfl) ⟨by decide, by decide⟩ (by decide) (by decide) (by rfl) ?_
    refine Go.run hsz hn1 2 (pc' := 72) (lv' := [some (gr 148), some (gi 4), some (gi 0), none]) (st' := [gi (mi 148 22)]) (M' := gw mi ml) rfl ?_
    refine Go.iret (by rfl) ?_
    first | (exact Or.inl ⟨by omega, rfl, rfl⟩) | (exact Or.inr (Or.inl ⟨by omega, rfl, rfl⟩)) | (exact Or.inr (Or.inr (Or.inl ⟨by omega, rfl, rfl⟩))) | (exact Or.inr (Or.inr (Or.inr (Or.inl ⟨by omega, rfl, rfl⟩)))) | (exact Or.inr (Or.inr (Or.inr (Or.inr (Or.inl ⟨by omega, rfl, rfl⟩))))) | (exact Or.inr (Or.inr (Or.inr (Or.inr (Or.inr (Or.inl ⟨by omega, rfl, rfl⟩)))))) | (exact Or.inr (Or.inr (Or.inr (Or.inr (Or.inr (Or.inr (Or.inl ⟨by omega, rfl, rfl⟩))))))) | (exact Or.inr (Or.inr (Or.inr (Or.inr (Or.inr (Or.inr (Or.inr (Or.inl ⟨by omega, rfl, rfl⟩)))))))) | (exact Or.inr (Or.inr (Or.inr (Or.inr (Or.inr (Or.inr (Or.inr (Or.inr (⟨by omega, rfl, rfl⟩)))))))))
  · refine Go.run hsz hn1 3 (pc' := 3) (lv' := [some (gr 148), some (gi 5), some (gi 0), none]) (st' := [gi 5]) (M' := gw mi ml) rfl ?_
    refine Go.tsw_in (l := _) (w' := 5) (t := 73) (by rfl) (by rfl) ⟨by decide, by decide⟩ (by decide) (by decide) (by rfl) ?_
    refine Go.run hsz hn1 2 (pc' := 77) (lv' := [some (gr 148), some (gi 5), some (gi 0), none]) (st' := [gi (mi 148 9)]) (M' := gw mi ml) rfl ?_
    refine Go.iret (by rfl) ?_
    first | (exact Or.inl ⟨by omega, rfl, rfl⟩) | (exact Or.inr (Or.inl ⟨by omega, rfl, rfl⟩)) | (exact Or.inr (Or.inr (Or.inl ⟨by omega, rfl, rfl⟩))) | (exact Or.inr (Or.inr (Or.inr (Or.inl ⟨by omega, rfl, rfl⟩)))) | (exact Or.inr (Or.inr (Or.inr (Or.inr (Or.inl ⟨by omega, rfl, rfl⟩))))) | (exact Or.inr (Or.inr (Or.inr (Or.inr (Or.inr (Or.inl ⟨by omega, rfl, rfl⟩)))))) | (exact Or.inr (Or.inr (Or.inr (Or.inr (Or.inr (Or.inr (Or.inl ⟨by omega, rfl, rfl⟩))))))) | (exact Or.inr (Or.inr (Or.inr (Or.inr (Or.inr (Or.inr (Or.inr (Or.inl ⟨by omega, rfl, rfl⟩)))))))) | (exact Or.inr (Or.inr (Or.inr (Or.inr (Or.inr (Or.inr (Or.inr (Or.inr (⟨by omega, rfl, rfl⟩)))))))))
  · refine Go.run hsz hn1 3 (pc' := 3) (lv' := [some (gr 148), some (gi 6), some (gi 0), none]) (st' := [gi 6]) (M' := gw mi ml) rfl ?_
    refine Go.tsw_in (l := _) (w' := 6) (t := 78) (by rfl) (by rfl) ⟨by decide, by decide⟩ (by decide) (by decide) (by rfl) ?_
    refine Go.run hsz hn1 2 (pc' := 80) (lv' := [some (gr 148), some (gi 6), some (gi 0), some (gi 0)]) (st' := []) (M' := gw mi ml) rfl ?_
    refine Go.imp ?_ (lM_count_here hsz hn mi ml hv ((mi 148 6 - 0 : Int).toNat + 1) (0) (by omega) (by omega) (by omega))
    rintro _ _ ⟨rfl, rfl⟩
    exact Or.inr (Or.inr (Or.inr (Or.inr (Or.inr (Or.inr (Or.inl ⟨by omega, rfl, rfl⟩))))))
  · refine Go.run hsz hn1 3 (pc' := 3) (lv' := [some (gr 148), some (gi 7), some (gi 0), none]) (st' := [gi 7]) (M' := gw mi ml) rfl ?_
    refine Go.tsw_in (l := _) (w' := 7) (t := 112) (by rfl) (by rfl) ⟨by decide, by decide⟩ (by decide) (by decide) (by rfl) ?_
    refine Go.run hsz hn1 2 (pc' := 114) (lv' := [some (gr 148), some (gi 7), some (gi 0), some (gi 0)]) (st' := []) (M' := gw mi ml) rfl ?_
    refine Go.imp ?_ (lM_count_wait hsz hn mi ml hv ((mi 148 6 - 0 : Int).toNat + 1) (0) (by omega) (by omega) (by omega))
    rintro _ _ ⟨rfl, rfl⟩
    exact Or.inr (Or.inr (Or.inr (Or.inr (Or.inr (Or.inr (Or.inr (Or.inl ⟨by omega, rfl, rfl⟩)))))))
  · refine Go.run hsz hn1 3 (pc' := 3) (lv' := [some (gr 148), some (gi x), some (gi 0), none]) (st' := [gi x]) (M' := gw mi ml) rfl ?_
    refine Go.tsw_out (l := _) (by rfl) (by rfl) r_x (by omega) ?_
    refine Go.run hsz hn1 2 (pc' := 151) (lv' := [some (gr 148), some (gi x), some (gi 0), none]) (st' := [gi 0, gr 148]) (M' := gw mi ml) rfl ?_
    refine Go.callV (As := [gi 0]) (b := 148) (st := []) (mc1 := 0) (mc := 0) (ms1 := 0) (ms := 0) (by rfl) rfl (c := 11) (N := 46) (by rfl) (by decide) (by rfl) (gcn 154 (by decide)).1 (gcn 154 (by decide)).2 rfl (Nat.le_of_ble_eq_true rfl) (by omega) (cM_finds hsz (n := n - 1) (by omega) mi ml 0 (by decide) (by decide)) ?_
    rintro _ _ ⟨rfl, rfl⟩
    refine Go.run hsz hn1 0 (pc' := 154) (lv' := [some (gr 148), some (gi x), some (gi 0), none]) (st' := [gi (-1000001)]) (M' := gw (mFd mi 0) ml) rfl ?_
    refine Go.iret (by rfl) ?_
    first | (exact Or.inl ⟨by omega, rfl, rfl⟩) | (exact Or.inr (Or.inl ⟨by omega, rfl, rfl⟩)) | (exact Or.inr (Or.inr (Or.inl ⟨by omega, rfl, rfl⟩))) | (exact Or.inr (Or.inr (Or.inr (Or.inl ⟨by omega, rfl, rfl⟩)))) | (exact Or.inr (Or.inr (Or.inr (Or.inr (Or.inl ⟨by omega, rfl, rfl⟩))))) | (exact Or.inr (Or.inr (Or.inr (Or.inr (Or.inr (Or.inl ⟨by omega, rfl, rfl⟩)))))) | (exact Or.inr (Or.inr (Or.inr (Or.inr (Or.inr (Or.inr (Or.inl ⟨by omega, rfl, rfl⟩))))))) | (exact Or.inr (Or.inr (Or.inr (Or.inr (Or.inr (Or.inr (Or.inr (Or.inl ⟨by omega, rfl, rfl⟩)))))))) | (exact Or.inr (Or.inr (Or.inr (Or.inr (Or.inr (Or.inr (Or.inr (Or.inr (⟨by omega, rfl, rfl⟩)))))))))

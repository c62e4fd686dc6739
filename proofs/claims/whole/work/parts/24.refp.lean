/-- a finding of the reference -/
def mFd (mi : Nat → Nat → Int) (w : Nat) : Nat → Nat → Int := gu mi 159 w (mi 159 w + 1)
/-- one of the ends of a call -/
def gE (c : Prop) (v : Int) (mi : Nat → Nat → Int) (ml : Nat → Nat → Int64) (r : Option gV) (M : gMe) : Prop := c ∧ r = some (gi v) ∧ M = gw mi ml
set_option maxRecDepth 100000 in
set_option maxHeartbeats 4000000 in
theorem pM_pitchOf {G : gG} (hsz : G.2.2.2.2.2.2 = true) {n : Nat} (hn : 4 ≤ n) (mi : Nat → Nat → Int) (ml : Nat → Nat → Int64) (p w : Int) (r_p : rng p) (r_w : rng w) (hv : SV mi)  : gM G 159 n 0 0 [gr 148, gi p, gi w] (gw mi ml) (fun r M => gE ((0 ≤ p ∧ p ≤ mi 148 2 - 1) ∧ (0 ≤ w ∧ w ≤ 7)) (mPi mi p w) (mi) ml r M ∨ gE (¬ ((0 ≤ p ∧ p ≤ mi 148 2 - 1) ∧ (0 ≤ w ∧ w ≤ 7))) (-1000001) (mFd mi 0) ml r M) := by
  have hn1 : 1 ≤ n := by omega
  obtain ⟨hR, ht, hp, hq, hP, hQ⟩ := id hv
  refine gM.of mX12_pitchOf okX12_pitchOf (gcp 159 (by decide)).1 (gcp 159 (by decide)).2 (Nat.le_of_ble_eq_true rfl) ?_
  refine Go.run hsz hn1 2 (pc' := 2) (lv' := [some (gr 148), some (gi p), some (gi w)]) (st' := [gi p, gr 148]) (M' := gw mi ml) rfl ?_
  refine Go.callV (As := [gi p]) (b := 148) (st := []) (mc1 := 0) (mc := 0) (ms1 := 0) (ms := 0) (by rfl) rfl (c := 11) (N := 46) (by rfl) (by decide) (by rfl) (gcn 155 (by decide)).1 (gcn 155 (by decide)).2 rfl (Nat.le_of_ble_eq_true rfl) (by omega) (cM_isPitch hsz (n := n - 1) (by omega) mi ml p r_p hp.1 hp.2) ?_
  rintro _ _ ⟨rfl, rfl⟩
  refine Go.run hsz hn1 0 (pc' := 5) (lv' := [some (gr 148), some (gi p), some (gi w)]) (st' := [gi (b2 (0 ≤ p ∧ p ≤ mi 148 2 - 1))]) (M' := gw mi ml) rfl ?_
  refine Go.if_eq (by rfl) (b2_rng _) (fun kq1 => ?_) (fun kq1 => ?_)
  · replace kq1 := b2_neg kq1
    refine Go.run hsz hn1 2 (pc' := 34) (lv' := [some (gr 148), some (gi p), some (gi w)]) (st' := [gi 0, gr 148]) (M' := gw mi ml) rfl ?_
    refine Go.callV (As := [gi 0]) (b := 148) (st := []) (mc1 := 0) (mc := 0) (ms1 := 0) (ms := 0) (by rfl) rfl (c := 11) (N := 46) (by rfl) (by decide) (by rfl) (gcn 154 (by decide)).1 (gcn 154 (by decide)).2 rfl (Nat.le_of_ble_eq_true rfl) (by omega) (cM_finds hsz (n := n - 1) (by omega) mi ml 0 (by decide) (by decide)) ?_
    rintro _ _ ⟨rfl, rfl⟩
    refine Go.run hsz hn1 0 (pc' := 37) (lv' := [some (gr 148), some (gi p), some (gi w)]) (st' := [gi (-1000001)]) (M' := gw (mFd mi 0) ml) rfl ?_
    refine Go.iret (by rfl) ?_
    first | (exact Or.inl ⟨by omega, rfl, rfl⟩) | (exact Or.inr (⟨by omega, rfl, rfl⟩))
  · replace kq1 := b2_pos kq1
    refine Go.run hsz hn1 3 (pc' := 12) (lv' := [some (gr 148), some (gi p), some (gi w)]) (st' := [gi 7, gi 0, gi w]) (M' := gw mi ml) rfl ?_
    refine Go.callS (As := [gi w, gi 0, gi 7]) (st := []) (mc1 := 0) (mc := 0) (ms1 := 0) (ms := 0) (by rfl) rfl (gcn 153 (by decide)).1 (gcn 153 (by decide)).2 (Nat.le_of_ble_eq_true rfl) (by omega) (cM_in hsz (n := n - 1) (by omega) mi ml w 0 7 r_w ⟨by decide, by decide⟩ ⟨by decide, by decide⟩) ?_
    rintro _ _ ⟨rfl, rfl⟩
    refine Go.run hsz hn1 0 (pc' := 15) (lv' := [some (gr 148), some (gi p), some (gi w)]) (st' := [gi (b2 (0 ≤ w ∧ w ≤ 7))]) (M' := gw mi ml) rfl ?_
    refine Go.if_eq (by rfl) (b2_rng _) (fun kq2 => ?_) (fun kq2 => ?_)
    · replace kq2 := b2_neg kq2
      refine Go.run hsz hn1 2 (pc' := 34) (lv' := [some (gr 148), some (gi p), some (gi w)]) (st' := [gi 0, gr 148]) (M' := gw mi ml) rfl ?_
      refine Go.callV (As := [gi 0]) (b := 148) (st := []) (mc1 := 0) (mc := 0) (ms1 := 0) (ms := 0) (by rfl) rfl (c := 11) (N := 46) (by rfl) (by decide) (by rfl) (gcn 154 (by decide)).1 (gcn 154 (by decide)).2 rfl (Nat.le_of_ble_eq_true rfl) (by omega) (cM_finds hsz (n := n - 1) (by omega) mi ml 0 (by decide) (by decide)) ?_
      rintro _ _ ⟨rfl, rfl⟩
      refine Go.run hsz hn1 0 (pc' := 37) (lv' := [some (gr 148), some (gi p), some (gi w)]) (st' := [gi (-1000001)]) (M' := gw (mFd mi 0) ml) rfl ?_
      refine Go.iret (by rfl) ?_
      first | (exact Or.inl ⟨by omega, rfl, rfl⟩) | (exact Or.inr (⟨by omega, rfl, rfl⟩))
    · replace kq2 := b2_pos kq2
      refine Go.run hsz hn1 7 (pc' := 28) (lv' := [some (gr 148), some (gi p), some (gi w)]) (st' := [gi ((8 * p) + w), gr 149]) (M' := gw mi ml) rfl ?_
      refine Go.iald (by rfl) (N := 96) (by rfl) (by omega) (by omega) (by decide) ?_
      refine Go.run hsz hn1 1 (pc' := 37) (lv' := [some (gr 148), some (gi p), some (gi w)]) (st' := [gi (mPi mi p w)]) (M' := gw mi ml) rfl ?_
      refine Go.iret (by rfl) ?_
      first | (exact Or.inl ⟨by omega, rfl, rfl⟩) | (exact Or.inr (⟨by omega, rfl, rfl⟩))
set_option maxRecDepth 100000 in
set_option maxHeartbeats 4000000 in
theorem pM_shade {G : gG} (hsz : G.2.2.2.2.2.2 = true) {n : Nat} (hn : 4 ≤ n) (mi : Nat → Nat → Int) (ml : Nat → Nat → Int64) (p v : Int) (r_p : rng p) (r_v : rng v) (hv : SV mi)  : gM G 160 n 0 0 [gr 148, gi p, gi v] (gw mi ml) (fun r M => gE ((0 ≤ p ∧ p ≤ mi 148 2 - 1) ∧ (0 ≤ v ∧ v ≤ 9)) (mPi mi p 4) (gu mi 149 (8 * p + 4).toNat v) ml r M ∨ gE (¬ ((0 ≤ p ∧ p ≤ mi 148 2 - 1) ∧ (0 ≤ v ∧ v ≤ 9))) (-1000001) (mFd mi 0) ml r M) := by
  have hn1 : 1 ≤ n := by omega
  obtain ⟨hR, ht, hp, hq, hP, hQ⟩ := id hv
  refine gM.of mX12_shade okX12_shade (gcp 160 (by decide)).1 (gcp 160 (by decide)).2 (Nat.le_of_ble_eq_true rfl) ?_
  refine Go.run hsz hn1 2 (pc' := 2) (lv' := [some (gr 148), some (gi p), some (gi v), none]) (st' := [gi p, gr 148]) (M' := gw mi ml) rfl ?_
  refine Go.callV (As := [gi p]) (b := 148) (st := []) (mc1 := 0) (mc := 0) (ms1 := 0) (ms := 0) (by rfl) rfl (c := 11) (N := 46) (by rfl) (by decide) (by rfl) (gcn 155 (by decide)).1 (gcn 155 (by decide)).2 rfl (Nat.le_of_ble_eq_true rfl) (by omega) (cM_isPitch hsz (n := n - 1) (by omega) mi ml p r_p hp.1 hp.2) ?_
  rintro _ _ ⟨rfl, rfl⟩
  refine Go.run hsz hn1 0 (pc' := 5) (lv' := [some (gr 148), some (gi p), some (gi v), none]) (st' := [gi (b2 (0 ≤ p ∧ p ≤ mi 148 2 - 1))]) (M' := gw mi ml) rfl ?_
  refine Go.if_eq (by rfl) (b2_rng _) (fun kq1 => ?_) (fun kq1 => ?_)
  · replace kq1 := b2_neg kq1
    refine Go.run hsz hn1 2 (pc' := 20) (lv' := [some (gr 148), some (gi p), some (gi v), none]) (st' := [gi 0, gr 148]) (M' := gw mi ml) rfl ?_
    refine Go.callV (As := [gi 0]) (b := 148) (st := []) (mc1 := 0) (mc := 0) (ms1 := 0) (ms := 0) (by rfl) rfl (c := 11) (N := 46) (by rfl) (by decide) (by rfl) (gcn 154 (by decide)).1 (gcn 154 (by decide)).2 rfl (Nat.le_of_ble_eq_true rfl) (by omega) (cM_finds hsz (n := n - 1) (by omega) mi ml 0 (by decide) (by decide)) ?_
    rintro _ _ ⟨rfl, rfl⟩
    refine Go.run hsz hn1 0 (pc' := 23) (lv' := [some (gr 148), some (gi p), some (gi v), none]) (st' := [gi (-1000001)]) (M' := gw (mFd mi 0) ml) rfl ?_
    refine Go.iret (by rfl) ?_
    first | (exact Or.inl ⟨by omega, rfl, rfl⟩) | (exact Or.inr (⟨by omega, rfl, rfl⟩))
  · replace kq1 := b2_pos kq1
    refine Go.run hsz hn1 3 (pc' := 12) (lv' := [some (gr 148), some (gi p), some (gi v), none]) (st' := [gi 9, gi 0, gi v]) (M' := gw mi ml) rfl ?_
    refine Go.callS (As := [gi v, gi 0, gi 9]) (st := []) (mc1 := 0) (mc := 0) (ms1 := 0) (ms := 0) (by rfl) rfl (gcn 153 (by decide)).1 (gcn 153 (by decide)).2 (Nat.le_of_ble_eq_true rfl) (by omega) (cM_in hsz (n := n - 1) (by omega) mi ml v 0 9 r_v ⟨by decide, by decide⟩ ⟨by decide, by decide⟩) ?_
    rintro _ _ ⟨rfl, rfl⟩
    refine Go.run hsz hn1 0 (pc' := 15) (lv' := [some (gr 148), some (gi p), some (gi v), none]) (st' := [gi (b2 (0 ≤ v ∧ v ≤ 9))]) (M' := gw mi ml) rfl ?_
    refine Go.if_ne (by rfl) (b2_rng _) (fun kq2 => ?_) (fun kq2 => ?_)
    · replace kq2 := b2_pos kq2
      refine Go.run hsz hn1 7 (pc' := 34) (lv' := [some (gr 148), some (gi p), some (gi v), none]) (st' := [gi ((8 * p) + 4), gr 149]) (M' := gw mi ml) rfl ?_
      refine Go.iald (by rfl) (N := 96) (by rfl) (by omega) (by omega) (by decide) ?_
      refine Go.run hsz hn1 9 (pc' := 47) (lv' := [some (gr 148), some (gi p), some (gi v), some (gi (mPi mi p 4))]) (st' := [gi v, gi ((8 * p) + 4), gr 149]) (M' := gw mi ml) rfl ?_
      refine Go.iast (by rfl) (N := 96) (by rfl) (by omega) (by omega) (by decide) ?_
      refine Go.run hsz hn1 1 (pc' := 49) (lv' := [some (gr 148), some (gi p), some (gi v), some (gi (mPi mi p 4))]) (st' := [gi (mPi mi p 4)]) (M' := gw (gu mi 149 (((8 * p) + 4).toNat) v) ml) rfl ?_
      refine Go.iret (by rfl) ?_
      first | (exact Or.inl ⟨by omega, rfl, rfl⟩) | (exact Or.inr (⟨by omega, rfl, rfl⟩))
    · replace kq2 := b2_neg kq2
      refine Go.run hsz hn1 2 (pc' := 20) (lv' := [some (gr 148), some (gi p), some (gi v), none]) (st' := [gi 0, gr 148]) (M' := gw mi ml) rfl ?_
      refine Go.callV (As := [gi 0]) (b := 148) (st := []) (mc1 := 0) (mc := 0) (ms1 := 0) (ms := 0) (by rfl) rfl (c := 11) (N := 46) (by rfl) (by decide) (by rfl) (gcn 154 (by decide)).1 (gcn 154 (by decide)).2 rfl (Nat.le_of_ble_eq_true rfl) (by omega) (cM_finds hsz (n := n - 1) (by omega) mi ml 0 (by decide) (by decide)) ?_
      rintro _ _ ⟨rfl, rfl⟩
      refine Go.run hsz hn1 0 (pc' := 23) (lv' := [some (gr 148), some (gi p), some (gi v), none]) (st' := [gi (-1000001)]) (M' := gw (mFd mi 0) ml) rfl ?_
      refine Go.iret (by rfl) ?_
      first | (exact Or.inl ⟨by omega, rfl, rfl⟩) | (exact Or.inr (⟨by omega, rfl, rfl⟩))
set_option maxRecDepth 100000 in
set_option maxHeartbeats 4000000 in
theorem pM_far {G : gG} (hsz : G.2.2.2.2.2.2 = true) {n : Nat} (hn : 4 ≤ n) (mi : Nat → Nat → Int) (ml : Nat → Nat → Int64) (p q : Int) (r_p : rng p) (r_q : rng q) (hv : SV mi)  : gM G 163 n 0 0 [gr 148, gi p, gi q] (gw mi ml) (fun r M => gE ((0 ≤ p ∧ p ≤ mi 148 2 - 1) ∧ (0 ≤ q ∧ q ≤ mi 148 2 - 1)) (mFar mi p q) (mi) ml r M ∨ gE (¬ ((0 ≤ p ∧ p ≤ mi 148 2 - 1) ∧ (0 ≤ q ∧ q ≤ mi 148 2 - 1))) (-1000001) (mFd mi 0) ml r M) := by
  have hn1 : 1 ≤ n := by omega
  obtain ⟨hR, ht, hp, hq, hP, hQ⟩ := id hv
  refine gM.of mX12_far okX12_far (gcp 163 (by decide)).1 (gcp 163 (by decide)).2 (Nat.le_of_ble_eq_true rfl) ?_
  refine Go.run hsz hn1 2 (pc' := 2) (lv' := [some (gr 148), some (gi p), some (gi q)]) (st' := [gi p, gr 148]) (M' := gw mi ml) rfl ?_
  refine Go.callV (As := [gi p]) (b := 148) (st := []) (mc1 := 0) (mc := 0) (ms1 := 0) (ms := 0) (by rfl) rfl (c := 11) (N := 46) (by rfl) (by decide) (by rfl) (gcn 155 (by decide)).1 (gcn 155 (by decide)).2 rfl (Nat.le_of_ble_eq_true rfl) (by omega) (cM_isPitch hsz (n := n - 1) (by omega) mi ml p r_p hp.1 hp.2) ?_
  rintro _ _ ⟨rfl, rfl⟩
  refine Go.run hsz hn1 0 (pc' := 5) (lv' := [some (gr 148), some (gi p), some (gi q)]) (st' := [gi (b2 (0 ≤ p ∧ p ≤ mi 148 2 - 1))]) (M' := gw mi ml) rfl ?_
  refine Go.if_eq (by rfl) (b2_rng _) (fun kq1 => ?_) (fun kq1 => ?_)
  · replace kq1 := b2_neg kq1
    refine Go.run hsz hn1 2 (pc' := 27) (lv' := [some (gr 148), some (gi p), some (gi q)]) (st' := [gi 0, gr 148]) (M' := gw mi ml) rfl ?_
    refine Go.callV (As := [gi 0]) (b := 148) (st := []) (mc1 := 0) (mc := 0) (ms1 := 0) (ms := 0) (by rfl) rfl (c := 11) (N := 46) (by rfl) (by decide) (by rfl) (gcn 154 (by decide)).1 (gcn 154 (by decide)).2 rfl (Nat.le_of_ble_eq_true rfl) (by omega) (cM_finds hsz (n := n - 1) (by omega) mi ml 0 (by decide) (by decide)) ?_
    rintro _ _ ⟨rfl, rfl⟩
    refine Go.run hsz hn1 0 (pc' := 30) (lv' := [some (gr 148), some (gi p), some (gi q)]) (st' := [gi (-1000001)]) (M' := gw (mFd mi 0) ml) rfl ?_
    refine Go.iret (by rfl) ?_
    first | (exact Or.inl ⟨by omega, rfl, rfl⟩) | (exact Or.inr (⟨by omega, rfl, rfl⟩))
  · replace kq1 := b2_pos kq1
    refine Go.run hsz hn1 2 (pc' := 10) (lv' := [some (gr 148), some (gi p), some (gi q)]) (st' := [gi q, gr 148]) (M' := gw mi ml) rfl ?_
    refine Go.callV (As := [gi q]) (b := 148) (st := []) (mc1 := 0) (mc := 0) (ms1 := 0) (ms := 0) (by rfl) rfl (c := 11) (N := 46) (by rfl) (by decide) (by rfl) (gcn 155 (by decide)).1 (gcn 155 (by decide)).2 rfl (Nat.le_of_ble_eq_true rfl) (by omega) (cM_isPitch hsz (n := n - 1) (by omega) mi ml q r_q hp.1 hp.2) ?_
    rintro _ _ ⟨rfl, rfl⟩
    refine Go.run hsz hn1 0 (pc' := 13) (lv' := [some (gr 148), some (gi p), some (gi q)]) (st' := [gi (b2 (0 ≤ q ∧ q ≤ mi 148 2 - 1))]) (M' := gw mi ml) rfl ?_
    refine Go.if_eq (by rfl) (b2_rng _) (fun kq2 => ?_) (fun kq2 => ?_)
    · replace kq2 := b2_neg kq2
      refine Go.run hsz hn1 2 (pc' := 27) (lv' := [some (gr 148), some (gi p), some (gi q)]) (st' := [gi 0, gr 148]) (M' := gw mi ml) rfl ?_
      refine Go.callV (As := [gi 0]) (b := 148) (st := []) (mc1 := 0) (mc := 0) (ms1 := 0) (ms := 0) (by rfl) rfl (c := 11) (N := 46) (by rfl) (by decide) (by rfl) (gcn 154 (by decide)).1 (gcn 154 (by decide)).2 rfl (Nat.le_of_ble_eq_true rfl) (by omega) (cM_finds hsz (n := n - 1) (by omega) mi ml 0 (by decide) (by decide)) ?_
      rintro _ _ ⟨rfl, rfl⟩
      refine Go.run hsz hn1 0 (pc' := 30) (lv' := [some (gr 148), some (gi p), some (gi q)]) (st' := [gi (-1000001)]) (M' := gw (mFd mi 0) ml) rfl ?_
      refine Go.iret (by rfl) ?_
      first | (exact Or.inl ⟨by omega, rfl, rfl⟩) | (exact Or.inr (⟨by omega, rfl, rfl⟩))
    · replace kq2 := b2_pos kq2
      refine Go.run hsz hn1 3 (pc' := 19) (lv' := [some (gr 148), some (gi p), some (gi q)]) (st' := [gi q, gi p, gr 148]) (M' := gw mi ml) rfl ?_
      refine Go.callV (As := [gi p, gi q]) (b := 148) (st := []) (mc1 := 0) (mc := 0) (ms1 := 0) (ms := 0) (by rfl) rfl (c := 11) (N := 46) (by rfl) (by decide) (by rfl) (gcn 162 (by decide)).1 (gcn 162 (by decide)).2 rfl (Nat.le_of_ble_eq_true rfl) (by omega) (cM_farOf hsz (n := n - 1) (by omega) mi ml p q (by omega) (by omega) (by omega) (by omega) (hQ _ (by omega) (by omega)) (hQ _ (by omega) (by omega))) ?_
      rintro _ _ ⟨rfl, rfl⟩
      refine Go.run hsz hn1 1 (pc' := 30) (lv' := [some (gr 148), some (gi p), some (gi q)]) (st' := [gi (mFar mi p q)]) (M' := gw mi ml) rfl ?_
      refine Go.iret (by rfl) ?_
      first | (exact Or.inl ⟨by omega, rfl, rfl⟩) | (exact Or.inr (⟨by omega, rfl, rfl⟩))
set_option maxRecDepth 100000 in
set_option maxHeartbeats 4000000 in
theorem pM_partyOf {G : gG} (hsz : G.2.2.2.2.2.2 = true) {n : Nat} (hn : 4 ≤ n) (mi : Nat → Nat → Int) (ml : Nat → Nat → Int64) (a w : Int) (r_a : rng a) (r_w : rng w) (hv : SV mi)  : gM G 167 n 0 0 [gr 148, gi a, gi w] (gw mi ml) (fun r M => gE ((0 ≤ a ∧ a ≤ mi 148 6 - 1) ∧ (0 ≤ w ∧ w ≤ 9) ∧ ¬ w = 9) (mOf mi a w) (mi) ml r M ∨ gE ((0 ≤ a ∧ a ≤ mi 148 6 - 1) ∧ (0 ≤ w ∧ w ≤ 9) ∧ w = 9 ∧ mOf mi a 4 ≤ mi 148 0) (1) (mi) ml r M ∨ gE ((0 ≤ a ∧ a ≤ mi 148 6 - 1) ∧ (0 ≤ w ∧ w ≤ 9) ∧ w = 9 ∧ ¬ mOf mi a 4 ≤ mi 148 0) (0) (mi) ml r M ∨ gE (¬ ((0 ≤ a ∧ a ≤ mi 148 6 - 1) ∧ (0 ≤ w ∧ w ≤ 9))) (-1000001) (mFd mi 0) ml r M) := by
  have hn1 : 1 ≤ n := by omega
  obtain ⟨hR, ht, hp, hq, hP, hQ⟩ := id hv
  refine gM.of mX12_partyOf okX12_partyOf (gcp 167 (by decide)).1 (gcp 167 (by decide)).2 (Nat.le_of_ble_eq_true rfl) ?_
  refine Go.run hsz hn1 2 (pc' := 2) (lv' := [some (gr 148), some (gi a), some (gi w)]) (st' := [gi a, gr 148]) (M' := gw mi ml) rfl ?_
  refine Go.callV (As := [gi a]) (b := 148) (st := []) (mc1 := 0) (mc := 0) (ms1 := 0) (ms := 0) (by rfl) rfl (c := 11) (N := 46) (by rfl) (by decide) (by rfl) (gcn 156 (by decide)).1 (gcn 156 (by decide)).2 rfl (Nat.le_of_ble_eq_true rfl) (by omega) (cM_isParty hsz (n := n - 1) (by omega) mi ml a r_a hq.1 hq.2) ?_
  rintro _ _ ⟨rfl, rfl⟩
  refine Go.run hsz hn1 0 (pc' := 5) (lv' := [some (gr 148), some (gi a), some (gi w)]) (st' := [gi (b2 (0 ≤ a ∧ a ≤ mi 148 6 - 1))]) (M' := gw mi ml) rfl ?_
  refine Go.if_eq (by rfl) (b2_rng _) (fun kq1 => ?_) (fun kq1 => ?_)
  · replace kq1 := b2_neg kq1
    refine Go.run hsz hn1 2 (pc' := 20) (lv' := [some (gr 148), some (gi a), some (gi w)]) (st' := [gi 0, gr 148]) (M' := gw mi ml) rfl ?_
    refine Go.callV (As := [gi 0]) (b := 148) (st := []) (mc1 := 0) (mc := 0) (ms1 := 0) (ms := 0) (by rfl) rfl (c := 11) (N := 46) (by rfl) (by decide) (by rfl) (gcn 154 (by decide)).1 (gcn 154 (by decide)).2 rfl (Nat.le_of_ble_eq_true rfl) (by omega) (cM_finds hsz (n := n - 1) (by omega) mi ml 0 (by decide) (by decide)) ?_
    rintro _ _ ⟨rfl, rfl⟩
    refine Go.run hsz hn1 0 (pc' := 23) (lv' := [some (gr 148), some (gi a), some (gi w)]) (st' := [gi (-1000001)]) (M' := gw (mFd mi 0) ml) rfl ?_
    refine Go.iret (by rfl) ?_
    first | (exact Or.inl ⟨by omega, rfl, rfl⟩) | (exact Or.inr (Or.inl ⟨by omega, rfl, rfl⟩)) | (exact Or.inr (Or.inr (Or.inl ⟨by omega, rfl, rfl⟩))) | (exact Or.inr (Or.inr (Or.inr (⟨by omega, rfl, rfl⟩))))
  · replace kq1 := b2_pos kq1
    refine Go.run hsz hn1 3 (pc' := 12) (lv' := [some (gr 148), some (gi a), some (gi w)]) (st' := [gi 9, gi 0, gi w]) (M' := gw mi ml) rfl ?_
    refine Go.callS (As := [gi w, gi 0, gi 9]) (st := []) (mc1 := 0) (mc := 0) (ms1 := 0) (ms := 0) (by rfl) rfl (gcn 153 (by decide)).1 (gcn 153 (by decide)).2 (Nat.le_of_ble_eq_true rfl) (by omega) (cM_in hsz (n := n - 1) (by omega) mi ml w 0 9 r_w ⟨by decide, by decide⟩ ⟨by decide, by decide⟩) ?_
    rintro _ _ ⟨rfl, rfl⟩
    refine Go.run hsz hn1 0 (pc' := 15) (lv' := [some (gr 148), some (gi a), some (gi w)]) (st' := [gi (b2 (0 ≤ w ∧ w ≤ 9))]) (M' := gw mi ml) rfl ?_
    refine Go.if_ne (by rfl) (b2_rng _) (fun kq2 => ?_) (fun kq2 => ?_)
    · replace kq2 := b2_pos kq2
      refine Go.run hsz hn1 2 (pc' := 27) (lv' := [some (gr 148), some (gi a), some (gi w)]) (st' := [gi 9, gi w]) (M' := gw mi ml) rfl ?_
      refine Go.icmp_ne (by rfl) r_w ⟨by decide, by decide⟩ (fun kq3 => ?_) (fun kq3 => ?_)
      · refine Go.run hsz hn1 3 (pc' := 49) (lv' := [some (gr 148), some (gi a), some (gi w)]) (st' := [gi w, gi a, gr 148]) (M' := gw mi ml) rfl ?_
        refine Go.callV (As := [gi a, gi w]) (b := 148) (st := []) (mc1 := 0) (mc := 0) (ms1 := 0) (ms := 0) (by rfl) rfl (c := 11) (N := 46) (by rfl) (by decide) (by rfl) (gcn 165 (by decide)).1 (gcn 165 (by decide)).2 rfl (Nat.le_of_ble_eq_true rfl) (by omega) (cM_of hsz (n := n - 1) (by omega) mi ml a w (by omega) (by omega) (by omega) (by omega)) ?_
        rintro _ _ ⟨rfl, rfl⟩
        refine Go.run hsz hn1 0 (pc' := 52) (lv' := [some (gr 148), some (gi a), some (gi w)]) (st' := [gi (mOf mi a w)]) (M' := gw mi ml) rfl ?_
        refine Go.iret (by rfl) ?_
        first | (exact Or.inl ⟨by omega, rfl, rfl⟩) | (exact Or.inr (Or.inl ⟨by omega, rfl, rfl⟩)) | (exact Or.inr (Or.inr (Or.inl ⟨by omega, rfl, rfl⟩))) | (exact Or.inr (Or.inr (Or.inr (⟨by omega, rfl, rfl⟩))))
      · refine Go.run hsz hn1 2 (pc' := 32) (lv' := [some (gr 148), some (gi a), some (gi w)]) (st' := [gi a, gr 148]) (M' := gw mi ml) rfl ?_
        refine Go.callV (As := [gi a]) (b := 148) (st := []) (mc1 := 0) (mc := 0) (ms1 := 0) (ms := 0) (by rfl) rfl (c := 11) (N := 46) (by rfl) (by decide) (by rfl) (gcn 166 (by decide)).1 (gcn 166 (by decide)).2 rfl (Nat.le_of_ble_eq_true rfl) (by omega) (cM_hasCome hsz (n := n - 1) (by omega) mi ml a (by omega) (by omega) hR) ?_
        rintro _ _ ⟨rfl, rfl⟩
        refine Go.run hsz hn1 0 (pc' := 35) (lv' := [some (gr 148), some (gi a), some (gi w)]) (st' := [gi (b2 (mOf mi a 4 ≤ mi 148 0))]) (M' := gw mi ml) rfl ?_
        refine Go.if_eq (by rfl) (b2_rng _) (fun kq4 => ?_) (fun kq4 => ?_)
        · replace kq4 := b2_neg kq4
          refine Go.run hsz hn1 2 (pc' := 52) (lv' := [some (gr 148), some (gi a), some (gi w)]) (st' := [gi 0]) (M' := gw mi ml) rfl ?_
          refine Go.iret (by rfl) ?_
          first | (exact Or.inl ⟨by omega, rfl, rfl⟩) | (exact Or.inr (Or.inl ⟨by omega, rfl, rfl⟩)) | (exact Or.inr (Or.inr (Or.inl ⟨by omega, rfl, rfl⟩))) | (exact Or.inr (Or.inr (Or.inr (⟨by omega, rfl, rfl⟩))))
        · replace kq4 := b2_pos kq4
          refine Go.run hsz hn1 2 (pc' := 52) (lv' := [some (gr 148), some (gi a), some (gi w)]) (st' := [gi 1]) (M' := gw mi ml) rfl ?_
          refine Go.iret (by rfl) ?_
          first | (exact Or.inl ⟨by omega, rfl, rfl⟩) | (exact Or.inr (Or.inl ⟨by omega, rfl, rfl⟩)) | (exact Or.inr (Or.inr (Or.inl ⟨by omega, rfl, rfl⟩))) | (exact Or.inr (Or.inr (Or.inr (⟨by omega, rfl, rfl⟩))))
    · replace kq2 := b2_neg kq2
      refine Go.run hsz hn1 2 (pc' := 20) (lv' := [some (gr 148), some (gi a), some (gi w)]) (st' := [gi 0, gr 148]) (M' := gw mi ml) rfl ?_
      refine Go.callV (As := [gi 0]) (b := 148) (st := []) (mc1 := 0) (mc := 0) (ms1 := 0) (ms := 0) (by rfl) rfl (c := 11) (N := 46) (by rfl) (by decide) (by rfl) (gcn 154 (by decide)).1 (gcn 154 (by decide)).2 rfl (Nat.le_of_ble_eq_true rfl) (by omega) (cM_finds hsz (n := n - 1) (by omega) mi ml 0 (by decide) (by decide)) ?_
      rintro _ _ ⟨rfl, rfl⟩
      refine Go.run hsz hn1 0 (pc' := 23) (lv' := [some (gr 148), some (gi a), some (gi w)]) (st' := [gi (-1000001)]) (M' := gw (mFd mi 0) ml) rfl ?_
      refine Go.iret (by rfl) ?_
      first | (exact Or.inl ⟨by omega, rfl, rfl⟩) | (exact Or.inr (Or.inl ⟨by omega, rfl, rfl⟩)) | (exact Or.inr (Or.inr (Or.inl ⟨by omega, rfl, rfl⟩))) | (exact Or.inr (Or.inr (Or.inr (⟨by omega, rfl, rfl⟩))))
set_option maxRecDepth 100000 in
set_option maxHeartbeats 4000000 in
theorem pM_why {G : gG} (hsz : G.2.2.2.2.2.2 = true) {n : Nat} (hn : 5 ≤ n) (mi : Nat → Nat → Int) (ml : Nat → Nat → Int64) (a p : Int) (r_a : rng a) (r_p : rng p) (hv : SV mi)  : gM G 170 n 0 0 [gr 148, gi a, gi p] (gw mi ml) (fun r M => gE ((0 ≤ a ∧ a ≤ mi 148 6 - 1) ∧ (0 ≤ p ∧ p ≤ mi 148 2 - 1)) (mWhy mi a p) (mi) ml r M ∨ gE (¬ ((0 ≤ a ∧ a ≤ mi 148 6 - 1) ∧ (0 ≤ p ∧ p ≤ mi 148 2 - 1))) (-1000001) (mFd mi 0) ml r M) := by
  have hn1 : 1 ≤ n := by omega
  obtain ⟨hR, ht, hp, hq, hP, hQ⟩ := id hv
  refine gM.of mX12_why okX12_why (gcp 170 (by decide)).1 (gcp 170 (by decide)).2 (Nat.le_of_ble_eq_true rfl) ?_
  refine Go.run hsz hn1 2 (pc' := 2) (lv' := [some (gr 148), some (gi a), some (gi p)]) (st' := [gi a, gr 148]) (M' := gw mi ml) rfl ?_
  refine Go.callV (As := [gi a]) (b := 148) (st := []) (mc1 := 0) (mc := 0) (ms1 := 0) (ms := 0) (by rfl) rfl (c := 11) (N := 46) (by rfl) (by decide) (by rfl) (gcn 156 (by decide)).1 (gcn 156 (by decide)).2 rfl (Nat.le_of_ble_eq_true rfl) (by omega) (cM_isParty hsz (n := n - 1) (by omega) mi ml a r_a hq.1 hq.2) ?_
  rintro _ _ ⟨rfl, rfl⟩
  refine Go.run hsz hn1 0 (pc' := 5) (lv' := [some (gr 148), some (gi a), some (gi p)]) (st' := [gi (b2 (0 ≤ a ∧ a ≤ mi 148 6 - 1))]) (M' := gw mi ml) rfl ?_
  refine Go.if_eq (by rfl) (b2_rng _) (fun kq1 => ?_) (fun kq1 => ?_)
  · replace kq1 := b2_neg kq1
    refine Go.run hsz hn1 2 (pc' := 27) (lv' := [some (gr 148), some (gi a), some (gi p)]) (st' := [gi 0, gr 148]) (M' := gw mi ml) rfl ?_
    refine Go.callV (As := [gi 0]) (b := 148) (st := []) (mc1 := 0) (mc := 0) (ms1 := 0) (ms := 0) (by rfl) rfl (c := 11) (N := 46) (by rfl) (by decide) (by rfl) (gcn 154 (by decide)).1 (gcn 154 (by decide)).2 rfl (Nat.le_of_ble_eq_true rfl) (by omega) (cM_finds hsz (n := n - 1) (by omega) mi ml 0 (by decide) (by decide)) ?_
    rintro _ _ ⟨rfl, rfl⟩
    refine Go.run hsz hn1 0 (pc' := 30) (lv' := [some (gr 148), some (gi a), some (gi p)]) (st' := [gi (-1000001)]) (M' := gw (mFd mi 0) ml) rfl ?_
    refine Go.iret (by rfl) ?_
    first | (exact Or.inl ⟨by omega, rfl, rfl⟩) | (exact Or.inr (⟨by omega, rfl, rfl⟩))
  · replace kq1 := b2_pos kq1
    refine Go.run hsz hn1 2 (pc' := 10) (lv' := [some (gr 148), some (gi a), some (gi p)]) (st' := [gi p, gr 148]) (M' := gw mi ml) rfl ?_
    refine Go.callV (As := [gi p]) (b := 148) (st := []) (mc1 := 0) (mc := 0) (ms1 := 0) (ms := 0) (by rfl) rfl (c := 11) (N := 46) (by rfl) (by decide) (by rfl) (gcn 155 (by decide)).1 (gcn 155 (by decide)).2 rfl (Nat.le_of_ble_eq_true rfl) (by omega) (cM_isPitch hsz (n := n - 1) (by omega) mi ml p r_p hp.1 hp.2) ?_
    rintro _ _ ⟨rfl, rfl⟩
    refine Go.run hsz hn1 0 (pc' := 13) (lv' := [some (gr 148), some (gi a), some (gi p)]) (st' := [gi (b2 (0 ≤ p ∧ p ≤ mi 148 2 - 1))]) (M' := gw mi ml) rfl ?_
    refine Go.if_eq (by rfl) (b2_rng _) (fun kq2 => ?_) (fun kq2 => ?_)
    · replace kq2 := b2_neg kq2
      refine Go.run hsz hn1 2 (pc' := 27) (lv' := [some (gr 148), some (gi a), some (gi p)]) (st' := [gi 0, gr 148]) (M' := gw mi ml) rfl ?_
      refine Go.callV (As := [gi 0]) (b := 148) (st := []) (mc1 := 0) (mc := 0) (ms1 := 0) (ms := 0) (by rfl) rfl (c := 11) (N := 46) (by rfl) (by decide) (by rfl) (gcn 154 (by decide)).1 (gcn 154 (by decide)).2 rfl (Nat.le_of_ble_eq_true rfl) (by omega) (cM_finds hsz (n := n - 1) (by omega) mi ml 0 (by decide) (by decide)) ?_
      rintro _ _ ⟨rfl, rfl⟩
      refine Go.run hsz hn1 0 (pc' := 30) (lv' := [some (gr 148), some (gi a), some (gi p)]) (st' := [gi (-1000001)]) (M' := gw (mFd mi 0) ml) rfl ?_
      refine Go.iret (by rfl) ?_
      first | (exact Or.inl ⟨by omega, rfl, rfl⟩) | (exact Or.inr (⟨by omega, rfl, rfl⟩))
    · replace kq2 := b2_pos kq2
      refine Go.run hsz hn1 3 (pc' := 19) (lv' := [some (gr 148), some (gi a), some (gi p)]) (st' := [gi p, gi a, gr 148]) (M' := gw mi ml) rfl ?_
      refine Go.callV (As := [gi a, gi p]) (b := 148) (st := []) (mc1 := 0) (mc := 0) (ms1 := 0) (ms := 0) (by rfl) rfl (c := 11) (N := 46) (by rfl) (by decide) (by rfl) (gcn 169 (by decide)).1 (gcn 169 (by decide)).2 rfl (Nat.le_of_ble_eq_true rfl) (by omega) (cM_whyNot hsz (n := n - 1) (by omega) mi ml a p (by omega) (by omega) (by omega) (by omega) hR (hP _ (by omega) (by omega))) ?_
      rintro _ _ ⟨rfl, rfl⟩
      refine Go.run hsz hn1 1 (pc' := 30) (lv' := [some (gr 148), some (gi a), some (gi p)]) (st' := [gi (mWhy mi a p)]) (M' := gw mi ml) rfl ?_
      refine Go.iret (by rfl) ?_
      first | (exact Or.inl ⟨by omega, rfl, rfl⟩) | (exact Or.inr (⟨by omega, rfl, rfl⟩))
set_option maxRecDepth 100000 in
set_option maxHeartbeats 4000000 in
theorem pM_near {G : gG} (hsz : G.2.2.2.2.2.2 = true) {n : Nat} (hn : 4 ≤ n) (mi : Nat → Nat → Int) (ml : Nat → Nat → Int64) (a b : Int) (r_a : rng a) (r_b : rng b) (hv : SV mi)  : gM G 171 n 0 0 [gr 148, gi a, gi b] (gw mi ml) (fun r M => gE ((0 ≤ a ∧ a ≤ mi 148 6 - 1) ∧ (b = -1 ∨ (0 ≤ b ∧ b ≤ mi 148 6 - 1)) ∧ ¬ a = b) (mOf mi a 7) (gu mi 152 (12 * a + 7).toNat b) ml r M ∨ gE (¬ ((0 ≤ a ∧ a ≤ mi 148 6 - 1) ∧ (b = -1 ∨ (0 ≤ b ∧ b ≤ mi 148 6 - 1)) ∧ ¬ a = b)) (-1000001) (mFd mi 0) ml r M) := by
  have hn1 : 1 ≤ n := by omega
  obtain ⟨hR, ht, hp, hq, hP, hQ⟩ := id hv
  refine gM.of mX12_near okX12_near (gcp 171 (by decide)).1 (gcp 171 (by decide)).2 (Nat.le_of_ble_eq_true rfl) ?_
  refine Go.run hsz hn1 2 (pc' := 2) (lv' := [some (gr 148), some (gi a), some (gi b), none]) (st' := [gi a, gr 148]) (M' := gw mi ml) rfl ?_
  refine Go.callV (As := [gi a]) (b := 148) (st := []) (mc1 := 0) (mc := 0) (ms1 := 0) (ms := 0) (by rfl) rfl (c := 11) (N := 46) (by rfl) (by decide) (by rfl) (gcn 156 (by decide)).1 (gcn 156 (by decide)).2 rfl (Nat.le_of_ble_eq_true rfl) (by omega) (cM_isParty hsz (n := n - 1) (by omega) mi ml a r_a hq.1 hq.2) ?_
  rintro _ _ ⟨rfl, rfl⟩
  refine Go.run hsz hn1 0 (pc' := 5) (lv' := [some (gr 148), some (gi a), some (gi b), none]) (st' := [gi (b2 (0 ≤ a ∧ a ≤ mi 148 6 - 1))]) (M' := gw mi ml) rfl ?_
  refine Go.if_eq (by rfl) (b2_rng _) (fun kq1 => ?_) (fun kq1 => ?_)
  · replace kq1 := b2_neg kq1
    refine Go.run hsz hn1 2 (pc' := 28) (lv' := [some (gr 148), some (gi a), some (gi b), none]) (st' := [gi 0, gr 148]) (M' := gw mi ml) rfl ?_
    refine Go.callV (As := [gi 0]) (b := 148) (st := []) (mc1 := 0) (mc := 0) (ms1 := 0) (ms := 0) (by rfl) rfl (c := 11) (N := 46) (by rfl) (by decide) (by rfl) (gcn 154 (by decide)).1 (gcn 154 (by decide)).2 rfl (Nat.le_of_ble_eq_true rfl) (by omega) (cM_finds hsz (n := n - 1) (by omega) mi ml 0 (by decide) (by decide)) ?_
    rintro _ _ ⟨rfl, rfl⟩
    refine Go.run hsz hn1 0 (pc' := 31) (lv' := [some (gr 148), some (gi a), some (gi b), none]) (st' := [gi (-1000001)]) (M' := gw (mFd mi 0) ml) rfl ?_
    refine Go.iret (by rfl) ?_
    first | (exact Or.inl ⟨by omega, rfl, rfl⟩) | (exact Or.inr (⟨by omega, rfl, rfl⟩))
  · replace kq1 := b2_pos kq1
    refine Go.run hsz hn1 2 (pc' := 10) (lv' := [some (gr 148), some (gi a), some (gi b), none]) (st' := [gi (-1), gi b]) (M' := gw mi ml) rfl ?_
    refine Go.icmp_eq (by rfl) r_b ⟨by decide, by decide⟩ (fun kq2 => ?_) (fun kq2 => ?_)
    · refine Go.run hsz hn1 2 (pc' := 23) (lv' := [some (gr 148), some (gi a), some (gi b), none]) (st' := [gi b, gi a]) (M' := gw mi ml) rfl ?_
      refine Go.icmp_ne (by rfl) r_a r_b (fun kq3 => ?_) (fun kq3 => ?_)
      · refine Go.run hsz hn1 3 (pc' := 36) (lv' := [some (gr 148), some (gi a), some (gi b), none]) (st' := [gi 7, gi a, gr 148]) (M' := gw mi ml) rfl ?_
        refine Go.callV (As := [gi a, gi 7]) (b := 148) (st := []) (mc1 := 0) (mc := 0) (ms1 := 0) (ms := 0) (by rfl) rfl (c := 11) (N := 46) (by rfl) (by decide) (by rfl) (gcn 165 (by decide)).1 (gcn 165 (by decide)).2 rfl (Nat.le_of_ble_eq_true rfl) (by omega) (cM_of hsz (n := n - 1) (by omega) mi ml a 7 (by omega) (by omega) (by omega) (by omega)) ?_
        rintro _ _ ⟨rfl, rfl⟩
        refine Go.run hsz hn1 9 (pc' := 52) (lv' := [some (gr 148), some (gi a), some (gi b), some (gi (mOf mi a 7))]) (st' := [gi b, gi ((12 * a) + 7), gr 152]) (M' := gw mi ml) rfl ?_
        refine Go.iast (by rfl) (N := 288) (by rfl) (by omega) (by omega) (by decide) ?_
        refine Go.run hsz hn1 1 (pc' := 54) (lv' := [some (gr 148), some (gi a), some (gi b), some (gi (mOf mi a 7))]) (st' := [gi (mOf mi a 7)]) (M' := gw (gu mi 152 (((12 * a) + 7).toNat) b) ml) rfl ?_
        refine Go.iret (by rfl) ?_
        first | (exact Or.inl ⟨by omega, rfl, rfl⟩) | (exact Or.inr (⟨by omega, rfl, rfl⟩))
      · refine Go.run hsz hn1 2 (pc' := 28) (lv' := [some (gr 148), some (gi a), some (gi b), none]) (st' := [gi 0, gr 148]) (M' := gw mi ml) rfl ?_
        refine Go.callV (As := [gi 0]) (b := 148) (st := []) (mc1 := 0) (mc := 0) (ms1 := 0) (ms := 0) (by rfl) rfl (c := 11) (N := 46) (by rfl) (by decide) (by rfl) (gcn 154 (by decide)).1 (gcn 154 (by decide)).2 rfl (Nat.le_of_ble_eq_true rfl) (by omega) (cM_finds hsz (n := n - 1) (by omega) mi ml 0 (by decide) (by decide)) ?_
        rintro _ _ ⟨rfl, rfl⟩
        refine Go.run hsz hn1 0 (pc' := 31) (lv' := [some (gr 148), some (gi a), some (gi b), none]) (st' := [gi (-1000001)]) (M' := gw (mFd mi 0) ml) rfl ?_
        refine Go.iret (by rfl) ?_
        first | (exact Or.inl ⟨by omega, rfl, rfl⟩) | (exact Or.inr (⟨by omega, rfl, rfl⟩))
    · refine Go.run hsz hn1 2 (pc' := 15) (lv' := [some (gr 148), some (gi a), some (gi b), none]) (st' := [gi b, gr 148]) (M' := gw mi ml) rfl ?_
      refine Go.callV (As := [gi b]) (b := 148) (st := []) (mc1 := 0) (mc := 0) (ms1 := 0) (ms := 0) (by rfl) rfl (c := 11) (N := 46) (by rfl) (by decide) (by rfl) (gcn 156 (by decide)).1 (gcn 156 (by decide)).2 rfl (Nat.le_of_ble_eq_true rfl) (by omega) (cM_isParty hsz (n := n - 1) (by omega) mi ml b r_b hq.1 hq.2) ?_
      rintro _ _ ⟨rfl, rfl⟩
      refine Go.run hsz hn1 0 (pc' := 18) (lv' := [some (gr 148), some (gi a), some (gi b), none]) (st' := [gi (b2 (0 ≤ b ∧ b ≤ mi 148 6 - 1))]) (M' := gw mi ml) rfl ?_
      refine Go.if_eq (by rfl) (b2_rng _) (fun kq4 => ?_) (fun kq4 => ?_)
      · replace kq4 := b2_neg kq4
        refine Go.run hsz hn1 2 (pc' := 28) (lv' := [some (gr 148), some (gi a), some (gi b), none]) (st' := [gi 0, gr 148]) (M' := gw mi ml) rfl ?_
        refine Go.callV (As := [gi 0]) (b := 148) (st := []) (mc1 := 0) (mc := 0) (ms1 := 0) (ms := 0) (by rfl) rfl (c := 11) (N := 46) (by rfl) (by decide) (by rfl) (gcn 154 (by decide)).1 (gcn 154 (by decide)).2 rfl (Nat.le_of_ble_eq_true rfl) (by omega) (cM_finds hsz (n := n - 1) (by omega) mi ml 0 (by decide) (by decide)) ?_
        rintro _ _ ⟨rfl, rfl⟩
        refine Go.run hsz hn1 0 (pc' := 31) (lv' := [some (gr 148), some (gi a), some (gi b), none]) (st' := [gi (-1000001)]) (M' := gw (mFd mi 0) ml) rfl ?_
        refine Go.iret (by rfl) ?_
        first | (exact Or.inl ⟨by omega, rfl, rfl⟩) | (exact Or.inr (⟨by omega, rfl, rfl⟩))
      · replace kq4 := b2_pos kq4
        refine Go.run hsz hn1 2 (pc' := 23) (lv' := [some (gr 148), some (gi a), some (gi b), none]) (st' := [gi b, gi a]) (M' := gw mi ml) rfl ?_
        refine Go.icmp_ne (by rfl) r_a r_b (fun kq5 => ?_) (fun kq5 => ?_)
        · refine Go.run hsz hn1 3 (pc' := 36) (lv' := [some (gr 148), some (gi a), some (gi b), none]) (st' := [gi 7, gi a, gr 148]) (M' := gw mi ml) rfl ?_
          refine Go.callV (As := [gi a, gi 7]) (b := 148) (st := []) (mc1 := 0) (mc := 0) (ms1 := 0) (ms := 0) (by rfl) rfl (c := 11) (N := 46) (by rfl) (by decide) (by rfl) (gcn 165 (by decide)).1 (gcn 165 (by decide)).2 rfl (Nat.le_of_ble_eq_true rfl) (by omega) (cM_of hsz (n := n - 1) (by omega) mi ml a 7 (by omega) (by omega) (by omega) (by omega)) ?_
          rintro _ _ ⟨rfl, rfl⟩
          refine Go.run hsz hn1 9 (pc' := 52) (lv' := [some (gr 148), some (gi a), some (gi b), some (gi (mOf mi a 7))]) (st' := [gi b, gi ((12 * a) + 7), gr 152]) (M' := gw mi ml) rfl ?_
          refine Go.iast (by rfl) (N := 288) (by rfl) (by omega) (by omega) (by decide) ?_
          refine Go.run hsz hn1 1 (pc' := 54) (lv' := [some (gr 148), some (gi a), some (gi b), some (gi (mOf mi a 7))]) (st' := [gi (mOf mi a 7)]) (M' := gw (gu mi 152 (((12 * a) + 7).toNat) b) ml) rfl ?_
          refine Go.iret (by rfl) ?_
          first | (exact Or.inl ⟨by omega, rfl, rfl⟩) | (exact Or.inr (⟨by omega, rfl, rfl⟩))
        · refine Go.run hsz hn1 2 (pc' := 28) (lv' := [some (gr 148), some (gi a), some (gi b), none]) (st' := [gi 0, gr 148]) (M' := gw mi ml) rfl ?_
          refine Go.callV (As := [gi 0]) (b := 148) (st := []) (mc1 := 0) (mc := 0) (ms1 := 0) (ms := 0) (by rfl) rfl (c := 11) (N := 46) (by rfl) (by decide) (by rfl) (gcn 154 (by decide)).1 (gcn 154 (by decide)).2 rfl (Nat.le_of_ble_eq_true rfl) (by omega) (cM_finds hsz (n := n - 1) (by omega) mi ml 0 (by decide) (by decide)) ?_
          rintro _ _ ⟨rfl, rfl⟩
          refine Go.run hsz hn1 0 (pc' := 31) (lv' := [some (gr 148), some (gi a), some (gi b), none]) (st' := [gi (-1000001)]) (M' := gw (mFd mi 0) ml) rfl ?_
          refine Go.iret (by rfl) ?_
          first | (exact Or.inl ⟨by omega, rfl, rfl⟩) | (exact Or.inr (⟨by omega, rfl, rfl⟩))
set_option maxRecDepth 100000 in
set_option maxHeartbeats 4000000 in
theorem pM_put {G : gG} (hsz : G.2.2.2.2.2.2 = true) {n : Nat} (hn : 5 ≤ n) (mi : Nat → Nat → Int) (ml : Nat → Nat → Int64) (a p : Int) (r_a : rng a) (r_p : rng p) (hv : SV mi)  : gM G 175 n 0 0 [gr 148, gi a, gi p] (gw mi ml) (fun r M => gE (¬ ((0 ≤ a ∧ a ≤ mi 148 6 - 1) ∧ (0 ≤ p ∧ p ≤ mi 148 2 - 1))) (-1000001) (mFd mi 0) ml r M ∨ gE ((0 ≤ a ∧ a ≤ mi 148 6 - 1) ∧ (0 ≤ p ∧ p ≤ mi 148 2 - 1) ∧ (mOf mi a 6 = -2 ∨ (0 ≤ mOf mi a 6 ∧ mOf mi a 4 ≤ mi 148 0))) (-1000005) (mFd mi 4) ml r M ∨ gE ((0 ≤ a ∧ a ≤ mi 148 6 - 1) ∧ (0 ≤ p ∧ p ≤ mi 148 2 - 1) ∧ ¬ (mOf mi a 6 = -2 ∨ (0 ≤ mOf mi a 6 ∧ mOf mi a 4 ≤ mi 148 0)) ∧ ¬ mWhy mi a p = 0) (-1000003) (mFd mi 2) ml r M ∨ gE ((0 ≤ a ∧ a ≤ mi 148 6 - 1) ∧ (0 ≤ p ∧ p ≤ mi 148 2 - 1) ∧ ¬ (mOf mi a 6 = -2 ∨ (0 ≤ mOf mi a 6 ∧ mOf mi a 4 ≤ mi 148 0)) ∧ mWhy mi a p = 0 ∧ mFree mi a p = 0) (-1000004) (mFd mi 3) ml r M ∨ gE ((0 ≤ a ∧ a ≤ mi 148 6 - 1) ∧ (0 ≤ p ∧ p ≤ mi 148 2 - 1) ∧ ¬ (mOf mi a 6 = -2 ∨ (0 ≤ mOf mi a 6 ∧ mOf mi a 4 ≤ mi 148 0)) ∧ mWhy mi a p = 0 ∧ ¬ mFree mi a p = 0) (mOf mi a 6) (gu mi 152 (12 * a + 6).toNat p) ml r M) := by
  have hn1 : 1 ≤ n := by omega
  obtain ⟨hR, ht, hp, hq, hP, hQ⟩ := id hv
  refine gM.of mX12_put okX12_put (gcp 175 (by decide)).1 (gcp 175 (by decide)).2 (Nat.le_of_ble_eq_true rfl) ?_
  refine Go.run hsz hn1 2 (pc' := 2) (lv' := [some (gr 148), some (gi a), some (gi p), none]) (st' := [gi a, gr 148]) (M' := gw mi ml) rfl ?_
  refine Go.callV (As := [gi a]) (b := 148) (st := []) (mc1 := 0) (mc := 0) (ms1 := 0) (ms := 0) (by rfl) rfl (c := 11) (N := 46) (by rfl) (by decide) (by rfl) (gcn 156 (by decide)).1 (gcn 156 (by decide)).2 rfl (Nat.le_of_ble_eq_true rfl) (by omega) (cM_isParty hsz (n := n - 1) (by omega) mi ml a r_a hq.1 hq.2) ?_
  rintro _ _ ⟨rfl, rfl⟩
  refine Go.run hsz hn1 0 (pc' := 5) (lv' := [some (gr 148), some (gi a), some (gi p), none]) (st' := [gi (b2 (0 ≤ a ∧ a ≤ mi 148 6 - 1))]) (M' := gw mi ml) rfl ?_
  refine Go.if_eq (by rfl) (b2_rng _) (fun kq1 => ?_) (fun kq1 => ?_)
  · replace kq1 := b2_neg kq1
    refine Go.run hsz hn1 2 (pc' := 18) (lv' := [some (gr 148), some (gi a), some (gi p), none]) (st' := [gi 0, gr 148]) (M' := gw mi ml) rfl ?_
    refine Go.callV (As := [gi 0]) (b := 148) (st := []) (mc1 := 0) (mc := 0) (ms1 := 0) (ms := 0) (by rfl) rfl (c := 11) (N := 46) (by rfl) (by decide) (by rfl) (gcn 154 (by decide)).1 (gcn 154 (by decide)).2 rfl (Nat.le_of_ble_eq_true rfl) (by omega) (cM_finds hsz (n := n - 1) (by omega) mi ml 0 (by decide) (by decide)) ?_
    rintro _ _ ⟨rfl, rfl⟩
    refine Go.run hsz hn1 0 (pc' := 21) (lv' := [some (gr 148), some (gi a), some (gi p), none]) (st' := [gi (-1000001)]) (M' := gw (mFd mi 0) ml) rfl ?_
    refine Go.iret (by rfl) ?_
    first | (exact Or.inl ⟨by omega, rfl, rfl⟩) | (exact Or.inr (Or.inl ⟨by omega, rfl, rfl⟩)) | (exact Or.inr (Or.inr (Or.inl ⟨by omega, rfl, rfl⟩))) | (exact Or.inr (Or.inr (Or.inr (Or.inl ⟨by omega, rfl, rfl⟩)))) | (exact Or.inr (Or.inr (Or.inr (Or.inr (⟨by omega, rfl, rfl⟩)))))
  · replace kq1 := b2_pos kq1
    refine Go.run hsz hn1 2 (pc' := 10) (lv' := [some (gr 148), some (gi a), some (gi p), none]) (st' := [gi p, gr 148]) (M' := gw mi ml) rfl ?_
    refine Go.callV (As := [gi p]) (b := 148) (st := []) (mc1 := 0) (mc := 0) (ms1 := 0) (ms := 0) (by rfl) rfl (c := 11) (N := 46) (by rfl) (by decide) (by rfl) (gcn 155 (by decide)).1 (gcn 155 (by decide)).2 rfl (Nat.le_of_ble_eq_true rfl) (by omega) (cM_isPitch hsz (n := n - 1) (by omega) mi ml p r_p hp.1 hp.2) ?_
    rintro _ _ ⟨rfl, rfl⟩
    refine Go.run hsz hn1 0 (pc' := 13) (lv' := [some (gr 148), some (gi a), some (gi p), none]) (st' := [gi (b2 (0 ≤ p ∧ p ≤ mi 148 2 - 1))]) (M' := gw mi ml) rfl ?_
    refine Go.if_ne (by rfl) (b2_rng _) (fun kq2 => ?_) (fun kq2 => ?_)
    · replace kq2 := b2_pos kq2
      refine Go.run hsz hn1 3 (pc' := 26) (lv' := [some (gr 148), some (gi a), some (gi p), none]) (st' := [gi 6, gi a, gr 148]) (M' := gw mi ml) rfl ?_
      refine Go.callV (As := [gi a, gi 6]) (b := 148) (st := []) (mc1 := 0) (mc := 0) (ms1 := 0) (ms := 0) (by rfl) rfl (c := 11) (N := 46) (by rfl) (by decide) (by rfl) (gcn 165 (by decide)).1 (gcn 165 (by decide)).2 rfl (Nat.le_of_ble_eq_true rfl) (by omega) (cM_of hsz (n := n - 1) (by omega) mi ml a 6 (by omega) (by omega) (by omega) (by omega)) ?_
      rintro _ _ ⟨rfl, rfl⟩
      refine Go.run hsz hn1 3 (pc' := 33) (lv' := [some (gr 148), some (gi a), some (gi p), some (gi (mOf mi a 6))]) (st' := [gi (-2), gi (mOf mi a 6)]) (M' := gw mi ml) rfl ?_
      refine Go.icmp_eq (by rfl) (hR _ _) ⟨by decide, by decide⟩ (fun kq3 => ?_) (fun kq3 => ?_)
      · refine Go.run hsz hn1 2 (pc' := 50) (lv' := [some (gr 148), some (gi a), some (gi p), some (gi (mOf mi a 6))]) (st' := [gi 4, gr 148]) (M' := gw mi ml) rfl ?_
        refine Go.callV (As := [gi 4]) (b := 148) (st := []) (mc1 := 0) (mc := 0) (ms1 := 0) (ms := 0) (by rfl) rfl (c := 11) (N := 46) (by rfl) (by decide) (by rfl) (gcn 154 (by decide)).1 (gcn 154 (by decide)).2 rfl (Nat.le_of_ble_eq_true rfl) (by omega) (cM_finds hsz (n := n - 1) (by omega) mi ml 4 (by decide) (by decide)) ?_
        rintro _ _ ⟨rfl, rfl⟩
        refine Go.run hsz hn1 0 (pc' := 53) (lv' := [some (gr 148), some (gi a), some (gi p), some (gi (mOf mi a 6))]) (st' := [gi (-1000005)]) (M' := gw (mFd mi 4) ml) rfl ?_
        refine Go.iret (by rfl) ?_
        first | (exact Or.inl ⟨by omega, rfl, rfl⟩) | (exact Or.inr (Or.inl ⟨by omega, rfl, rfl⟩)) | (exact Or.inr (Or.inr (Or.inl ⟨by omega, rfl, rfl⟩))) | (exact Or.inr (Or.inr (Or.inr (Or.inl ⟨by omega, rfl, rfl⟩)))) | (exact Or.inr (Or.inr (Or.inr (Or.inr (⟨by omega, rfl, rfl⟩)))))
      · refine Go.run hsz hn1 1 (pc' := 37) (lv' := [some (gr 148), some (gi a), some (gi p), some (gi (mOf mi a 6))]) (st' := [gi (mOf mi a 6)]) (M' := gw mi ml) rfl ?_
        refine Go.if_lt (by rfl) (hR _ _) (fun kq4 => ?_) (fun kq4 => ?_)
        · refine Go.run hsz hn1 3 (pc' := 57) (lv' := [some (gr 148), some (gi a), some (gi p), some (gi (mOf mi a 6))]) (st' := [gi p, gi a, gr 148]) (M' := gw mi ml) rfl ?_
          refine Go.callV (As := [gi a, gi p]) (b := 148) (st := []) (mc1 := 0) (mc := 0) (ms1 := 0) (ms := 0) (by rfl) rfl (c := 11) (N := 46) (by rfl) (by decide) (by rfl) (gcn 169 (by decide)).1 (gcn 169 (by decide)).2 rfl (Nat.le_of_ble_eq_true rfl) (by omega) (cM_whyNot hsz (n := n - 1) (by omega) mi ml a p (by omega) (by omega) (by omega) (by omega) hR (hP _ (by omega) (by omega))) ?_
          rintro _ _ ⟨rfl, rfl⟩
          refine Go.run hsz hn1 0 (pc' := 60) (lv' := [some (gr 148), some (gi a), some (gi p), some (gi (mOf mi a 6))]) (st' := [gi (mWhy mi a p)]) (M' := gw mi ml) rfl ?_
          refine Go.if_eq (by rfl) ⟨by have := mWhy_b mi a p; omega, by have := mWhy_b mi a p; omega⟩ (fun kq5 => ?_) (fun kq5 => ?_)
          · refine Go.run hsz hn1 3 (pc' := 72) (lv' := [some (gr 148), some (gi a), some (gi p), some (gi (mOf mi a 6))]) (st' := [gi p, gi a, gr 148]) (M' := gw mi ml) rfl ?_
            refine Go.callV (As := [gi a, gi p]) (b := 148) (st := []) (mc1 := 0) (mc := 0) (ms1 := 0) (ms := 0) (by rfl) rfl (c := 11) (N := 46) (by rfl) (by decide) (by rfl) (gcn 174 (by decide)).1 (gcn 174 (by decide)).2 rfl (Nat.le_of_ble_eq_true rfl) (by omega) (cM_isFreeFor hsz (n := n - 1) (by omega) mi ml a p (by omega) (by omega) r_p hv) ?_
            rintro _ _ ⟨rfl, rfl⟩
            refine Go.run hsz hn1 0 (pc' := 75) (lv' := [some (gr 148), some (gi a), some (gi p), some (gi (mOf mi a 6))]) (st' := [gi (mFree mi a p)]) (M' := gw mi ml) rfl ?_
            refine Go.if_ne (by rfl) (b2_rng _) (fun kq6 => ?_) (fun kq6 => ?_)
            · refine Go.run hsz hn1 8 (pc' := 96) (lv' := [some (gr 148), some (gi a), some (gi p), some (gi (mOf mi a 6))]) (st' := [gi p, gi ((12 * a) + 6), gr 152]) (M' := gw mi ml) rfl ?_
              refine Go.iast (by rfl) (N := 288) (by rfl) (by omega) (by omega) (by decide) ?_
              refine Go.run hsz hn1 1 (pc' := 98) (lv' := [some (gr 148), some (gi a), some (gi p), some (gi (mOf mi a 6))]) (st' := [gi (mOf mi a 6)]) (M' := gw (gu mi 152 (((12 * a) + 6).toNat) p) ml) rfl ?_
              refine Go.iret (by rfl) ?_
              first | (exact Or.inl ⟨by omega, rfl, rfl⟩) | (exact Or.inr (Or.inl ⟨by omega, rfl, rfl⟩)) | (exact Or.inr (Or.inr (Or.inl ⟨by omega, rfl, rfl⟩))) | (exact Or.inr (Or.inr (Or.inr (Or.inl ⟨by omega, rfl, rfl⟩)))) | (exact Or.inr (Or.inr (Or.inr (Or.inr (⟨by omega, rfl, rfl⟩)))))
            · refine Go.run hsz hn1 2 (pc' := 80) (lv' := [some (gr 148), some (gi a), some (gi p), some (gi (mOf mi a 6))]) (st' := [gi 3, gr 148]) (M' := gw mi ml) rfl ?_
              refine Go.callV (As := [gi 3]) (b := 148) (st := []) (mc1 := 0) (mc := 0) (ms1 := 0) (ms := 0) (by rfl) rfl (c := 11) (N := 46) (by rfl) (by decide) (by rfl) (gcn 154 (by decide)).1 (gcn 154 (by decide)).2 rfl (Nat.le_of_ble_eq_true rfl) (by omega) (cM_finds hsz (n := n - 1) (by omega) mi ml 3 (by decide) (by decide)) ?_
              rintro _ _ ⟨rfl, rfl⟩
              refine Go.run hsz hn1 0 (pc' := 83) (lv' := [some (gr 148), some (gi a), some (gi p), some (gi (mOf mi a 6))]) (st' := [gi (-1000004)]) (M' := gw (mFd mi 3) ml) rfl ?_
              refine Go.iret (by rfl) ?_
              first | (exact Or.inl ⟨by omega, rfl, rfl⟩) | (exact Or.inr (Or.inl ⟨by omega, rfl, rfl⟩)) | (exact Or.inr (Or.inr (Or.inl ⟨by omega, rfl, rfl⟩))) | (exact Or.inr (Or.inr (Or.inr (Or.inl ⟨by omega, rfl, rfl⟩)))) | (exact Or.inr (Or.inr (Or.inr (Or.inr (⟨by omega, rfl, rfl⟩)))))
          · refine Go.run hsz hn1 2 (pc' := 65) (lv' := [some (gr 148), some (gi a), some (gi p), some (gi (mOf mi a 6))]) (st' := [gi 2, gr 148]) (M' := gw mi ml) rfl ?_
            refine Go.callV (As := [gi 2]) (b := 148) (st := []) (mc1 := 0) (mc := 0) (ms1 := 0) (ms := 0) (by rfl) rfl (c := 11) (N := 46) (by rfl) (by decide) (by rfl) (gcn 154 (by decide)).1 (gcn 154 (by decide)).2 rfl (Nat.le_of_ble_eq_true rfl) (by omega) (cM_finds hsz (n := n - 1) (by omega) mi ml 2 (by decide) (by decide)) ?_
            rintro _ _ ⟨rfl, rfl⟩
            refine Go.run hsz hn1 0 (pc' := 68) (lv' := [some (gr 148), some (gi a), some (gi p), some (gi (mOf mi a 6))]) (st' := [gi (-1000003)]) (M' := gw (mFd mi 2) ml) rfl ?_
            refine Go.iret (by rfl) ?_
            first | (exact Or.inl ⟨by omega, rfl, rfl⟩) | (exact Or.inr (Or.inl ⟨by omega, rfl, rfl⟩)) | (exact Or.inr (Or.inr (Or.inl ⟨by omega, rfl, rfl⟩))) | (exact Or.inr (Or.inr (Or.inr (Or.inl ⟨by omega, rfl, rfl⟩)))) | (exact Or.inr (Or.inr (Or.inr (Or.inr (⟨by omega, rfl, rfl⟩)))))
        · refine Go.run hsz hn1 2 (pc' := 42) (lv' := [some (gr 148), some (gi a), some (gi p), some (gi (mOf mi a 6))]) (st' := [gi a, gr 148]) (M' := gw mi ml) rfl ?_
          refine Go.callV (As := [gi a]) (b := 148) (st := []) (mc1 := 0) (mc := 0) (ms1 := 0) (ms := 0) (by rfl) rfl (c := 11) (N := 46) (by rfl) (by decide) (by rfl) (gcn 166 (by decide)).1 (gcn 166 (by decide)).2 rfl (Nat.le_of_ble_eq_true rfl) (by omega) (cM_hasCome hsz (n := n - 1) (by omega) mi ml a (by omega) (by omega) hR) ?_
          rintro _ _ ⟨rfl, rfl⟩
          refine Go.run hsz hn1 0 (pc' := 45) (lv' := [some (gr 148), some (gi a), some (gi p), some (gi (mOf mi a 6))]) (st' := [gi (b2 (mOf mi a 4 ≤ mi 148 0))]) (M' := gw mi ml) rfl ?_
          refine Go.if_eq (by rfl) (b2_rng _) (fun kq7 => ?_) (fun kq7 => ?_)
          · replace kq7 := b2_neg kq7
            refine Go.run hsz hn1 3 (pc' := 57) (lv' := [some (gr 148), some (gi a), some (gi p), some (gi (mOf mi a 6))]) (st' := [gi p, gi a, gr 148]) (M' := gw mi ml) rfl ?_
            refine Go.callV (As := [gi a, gi p]) (b := 148) (st := []) (mc1 := 0) (mc := 0) (ms1 := 0) (ms := 0) (by rfl) rfl (c := 11) (N := 46) (by rfl) (by decide) (by rfl) (gcn 169 (by decide)).1 (gcn 169 (by decide)).2 rfl (Nat.le_of_ble_eq_true rfl) (by omega) (cM_whyNot hsz (n := n - 1) (by omega) mi ml a p (by omega) (by omega) (by omega) (by omega) hR (hP _ (by omega) (by omega))) ?_
            rintro _ _ ⟨rfl, rfl⟩
            refine Go.run hsz hn1 0 (pc' := 60) (lv' := [some (gr 148), some (gi a), some (gi p), some (gi (mOf mi a 6))]) (st' := [gi (mWhy mi a p)]) (M' := gw mi ml) rfl ?_
            refine Go.if_eq (by rfl) ⟨by have := mWhy_b mi a p; omega, by have := mWhy_b mi a p; omega⟩ (fun kq8 => ?_) (fun kq8 => ?_)
            · refine Go.run hsz hn1 3 (pc' := 72) (lv' := [some (gr 148), some (gi a), some (gi p), some (gi (mOf mi a 6))]) (st' := [gi p, gi a, gr 148]) (M' := gw mi ml) rfl ?_
              refine Go.callV (As := [gi a, gi p]) (b := 148) (st := []) (mc1 := 0) (mc := 0) (ms1 := 0) (ms := 0) (by rfl) rfl (c := 11) (N := 46) (by rfl) (by decide) (by rfl) (gcn 174 (by decide)).1 (gcn 174 (by decide)).2 rfl (Nat.le_of_ble_eq_true rfl) (by omega) (cM_isFreeFor hsz (n := n - 1) (by omega) mi ml a p (by omega) (by omega) r_p hv) ?_
              rintro _ _ ⟨rfl, rfl⟩
              refine Go.run hsz hn1 0 (pc' := 75) (lv' := [some (gr 148), some (gi a), some (gi p), some (gi (mOf mi a 6))]) (st' := [gi (mFree mi a p)]) (M' := gw mi ml) rfl ?_
              refine Go.if_ne (by rfl) (b2_rng _) (fun kq9 => ?_) (fun kq9 => ?_)
              · refine Go.run hsz hn1 8 (pc' := 96) (lv' := [some (gr 148), some (gi a), some (gi p), some (gi (mOf mi a 6))]) (st' := [gi p, gi ((12 * a) + 6), gr 152]) (M' := gw mi ml) rfl ?_
                refine Go.iast (by rfl) (N := 288) (by rfl) (by omega) (by omega) (by decide) ?_
                refine Go.run hsz hn1 1 (pc' := 98) (lv' := [some (gr 148), some (gi a), some (gi p), some (gi (mOf mi a 6))]) (st' := [gi (mOf mi a 6)]) (M' := gw (gu mi 152 (((12 * a) + 6).toNat) p) ml) rfl ?_
                refine Go.iret (by rfl) ?_
                first | (exact Or.inl ⟨by omega, rfl, rfl⟩) | (exact Or.inr (Or.inl ⟨by omega, rfl, rfl⟩)) | (exact Or.inr (Or.inr (Or.inl ⟨by omega, rfl, rfl⟩))) | (exact Or.inr (Or.inr (Or.inr (Or.inl ⟨by omega, rfl, rfl⟩)))) | (exact Or.inr (Or.inr (Or.inr (Or.inr (⟨by omega, rfl, rfl⟩)))))
              · refine Go.run hsz hn1 2 (pc' := 80) (lv' := [some (gr 148), some (gi a), some (gi p), some (gi (mOf mi a 6))]) (st' := [gi 3, gr 148]) (M' := gw mi ml) rfl ?_
                refine Go.callV (As := [gi 3]) (b := 148) (st := []) (mc1 := 0) (mc := 0) (ms1 := 0) (ms := 0) (by rfl) rfl (c := 11) (N := 46) (by rfl) (by decide) (by rfl) (gcn 154 (by decide)).1 (gcn 154 (by decide)).2 rfl (Nat.le_of_ble_eq_true rfl) (by omega) (cM_finds hsz (n := n - 1) (by omega) mi ml 3 (by decide) (by decide)) ?_
                rintro _ _ ⟨rfl, rfl⟩
                refine Go.run hsz hn1 0 (pc' := 83) (lv' := [some (gr 148), some (gi a), some (gi p), some (gi (mOf mi a 6))]) (st' := [gi (-1000004)]) (M' := gw (mFd mi 3) ml) rfl ?_
                refine Go.iret (by rfl) ?_
                first | (exact Or.inl ⟨by omega, rfl, rfl⟩) | (exact Or.inr (Or.inl ⟨by omega, rfl, rfl⟩)) | (exact Or.inr (Or.inr (Or.inl ⟨by omega, rfl, rfl⟩))) | (exact Or.inr (Or.inr (Or.inr (Or.inl ⟨by omega, rfl, rfl⟩)))) | (exact Or.inr (Or.inr (Or.inr (Or.inr (⟨by omega, rfl, rfl⟩)))))
            · refine Go.run hsz hn1 2 (pc' := 65) (lv' := [some (gr 148), some (gi a), some (gi p), some (gi (mOf mi a 6))]) (st' := [gi 2, gr 148]) (M' := gw mi ml) rfl ?_
              refine Go.callV (As := [gi 2]) (b := 148) (st := []) (mc1 := 0) (mc := 0) (ms1 := 0) (ms := 0) (by rfl) rfl (c := 11) (N := 46) (by rfl) (by decide) (by rfl) (gcn 154 (by decide)).1 (gcn 154 (by decide)).2 rfl (Nat.le_of_ble_eq_true rfl) (by omega) (cM_finds hsz (n := n - 1) (by omega) mi ml 2 (by decide) (by decide)) ?_
              rintro _ _ ⟨rfl, rfl⟩
              refine Go.run hsz hn1 0 (pc' := 68) (lv' := [some (gr 148), some (gi a), some (gi p), some (gi (mOf mi a 6))]) (st' := [gi (-1000003)]) (M' := gw (mFd mi 2) ml) rfl ?_
              refine Go.iret (by rfl) ?_
              first | (exact Or.inl ⟨by omega, rfl, rfl⟩) | (exact Or.inr (Or.inl ⟨by omega, rfl, rfl⟩)) | (exact Or.inr (Or.inr (Or.inl ⟨by omega, rfl, rfl⟩))) | (exact Or.inr (Or.inr (Or.inr (Or.inl ⟨by omega, rfl, rfl⟩)))) | (exact Or.inr (Or.inr (Or.inr (Or.inr (⟨by omega, rfl, rfl⟩)))))
          · replace kq7 := b2_pos kq7
            refine Go.run hsz hn1 2 (pc' := 50) (lv' := [some (gr 148), some (gi a), some (gi p), some (gi (mOf mi a 6))]) (st' := [gi 4, gr 148]) (M' := gw mi ml) rfl ?_
            refine Go.callV (As := [gi 4]) (b := 148) (st := []) (mc1 := 0) (mc := 0) (ms1 := 0) (ms := 0) (by rfl) rfl (c := 11) (N := 46) (by rfl) (by decide) (by rfl) (gcn 154 (by decide)).1 (gcn 154 (by decide)).2 rfl (Nat.le_of_ble_eq_true rfl) (by omega) (cM_finds hsz (n := n - 1) (by omega) mi ml 4 (by decide) (by decide)) ?_
            rintro _ _ ⟨rfl, rfl⟩
            refine Go.run hsz hn1 0 (pc' := 53) (lv' := [some (gr 148), some (gi a), some (gi p), some (gi (mOf mi a 6))]) (st' := [gi (-1000005)]) (M' := gw (mFd mi 4) ml) rfl ?_
            refine Go.iret (by rfl) ?_
            first | (exact Or.inl ⟨by omega, rfl, rfl⟩) | (exact Or.inr (Or.inl ⟨by omega, rfl, rfl⟩)) | (exact Or.inr (Or.inr (Or.inl ⟨by omega, rfl, rfl⟩))) | (exact Or.inr (Or.inr (Or.inr (Or.inl ⟨by omega, rfl, rfl⟩)))) | (exact Or.inr (Or.inr (Or.inr (Or.inr (⟨by omega, rfl, rfl⟩)))))
    · replace kq2 := b2_neg kq2
      refine Go.run hsz hn1 2 (pc' := 18) (lv' := [some (gr 148), some (gi a), some (gi p), none]) (st' := [gi 0, gr 148]) (M' := gw mi ml) rfl ?_
      refine Go.callV (As := [gi 0]) (b := 148) (st := []) (mc1 := 0) (mc := 0) (ms1 := 0) (ms := 0) (by rfl) rfl (c := 11) (N := 46) (by rfl) (by decide) (by rfl) (gcn 154 (by decide)).1 (gcn 154 (by decide)).2 rfl (Nat.le_of_ble_eq_true rfl) (by omega) (cM_finds hsz (n := n - 1) (by omega) mi ml 0 (by decide) (by decide)) ?_
      rintro _ _ ⟨rfl, rfl⟩
      refine Go.run hsz hn1 0 (pc' := 21) (lv' := [some (gr 148), some (gi a), some (gi p), none]) (st' := [gi (-1000001)]) (M' := gw (mFd mi 0) ml) rfl ?_
      refine Go.iret (by rfl) ?_
      first | (exact Or.inl ⟨by omega, rfl, rfl⟩) | (exact Or.inr (Or.inl ⟨by omega, rfl, rfl⟩)) | (exact Or.inr (Or.inr (Or.inl ⟨by omega, rfl, rfl⟩))) | (exact Or.inr (Or.inr (Or.inr (Or.inl ⟨by omega, rfl, rfl⟩)))) | (exact Or.inr (Or.inr (Or.inr (Or.inr (⟨by omega, rfl, rfl⟩)))))
set_option maxRecDepth 100000 in
set_option maxHeartbeats 4000000 in
theorem pM_nights {G : gG} (hsz : G.2.2.2.2.2.2 = true) {n : Nat} (hn : 3 ≤ n) (mi : Nat → Nat → Int) (ml : Nat → Nat → Int64) (x : Int) (r_x : rng x) (hv : SV mi)  : gM G 176 n 0 0 [gr 148, gi x] (gw mi ml) (fun r M => gE (¬ (1 ≤ x ∧ x ≤ 50)) (-1000001) (mFd mi 0) ml r M ∨ gE ((1 ≤ x ∧ x ≤ 50) ∧ 99 < mi 148 0 + x) (-1000005) (mFd mi 4) ml r M ∨ gE ((1 ≤ x ∧ x ≤ 50) ∧ ¬ 99 < mi 148 0 + x) (mi 148 0 + x) (gu mi 148 0 (mi 148 0 + x)) ml r M) := by
  have hn1 : 1 ≤ n := by omega
  obtain ⟨hR, ht, hp, hq, hP, hQ⟩ := id hv
  refine gM.of mX12_nights okX12_nights (gcp 176 (by decide)).1 (gcp 176 (by decide)).2 (Nat.le_of_ble_eq_true rfl) ?_
  refine Go.run hsz hn1 3 (pc' := 4) (lv' := [some (gr 148), some (gi x)]) (st' := [gi 50, gi 1, gi x]) (M' := gw mi ml) rfl ?_
  refine Go.callS (As := [gi x, gi 1, gi 50]) (st := []) (mc1 := 0) (mc := 0) (ms1 := 0) (ms := 0) (by rfl) rfl (gcn 153 (by decide)).1 (gcn 153 (by decide)).2 (Nat.le_of_ble_eq_true rfl) (by omega) (cM_in hsz (n := n - 1) (by omega) mi ml x 1 50 r_x ⟨by decide, by decide⟩ ⟨by decide, by decide⟩) ?_
  rintro _ _ ⟨rfl, rfl⟩
  refine Go.run hsz hn1 0 (pc' := 7) (lv' := [some (gr 148), some (gi x)]) (st' := [gi (b2 (1 ≤ x ∧ x ≤ 50))]) (M' := gw mi ml) rfl ?_
  refine Go.if_ne (by rfl) (b2_rng _) (fun kq1 => ?_) (fun kq1 => ?_)
  · replace kq1 := b2_pos kq1
    refine Go.run hsz hn1 5 (pc' := 24) (lv' := [some (gr 148), some (gi x)]) (st' := [gi 99, gi ((mi 148 0) + x)]) (M' := gw mi ml) rfl ?_
    refine Go.icmp_le (by rfl) ⟨by omega, by omega⟩ ⟨by decide, by decide⟩ (fun kq2 => ?_) (fun kq2 => ?_)
    · refine Go.run hsz hn1 8 (pc' := 47) (lv' := [some (gr 148), some (gi x)]) (st' := [gi ((mi 148 0) + x)]) (M' := gw (gu mi 148 0 ((mi 148 0) + x)) ml) rfl ?_
      refine Go.iret (by rfl) ?_
      first | (exact Or.inl ⟨by omega, rfl, rfl⟩) | (exact Or.inr (Or.inl ⟨by omega, rfl, rfl⟩)) | (exact Or.inr (Or.inr (⟨by omega, rfl, rfl⟩)))
    · refine Go.run hsz hn1 2 (pc' := 29) (lv' := [some (gr 148), some (gi x)]) (st' := [gi 4, gr 148]) (M' := gw mi ml) rfl ?_
      refine Go.callV (As := [gi 4]) (b := 148) (st := []) (mc1 := 0) (mc := 0) (ms1 := 0) (ms := 0) (by rfl) rfl (c := 11) (N := 46) (by rfl) (by decide) (by rfl) (gcn 154 (by decide)).1 (gcn 154 (by decide)).2 rfl (Nat.le_of_ble_eq_true rfl) (by omega) (cM_finds hsz (n := n - 1) (by omega) mi ml 4 (by decide) (by decide)) ?_
      rintro _ _ ⟨rfl, rfl⟩
      refine Go.run hsz hn1 0 (pc' := 32) (lv' := [some (gr 148), some (gi x)]) (st' := [gi (-1000005)]) (M' := gw (mFd mi 4) ml) rfl ?_
      refine Go.iret (by rfl) ?_
      first | (exact Or.inl ⟨by omega, rfl, rfl⟩) | (exact Or.inr (Or.inl ⟨by omega, rfl, rfl⟩)) | (exact Or.inr (Or.inr (⟨by omega, rfl, rfl⟩)))
  · replace kq1 := b2_neg kq1
    refine Go.run hsz hn1 2 (pc' := 12) (lv' := [some (gr 148), some (gi x)]) (st' := [gi 0, gr 148]) (M' := gw mi ml) rfl ?_
    refine Go.callV (As := [gi 0]) (b := 148) (st := []) (mc1 := 0) (mc := 0) (ms1 := 0) (ms := 0) (by rfl) rfl (c := 11) (N := 46) (by rfl) (by decide) (by rfl) (gcn 154 (by decide)).1 (gcn 154 (by decide)).2 rfl (Nat.le_of_ble_eq_true rfl) (by omega) (cM_finds hsz (n := n - 1) (by omega) mi ml 0 (by decide) (by decide)) ?_
    rintro _ _ ⟨rfl, rfl⟩
    refine Go.run hsz hn1 0 (pc' := 15) (lv' := [some (gr 148), some (gi x)]) (st' := [gi (-1000001)]) (M' := gw (mFd mi 0) ml) rfl ?_
    refine Go.iret (by rfl) ?_
    first | (exact Or.inl ⟨by omega, rfl, rfl⟩) | (exact Or.inr (Or.inl ⟨by omega, rfl, rfl⟩)) | (exact Or.inr (Or.inr (⟨by omega, rfl, rfl⟩)))
set_option maxRecDepth 100000 in
set_option maxHeartbeats 4000000 in
theorem pM_who {G : gG} (hsz : G.2.2.2.2.2.2 = true) {n : Nat} (hn : 5 ≤ n) (mi : Nat → Nat → Int) (ml : Nat → Nat → Int64) (p x : Int) (r_p : rng p) (r_x : rng x) (hv : SV mi)  : gM G 178 n 0 0 [gr 148, gi p, gi x] (gw mi ml) (fun r M => gE ((0 ≤ p ∧ p ≤ mi 148 2 - 1) ∧ (0 ≤ x ∧ x ≤ 99)) (mWho mi p x (mi 148 6).toNat) (mi) ml r M ∨ gE (¬ ((0 ≤ p ∧ p ≤ mi 148 2 - 1) ∧ (0 ≤ x ∧ x ≤ 99))) (-1000001) (mFd mi 0) ml r M) := by
  have hn1 : 1 ≤ n := by omega
  obtain ⟨hR, ht, hp, hq, hP, hQ⟩ := id hv
  refine gM.of mX12_who okX12_who (gcp 178 (by decide)).1 (gcp 178 (by decide)).2 (Nat.le_of_ble_eq_true rfl) ?_
  refine Go.run hsz hn1 2 (pc' := 2) (lv' := [some (gr 148), some (gi p), some (gi x)]) (st' := [gi p, gr 148]) (M' := gw mi ml) rfl ?_
  refine Go.callV (As := [gi p]) (b := 148) (st := []) (mc1 := 0) (mc := 0) (ms1 := 0) (ms := 0) (by rfl) rfl (c := 11) (N := 46) (by rfl) (by decide) (by rfl) (gcn 155 (by decide)).1 (gcn 155 (by decide)).2 rfl (Nat.le_of_ble_eq_true rfl) (by omega) (cM_isPitch hsz (n := n - 1) (by omega) mi ml p r_p hp.1 hp.2) ?_
  rintro _ _ ⟨rfl, rfl⟩
  refine Go.run hsz hn1 0 (pc' := 5) (lv' := [some (gr 148), some (gi p), some (gi x)]) (st' := [gi (b2 (0 ≤ p ∧ p ≤ mi 148 2 - 1))]) (M' := gw mi ml) rfl ?_
  refine Go.if_eq (by rfl) (b2_rng _) (fun kq1 => ?_) (fun kq1 => ?_)
  · replace kq1 := b2_neg kq1
    refine Go.run hsz hn1 2 (pc' := 26) (lv' := [some (gr 148), some (gi p), some (gi x)]) (st' := [gi 0, gr 148]) (M' := gw mi ml) rfl ?_
    refine Go.callV (As := [gi 0]) (b := 148) (st := []) (mc1 := 0) (mc := 0) (ms1 := 0) (ms := 0) (by rfl) rfl (c := 11) (N := 46) (by rfl) (by decide) (by rfl) (gcn 154 (by decide)).1 (gcn 154 (by decide)).2 rfl (Nat.le_of_ble_eq_true rfl) (by omega) (cM_finds hsz (n := n - 1) (by omega) mi ml 0 (by decide) (by decide)) ?_
    rintro _ _ ⟨rfl, rfl⟩
    refine Go.run hsz hn1 0 (pc' := 29) (lv' := [some (gr 148), some (gi p), some (gi x)]) (st' := [gi (-1000001)]) (M' := gw (mFd mi 0) ml) rfl ?_
    refine Go.iret (by rfl) ?_
    first | (exact Or.inl ⟨by omega, rfl, rfl⟩) | (exact Or.inr (⟨by omega, rfl, rfl⟩))
  · replace kq1 := b2_pos kq1
    refine Go.run hsz hn1 1 (pc' := 9) (lv' := [some (gr 148), some (gi p), some (gi x)]) (st' := [gi x]) (M' := gw mi ml) rfl ?_
    refine Go.callS (As := [gi x]) (st := []) (mc1 := 0) (mc := 0) (ms1 := 0) (ms := 0) (by rfl) rfl (gcn 157 (by decide)).1 (gcn 157 (by decide)).2 (Nat.le_of_ble_eq_true rfl) (by omega) (cM_isNight hsz (n := n - 1) (by omega) mi ml x r_x) ?_
    rintro _ _ ⟨rfl, rfl⟩
    refine Go.run hsz hn1 0 (pc' := 12) (lv' := [some (gr 148), some (gi p), some (gi x)]) (st' := [gi (b2 (0 ≤ x ∧ x ≤ 99))]) (M' := gw mi ml) rfl ?_
    refine Go.if_eq (by rfl) (b2_rng _) (fun kq2 => ?_) (fun kq2 => ?_)
    · replace kq2 := b2_neg kq2
      refine Go.run hsz hn1 2 (pc' := 26) (lv' := [some (gr 148), some (gi p), some (gi x)]) (st' := [gi 0, gr 148]) (M' := gw mi ml) rfl ?_
      refine Go.callV (As := [gi 0]) (b := 148) (st := []) (mc1 := 0) (mc := 0) (ms1 := 0) (ms := 0) (by rfl) rfl (c := 11) (N := 46) (by rfl) (by decide) (by rfl) (gcn 154 (by decide)).1 (gcn 154 (by decide)).2 rfl (Nat.le_of_ble_eq_true rfl) (by omega) (cM_finds hsz (n := n - 1) (by omega) mi ml 0 (by decide) (by decide)) ?_
      rintro _ _ ⟨rfl, rfl⟩
      refine Go.run hsz hn1 0 (pc' := 29) (lv' := [some (gr 148), some (gi p), some (gi x)]) (st' := [gi (-1000001)]) (M' := gw (mFd mi 0) ml) rfl ?_
      refine Go.iret (by rfl) ?_
      first | (exact Or.inl ⟨by omega, rfl, rfl⟩) | (exact Or.inr (⟨by omega, rfl, rfl⟩))
    · replace kq2 := b2_pos kq2
      refine Go.run hsz hn1 3 (pc' := 18) (lv' := [some (gr 148), some (gi p), some (gi x)]) (st' := [gi x, gi p, gr 148]) (M' := gw mi ml) rfl ?_
      refine Go.callV (As := [gi p, gi x]) (b := 148) (st := []) (mc1 := 0) (mc := 0) (ms1 := 0) (ms := 0) (by rfl) rfl (c := 11) (N := 46) (by rfl) (by decide) (by rfl) (gcn 177 (by decide)).1 (gcn 177 (by decide)).2 rfl (Nat.le_of_ble_eq_true rfl) (by omega) (cM_whoIn hsz (n := n - 1) (by omega) mi ml p x r_p r_x hv) ?_
      rintro _ _ ⟨rfl, rfl⟩
      refine Go.run hsz hn1 1 (pc' := 29) (lv' := [some (gr 148), some (gi p), some (gi x)]) (st' := [gi (mWho mi p x (mi 148 6).toNat)]) (M' := gw mi ml) rfl ?_
      refine Go.iret (by rfl) ?_
      first | (exact Or.inl ⟨by omega, rfl, rfl⟩) | (exact Or.inr (⟨by omega, rfl, rfl⟩))
set_option maxRecDepth 100000 in
set_option maxHeartbeats 4000000 in
theorem pM_apart {G : gG} (hsz : G.2.2.2.2.2.2 = true) {n : Nat} (hn : 5 ≤ n) (mi : Nat → Nat → Int) (ml : Nat → Nat → Int64)  (hv : SV mi)  : gM G 182 n 0 0 [gr 148] (gw mi ml) (fun r M => gE (True) (mApart mi (mi 148 6).toNat) (mi) ml r M) := by
  have hn1 : 1 ≤ n := by omega
  obtain ⟨hR, ht, hp, hq, hP, hQ⟩ := id hv
  refine gM.of mX12_apart okX12_apart (gcp 182 (by decide)).1 (gcp 182 (by decide)).2 (Nat.le_of_ble_eq_true rfl) ?_
  refine Go.run hsz hn1 1 (pc' := 1) (lv' := [some (gr 148)]) (st' := [gr 148]) (M' := gw mi ml) rfl ?_
  refine Go.callV (As := []) (b := 148) (st := []) (mc1 := 0) (mc := 0) (ms1 := 0) (ms := 0) (by rfl) rfl (c := 11) (N := 46) (by rfl) (by decide) (by rfl) (gcn 181 (by decide)).1 (gcn 181 (by decide)).2 rfl (Nat.le_of_ble_eq_true rfl) (by omega) (cM_apartNow hsz (n := n - 1) (by omega) mi ml  hv) ?_
  rintro _ _ ⟨rfl, rfl⟩
  refine Go.run hsz hn1 0 (pc' := 4) (lv' := [some (gr 148)]) (st' := [gi (mApart mi (mi 148 6).toNat)]) (M' := gw mi ml) rfl ?_
  refine Go.iret (by rfl) ?_
  first | (exact ⟨trivial, rfl, rfl⟩)
set_option maxRecDepth 100000 in
set_option maxHeartbeats 4000000 in
theorem pM_wipe {G : gG} (hsz : G.2.2.2.2.2.2 = true) {n : Nat} (hn : 2 ≤ n) (mi : Nat → Nat → Int) (ml : Nat → Nat → Int64)  (hv : SV mi)  : gM G 188 n 0 0 [gr 148] (gw mi ml) (fun r M => gE (True) (mi 148 22) (gu mi 148 22 0) ml r M) := by
  have hn1 : 1 ≤ n := by omega
  obtain ⟨hR, ht, hp, hq, hP, hQ⟩ := id hv
  refine gM.of mX12_wipe okX12_wipe (gcp 188 (by decide)).1 (gcp 188 (by decide)).2 (Nat.le_of_ble_eq_true rfl) ?_
  refine Go.run hsz hn1 7 (pc' := 11) (lv' := [some (gr 148), some (gi (mi 148 22))]) (st' := [gi (mi 148 22)]) (M' := gw (gu mi 148 22 0) ml) rfl ?_
  refine Go.iret (by rfl) ?_
  first | (exact ⟨trivial, rfl, rfl⟩)
set_option maxRecDepth 100000 in
set_option maxHeartbeats 4000000 in
theorem pM_dry {G : gG} (hsz : G.2.2.2.2.2.2 = true) {n : Nat} (hn : 2 ≤ n) (mi : Nat → Nat → Int) (ml : Nat → Nat → Int64)  (hv : SV mi)  : gM G 233 n 0 0 [gr 148] (gw mi ml) (fun r M => gE (True) (mi 148 9) (gu mi 148 9 0) ml r M) := by
  have hn1 : 1 ≤ n := by omega
  obtain ⟨hR, ht, hp, hq, hP, hQ⟩ := id hv
  refine gM.of mX12_dry okX12_dry (gcp 233 (by decide)).1 (gcp 233 (by decide)).2 (Nat.le_of_ble_eq_true rfl) ?_
  refine Go.run hsz hn1 7 (pc' := 11) (lv' := [some (gr 148), some (gi (mi 148 9))]) (st' := [gi (mi 148 9)]) (M' := gw (gu mi 148 9 0) ml) rfl ?_
  refine Go.iret (by rfl) ?_
  first | (exact ⟨trivial, rfl, rfl⟩)
set_option maxRecDepth 100000 in
set_option maxHeartbeats 4000000 in
theorem pM_limit {G : gG} (hsz : G.2.2.2.2.2.2 = true) {n : Nat} (hn : 4 ≤ n) (mi : Nat → Nat → Int) (ml : Nat → Nat → Int64) (post v : Int) (r_post : rng post) (r_v : rng v) (hv : SV mi)  : gM G 220 n 0 0 [gr 148, gi post, gi v] (gw mi ml) (fun r M => gE ((0 ≤ post ∧ post ≤ 3) ∧ (0 ≤ v ∧ v ≤ 200)) (mi 153 post.toNat) (gu mi 153 post.toNat v) ml r M ∨ gE (¬ ((0 ≤ post ∧ post ≤ 3) ∧ (0 ≤ v ∧ v ≤ 200))) (-1000001) (mFd mi 0) ml r M) := by
  have hn1 : 1 ≤ n := by omega
  obtain ⟨hR, ht, hp, hq, hP, hQ⟩ := id hv
  refine gM.of mX12_limit okX12_limit (gcp 220 (by decide)).1 (gcp 220 (by decide)).2 (Nat.le_of_ble_eq_true rfl) ?_
  refine Go.run hsz hn1 1 (pc' := 1) (lv' := [some (gr 148), some (gi post), some (gi v), none]) (st' := [gi post]) (M' := gw mi ml) rfl ?_
  refine Go.callS (As := [gi post]) (st := []) (mc1 := 0) (mc := 0) (ms1 := 0) (ms := 0) (by rfl) rfl (gcn 219 (by decide)).1 (gcn 219 (by decide)).2 (Nat.le_of_ble_eq_true rfl) (by omega) (cM_isPost hsz (n := n - 1) (by omega) mi ml post r_post) ?_
  rintro _ _ ⟨rfl, rfl⟩
  refine Go.run hsz hn1 0 (pc' := 4) (lv' := [some (gr 148), some (gi post), some (gi v), none]) (st' := [gi (b2 (0 ≤ post ∧ post ≤ 3))]) (M' := gw mi ml) rfl ?_
  refine Go.if_eq (by rfl) (b2_rng _) (fun kq1 => ?_) (fun kq1 => ?_)
  · replace kq1 := b2_neg kq1
    refine Go.run hsz hn1 2 (pc' := 20) (lv' := [some (gr 148), some (gi post), some (gi v), none]) (st' := [gi 0, gr 148]) (M' := gw mi ml) rfl ?_
    refine Go.callV (As := [gi 0]) (b := 148) (st := []) (mc1 := 0) (mc := 0) (ms1 := 0) (ms := 0) (by rfl) rfl (c := 11) (N := 46) (by rfl) (by decide) (by rfl) (gcn 154 (by decide)).1 (gcn 154 (by decide)).2 rfl (Nat.le_of_ble_eq_true rfl) (by omega) (cM_finds hsz (n := n - 1) (by omega) mi ml 0 (by decide) (by decide)) ?_
    rintro _ _ ⟨rfl, rfl⟩
    refine Go.run hsz hn1 0 (pc' := 23) (lv' := [some (gr 148), some (gi post), some (gi v), none]) (st' := [gi (-1000001)]) (M' := gw (mFd mi 0) ml) rfl ?_
    refine Go.iret (by rfl) ?_
    first | (exact Or.inl ⟨by omega, rfl, rfl⟩) | (exact Or.inr (⟨by omega, rfl, rfl⟩))
  · replace kq1 := b2_pos kq1
    refine Go.run hsz hn1 3 (pc' := 12) (lv' := [some (gr 148), some (gi post), some (gi v), none]) (st' := [gi 200, gi 0, gi v]) (M' := gw mi ml) rfl ?_
    refine Go.callS (As := [gi v, gi 0, gi 200]) (st := []) (mc1 := 0) (mc := 0) (ms1 := 0) (ms := 0) (by rfl) rfl (gcn 153 (by decide)).1 (gcn 153 (by decide)).2 (Nat.le_of_ble_eq_true rfl) (by omega) (cM_in hsz (n := n - 1) (by omega) mi ml v 0 200 r_v ⟨by decide, by decide⟩ ⟨by decide, by decide⟩) ?_
    rintro _ _ ⟨rfl, rfl⟩
    refine Go.run hsz hn1 0 (pc' := 15) (lv' := [some (gr 148), some (gi post), some (gi v), none]) (st' := [gi (b2 (0 ≤ v ∧ v ≤ 200))]) (M' := gw mi ml) rfl ?_
    refine Go.if_ne (by rfl) (b2_rng _) (fun kq2 => ?_) (fun kq2 => ?_)
    · replace kq2 := b2_pos kq2
      refine Go.run hsz hn1 3 (pc' := 29) (lv' := [some (gr 148), some (gi post), some (gi v), none]) (st' := [gi post, gr 153]) (M' := gw mi ml) rfl ?_
      refine Go.iald (by rfl) (N := 4) (by rfl) (by omega) (by omega) (by decide) ?_
      refine Go.run hsz hn1 5 (pc' := 37) (lv' := [some (gr 148), some (gi post), some (gi v), some (gi (mi 153 post.toNat))]) (st' := [gi v, gi post, gr 153]) (M' := gw mi ml) rfl ?_
      refine Go.iast (by rfl) (N := 4) (by rfl) (by omega) (by omega) (by decide) ?_
      refine Go.run hsz hn1 1 (pc' := 39) (lv' := [some (gr 148), some (gi post), some (gi v), some (gi (mi 153 post.toNat))]) (st' := [gi (mi 153 post.toNat)]) (M' := gw (gu mi 153 post.toNat v) ml) rfl ?_
      refine Go.iret (by rfl) ?_
      first | (exact Or.inl ⟨by omega, rfl, rfl⟩) | (exact Or.inr (⟨by omega, rfl, rfl⟩))
    · replace kq2 := b2_neg kq2
      refine Go.run hsz hn1 2 (pc' := 20) (lv' := [some (gr 148), some (gi post), some (gi v), none]) (st' := [gi 0, gr 148]) (M' := gw mi ml) rfl ?_
      refine Go.callV (As := [gi 0]) (b := 148) (st := []) (mc1 := 0) (mc := 0) (ms1 := 0) (ms := 0) (by rfl) rfl (c := 11) (N := 46) (by rfl) (by decide) (by rfl) (gcn 154 (by decide)).1 (gcn 154 (by decide)).2 rfl (Nat.le_of_ble_eq_true rfl) (by omega) (cM_finds hsz (n := n - 1) (by omega) mi ml 0 (by decide) (by decide)) ?_
      rintro _ _ ⟨rfl, rfl⟩
      refine Go.run hsz hn1 0 (pc' := 23) (lv' := [some (gr 148), some (gi post), some (gi v), none]) (st' := [gi (-1000001)]) (M' := gw (mFd mi 0) ml) rfl ?_
      refine Go.iret (by rfl) ?_
      first | (exact Or.inl ⟨by omega, rfl, rfl⟩) | (exact Or.inr (⟨by omega, rfl, rfl⟩))
set_option maxRecDepth 100000 in
set_option maxHeartbeats 4000000 in
theorem pM_load {G : gG} (hsz : G.2.2.2.2.2.2 = true) {n : Nat} (hn : 6 ≤ n) (mi : Nat → Nat → Int) (ml : Nat → Nat → Int64) (post x : Int) (r_post : rng post) (r_x : rng x) (hv : SV mi)  : gM G 224 n 0 0 [gr 148, gi post, gi x] (gw mi ml) (fun r M => gE ((0 ≤ post ∧ post ≤ 3) ∧ (0 ≤ x ∧ x ≤ 23)) (mLoad mi post x (mi 148 6).toNat) (mi) ml r M ∨ gE (¬ ((0 ≤ post ∧ post ≤ 3) ∧ (0 ≤ x ∧ x ≤ 23))) (-1000001) (mFd mi 0) ml r M) := by
  have hn1 : 1 ≤ n := by omega
  obtain ⟨hR, ht, hp, hq, hP, hQ⟩ := id hv
  refine gM.of mX12_load okX12_load (gcp 224 (by decide)).1 (gcp 224 (by decide)).2 (Nat.le_of_ble_eq_true rfl) ?_
  refine Go.run hsz hn1 1 (pc' := 1) (lv' := [some (gr 148), some (gi post), some (gi x)]) (st' := [gi post]) (M' := gw mi ml) rfl ?_
  refine Go.callS (As := [gi post]) (st := []) (mc1 := 0) (mc := 0) (ms1 := 0) (ms := 0) (by rfl) rfl (gcn 219 (by decide)).1 (gcn 219 (by decide)).2 (Nat.le_of_ble_eq_true rfl) (by omega) (cM_isPost hsz (n := n - 1) (by omega) mi ml post r_post) ?_
  rintro _ _ ⟨rfl, rfl⟩
  refine Go.run hsz hn1 0 (pc' := 4) (lv' := [some (gr 148), some (gi post), some (gi x)]) (st' := [gi (b2 (0 ≤ post ∧ post ≤ 3))]) (M' := gw mi ml) rfl ?_
  refine Go.if_eq (by rfl) (b2_rng _) (fun kq1 => ?_) (fun kq1 => ?_)
  · replace kq1 := b2_neg kq1
    refine Go.run hsz hn1 2 (pc' := 28) (lv' := [some (gr 148), some (gi post), some (gi x)]) (st' := [gi 0, gr 148]) (M' := gw mi ml) rfl ?_
    refine Go.callV (As := [gi 0]) (b := 148) (st := []) (mc1 := 0) (mc := 0) (ms1 := 0) (ms := 0) (by rfl) rfl (c := 11) (N := 46) (by rfl) (by decide) (by rfl) (gcn 154 (by decide)).1 (gcn 154 (by decide)).2 rfl (Nat.le_of_ble_eq_true rfl) (by omega) (cM_finds hsz (n := n - 1) (by omega) mi ml 0 (by decide) (by decide)) ?_
    rintro _ _ ⟨rfl, rfl⟩
    refine Go.run hsz hn1 0 (pc' := 31) (lv' := [some (gr 148), some (gi post), some (gi x)]) (st' := [gi (-1000001)]) (M' := gw (mFd mi 0) ml) rfl ?_
    refine Go.iret (by rfl) ?_
    first | (exact Or.inl ⟨by omega, rfl, rfl⟩) | (exact Or.inr (⟨by omega, rfl, rfl⟩))
  · replace kq1 := b2_pos kq1
    refine Go.run hsz hn1 3 (pc' := 11) (lv' := [some (gr 148), some (gi post), some (gi x)]) (st' := [gi 23, gi 0, gi x]) (M' := gw mi ml) rfl ?_
    refine Go.callS (As := [gi x, gi 0, gi 23]) (st := []) (mc1 := 0) (mc := 0) (ms1 := 0) (ms := 0) (by rfl) rfl (gcn 153 (by decide)).1 (gcn 153 (by decide)).2 (Nat.le_of_ble_eq_true rfl) (by omega) (cM_in hsz (n := n - 1) (by omega) mi ml x 0 23 r_x ⟨by decide, by decide⟩ ⟨by decide, by decide⟩) ?_
    rintro _ _ ⟨rfl, rfl⟩
    refine Go.run hsz hn1 0 (pc' := 14) (lv' := [some (gr 148), some (gi post), some (gi x)]) (st' := [gi (b2 (0 ≤ x ∧ x ≤ 23))]) (M' := gw mi ml) rfl ?_
    refine Go.if_eq (by rfl) (b2_rng _) (fun kq2 => ?_) (fun kq2 => ?_)
    · replace kq2 := b2_neg kq2
      refine Go.run hsz hn1 2 (pc' := 28) (lv' := [some (gr 148), some (gi post), some (gi x)]) (st' := [gi 0, gr 148]) (M' := gw mi ml) rfl ?_
      refine Go.callV (As := [gi 0]) (b := 148) (st := []) (mc1 := 0) (mc := 0) (ms1 := 0) (ms := 0) (by rfl) rfl (c := 11) (N := 46) (by rfl) (by decide) (by rfl) (gcn 154 (by decide)).1 (gcn 154 (by decide)).2 rfl (Nat.le_of_ble_eq_true rfl) (by omega) (cM_finds hsz (n := n - 1) (by omega) mi ml 0 (by decide) (by decide)) ?_
      rintro _ _ ⟨rfl, rfl⟩
      refine Go.run hsz hn1 0 (pc' := 31) (lv' := [some (gr 148), some (gi post), some (gi x)]) (st' := [gi (-1000001)]) (M' := gw (mFd mi 0) ml) rfl ?_
      refine Go.iret (by rfl) ?_
      first | (exact Or.inl ⟨by omega, rfl, rfl⟩) | (exact Or.inr (⟨by omega, rfl, rfl⟩))
    · replace kq2 := b2_pos kq2
      refine Go.run hsz hn1 3 (pc' := 20) (lv' := [some (gr 148), some (gi post), some (gi x)]) (st' := [gi x, gi post, gr 148]) (M' := gw mi ml) rfl ?_
      refine Go.callV (As := [gi post, gi x]) (b := 148) (st := []) (mc1 := 0) (mc := 0) (ms1 := 0) (ms := 0) (by rfl) rfl (c := 11) (N := 46) (by rfl) (by decide) (by rfl) (gcn 223 (by decide)).1 (gcn 223 (by decide)).2 rfl (Nat.le_of_ble_eq_true rfl) (by omega) (cM_loadOf hsz (n := n - 1) (by omega) mi ml post x r_post hv) ?_
      rintro _ _ ⟨rfl, rfl⟩
      refine Go.run hsz hn1 1 (pc' := 31) (lv' := [some (gr 148), some (gi post), some (gi x)]) (st' := [gi (mLoad mi post x (mi 148 6).toNat)]) (M' := gw mi ml) rfl ?_
      refine Go.iret (by rfl) ?_
      first | (exact Or.inl ⟨by omega, rfl, rfl⟩) | (exact Or.inr (⟨by omega, rfl, rfl⟩))
set_option maxRecDepth 100000 in
set_option maxHeartbeats 4000000 in
theorem pM_use {G : gG} (hsz : G.2.2.2.2.2.2 = true) {n : Nat} (hn : 4 ≤ n) (mi : Nat → Nat → Int) (ml : Nat → Nat → Int64) (a x v : Int) (r_a : rng a) (r_x : rng x) (r_v : rng v) (hv : SV mi)  : gM G 218 n 0 0 [gr 148, gi a, gi x, gi v] (gw mi ml) (fun r M => gE ((0 ≤ a ∧ a ≤ mi 148 6 - 1) ∧ (0 ≤ x ∧ x ≤ 16777215) ∧ (0 ≤ v ∧ v ≤ 40)) (1) (gu (gu mi 152 (12 * a + 9).toNat x) 152 (12 * a + 10).toNat v) ml r M ∨ gE (¬ ((0 ≤ a ∧ a ≤ mi 148 6 - 1) ∧ (0 ≤ x ∧ x ≤ 16777215) ∧ (0 ≤ v ∧ v ≤ 40))) (-1000001) (mFd mi 0) ml r M) := by
  have hn1 : 1 ≤ n := by omega
  obtain ⟨hR, ht, hp, hq, hP, hQ⟩ := id hv
  refine gM.of mX12_use okX12_use (gcp 218 (by decide)).1 (gcp 218 (by decide)).2 (Nat.le_of_ble_eq_true rfl) ?_
  refine Go.run hsz hn1 2 (pc' := 2) (lv' := [some (gr 148), some (gi a), some (gi x), some (gi v)]) (st' := [gi a, gr 148]) (M' := gw mi ml) rfl ?_
  refine Go.callV (As := [gi a]) (b := 148) (st := []) (mc1 := 0) (mc := 0) (ms1 := 0) (ms := 0) (by rfl) rfl (c := 11) (N := 46) (by rfl) (by decide) (by rfl) (gcn 156 (by decide)).1 (gcn 156 (by decide)).2 rfl (Nat.le_of_ble_eq_true rfl) (by omega) (cM_isParty hsz (n := n - 1) (by omega) mi ml a r_a hq.1 hq.2) ?_
  rintro _ _ ⟨rfl, rfl⟩
  refine Go.run hsz hn1 0 (pc' := 5) (lv' := [some (gr 148), some (gi a), some (gi x), some (gi v)]) (st' := [gi (b2 (0 ≤ a ∧ a ≤ mi 148 6 - 1))]) (M' := gw mi ml) rfl ?_
  refine Go.if_eq (by rfl) (b2_rng _) (fun kq1 => ?_) (fun kq1 => ?_)
  · replace kq1 := b2_neg kq1
    refine Go.run hsz hn1 2 (pc' := 31) (lv' := [some (gr 148), some (gi a), some (gi x), some (gi v)]) (st' := [gi 0, gr 148]) (M' := gw mi ml) rfl ?_
    refine Go.callV (As := [gi 0]) (b := 148) (st := []) (mc1 := 0) (mc := 0) (ms1 := 0) (ms := 0) (by rfl) rfl (c := 11) (N := 46) (by rfl) (by decide) (by rfl) (gcn 154 (by decide)).1 (gcn 154 (by decide)).2 rfl (Nat.le_of_ble_eq_true rfl) (by omega) (cM_finds hsz (n := n - 1) (by omega) mi ml 0 (by decide) (by decide)) ?_
    rintro _ _ ⟨rfl, rfl⟩
    refine Go.run hsz hn1 0 (pc' := 34) (lv' := [some (gr 148), some (gi a), some (gi x), some (gi v)]) (st' := [gi (-1000001)]) (M' := gw (mFd mi 0) ml) rfl ?_
    refine Go.iret (by rfl) ?_
    first | (exact Or.inl ⟨by omega, rfl, rfl⟩) | (exact Or.inr (⟨by omega, rfl, rfl⟩))
  · replace kq1 := b2_pos kq1
    refine Go.run hsz hn1 3 (pc' := 13) (lv' := [some (gr 148), some (gi a), some (gi x), some (gi v)]) (st' := [gi 16777215, gi 0, gi x]) (M' := gw mi ml) rfl ?_
    refine Go.callS (As := [gi x, gi 0, gi 16777215]) (st := []) (mc1 := 0) (mc := 0) (ms1 := 0) (ms := 0) (by rfl) rfl (gcn 153 (by decide)).1 (gcn 153 (by decide)).2 (Nat.le_of_ble_eq_true rfl) (by omega) (cM_in hsz (n := n - 1) (by omega) mi ml x 0 16777215 r_x ⟨by decide, by decide⟩ ⟨by decide, by decide⟩) ?_
    rintro _ _ ⟨rfl, rfl⟩
    refine Go.run hsz hn1 0 (pc' := 16) (lv' := [some (gr 148), some (gi a), some (gi x), some (gi v)]) (st' := [gi (b2 (0 ≤ x ∧ x ≤ 16777215))]) (M' := gw mi ml) rfl ?_
    refine Go.if_eq (by rfl) (b2_rng _) (fun kq2 => ?_) (fun kq2 => ?_)
    · replace kq2 := b2_neg kq2
      refine Go.run hsz hn1 2 (pc' := 31) (lv' := [some (gr 148), some (gi a), some (gi x), some (gi v)]) (st' := [gi 0, gr 148]) (M' := gw mi ml) rfl ?_
      refine Go.callV (As := [gi 0]) (b := 148) (st := []) (mc1 := 0) (mc := 0) (ms1 := 0) (ms := 0) (by rfl) rfl (c := 11) (N := 46) (by rfl) (by decide) (by rfl) (gcn 154 (by decide)).1 (gcn 154 (by decide)).2 rfl (Nat.le_of_ble_eq_true rfl) (by omega) (cM_finds hsz (n := n - 1) (by omega) mi ml 0 (by decide) (by decide)) ?_
      rintro _ _ ⟨rfl, rfl⟩
      refine Go.run hsz hn1 0 (pc' := 34) (lv' := [some (gr 148), some (gi a), some (gi x), some (gi v)]) (st' := [gi (-1000001)]) (M' := gw (mFd mi 0) ml) rfl ?_
      refine Go.iret (by rfl) ?_
      first | (exact Or.inl ⟨by omega, rfl, rfl⟩) | (exact Or.inr (⟨by omega, rfl, rfl⟩))
    · replace kq2 := b2_pos kq2
      refine Go.run hsz hn1 3 (pc' := 23) (lv' := [some (gr 148), some (gi a), some (gi x), some (gi v)]) (st' := [gi 40, gi 0, gi v]) (M' := gw mi ml) rfl ?_
      refine Go.callS (As := [gi v, gi 0, gi 40]) (st := []) (mc1 := 0) (mc := 0) (ms1 := 0) (ms := 0) (by rfl) rfl (gcn 153 (by decide)).1 (gcn 153 (by decide)).2 (Nat.le_of_ble_eq_true rfl) (by omega) (cM_in hsz (n := n - 1) (by omega) mi ml v 0 40 r_v ⟨by decide, by decide⟩ ⟨by decide, by decide⟩) ?_
      rintro _ _ ⟨rfl, rfl⟩
      refine Go.run hsz hn1 0 (pc' := 26) (lv' := [some (gr 148), some (gi a), some (gi x), some (gi v)]) (st' := [gi (b2 (0 ≤ v ∧ v ≤ 40))]) (M' := gw mi ml) rfl ?_
      refine Go.if_ne (by rfl) (b2_rng _) (fun kq3 => ?_) (fun kq3 => ?_)
      · replace kq3 := b2_pos kq3
        refine Go.run hsz hn1 8 (pc' := 47) (lv' := [some (gr 148), some (gi a), some (gi x), some (gi v)]) (st' := [gi x, gi ((12 * a) + 9), gr 152]) (M' := gw mi ml) rfl ?_
        refine Go.iast (by rfl) (N := 288) (by rfl) (by omega) (by omega) (by decide) ?_
        refine Go.run hsz hn1 8 (pc' := 60) (lv' := [some (gr 148), some (gi a), some (gi x), some (gi v)]) (st' := [gi v, gi ((12 * a) + 10), gr 152]) (M' := gw (gu mi 152 (((12 * a) + 9).toNat) x) ml) rfl ?_
        refine Go.iast (by rfl) (N := 288) (by rfl) (by omega) (by omega) (by decide) ?_
        refine Go.run hsz hn1 1 (pc' := 62) (lv' := [some (gr 148), some (gi a), some (gi x), some (gi v)]) (st' := [gi 1]) (M' := gw (gu (gu mi 152 (((12 * a) + 9).toNat) x) 152 (((12 * a) + 10).toNat) v) ml) rfl ?_
        refine Go.iret (by rfl) ?_
        first | (exact Or.inl ⟨by omega, rfl, rfl⟩) | (exact Or.inr (⟨by omega, rfl, rfl⟩))
      · replace kq3 := b2_neg kq3
        refine Go.run hsz hn1 2 (pc' := 31) (lv' := [some (gr 148), some (gi a), some (gi x), some (gi v)]) (st' := [gi 0, gr 148]) (M' := gw mi ml) rfl ?_
        refine Go.callV (As := [gi 0]) (b := 148) (st := []) (mc1 := 0) (mc := 0) (ms1 := 0) (ms := 0) (by rfl) rfl (c := 11) (N := 46) (by rfl) (by decide) (by rfl) (gcn 154 (by decide)).1 (gcn 154 (by decide)).2 rfl (Nat.le_of_ble_eq_true rfl) (by omega) (cM_finds hsz (n := n - 1) (by omega) mi ml 0 (by decide) (by decide)) ?_
        rintro _ _ ⟨rfl, rfl⟩
        refine Go.run hsz hn1 0 (pc' := 34) (lv' := [some (gr 148), some (gi a), some (gi x), some (gi v)]) (st' := [gi (-1000001)]) (M' := gw (mFd mi 0) ml) rfl ?_
        refine Go.iret (by rfl) ?_
        first | (exact Or.inl ⟨by omega, rfl, rfl⟩) | (exact Or.inr (⟨by omega, rfl, rfl⟩))
set_option maxRecDepth 100000 in
set_option maxHeartbeats 4000000 in
theorem pM_hold {G : gG} (hsz : G.2.2.2.2.2.2 = true) {n : Nat} (hn : 4 ≤ n) (mi : Nat → Nat → Int) (ml : Nat → Nat → Int64) (x a : Int) (r_x : rng x) (r_a : rng a) (hv : SV mi)  : gM G 235 n 0 0 [gr 148, gi x, gi a] (gw mi ml) (fun r M => gE ((0 ≤ x ∧ x ≤ 9) ∧ (a = -1 ∨ (0 ≤ a ∧ a ≤ mi 148 6 - 1))) (1) (gu mi 156 x.toNat a) ml r M ∨ gE (¬ ((0 ≤ x ∧ x ≤ 9) ∧ (a = -1 ∨ (0 ≤ a ∧ a ≤ mi 148 6 - 1)))) (-1000001) (mFd mi 0) ml r M) := by
  have hn1 : 1 ≤ n := by omega
  obtain ⟨hR, ht, hp, hq, hP, hQ⟩ := id hv
  refine gM.of mX12_hold okX12_hold (gcp 235 (by decide)).1 (gcp 235 (by decide)).2 (Nat.le_of_ble_eq_true rfl) ?_
  refine Go.run hsz hn1 3 (pc' := 4) (lv' := [some (gr 148), some (gi x), some (gi a)]) (st' := [gi 9, gi 0, gi x]) (M' := gw mi ml) rfl ?_
  refine Go.callS (As := [gi x, gi 0, gi 9]) (st := []) (mc1 := 0) (mc := 0) (ms1 := 0) (ms := 0) (by rfl) rfl (gcn 153 (by decide)).1 (gcn 153 (by decide)).2 (Nat.le_of_ble_eq_true rfl) (by omega) (cM_in hsz (n := n - 1) (by omega) mi ml x 0 9 r_x ⟨by decide, by decide⟩ ⟨by decide, by decide⟩) ?_
  rintro _ _ ⟨rfl, rfl⟩
  refine Go.run hsz hn1 0 (pc' := 7) (lv' := [some (gr 148), some (gi x), some (gi a)]) (st' := [gi (b2 (0 ≤ x ∧ x ≤ 9))]) (M' := gw mi ml) rfl ?_
  refine Go.if_eq (by rfl) (b2_rng _) (fun kq1 => ?_) (fun kq1 => ?_)
  · replace kq1 := b2_neg kq1
    refine Go.run hsz hn1 2 (pc' := 25) (lv' := [some (gr 148), some (gi x), some (gi a)]) (st' := [gi 0, gr 148]) (M' := gw mi ml) rfl ?_
    refine Go.callV (As := [gi 0]) (b := 148) (st := []) (mc1 := 0) (mc := 0) (ms1 := 0) (ms := 0) (by rfl) rfl (c := 11) (N := 46) (by rfl) (by decide) (by rfl) (gcn 154 (by decide)).1 (gcn 154 (by decide)).2 rfl (Nat.le_of_ble_eq_true rfl) (by omega) (cM_finds hsz (n := n - 1) (by omega) mi ml 0 (by decide) (by decide)) ?_
    rintro _ _ ⟨rfl, rfl⟩
    refine Go.run hsz hn1 0 (pc' := 28) (lv' := [some (gr 148), some (gi x), some (gi a)]) (st' := [gi (-1000001)]) (M' := gw (mFd mi 0) ml) rfl ?_
    refine Go.iret (by rfl) ?_
    first | (exact Or.inl ⟨by omega, rfl, rfl⟩) | (exact Or.inr (⟨by omega, rfl, rfl⟩))
  · replace kq1 := b2_pos kq1
    refine Go.run hsz hn1 2 (pc' := 12) (lv' := [some (gr 148), some (gi x), some (gi a)]) (st' := [gi (-1), gi a]) (M' := gw mi ml) rfl ?_
    refine Go.icmp_eq (by rfl) r_a ⟨by decide, by decide⟩ (fun kq2 => ?_) (fun kq2 => ?_)
    · refine Go.run hsz hn1 4 (pc' := 35) (lv' := [some (gr 148), some (gi x), some (gi a)]) (st' := [gi a, gi x, gr 156]) (M' := gw mi ml) rfl ?_
      refine Go.iast (by rfl) (N := 10) (by rfl) (by omega) (by omega) (by decide) ?_
      refine Go.run hsz hn1 1 (pc' := 37) (lv' := [some (gr 148), some (gi x), some (gi a)]) (st' := [gi 1]) (M' := gw (gu mi 156 x.toNat a) ml) rfl ?_
      refine Go.iret (by rfl) ?_
      first | (exact Or.inl ⟨by omega, rfl, rfl⟩) | (exact Or.inr (⟨by omega, rfl, rfl⟩))
    · refine Go.run hsz hn1 2 (pc' := 17) (lv' := [some (gr 148), some (gi x), some (gi a)]) (st' := [gi a, gr 148]) (M' := gw mi ml) rfl ?_
      refine Go.callV (As := [gi a]) (b := 148) (st := []) (mc1 := 0) (mc := 0) (ms1 := 0) (ms := 0) (by rfl) rfl (c := 11) (N := 46) (by rfl) (by decide) (by rfl) (gcn 156 (by decide)).1 (gcn 156 (by decide)).2 rfl (Nat.le_of_ble_eq_true rfl) (by omega) (cM_isParty hsz (n := n - 1) (by omega) mi ml a r_a hq.1 hq.2) ?_
      rintro _ _ ⟨rfl, rfl⟩
      refine Go.run hsz hn1 0 (pc' := 20) (lv' := [some (gr 148), some (gi x), some (gi a)]) (st' := [gi (b2 (0 ≤ a ∧ a ≤ mi 148 6 - 1))]) (M' := gw mi ml) rfl ?_
      refine Go.if_ne (by rfl) (b2_rng _) (fun kq3 => ?_) (fun kq3 => ?_)
      · replace kq3 := b2_pos kq3
        refine Go.run hsz hn1 4 (pc' := 35) (lv' := [some (gr 148), some (gi x), some (gi a)]) (st' := [gi a, gi x, gr 156]) (M' := gw mi ml) rfl ?_
        refine Go.iast (by rfl) (N := 10) (by rfl) (by omega) (by omega) (by decide) ?_
        refine Go.run hsz hn1 1 (pc' := 37) (lv' := [some (gr 148), some (gi x), some (gi a)]) (st' := [gi 1]) (M' := gw (gu mi 156 x.toNat a) ml) rfl ?_
        refine Go.iret (by rfl) ?_
        first | (exact Or.inl ⟨by omega, rfl, rfl⟩) | (exact Or.inr (⟨by omega, rfl, rfl⟩))
      · replace kq3 := b2_neg kq3
        refine Go.run hsz hn1 2 (pc' := 25) (lv' := [some (gr 148), some (gi x), some (gi a)]) (st' := [gi 0, gr 148]) (M' := gw mi ml) rfl ?_
        refine Go.callV (As := [gi 0]) (b := 148) (st := []) (mc1 := 0) (mc := 0) (ms1 := 0) (ms := 0) (by rfl) rfl (c := 11) (N := 46) (by rfl) (by decide) (by rfl) (gcn 154 (by decide)).1 (gcn 154 (by decide)).2 rfl (Nat.le_of_ble_eq_true rfl) (by omega) (cM_finds hsz (n := n - 1) (by omega) mi ml 0 (by decide) (by decide)) ?_
        rintro _ _ ⟨rfl, rfl⟩
        refine Go.run hsz hn1 0 (pc' := 28) (lv' := [some (gr 148), some (gi x), some (gi a)]) (st' := [gi (-1000001)]) (M' := gw (mFd mi 0) ml) rfl ?_
        refine Go.iret (by rfl) ?_
        first | (exact Or.inl ⟨by omega, rfl, rfl⟩) | (exact Or.inr (⟨by omega, rfl, rfl⟩))

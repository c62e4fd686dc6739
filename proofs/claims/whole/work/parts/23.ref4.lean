def absI (v : Int) : Int := if v < 0 then -v else v
def mPx (mi : Nat → Nat → Int) (p : Int) : Int := mi 149 (8 * p).toNat
theorem mPx_eq (mi : Nat → Nat → Int) (p : Int) : mPx mi p = mPi mi p 0 := by unfold mPx mPi; rw [Int.add_zero]
def mFar (mi : Nat → Nat → Int) (p q : Int) : Int := absI (mPx mi p - mPx mi q) + absI (mPi mi p 1 - mPi mi q 1)
def mFree (mi : Nat → Nat → Int) (a p : Int) : Int := b2 (∀ b : Nat, b < (mi 148 6).toNat → ¬ ((b : Int) ≠ a ∧ mOf mi b 6 = p ∧ ¬ mMeet mi a b = 0))
def mOthers (mi : Nat → Nat → Int) (a : Int) (k : Nat) : Int := gfold (fun b acc => if b ≠ a ∧ 0 ≤ mOf mi b 6 ∧ ¬ mStays mi b (mOf mi a 4) = 0 then acc + 1 else acc + 0) 0 k
def mPost (mi : Nat → Nat → Int) (a : Int) : Int := mPi mi (mOf mi a 6) 7
def mLoad (mi : Nat → Nat → Int) (post hour : Int) (k : Nat) : Int := gfold (fun a acc => if ¬ mHere mi a = 0 ∧ mPost mi a = post ∧ andI (shrI (mOf mi a 9) hour) 1 = 1 then acc + mOf mi a 10 else acc + 0) 0 k
def mWet (mi : Nat → Nat → Int) (a w : Int) : Int := b2 (¬ mHere mi a = 0 ∧ mPi mi (mOf mi a 6) 3 < w)
def mPrice (mi : Nat → Nat → Int) (a : Int) : Int := if mOf mi a 0 < 2 then (if mOf mi a 0 = 1 then 10 + mOf mi a 1 - 3 else 10 + mOf mi a 1) else if mOf mi a 0 = 3 then 2 * (10 + mOf mi a 1 + 2 * mOf mi a 2) else if mOf mi a 0 = 4 then (10 + mOf mi a 1 + 2 * mOf mi a 2) - (10 + mOf mi a 1 + 2 * mOf mi a 2).tdiv 3 else 10 + mOf mi a 1 + 2 * mOf mi a 2
def mApart (mi : Nat → Nat → Int) (k : Nat) : Int := gfold (fun a acc => if 0 ≤ mOf mi a 7 ∧ 0 ≤ mOf mi a 6 ∧ 0 ≤ mOf mi (mOf mi a 7) 6 then acc + mFar mi (mOf mi a 6) (mOf mi (mOf mi a 7) 6) else acc + 0) 0 k
set_option maxRecDepth 100000 in
set_option maxHeartbeats 4000000 in
theorem cM_farOf {G : gG} (hsz : G.2.2.2.2.2.2 = true) {n : Nat} (hn : 2 ≤ n) (mi : Nat → Nat → Int) (ml : Nat → Nat → Int64) (p q : Int) (p0 : 0 ≤ p) (p1 : p < 12) (q0 : 0 ≤ q) (q1 : q < 12) (ha : QV mi p) (hb : QV mi q) : gM G 162 n 0 0 [gr 148, gi p, gi q] (gw mi ml) (gret (mFar mi p q) (gw mi ml)) := by
  have hn1 : 1 ≤ n := by omega
  obtain ⟨⟨x0, x1⟩, ⟨y0, y1⟩, -⟩ := id ha
  obtain ⟨⟨x2, x3⟩, ⟨y2, y3⟩, -⟩ := id hb
  rw [← mPx_eq] at x0 x1 x2 x3
  refine gM.of mX12_farOf okX12_farOf (gcp 162 (by decide)).1 (gcp 162 (by decide)).2 (Nat.le_of_ble_eq_true rfl) ?_
  refine Go.run hsz hn1 5 (pc' := 8) (lv' := [some (gr 148), some (gi p), some (gi q)]) (st' := [gi (8 * p), gr 149]) (M' := gw mi ml) rfl ?_
  refine Go.iald (by rfl) (N := 96) (by rfl) (by omega) (by omega) (by decide) ?_
  refine Go.run hsz hn1 5 (pc' := 17) (lv' := [some (gr 148), some (gi p), some (gi q)]) (st' := [gi (8 * q), gr 149, gi (mPx mi p)]) (M' := gw mi ml) rfl ?_
  refine Go.iald (by rfl) (N := 96) (by rfl) (by omega) (by omega) (by decide) ?_
  refine Go.run hsz hn1 1 (pc' := 19) (lv' := [some (gr 148), some (gi p), some (gi q)]) (st' := [gi ((mPx mi p) - (mPx mi q))]) (M' := gw mi ml) rfl ?_
  refine Go.callS (As := [gi ((mPx mi p) - (mPx mi q))]) (st := []) (mc1 := 0) (mc := 0) (ms1 := 0) (ms := 0) (by rfl) rfl (gcn 161 (by decide)).1 (gcn 161 (by decide)).2 (Nat.le_of_ble_eq_true rfl) (by omega) (cM_size hsz (n := n - 1) (by omega) mi ml ((mPx mi p) - (mPx mi q)) ⟨by omega, by omega⟩) ?_
  rintro _ _ ⟨rfl, rfl⟩
  refine Go.run hsz hn1 7 (pc' := 32) (lv' := [some (gr 148), some (gi p), some (gi q)]) (st' := [gi ((8 * p) + 1), gr 149, gi (absI ((mPx mi p) - (mPx mi q)))]) (M' := gw mi ml) rfl ?_
  refine Go.iald (by rfl) (N := 96) (by rfl) (by omega) (by omega) (by decide) ?_
  refine Go.run hsz hn1 7 (pc' := 43) (lv' := [some (gr 148), some (gi p), some (gi q)]) (st' := [gi ((8 * q) + 1), gr 149, gi (mPi mi p 1), gi (absI ((mPx mi p) - (mPx mi q)))]) (M' := gw mi ml) rfl ?_
  refine Go.iald (by rfl) (N := 96) (by rfl) (by omega) (by omega) (by decide) ?_
  refine Go.run hsz hn1 1 (pc' := 45) (lv' := [some (gr 148), some (gi p), some (gi q)]) (st' := [gi ((mPi mi p 1) - (mPi mi q 1)), gi (absI ((mPx mi p) - (mPx mi q)))]) (M' := gw mi ml) rfl ?_
  refine Go.callS (As := [gi ((mPi mi p 1) - (mPi mi q 1))]) (st := [gi (absI ((mPx mi p) - (mPx mi q)))]) (mc1 := 0) (mc := 0) (ms1 := 0) (ms := 0) (by rfl) rfl (gcn 161 (by decide)).1 (gcn 161 (by decide)).2 (Nat.le_of_ble_eq_true rfl) (by omega) (cM_size hsz (n := n - 1) (by omega) mi ml ((mPi mi p 1) - (mPi mi q 1)) ⟨by omega, by omega⟩) ?_
  rintro _ _ ⟨rfl, rfl⟩
  refine Go.run hsz hn1 1 (pc' := 49) (lv' := [some (gr 148), some (gi p), some (gi q)]) (st' := [gi ((absI ((mPx mi p) - (mPx mi q))) + (absI ((mPi mi p 1) - (mPi mi q 1))))]) (M' := gw mi ml) rfl ?_
  first | exact Go.iret (by rfl) ⟨congrArg (fun z => some (gi z)) (rfl), rfl⟩ | (exfalso; omega)
set_option maxRecDepth 100000 in
set_option maxHeartbeats 4000000 in
theorem lM_isFreeFor {G : gG} (hsz : G.2.2.2.2.2.2 = true) {n : Nat} (hn : 3 ≤ n) (mi : Nat → Nat → Int) (ml : Nat → Nat → Int64) (a p : Int) (a0 : 0 ≤ a) (a1 : a < mi 148 6) (hp0 : rng p) (hv : SV mi) : ∀ (f : Nat) (k : Int) (hall : ∀ b : Nat, (b : Int) < k → ¬ ((b : Int) ≠ a ∧ mOf mi b 6 = p ∧ ¬ mMeet mi a b = 0)), 0 ≤ k → k ≤ mi 148 6 → mi 148 6 - k < f → Go G mX12_isFreeFor n 0 0 2 [some (gr 148), some (gi a), some (gi p), some (gi k)] [] (gw mi ml) (gret (mFree mi a p) (gw mi ml)) := by
  have hn1 : 1 ≤ n := by omega
  obtain ⟨hR, ht, hp, hq, hP, hQ⟩ := id hv
  intro f
  induction f with
  | zero => intros; omega
  | succ f ih =>
    intro k hall k0 k1 k2
    refine Go.run hsz hn1 3 (pc' := 7) (lv' := [some (gr 148), some (gi a), some (gi p), some (gi k)]) (st' := [gi (mi 148 6), gi k]) (M' := gw mi ml) rfl ?_
    refine Go.icmp_ge (by rfl) ⟨by omega, by omega⟩ (hR _ _) (fun kq1 => ?_) (fun kq1 => ?_)
    · refine Go.run hsz hn1 1 (pc' := 44) (lv' := [some (gr 148), some (gi a), some (gi p), some (gi k)]) (st' := [gi 1]) (M' := gw mi ml) rfl ?_
      exact Go.zret (by rfl) (Or.inr rfl) ⟨congrArg (fun z => some (gi z)) (by unfold mFree b2; rw [if_pos]; intro b hb; exact hall b (by omega)), rfl⟩
    · refine Go.run hsz hn1 2 (pc' := 12) (lv' := [some (gr 148), some (gi a), some (gi p), some (gi k)]) (st' := [gi a, gi k]) (M' := gw mi ml) rfl ?_
      refine Go.icmp_eq (by rfl) ⟨by omega, by omega⟩ ⟨by omega, by omega⟩ (fun kq2 => ?_) (fun kq2 => ?_)
      · refine Go.run hsz hn1 2 (pc' := 2) (lv' := [some (gr 148), some (gi a), some (gi p), some (gi (k + 1))]) (st' := []) (M' := gw mi ml) rfl ?_
        exact ih (k + 1) (fun b hb hc => (by
          by_cases e : (b : Int) = k
          · rw [e] at hc; omega
          · exact hall b (by omega) hc)) (by omega) (by omega) (by omega)
      · refine Go.run hsz hn1 3 (pc' := 19) (lv' := [some (gr 148), some (gi a), some (gi p), some (gi k)]) (st' := [gi 6, gi k, gr 148]) (M' := gw mi ml) rfl ?_
        refine Go.callV (As := [gi k, gi 6]) (b := 148) (st := []) (mc1 := 0) (mc := 0) (ms1 := 0) (ms := 0) (by rfl) rfl (c := 11) (N := 46) (by rfl) (by decide) (by rfl) (gcn 165 (by decide)).1 (gcn 165 (by decide)).2 rfl (Nat.le_of_ble_eq_true rfl) (by omega) (cM_of hsz (n := n - 1) (by omega) mi ml k 6 (by omega) (by omega) (by omega) (by omega)) ?_
        rintro _ _ ⟨rfl, rfl⟩
        refine Go.run hsz hn1 1 (pc' := 23) (lv' := [some (gr 148), some (gi a), some (gi p), some (gi k)]) (st' := [gi p, gi (mOf mi k 6)]) (M' := gw mi ml) rfl ?_
        refine Go.icmp_ne (by rfl) (hR _ _) hp0 (fun kq3 => ?_) (fun kq3 => ?_)
        · refine Go.run hsz hn1 2 (pc' := 2) (lv' := [some (gr 148), some (gi a), some (gi p), some (gi (k + 1))]) (st' := []) (M' := gw mi ml) rfl ?_
          exact ih (k + 1) (fun b hb hc => (by
            by_cases e : (b : Int) = k
            · rw [e] at hc; omega
            · exact hall b (by omega) hc)) (by omega) (by omega) (by omega)
        · refine Go.run hsz hn1 3 (pc' := 29) (lv' := [some (gr 148), some (gi a), some (gi p), some (gi k)]) (st' := [gi k, gi a, gr 148]) (M' := gw mi ml) rfl ?_
          refine Go.callV (As := [gi a, gi k]) (b := 148) (st := []) (mc1 := 0) (mc := 0) (ms1 := 0) (ms := 0) (by rfl) rfl (c := 11) (N := 46) (by rfl) (by decide) (by rfl) (gcn 173 (by decide)).1 (gcn 173 (by decide)).2 rfl (Nat.le_of_ble_eq_true rfl) (by omega) (cM_meet hsz (n := n - 1) (by omega) mi ml a k (by omega) (by omega) (by omega) (by omega) hR (hP a (by omega) (by omega)) (hP k (by omega) (by omega))) ?_
          rintro _ _ ⟨rfl, rfl⟩
          refine Go.run hsz hn1 0 (pc' := 32) (lv' := [some (gr 148), some (gi a), some (gi p), some (gi k)]) (st' := [gi (mMeet mi a k)]) (M' := gw mi ml) rfl ?_
          refine Go.if_eq (by rfl) (b2_rng _) (fun kq4 => ?_) (fun kq4 => ?_)
          · refine Go.run hsz hn1 2 (pc' := 2) (lv' := [some (gr 148), some (gi a), some (gi p), some (gi (k + 1))]) (st' := []) (M' := gw mi ml) rfl ?_
            exact ih (k + 1) (fun b hb hc => (by
              by_cases e : (b : Int) = k
              · rw [e] at hc; omega
              · exact hall b (by omega) hc)) (by omega) (by omega) (by omega)
          · refine Go.run hsz hn1 1 (pc' := 36) (lv' := [some (gr 148), some (gi a), some (gi p), some (gi k)]) (st' := [gi 0]) (M' := gw mi ml) rfl ?_
            exact Go.zret (by rfl) (Or.inl rfl) ⟨congrArg (fun z => some (gi z)) (by unfold mFree b2; rw [if_neg]; intro h; have h8 := h k.toNat (by omega); rw [show ((k.toNat : Nat) : Int) = k by omega] at h8; exact h8 ⟨by omega, by omega, by omega⟩), rfl⟩
set_option maxRecDepth 100000 in
set_option maxHeartbeats 4000000 in
theorem cM_isFreeFor {G : gG} (hsz : G.2.2.2.2.2.2 = true) {n : Nat} (hn : 3 ≤ n) (mi : Nat → Nat → Int) (ml : Nat → Nat → Int64) (a p : Int) (a0 : 0 ≤ a) (a1 : a < mi 148 6) (hp0 : rng p) (hv : SV mi) : gM G 174 n 0 0 [gr 148, gi a, gi p] (gw mi ml) (gret (mFree mi a p) (gw mi ml)) := by
  have hn1 : 1 ≤ n := by omega
  refine gM.of mX12_isFreeFor okX12_isFreeFor (gcp 174 (by decide)).1 (gcp 174 (by decide)).2 (Nat.le_of_ble_eq_true rfl) ?_
  refine Go.run hsz hn1 2 (pc' := 2) (lv' := [some (gr 148), some (gi a), some (gi p), some (gi 0)]) (st' := []) (M' := gw mi ml) rfl ?_
  exact lM_isFreeFor hsz hn mi ml a p a0 a1 hp0 hv ((mi 148 6).toNat + 1) 0 (fun b hb => by omega) (by omega) (by have := hv.2.2.2.1.1; omega) (by omega)
set_option maxRecDepth 100000 in
set_option maxHeartbeats 4000000 in
theorem lM_others {G : gG} (hsz : G.2.2.2.2.2.2 = true) {n : Nat} (hn : 3 ≤ n) (mi : Nat → Nat → Int) (ml : Nat → Nat → Int64) (a : Int) (a0 : 0 ≤ a) (a1 : a < mi 148 6) (hv : SV mi) : ∀ (f : Nat) (k : Int), 0 ≤ k → k ≤ mi 148 6 → mi 148 6 - k < f → Go G mX12_others n 0 0 4 [some (gr 148), some (gi a), some (gi (mOthers mi a k.toNat)), some (gi k)] [] (gw mi ml) (gret (mOthers mi a (mi 148 6).toNat) (gw mi ml)) := by
  have hn1 : 1 ≤ n := by omega
  obtain ⟨hR, ht, hp, hq, hP, hQ⟩ := id hv
  intro f
  induction f with
  | zero => intros; omega
  | succ f ih =>
    intro k k0 k1 k2
    refine Go.run hsz hn1 3 (pc' := 9) (lv' := [some (gr 148), some (gi a), some (gi (mOthers mi a k.toNat)), some (gi k)]) (st' := [gi (mi 148 6), gi k]) (M' := gw mi ml) rfl ?_
    refine Go.icmp_ge (by rfl) ⟨by omega, by omega⟩ (hR _ _) (fun kq1 => ?_) (fun kq1 => ?_)
    · refine Go.run hsz hn1 1 (pc' := 56) (lv' := [some (gr 148), some (gi a), some (gi (mOthers mi a k.toNat)), some (gi k)]) (st' := [gi (mOthers mi a k.toNat)]) (M' := gw mi ml) rfl ?_
      exact Go.iret (by rfl) ⟨by rw [show mi 148 6 = k by omega], rfl⟩
    · refine Go.run hsz hn1 3 (pc' := 15) (lv' := [some (gr 148), some (gi a), some (gi (mOthers mi a k.toNat)), some (gi k)]) (st' := [gi a, gi k, gi (mOthers mi a k.toNat)]) (M' := gw mi ml) rfl ?_
      refine Go.icmp_eq (by rfl) ⟨by omega, by omega⟩ ⟨by omega, by omega⟩ (fun kq2 => ?_) (fun kq2 => ?_)
      · refine Go.run hsz hn1 5 (pc' := 4) (lv' := [some (gr 148), some (gi a), some (gi ((mOthers mi a k.toNat) + 0)), some (gi (k + 1))]) (st' := []) (M' := gw mi ml) rfl ?_
        have h9 := ih (k + 1) (by omega) (by omega) (by omega)
        rw [show mOthers mi a (k + 1).toNat = _ from gfold_s k0] at h9
        (try dsimp only at h9)
        (repeat' split at h9) <;> first | exact h9 | (exfalso; omega)
      · refine Go.run hsz hn1 3 (pc' := 22) (lv' := [some (gr 148), some (gi a), some (gi (mOthers mi a k.toNat)), some (gi k)]) (st' := [gi 6, gi k, gr 148, gi (mOthers mi a k.toNat)]) (M' := gw mi ml) rfl ?_
        refine Go.callV (As := [gi k, gi 6]) (b := 148) (st := [gi (mOthers mi a k.toNat)]) (mc1 := 0) (mc := 0) (ms1 := 0) (ms := 0) (by rfl) rfl (c := 11) (N := 46) (by rfl) (by decide) (by rfl) (gcn 165 (by decide)).1 (gcn 165 (by decide)).2 rfl (Nat.le_of_ble_eq_true rfl) (by omega) (cM_of hsz (n := n - 1) (by omega) mi ml k 6 (by omega) (by omega) (by omega) (by omega)) ?_
        rintro _ _ ⟨rfl, rfl⟩
        refine Go.run hsz hn1 0 (pc' := 25) (lv' := [some (gr 148), some (gi a), some (gi (mOthers mi a k.toNat)), some (gi k)]) (st' := [gi (mOf mi k 6), gi (mOthers mi a k.toNat)]) (M' := gw mi ml) rfl ?_
        refine Go.if_lt (by rfl) (hR _ _) (fun kq3 => ?_) (fun kq3 => ?_)
        · refine Go.run hsz hn1 5 (pc' := 4) (lv' := [some (gr 148), some (gi a), some (gi ((mOthers mi a k.toNat) + 0)), some (gi (k + 1))]) (st' := []) (M' := gw mi ml) rfl ?_
          have h9 := ih (k + 1) (by omega) (by omega) (by omega)
          rw [show mOthers mi a (k + 1).toNat = _ from gfold_s k0] at h9
          (try dsimp only at h9)
          (repeat' split at h9) <;> first | exact h9 | (exfalso; omega)
        · refine Go.run hsz hn1 5 (pc' := 33) (lv' := [some (gr 148), some (gi a), some (gi (mOthers mi a k.toNat)), some (gi k)]) (st' := [gi 4, gi a, gr 148, gi k, gr 148, gi (mOthers mi a k.toNat)]) (M' := gw mi ml) rfl ?_
          refine Go.callV (As := [gi a, gi 4]) (b := 148) (st := [gi k, gr 148, gi (mOthers mi a k.toNat)]) (mc1 := 0) (mc := 0) (ms1 := 0) (ms := 0) (by rfl) rfl (c := 11) (N := 46) (by rfl) (by decide) (by rfl) (gcn 165 (by decide)).1 (gcn 165 (by decide)).2 rfl (Nat.le_of_ble_eq_true rfl) (by omega) (cM_of hsz (n := n - 1) (by omega) mi ml a 4 (by omega) (by omega) (by omega) (by omega)) ?_
          rintro _ _ ⟨rfl, rfl⟩
          refine Go.run hsz hn1 0 (pc' := 36) (lv' := [some (gr 148), some (gi a), some (gi (mOthers mi a k.toNat)), some (gi k)]) (st' := [gi (mOf mi a 4), gi k, gr 148, gi (mOthers mi a k.toNat)]) (M' := gw mi ml) rfl ?_
          refine Go.callV (As := [gi k, gi (mOf mi a 4)]) (b := 148) (st := [gi (mOthers mi a k.toNat)]) (mc1 := 0) (mc := 0) (ms1 := 0) (ms := 0) (by rfl) rfl (c := 11) (N := 46) (by rfl) (by decide) (by rfl) (gcn 172 (by decide)).1 (gcn 172 (by decide)).2 rfl (Nat.le_of_ble_eq_true rfl) (by omega) (cM_staysIn hsz (n := n - 1) (by omega) mi ml k (mOf mi a 4) (by omega) (by omega) hR (hR _ _) (hP k (by omega) (by omega))) ?_
          rintro _ _ ⟨rfl, rfl⟩
          refine Go.run hsz hn1 0 (pc' := 39) (lv' := [some (gr 148), some (gi a), some (gi (mOthers mi a k.toNat)), some (gi k)]) (st' := [gi (mStays mi k (mOf mi a 4)), gi (mOthers mi a k.toNat)]) (M' := gw mi ml) rfl ?_
          refine Go.if_eq (by rfl) (b2_rng _) (fun kq4 => ?_) (fun kq4 => ?_)
          · refine Go.run hsz hn1 5 (pc' := 4) (lv' := [some (gr 148), some (gi a), some (gi ((mOthers mi a k.toNat) + 0)), some (gi (k + 1))]) (st' := []) (M' := gw mi ml) rfl ?_
            have h9 := ih (k + 1) (by omega) (by omega) (by omega)
            rw [show mOthers mi a (k + 1).toNat = _ from gfold_s k0] at h9
            (try dsimp only at h9)
            (repeat' split at h9) <;> first | exact h9 | (exfalso; omega)
          · refine Go.run hsz hn1 6 (pc' := 4) (lv' := [some (gr 148), some (gi a), some (gi ((mOthers mi a k.toNat) + 1)), some (gi (k + 1))]) (st' := []) (M' := gw mi ml) rfl ?_
            have h9 := ih (k + 1) (by omega) (by omega) (by omega)
            rw [show mOthers mi a (k + 1).toNat = _ from gfold_s k0] at h9
            (try dsimp only at h9)
            (repeat' split at h9) <;> first | exact h9 | (exfalso; omega)
set_option maxRecDepth 100000 in
set_option maxHeartbeats 4000000 in
theorem cM_others {G : gG} (hsz : G.2.2.2.2.2.2 = true) {n : Nat} (hn : 3 ≤ n) (mi : Nat → Nat → Int) (ml : Nat → Nat → Int64) (a : Int) (a0 : 0 ≤ a) (a1 : a < mi 148 6) (hv : SV mi) : gM G 206 n 0 0 [gr 148, gi a] (gw mi ml) (gret (mOthers mi a (mi 148 6).toNat) (gw mi ml)) := by
  have hn1 : 1 ≤ n := by omega
  refine gM.of mX12_others okX12_others (gcp 206 (by decide)).1 (gcp 206 (by decide)).2 (Nat.le_of_ble_eq_true rfl) ?_
  refine Go.run hsz hn1 4 (pc' := 4) (lv' := [some (gr 148), some (gi a), some (gi 0), some (gi 0)]) (st' := []) (M' := gw mi ml) rfl ?_
  exact lM_others hsz hn mi ml a a0 a1 hv ((mi 148 6).toNat + 1) 0 (by omega) (by have := hv.2.2.2.1.1; omega) (by omega)
set_option maxRecDepth 100000 in
set_option maxHeartbeats 4000000 in
theorem cM_postOf {G : gG} (hsz : G.2.2.2.2.2.2 = true) {n : Nat} (hn : 2 ≤ n) (mi : Nat → Nat → Int) (ml : Nat → Nat → Int64) (a : Int) (h0 : 0 ≤ a) (h1 : a < 24) (ho : 0 ≤ mOf mi a 6) (ho1 : mOf mi a 6 < 12) : gM G 222 n 0 0 [gr 148, gi a] (gw mi ml) (gret (mPost mi a) (gw mi ml)) := by
  have hn1 : 1 ≤ n := by omega
  refine gM.of mX12_postOf okX12_postOf (gcp 222 (by decide)).1 (gcp 222 (by decide)).2 (Nat.le_of_ble_eq_true rfl) ?_
  refine Go.run hsz hn1 6 (pc' := 10) (lv' := [some (gr 148), some (gi a)]) (st' := [gi 6, gi a, gr 148, gi 8, gr 149]) (M' := gw mi ml) rfl ?_
  refine Go.callV (As := [gi a, gi 6]) (b := 148) (st := [gi 8, gr 149]) (mc1 := 0) (mc := 0) (ms1 := 0) (ms := 0) (by rfl) rfl (c := 11) (N := 46) (by rfl) (by decide) (by rfl) (gcn 165 (by decide)).1 (gcn 165 (by decide)).2 rfl (Nat.le_of_ble_eq_true rfl) (by omega) (cM_of hsz (n := n - 1) (by omega) mi ml a 6 (by omega) (by omega) (by omega) (by omega)) ?_
  rintro _ _ ⟨rfl, rfl⟩
  refine Go.run hsz hn1 3 (pc' := 17) (lv' := [some (gr 148), some (gi a)]) (st' := [gi ((8 * (mOf mi a 6)) + 7), gr 149]) (M' := gw mi ml) rfl ?_
  refine Go.iald (by rfl) (N := 96) (by rfl) (by omega) (by omega) (by decide) ?_
  refine Go.run hsz hn1 0 (pc' := 18) (lv' := [some (gr 148), some (gi a)]) (st' := [gi (mPi mi (mOf mi a 6) 7)]) (M' := gw mi ml) rfl ?_
  first | exact Go.iret (by rfl) ⟨congrArg (fun z => some (gi z)) (rfl), rfl⟩ | (exfalso; omega)
theorem mHere_on {mi : Nat → Nat → Int} {a : Int} (h : ¬ mHere mi a = 0) : 0 ≤ mOf mi a 6 := (b2_pos h).1
set_option maxRecDepth 100000 in
set_option maxHeartbeats 4000000 in
theorem lM_loadOf {G : gG} (hsz : G.2.2.2.2.2.2 = true) {n : Nat} (hn : 4 ≤ n) (mi : Nat → Nat → Int) (ml : Nat → Nat → Int64) (post hour : Int) (hp0 : rng post) (hv : SV mi) : ∀ (f : Nat) (k : Int), 0 ≤ k → k ≤ mi 148 6 → mi 148 6 - k < f → Go G mX12_loadOf n 0 0 5 [some (gr 148), some (gi post), some (gi hour), some (gi (mLoad mi post hour k.toNat)), some (gi k)] [] (gw mi ml) (gret (mLoad mi post hour (mi 148 6).toNat) (gw mi ml)) := by
  have hn1 : 1 ≤ n := by omega
  obtain ⟨hR, ht, hp, hq, hP, hQ⟩ := id hv
  intro f
  induction f with
  | zero => intros; omega
  | succ f ih =>
    intro k k0 k1 k2
    refine Go.run hsz hn1 3 (pc' := 11) (lv' := [some (gr 148), some (gi post), some (gi hour), some (gi (mLoad mi post hour k.toNat)), some (gi k)]) (st' := [gi (mi 148 6), gi k]) (M' := gw mi ml) rfl ?_
    refine Go.icmp_ge (by rfl) ⟨by omega, by omega⟩ (hR _ _) (fun kq1 => ?_) (fun kq1 => ?_)
    · refine Go.run hsz hn1 1 (pc' := 71) (lv' := [some (gr 148), some (gi post), some (gi hour), some (gi (mLoad mi post hour k.toNat)), some (gi k)]) (st' := [gi (mLoad mi post hour k.toNat)]) (M' := gw mi ml) rfl ?_
      exact Go.iret (by rfl) ⟨by rw [show mi 148 6 = k by omega], rfl⟩
    · refine Go.run hsz hn1 3 (pc' := 18) (lv' := [some (gr 148), some (gi post), some (gi hour), some (gi (mLoad mi post hour k.toNat)), some (gi k)]) (st' := [gi k, gr 148, gi (mLoad mi post hour k.toNat)]) (M' := gw mi ml) rfl ?_
      refine Go.callV (As := [gi k]) (b := 148) (st := [gi (mLoad mi post hour k.toNat)]) (mc1 := 0) (mc := 0) (ms1 := 0) (ms := 0) (by rfl) rfl (c := 11) (N := 46) (by rfl) (by decide) (by rfl) (gcn 221 (by decide)).1 (gcn 221 (by decide)).2 rfl (Nat.le_of_ble_eq_true rfl) (by omega) (cM_isHere hsz (n := n - 1) (by omega) mi ml k (by omega) (by omega) hR (hP k (by omega) (by omega))) ?_
      rintro _ _ ⟨rfl, rfl⟩
      refine Go.run hsz hn1 0 (pc' := 21) (lv' := [some (gr 148), some (gi post), some (gi hour), some (gi (mLoad mi post hour k.toNat)), some (gi k)]) (st' := [gi (mHere mi k), gi (mLoad mi post hour k.toNat)]) (M' := gw mi ml) rfl ?_
      refine Go.if_eq (by rfl) (b2_rng _) (fun kq2 => ?_) (fun kq2 => ?_)
      · refine Go.run hsz hn1 5 (pc' := 5) (lv' := [some (gr 148), some (gi post), some (gi hour), some (gi ((mLoad mi post hour k.toNat) + 0)), some (gi (k + 1))]) (st' := []) (M' := gw mi ml) rfl ?_
        have h9 := ih (k + 1) (by omega) (by omega) (by omega)
        rw [show mLoad mi post hour (k + 1).toNat = _ from gfold_s k0] at h9
        (try dsimp only at h9)
        (repeat' split at h9) <;> first | exact h9 | (exfalso; omega)
      · refine Go.run hsz hn1 2 (pc' := 27) (lv' := [some (gr 148), some (gi post), some (gi hour), some (gi (mLoad mi post hour k.toNat)), some (gi k)]) (st' := [gi k, gr 148, gi (mLoad mi post hour k.toNat)]) (M' := gw mi ml) rfl ?_
        refine Go.callV (As := [gi k]) (b := 148) (st := [gi (mLoad mi post hour k.toNat)]) (mc1 := 0) (mc := 0) (ms1 := 0) (ms := 0) (by rfl) rfl (c := 11) (N := 46) (by rfl) (by decide) (by rfl) (gcn 222 (by decide)).1 (gcn 222 (by decide)).2 rfl (Nat.le_of_ble_eq_true rfl) (by omega) (cM_postOf hsz (n := n - 1) (by omega) mi ml k (by omega) (by omega) (mHere_on (by assumption)) (by have := (hP k (by omega) (by omega)).2.2.2.2.2.2.2.1.2; omega)) ?_
        rintro _ _ ⟨rfl, rfl⟩
        refine Go.run hsz hn1 1 (pc' := 31) (lv' := [some (gr 148), some (gi post), some (gi hour), some (gi (mLoad mi post hour k.toNat)), some (gi k)]) (st' := [gi post, gi (mPost mi k), gi (mLoad mi post hour k.toNat)]) (M' := gw mi ml) rfl ?_
        refine Go.icmp_ne (by rfl) (hR _ _) hp0 (fun kq3 => ?_) (fun kq3 => ?_)
        · refine Go.run hsz hn1 5 (pc' := 5) (lv' := [some (gr 148), some (gi post), some (gi hour), some (gi ((mLoad mi post hour k.toNat) + 0)), some (gi (k + 1))]) (st' := []) (M' := gw mi ml) rfl ?_
          have h9 := ih (k + 1) (by omega) (by omega) (by omega)
          rw [show mLoad mi post hour (k + 1).toNat = _ from gfold_s k0] at h9
          (try dsimp only at h9)
          (repeat' split at h9) <;> first | exact h9 | (exfalso; omega)
        · refine Go.run hsz hn1 3 (pc' := 39) (lv' := [some (gr 148), some (gi post), some (gi hour), some (gi (mLoad mi post hour k.toNat)), some (gi k)]) (st' := [gi 9, gi k, gr 148, gi (mLoad mi post hour k.toNat)]) (M' := gw mi ml) rfl ?_
          refine Go.callV (As := [gi k, gi 9]) (b := 148) (st := [gi (mLoad mi post hour k.toNat)]) (mc1 := 0) (mc := 0) (ms1 := 0) (ms := 0) (by rfl) rfl (c := 11) (N := 46) (by rfl) (by decide) (by rfl) (gcn 165 (by decide)).1 (gcn 165 (by decide)).2 rfl (Nat.le_of_ble_eq_true rfl) (by omega) (cM_of hsz (n := n - 1) (by omega) mi ml k 9 (by omega) (by omega) (by omega) (by omega)) ?_
          rintro _ _ ⟨rfl, rfl⟩
          refine Go.run hsz hn1 5 (pc' := 47) (lv' := [some (gr 148), some (gi post), some (gi hour), some (gi (mLoad mi post hour k.toNat)), some (gi k)]) (st' := [gi 1, gi (andI (shrI (mOf mi k 9) hour) 1), gi (mLoad mi post hour k.toNat)]) (M' := gw mi ml) rfl ?_
          refine Go.icmp_ne (by rfl) (rng_of _) ⟨by decide, by decide⟩ (fun kq4 => ?_) (fun kq4 => ?_)
          · refine Go.run hsz hn1 5 (pc' := 5) (lv' := [some (gr 148), some (gi post), some (gi hour), some (gi ((mLoad mi post hour k.toNat) + 0)), some (gi (k + 1))]) (st' := []) (M' := gw mi ml) rfl ?_
            have h9 := ih (k + 1) (by omega) (by omega) (by omega)
            rw [show mLoad mi post hour (k + 1).toNat = _ from gfold_s k0] at h9
            (try dsimp only at h9)
            (repeat' split at h9) <;> first | exact h9 | (exfalso; omega)
          · refine Go.run hsz hn1 3 (pc' := 55) (lv' := [some (gr 148), some (gi post), some (gi hour), some (gi (mLoad mi post hour k.toNat)), some (gi k)]) (st' := [gi 10, gi k, gr 148, gi (mLoad mi post hour k.toNat)]) (M' := gw mi ml) rfl ?_
            refine Go.callV (As := [gi k, gi 10]) (b := 148) (st := [gi (mLoad mi post hour k.toNat)]) (mc1 := 0) (mc := 0) (ms1 := 0) (ms := 0) (by rfl) rfl (c := 11) (N := 46) (by rfl) (by decide) (by rfl) (gcn 165 (by decide)).1 (gcn 165 (by decide)).2 rfl (Nat.le_of_ble_eq_true rfl) (by omega) (cM_of hsz (n := n - 1) (by omega) mi ml k 10 (by omega) (by omega) (by omega) (by omega)) ?_
            rintro _ _ ⟨rfl, rfl⟩
            refine Go.run hsz hn1 5 (pc' := 5) (lv' := [some (gr 148), some (gi post), some (gi hour), some (gi ((mLoad mi post hour k.toNat) + (mOf mi k 10))), some (gi (k + 1))]) (st' := []) (M' := gw mi ml) rfl ?_
            have h9 := ih (k + 1) (by omega) (by omega) (by omega)
            rw [show mLoad mi post hour (k + 1).toNat = _ from gfold_s k0] at h9
            (try dsimp only at h9)
            (repeat' split at h9) <;> first | exact h9 | (exfalso; omega)
set_option maxRecDepth 100000 in
set_option maxHeartbeats 4000000 in
theorem cM_loadOf {G : gG} (hsz : G.2.2.2.2.2.2 = true) {n : Nat} (hn : 4 ≤ n) (mi : Nat → Nat → Int) (ml : Nat → Nat → Int64) (post hour : Int) (hp0 : rng post) (hv : SV mi) : gM G 223 n 0 0 [gr 148, gi post, gi hour] (gw mi ml) (gret (mLoad mi post hour (mi 148 6).toNat) (gw mi ml)) := by
  have hn1 : 1 ≤ n := by omega
  refine gM.of mX12_loadOf okX12_loadOf (gcp 223 (by decide)).1 (gcp 223 (by decide)).2 (Nat.le_of_ble_eq_true rfl) ?_
  refine Go.run hsz hn1 4 (pc' := 5) (lv' := [some (gr 148), some (gi post), some (gi hour), some (gi 0), some (gi 0)]) (st' := []) (M' := gw mi ml) rfl ?_
  exact lM_loadOf hsz hn mi ml post hour hp0 hv ((mi 148 6).toNat + 1) 0 (by omega) (by have := hv.2.2.2.1.1; omega) (by omega)
set_option maxRecDepth 100000 in
set_option maxHeartbeats 4000000 in
theorem cM_isWet {G : gG} (hsz : G.2.2.2.2.2.2 = true) {n : Nat} (hn : 4 ≤ n) (mi : Nat → Nat → Int) (ml : Nat → Nat → Int64) (a w : Int) (h0 : 0 ≤ a) (h1 : a < 24) (hR : gR32 mi) (hw : rng w) (hb : PV mi a) (hnp : mi 148 2 ≤ 12) : gM G 227 n 0 0 [gr 148, gi a, gi w] (gw mi ml) (gret (mWet mi a w) (gw mi ml)) := by
  have hn1 : 1 ≤ n := by omega
  have hb6 := (id hb).2.2.2.2.2.2.2.1.2
  refine gM.of mX12_isWet okX12_isWet (gcp 227 (by decide)).1 (gcp 227 (by decide)).2 (Nat.le_of_ble_eq_true rfl) ?_
  refine Go.run hsz hn1 2 (pc' := 2) (lv' := [some (gr 148), some (gi a), some (gi w)]) (st' := [gi a, gr 148]) (M' := gw mi ml) rfl ?_
  refine Go.callV (As := [gi a]) (b := 148) (st := []) (mc1 := 0) (mc := 0) (ms1 := 0) (ms := 0) (by rfl) rfl (c := 11) (N := 46) (by rfl) (by decide) (by rfl) (gcn 221 (by decide)).1 (gcn 221 (by decide)).2 rfl (Nat.le_of_ble_eq_true rfl) (by omega) (cM_isHere hsz (n := n - 1) (by omega) mi ml a h0 h1 hR hb) ?_
  rintro _ _ ⟨rfl, rfl⟩
  refine Go.run hsz hn1 0 (pc' := 5) (lv' := [some (gr 148), some (gi a), some (gi w)]) (st' := [gi (mHere mi a)]) (M' := gw mi ml) rfl ?_
  refine Go.if_eq (by rfl) (b2_rng _) (fun kq1 => ?_) (fun kq1 => ?_)
  · refine Go.run hsz hn1 1 (pc' := 34) (lv' := [some (gr 148), some (gi a), some (gi w)]) (st' := [gi 0]) (M' := gw mi ml) rfl ?_
    exact Go.zret (by rfl) (Or.inl rfl) ⟨congrArg (fun z => some (gi z)) (by unfold mWet b2; split <;> omega), rfl⟩
  · refine Go.run hsz hn1 6 (pc' := 18) (lv' := [some (gr 148), some (gi a), some (gi w)]) (st' := [gi 6, gi a, gr 148, gi 8, gr 149]) (M' := gw mi ml) rfl ?_
    refine Go.callV (As := [gi a, gi 6]) (b := 148) (st := [gi 8, gr 149]) (mc1 := 0) (mc := 0) (ms1 := 0) (ms := 0) (by rfl) rfl (c := 11) (N := 46) (by rfl) (by decide) (by rfl) (gcn 165 (by decide)).1 (gcn 165 (by decide)).2 rfl (Nat.le_of_ble_eq_true rfl) (by omega) (cM_of hsz (n := n - 1) (by omega) mi ml a 6 (by omega) (by omega) (by omega) (by omega)) ?_
    rintro _ _ ⟨rfl, rfl⟩
    refine Go.run hsz hn1 3 (pc' := 24) (lv' := [some (gr 148), some (gi a), some (gi w)]) (st' := [gi ((8 * (mOf mi a 6)) + 3), gr 149]) (M' := gw mi ml) rfl ?_
    refine Go.iald (by rfl) (N := 96) (by rfl) (by have := mHere_on (by assumption); omega) (by have := mHere_on (by assumption); omega) (by decide) ?_
    refine Go.run hsz hn1 1 (pc' := 26) (lv' := [some (gr 148), some (gi a), some (gi w)]) (st' := [gi w, gi (mPi mi (mOf mi a 6) 3)]) (M' := gw mi ml) rfl ?_
    refine Go.icmp_ge (by rfl) (hR _ _) hw (fun kq2 => ?_) (fun kq2 => ?_)
    · refine Go.run hsz hn1 1 (pc' := 34) (lv' := [some (gr 148), some (gi a), some (gi w)]) (st' := [gi 0]) (M' := gw mi ml) rfl ?_
      exact Go.zret (by rfl) (Or.inl rfl) ⟨congrArg (fun z => some (gi z)) (by unfold mWet b2; split <;> omega), rfl⟩
    · refine Go.run hsz hn1 2 (pc' := 34) (lv' := [some (gr 148), some (gi a), some (gi w)]) (st' := [gi 1]) (M' := gw mi ml) rfl ?_
      exact Go.zret (by rfl) (Or.inr rfl) ⟨congrArg (fun z => some (gi z)) (by unfold mWet b2; split <;> omega), rfl⟩
set_option maxRecDepth 100000 in
set_option maxHeartbeats 4000000 in
theorem lM_apartNow {G : gG} (hsz : G.2.2.2.2.2.2 = true) {n : Nat} (hn : 3 ≤ n) (mi : Nat → Nat → Int) (ml : Nat → Nat → Int64) (hv : SV mi) : ∀ (f : Nat) (k : Int), 0 ≤ k → k ≤ mi 148 6 → mi 148 6 - k < f → Go G mX12_apartNow n 0 0 4 [some (gr 148), some (gi (mApart mi k.toNat)), some (gi k), none] [] (gw mi ml) (gret (mApart mi (mi 148 6).toNat) (gw mi ml)) := by
  have hn1 : 1 ≤ n := by omega
  obtain ⟨hR, ht, hp, hq, hP, hQ⟩ := id hv
  intro f
  induction f with
  | zero => intros; omega
  | succ f ih =>
    intro k k0 k1 k2
    refine Go.run hsz hn1 3 (pc' := 9) (lv' := [some (gr 148), some (gi (mApart mi k.toNat)), some (gi k), none]) (st' := [gi (mi 148 6), gi k]) (M' := gw mi ml) rfl ?_
    refine Go.icmp_ge (by rfl) ⟨by omega, by omega⟩ (hR _ _) (fun kq1 => ?_) (fun kq1 => ?_)
    · refine Go.run hsz hn1 1 (pc' := 84) (lv' := [some (gr 148), some (gi (mApart mi k.toNat)), some (gi k), none]) (st' := [gi (mApart mi k.toNat)]) (M' := gw mi ml) rfl ?_
      exact Go.iret (by rfl) ⟨by rw [show mi 148 6 = k by omega], rfl⟩
    · refine Go.run hsz hn1 3 (pc' := 16) (lv' := [some (gr 148), some (gi (mApart mi k.toNat)), some (gi k), none]) (st' := [gi 7, gi k, gr 148]) (M' := gw mi ml) rfl ?_
      refine Go.callV (As := [gi k, gi 7]) (b := 148) (st := []) (mc1 := 0) (mc := 0) (ms1 := 0) (ms := 0) (by rfl) rfl (c := 11) (N := 46) (by rfl) (by decide) (by rfl) (gcn 165 (by decide)).1 (gcn 165 (by decide)).2 rfl (Nat.le_of_ble_eq_true rfl) (by omega) (cM_of hsz (n := n - 1) (by omega) mi ml k 7 (by omega) (by omega) (by omega) (by omega)) ?_
      rintro _ _ ⟨rfl, rfl⟩
      have e7 := (hP k (by omega) (by omega)).2.2.2.2.2.2.2.2.1
      have e6 := (hP k (by omega) (by omega)).2.2.2.2.2.2.2.1
      refine Go.run hsz hn1 3 (pc' := 22) (lv' := [some (gr 148), some (gi (mApart mi k.toNat)), some (gi k), some (gi (mOf mi k 7))]) (st' := [gi (mOf mi k 7), gi (mApart mi k.toNat)]) (M' := gw mi ml) rfl ?_
      refine Go.if_lt (by rfl) (hR _ _) (fun kq2 => ?_) (fun kq2 => ?_)
      · refine Go.run hsz hn1 5 (pc' := 4) (lv' := [some (gr 148), some (gi ((mApart mi k.toNat) + 0)), some (gi (k + 1)), some (gi (mOf mi k 7))]) (st' := []) (M' := gw mi ml) rfl ?_
        refine Go.dropl 3 ?_
        refine Go.run hsz hn1 0 (pc' := 4) (lv' := [some (gr 148), some (gi ((mApart mi k.toNat) + 0)), some (gi (k + 1)), none]) (st' := []) (M' := gw mi ml) rfl ?_
        have h9 := ih (k + 1) (by omega) (by omega) (by omega)
        rw [show mApart mi (k + 1).toNat = _ from gfold_s k0] at h9
        (try dsimp only at h9)
        (repeat' split at h9) <;> first | exact h9 | (exfalso; omega)
      · refine Go.run hsz hn1 3 (pc' := 29) (lv' := [some (gr 148), some (gi (mApart mi k.toNat)), some (gi k), some (gi (mOf mi k 7))]) (st' := [gi 6, gi k, gr 148, gi (mApart mi k.toNat)]) (M' := gw mi ml) rfl ?_
        refine Go.callV (As := [gi k, gi 6]) (b := 148) (st := [gi (mApart mi k.toNat)]) (mc1 := 0) (mc := 0) (ms1 := 0) (ms := 0) (by rfl) rfl (c := 11) (N := 46) (by rfl) (by decide) (by rfl) (gcn 165 (by decide)).1 (gcn 165 (by decide)).2 rfl (Nat.le_of_ble_eq_true rfl) (by omega) (cM_of hsz (n := n - 1) (by omega) mi ml k 6 (by omega) (by omega) (by omega) (by omega)) ?_
        rintro _ _ ⟨rfl, rfl⟩
        refine Go.run hsz hn1 0 (pc' := 32) (lv' := [some (gr 148), some (gi (mApart mi k.toNat)), some (gi k), some (gi (mOf mi k 7))]) (st' := [gi (mOf mi k 6), gi (mApart mi k.toNat)]) (M' := gw mi ml) rfl ?_
        refine Go.if_lt (by rfl) (hR _ _) (fun kq3 => ?_) (fun kq3 => ?_)
        · refine Go.run hsz hn1 5 (pc' := 4) (lv' := [some (gr 148), some (gi ((mApart mi k.toNat) + 0)), some (gi (k + 1)), some (gi (mOf mi k 7))]) (st' := []) (M' := gw mi ml) rfl ?_
          refine Go.dropl 3 ?_
          refine Go.run hsz hn1 0 (pc' := 4) (lv' := [some (gr 148), some (gi ((mApart mi k.toNat) + 0)), some (gi (k + 1)), none]) (st' := []) (M' := gw mi ml) rfl ?_
          have h9 := ih (k + 1) (by omega) (by omega) (by omega)
          rw [show mApart mi (k + 1).toNat = _ from gfold_s k0] at h9
          (try dsimp only at h9)
          (repeat' split at h9) <;> first | exact h9 | (exfalso; omega)
        · refine Go.run hsz hn1 2 (pc' := 37) (lv' := [some (gr 148), some (gi (mApart mi k.toNat)), some (gi k), some (gi (mOf mi k 7))]) (st' := [gi (mOf mi k 7), gr 148, gi (mApart mi k.toNat)]) (M' := gw mi ml) rfl ?_
          refine Go.if_ge (by rfl) (hR _ _) (fun kq4 => ?_) (fun kq4 => ?_)
          · refine Go.run hsz hn1 2 (pc' := 47) (lv' := [some (gr 148), some (gi (mApart mi k.toNat)), some (gi k), some (gi (mOf mi k 7))]) (st' := [gi 6, gi (mOf mi k 7), gr 148, gi (mApart mi k.toNat)]) (M' := gw mi ml) rfl ?_
            refine Go.callV (As := [gi (mOf mi k 7), gi 6]) (b := 148) (st := [gi (mApart mi k.toNat)]) (mc1 := 0) (mc := 0) (ms1 := 0) (ms := 0) (by rfl) rfl (c := 11) (N := 46) (by rfl) (by decide) (by rfl) (gcn 165 (by decide)).1 (gcn 165 (by decide)).2 rfl (Nat.le_of_ble_eq_true rfl) (by omega) (cM_of hsz (n := n - 1) (by omega) mi ml (mOf mi k 7) 6 (by omega) (by omega) (by omega) (by omega)) ?_
            rintro _ _ ⟨rfl, rfl⟩
            have e6b := (hP (mOf mi k 7) (by omega) (by omega)).2.2.2.2.2.2.2.1
            refine Go.run hsz hn1 0 (pc' := 50) (lv' := [some (gr 148), some (gi (mApart mi k.toNat)), some (gi k), some (gi (mOf mi k 7))]) (st' := [gi (mOf mi (mOf mi k 7) 6), gi (mApart mi k.toNat)]) (M' := gw mi ml) rfl ?_
            refine Go.if_lt (by rfl) (hR _ _) (fun kq5 => ?_) (fun kq5 => ?_)
            · refine Go.run hsz hn1 5 (pc' := 4) (lv' := [some (gr 148), some (gi ((mApart mi k.toNat) + 0)), some (gi (k + 1)), some (gi (mOf mi k 7))]) (st' := []) (M' := gw mi ml) rfl ?_
              refine Go.dropl 3 ?_
              refine Go.run hsz hn1 0 (pc' := 4) (lv' := [some (gr 148), some (gi ((mApart mi k.toNat) + 0)), some (gi (k + 1)), none]) (st' := []) (M' := gw mi ml) rfl ?_
              have h9 := ih (k + 1) (by omega) (by omega) (by omega)
              rw [show mApart mi (k + 1).toNat = _ from gfold_s k0] at h9
              (try dsimp only at h9)
              (repeat' split at h9) <;> first | exact h9 | (exfalso; omega)
            · refine Go.run hsz hn1 4 (pc' := 58) (lv' := [some (gr 148), some (gi (mApart mi k.toNat)), some (gi k), some (gi (mOf mi k 7))]) (st' := [gi 6, gi k, gr 148, gr 148, gi (mApart mi k.toNat)]) (M' := gw mi ml) rfl ?_
              refine Go.callV (As := [gi k, gi 6]) (b := 148) (st := [gr 148, gi (mApart mi k.toNat)]) (mc1 := 0) (mc := 0) (ms1 := 0) (ms := 0) (by rfl) rfl (c := 11) (N := 46) (by rfl) (by decide) (by rfl) (gcn 165 (by decide)).1 (gcn 165 (by decide)).2 rfl (Nat.le_of_ble_eq_true rfl) (by omega) (cM_of hsz (n := n - 1) (by omega) mi ml k 6 (by omega) (by omega) (by omega) (by omega)) ?_
              rintro _ _ ⟨rfl, rfl⟩
              refine Go.run hsz hn1 3 (pc' := 65) (lv' := [some (gr 148), some (gi (mApart mi k.toNat)), some (gi k), some (gi (mOf mi k 7))]) (st' := [gi 6, gi (mOf mi k 7), gr 148, gi (mOf mi k 6), gr 148, gi (mApart mi k.toNat)]) (M' := gw mi ml) rfl ?_
              refine Go.callV (As := [gi (mOf mi k 7), gi 6]) (b := 148) (st := [gi (mOf mi k 6), gr 148, gi (mApart mi k.toNat)]) (mc1 := 0) (mc := 0) (ms1 := 0) (ms := 0) (by rfl) rfl (c := 11) (N := 46) (by rfl) (by decide) (by rfl) (gcn 165 (by decide)).1 (gcn 165 (by decide)).2 rfl (Nat.le_of_ble_eq_true rfl) (by omega) (cM_of hsz (n := n - 1) (by omega) mi ml (mOf mi k 7) 6 (by omega) (by omega) (by omega) (by omega)) ?_
              rintro _ _ ⟨rfl, rfl⟩
              have e6b := (hP (mOf mi k 7) (by omega) (by omega)).2.2.2.2.2.2.2.1
              refine Go.run hsz hn1 0 (pc' := 68) (lv' := [some (gr 148), some (gi (mApart mi k.toNat)), some (gi k), some (gi (mOf mi k 7))]) (st' := [gi (mOf mi (mOf mi k 7) 6), gi (mOf mi k 6), gr 148, gi (mApart mi k.toNat)]) (M' := gw mi ml) rfl ?_
              refine Go.callV (As := [gi (mOf mi k 6), gi (mOf mi (mOf mi k 7) 6)]) (b := 148) (st := [gi (mApart mi k.toNat)]) (mc1 := 0) (mc := 0) (ms1 := 0) (ms := 0) (by rfl) rfl (c := 11) (N := 46) (by rfl) (by decide) (by rfl) (gcn 162 (by decide)).1 (gcn 162 (by decide)).2 rfl (Nat.le_of_ble_eq_true rfl) (by omega) (cM_farOf hsz (n := n - 1) (by omega) mi ml (mOf mi k 6) (mOf mi (mOf mi k 7) 6) (by omega) (by omega) (by omega) (by omega) (hQ _ (by omega) (by omega)) (hQ _ (by omega) (by omega))) ?_
              rintro _ _ ⟨rfl, rfl⟩
              refine Go.run hsz hn1 5 (pc' := 4) (lv' := [some (gr 148), some (gi ((mApart mi k.toNat) + (mFar mi (mOf mi k 6) (mOf mi (mOf mi k 7) 6)))), some (gi (k + 1)), some (gi (mOf mi k 7))]) (st' := []) (M' := gw mi ml) rfl ?_
              refine Go.dropl 3 ?_
              refine Go.run hsz hn1 0 (pc' := 4) (lv' := [some (gr 148), some (gi ((mApart mi k.toNat) + (mFar mi (mOf mi k 6) (mOf mi (mOf mi k 7) 6)))), some (gi (k + 1)), none]) (st' := []) (M' := gw mi ml) rfl ?_
              have h9 := ih (k + 1) (by omega) (by omega) (by omega)
              rw [show mApart mi (k + 1).toNat = _ from gfold_s k0] at h9
              (try dsimp only at h9)
              (repeat' split at h9) <;> first | exact h9 | (exfalso; omega)
          · refine Go.run hsz hn1 3 (pc' := 47) (lv' := [some (gr 148), some (gi (mApart mi k.toNat)), some (gi k), some (gi (mOf mi k 7))]) (st' := [gi 6, gi 0, gr 148, gi (mApart mi k.toNat)]) (M' := gw mi ml) rfl ?_
            refine Go.callV (As := [gi 0, gi 6]) (b := 148) (st := [gi (mApart mi k.toNat)]) (mc1 := 0) (mc := 0) (ms1 := 0) (ms := 0) (by rfl) rfl (c := 11) (N := 46) (by rfl) (by decide) (by rfl) (gcn 165 (by decide)).1 (gcn 165 (by decide)).2 rfl (Nat.le_of_ble_eq_true rfl) (by omega) (cM_of hsz (n := n - 1) (by omega) mi ml 0 6 (by omega) (by omega) (by omega) (by omega)) ?_
            rintro _ _ ⟨rfl, rfl⟩
            have e6b := (hP 0 (by omega) (by omega)).2.2.2.2.2.2.2.1
            refine Go.run hsz hn1 0 (pc' := 50) (lv' := [some (gr 148), some (gi (mApart mi k.toNat)), some (gi k), some (gi (mOf mi k 7))]) (st' := [gi (mOf mi 0 6), gi (mApart mi k.toNat)]) (M' := gw mi ml) rfl ?_
            refine Go.if_lt (by rfl) (hR _ _) (fun kq6 => ?_) (fun kq6 => ?_)
            · refine Go.run hsz hn1 5 (pc' := 4) (lv' := [some (gr 148), some (gi ((mApart mi k.toNat) + 0)), some (gi (k + 1)), some (gi (mOf mi k 7))]) (st' := []) (M' := gw mi ml) rfl ?_
              refine Go.dropl 3 ?_
              refine Go.run hsz hn1 0 (pc' := 4) (lv' := [some (gr 148), some (gi ((mApart mi k.toNat) + 0)), some (gi (k + 1)), none]) (st' := []) (M' := gw mi ml) rfl ?_
              have h9 := ih (k + 1) (by omega) (by omega) (by omega)
              rw [show mApart mi (k + 1).toNat = _ from gfold_s k0] at h9
              (try dsimp only at h9)
              (repeat' split at h9) <;> first | exact h9 | (exfalso; omega)
            · refine Go.run hsz hn1 4 (pc' := 58) (lv' := [some (gr 148), some (gi (mApart mi k.toNat)), some (gi k), some (gi (mOf mi k 7))]) (st' := [gi 6, gi k, gr 148, gr 148, gi (mApart mi k.toNat)]) (M' := gw mi ml) rfl ?_
              refine Go.callV (As := [gi k, gi 6]) (b := 148) (st := [gr 148, gi (mApart mi k.toNat)]) (mc1 := 0) (mc := 0) (ms1 := 0) (ms := 0) (by rfl) rfl (c := 11) (N := 46) (by rfl) (by decide) (by rfl) (gcn 165 (by decide)).1 (gcn 165 (by decide)).2 rfl (Nat.le_of_ble_eq_true rfl) (by omega) (cM_of hsz (n := n - 1) (by omega) mi ml k 6 (by omega) (by omega) (by omega) (by omega)) ?_
              rintro _ _ ⟨rfl, rfl⟩
              refine Go.run hsz hn1 3 (pc' := 65) (lv' := [some (gr 148), some (gi (mApart mi k.toNat)), some (gi k), some (gi (mOf mi k 7))]) (st' := [gi 6, gi (mOf mi k 7), gr 148, gi (mOf mi k 6), gr 148, gi (mApart mi k.toNat)]) (M' := gw mi ml) rfl ?_
              refine Go.callV (As := [gi (mOf mi k 7), gi 6]) (b := 148) (st := [gi (mOf mi k 6), gr 148, gi (mApart mi k.toNat)]) (mc1 := 0) (mc := 0) (ms1 := 0) (ms := 0) (by rfl) rfl (c := 11) (N := 46) (by rfl) (by decide) (by rfl) (gcn 165 (by decide)).1 (gcn 165 (by decide)).2 rfl (Nat.le_of_ble_eq_true rfl) (by omega) (cM_of hsz (n := n - 1) (by omega) mi ml (mOf mi k 7) 6 (by omega) (by omega) (by omega) (by omega)) ?_
              rintro _ _ ⟨rfl, rfl⟩
              have e6b := (hP (mOf mi k 7) (by omega) (by omega)).2.2.2.2.2.2.2.1
              refine Go.run hsz hn1 0 (pc' := 68) (lv' := [some (gr 148), some (gi (mApart mi k.toNat)), some (gi k), some (gi (mOf mi k 7))]) (st' := [gi (mOf mi (mOf mi k 7) 6), gi (mOf mi k 6), gr 148, gi (mApart mi k.toNat)]) (M' := gw mi ml) rfl ?_
              refine Go.callV (As := [gi (mOf mi k 6), gi (mOf mi (mOf mi k 7) 6)]) (b := 148) (st := [gi (mApart mi k.toNat)]) (mc1 := 0) (mc := 0) (ms1 := 0) (ms := 0) (by rfl) rfl (c := 11) (N := 46) (by rfl) (by decide) (by rfl) (gcn 162 (by decide)).1 (gcn 162 (by decide)).2 rfl (Nat.le_of_ble_eq_true rfl) (by omega) (cM_farOf hsz (n := n - 1) (by omega) mi ml (mOf mi k 6) (mOf mi (mOf mi k 7) 6) (by omega) (by omega) (by omega) (by omega) (hQ _ (by omega) (by omega)) (hQ _ (by omega) (by omega))) ?_
              rintro _ _ ⟨rfl, rfl⟩
              refine Go.run hsz hn1 5 (pc' := 4) (lv' := [some (gr 148), some (gi ((mApart mi k.toNat) + (mFar mi (mOf mi k 6) (mOf mi (mOf mi k 7) 6)))), some (gi (k + 1)), some (gi (mOf mi k 7))]) (st' := []) (M' := gw mi ml) rfl ?_
              refine Go.dropl 3 ?_
              refine Go.run hsz hn1 0 (pc' := 4) (lv' := [some (gr 148), some (gi ((mApart mi k.toNat) + (mFar mi (mOf mi k 6) (mOf mi (mOf mi k 7) 6)))), some (gi (k + 1)), none]) (st' := []) (M' := gw mi ml) rfl ?_
              have h9 := ih (k + 1) (by omega) (by omega) (by omega)
              rw [show mApart mi (k + 1).toNat = _ from gfold_s k0] at h9
              (try dsimp only at h9)
              (repeat' split at h9) <;> first | exact h9 | (exfalso; omega)
set_option maxRecDepth 100000 in
set_option maxHeartbeats 4000000 in
theorem cM_apartNow {G : gG} (hsz : G.2.2.2.2.2.2 = true) {n : Nat} (hn : 3 ≤ n) (mi : Nat → Nat → Int) (ml : Nat → Nat → Int64) (hv : SV mi) : gM G 181 n 0 0 [gr 148] (gw mi ml) (gret (mApart mi (mi 148 6).toNat) (gw mi ml)) := by
  have hn1 : 1 ≤ n := by omega
  refine gM.of mX12_apartNow okX12_apartNow (gcp 181 (by decide)).1 (gcp 181 (by decide)).2 (Nat.le_of_ble_eq_true rfl) ?_
  refine Go.run hsz hn1 4 (pc' := 4) (lv' := [some (gr 148), some (gi 0), some (gi 0), none]) (st' := []) (M' := gw mi ml) rfl ?_
  exact lM_apartNow hsz hn mi ml hv ((mi 148 6).toNat + 1) 0 (by omega) (by have := hv.2.2.2.1.1; omega) (by omega)
set_option maxRecDepth 100000 in
set_option maxHeartbeats 4000000 in
theorem cM_priceBy {G : gG} (hsz : G.2.2.2.2.2.2 = true) {n : Nat} (hn : 2 ≤ n) (mi : Nat → Nat → Int) (ml : Nat → Nat → Int64) (a : Int) (h0 : 0 ≤ a) (h1 : a < 24) (hR : gR32 mi) (hb : PV mi a) : gM G 210 n 0 0 [gr 148, gi a] (gw mi ml) (gret (mPrice mi a) (gw mi ml)) := by
  have hn1 : 1 ≤ n := by omega
  obtain ⟨b0, b1, b2x, -⟩ := id hb
  refine gM.of mX12_priceBy okX12_priceBy (gcp 210 (by decide)).1 (gcp 210 (by decide)).2 (Nat.le_of_ble_eq_true rfl) ?_
  refine Go.run hsz hn1 3 (pc' := 3) (lv' := [some (gr 148), some (gi a), none, none, none]) (st' := [gi 0, gi a, gr 148]) (M' := gw mi ml) rfl ?_
  refine Go.callV (As := [gi a, gi 0]) (b := 148) (st := []) (mc1 := 0) (mc := 0) (ms1 := 0) (ms := 0) (by rfl) rfl (c := 11) (N := 46) (by rfl) (by decide) (by rfl) (gcn 165 (by decide)).1 (gcn 165 (by decide)).2 rfl (Nat.le_of_ble_eq_true rfl) (by omega) (cM_of hsz (n := n - 1) (by omega) mi ml a 0 (by omega) (by omega) (by omega) (by omega)) ?_
  rintro _ _ ⟨rfl, rfl⟩
  refine Go.run hsz hn1 5 (pc' := 12) (lv' := [some (gr 148), some (gi a), some (gi (mOf mi a 0)), none, none]) (st' := [gi 1, gi a, gr 148, gi 10]) (M' := gw mi ml) rfl ?_
  refine Go.callV (As := [gi a, gi 1]) (b := 148) (st := [gi 10]) (mc1 := 0) (mc := 0) (ms1 := 0) (ms := 0) (by rfl) rfl (c := 11) (N := 46) (by rfl) (by decide) (by rfl) (gcn 165 (by decide)).1 (gcn 165 (by decide)).2 rfl (Nat.le_of_ble_eq_true rfl) (by omega) (cM_of hsz (n := n - 1) (by omega) mi ml a 1 (by omega) (by omega) (by omega) (by omega)) ?_
  rintro _ _ ⟨rfl, rfl⟩
  refine Go.run hsz hn1 4 (pc' := 19) (lv' := [some (gr 148), some (gi a), some (gi (mOf mi a 0)), some (gi (10 + (mOf mi a 1))), none]) (st' := [gi 2, gi (mOf mi a 0)]) (M' := gw mi ml) rfl ?_
  refine Go.icmp_ge (by rfl) (hR _ _) ⟨by decide, by decide⟩ (fun kq1 => ?_) (fun kq1 => ?_)
  · refine Go.run hsz hn1 5 (pc' := 40) (lv' := [some (gr 148), some (gi a), some (gi (mOf mi a 0)), some (gi (10 + (mOf mi a 1))), none]) (st' := [gi 2, gi a, gr 148, gi 2, gi (10 + (mOf mi a 1))]) (M' := gw mi ml) rfl ?_
    refine Go.callV (As := [gi a, gi 2]) (b := 148) (st := [gi 2, gi (10 + (mOf mi a 1))]) (mc1 := 0) (mc := 0) (ms1 := 0) (ms := 0) (by rfl) rfl (c := 11) (N := 46) (by rfl) (by decide) (by rfl) (gcn 165 (by decide)).1 (gcn 165 (by decide)).2 rfl (Nat.le_of_ble_eq_true rfl) (by omega) (cM_of hsz (n := n - 1) (by omega) mi ml a 2 (by omega) (by omega) (by omega) (by omega)) ?_
    rintro _ _ ⟨rfl, rfl⟩
    refine Go.run hsz hn1 5 (pc' := 49) (lv' := [some (gr 148), some (gi a), some (gi (mOf mi a 0)), some (gi (10 + (mOf mi a 1))), some (gi ((10 + (mOf mi a 1)) + (2 * (mOf mi a 2))))]) (st' := [gi 3, gi (mOf mi a 0)]) (M' := gw mi ml) rfl ?_
    refine Go.icmp_ne (by rfl) (hR _ _) ⟨by decide, by decide⟩ (fun kq2 => ?_) (fun kq2 => ?_)
    · refine Go.run hsz hn1 2 (pc' := 61) (lv' := [some (gr 148), some (gi a), some (gi (mOf mi a 0)), some (gi (10 + (mOf mi a 1))), some (gi ((10 + (mOf mi a 1)) + (2 * (mOf mi a 2))))]) (st' := [gi 4, gi (mOf mi a 0)]) (M' := gw mi ml) rfl ?_
      refine Go.icmp_ne (by rfl) (hR _ _) ⟨by decide, by decide⟩ (fun kq3 => ?_) (fun kq3 => ?_)
      · refine Go.run hsz hn1 1 (pc' := 76) (lv' := [some (gr 148), some (gi a), some (gi (mOf mi a 0)), some (gi (10 + (mOf mi a 1))), some (gi ((10 + (mOf mi a 1)) + (2 * (mOf mi a 2))))]) (st' := [gi ((10 + (mOf mi a 1)) + (2 * (mOf mi a 2)))]) (M' := gw mi ml) rfl ?_
        first | exact Go.iret (by rfl) ⟨congrArg (fun z => some (gi z)) (by unfold mPrice; (repeat' split) <;> omega), rfl⟩ | (exfalso; omega)
      · refine Go.run hsz hn1 3 (pc' := 69) (lv' := [some (gr 148), some (gi a), some (gi (mOf mi a 0)), some (gi (10 + (mOf mi a 1))), some (gi ((10 + (mOf mi a 1)) + (2 * (mOf mi a 2))))]) (st' := [gi 3, gi ((10 + (mOf mi a 1)) + (2 * (mOf mi a 2))), gi ((10 + (mOf mi a 1)) + (2 * (mOf mi a 2)))]) (M' := gw mi ml) rfl ?_
        refine Go.idiv (by rfl) ⟨by omega, by omega⟩ ⟨by decide, by decide⟩ (by decide) (rng_tdiv ⟨by omega, by omega⟩ (by decide)) ?_
        refine Go.run hsz hn1 2 (pc' := 76) (lv' := [some (gr 148), some (gi a), some (gi (mOf mi a 0)), some (gi (10 + (mOf mi a 1))), some (gi ((10 + (mOf mi a 1)) + (2 * (mOf mi a 2))))]) (st' := [gi (((10 + (mOf mi a 1)) + (2 * (mOf mi a 2))) - (((10 + (mOf mi a 1)) + (2 * (mOf mi a 2))).tdiv 3))]) (M' := gw mi ml) rfl ?_
        first | exact Go.iret (by rfl) ⟨congrArg (fun z => some (gi z)) (by unfold mPrice; (repeat' split) <;> omega), rfl⟩ | (exfalso; omega)
    · refine Go.run hsz hn1 4 (pc' := 76) (lv' := [some (gr 148), some (gi a), some (gi (mOf mi a 0)), some (gi (10 + (mOf mi a 1))), some (gi ((10 + (mOf mi a 1)) + (2 * (mOf mi a 2))))]) (st' := [gi (2 * ((10 + (mOf mi a 1)) + (2 * (mOf mi a 2))))]) (M' := gw mi ml) rfl ?_
      first | exact Go.iret (by rfl) ⟨congrArg (fun z => some (gi z)) (by unfold mPrice; (repeat' split) <;> omega), rfl⟩ | (exfalso; omega)
  · refine Go.run hsz hn1 2 (pc' := 24) (lv' := [some (gr 148), some (gi a), some (gi (mOf mi a 0)), some (gi (10 + (mOf mi a 1))), none]) (st' := [gi 1, gi (mOf mi a 0)]) (M' := gw mi ml) rfl ?_
    refine Go.icmp_ne (by rfl) (hR _ _) ⟨by decide, by decide⟩ (fun kq4 => ?_) (fun kq4 => ?_)
    · refine Go.run hsz hn1 1 (pc' := 34) (lv' := [some (gr 148), some (gi a), some (gi (mOf mi a 0)), some (gi (10 + (mOf mi a 1))), none]) (st' := [gi (10 + (mOf mi a 1))]) (M' := gw mi ml) rfl ?_
      first | exact Go.iret (by rfl) ⟨congrArg (fun z => some (gi z)) (by unfold mPrice; (repeat' split) <;> omega), rfl⟩ | (exfalso; omega)
    · refine Go.run hsz hn1 4 (pc' := 34) (lv' := [some (gr 148), some (gi a), some (gi (mOf mi a 0)), some (gi (10 + (mOf mi a 1))), none]) (st' := [gi ((10 + (mOf mi a 1)) - 3)]) (M' := gw mi ml) rfl ?_
      first | exact Go.iret (by rfl) ⟨congrArg (fun z => some (gi z)) (by unfold mPrice; (repeat' split) <;> omega), rfl⟩ | (exfalso; omega)

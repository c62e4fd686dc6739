theorem ib_gset {c : Int → Prop} [DecidablePred c] {p : Nat} (hp : p < 12) : ∀ k : Nat, k ≤ 12 → ib (gset1 c k) p = (decide (p < k) && decide (c p))
  | 0, _ => by
    show ib 0 p = _
    rw [ib_zero, decide_eq_false (by omega)]; rfl
  | k + 1, hk => by
    have ih := ib_gset (c := c) hp k (by omega)
    show ib (if c k then orI (gset1 c k) (shlI 1 k) else gset1 c k) p = _
    by_cases e : c k
    · rw [if_pos e, ib_add _ (by omega) hp, ih]
      by_cases e2 : p = k
      · subst e2
        rw [decide_eq_true rfl, Bool.or_true, decide_eq_true (show p < p + 1 by omega), decide_eq_true e]; rfl
      · rw [decide_eq_false e2, Bool.or_false]
        by_cases e3 : p < k
        · rw [decide_eq_true e3, decide_eq_true (show p < k + 1 by omega)]
        · rw [decide_eq_false e3, decide_eq_false (show ¬ p < k + 1 by omega)]
    · rw [if_neg e, ih]
      by_cases e2 : p = k
      · subst e2
        rw [decide_eq_false e, Bool.and_false, Bool.and_false]
      · by_cases e3 : p < k
        · rw [decide_eq_true e3, decide_eq_true (show p < k + 1 by omega)]
        · rw [decide_eq_false e3, decide_eq_false (show ¬ p < k + 1 by omega)]
def cDry (mi : Nat → Nat → Int) (x : Int) (k : Nat) : Int := gset1 (fun p => ¬ cP mi p 3 < x ∧ cWho mi p (mi 1 0) (mi 1 3).toNat = -1) k
def cFit (mi : Nat → Nat → Int) (a D : Int) (k : Nat) : Int := gset1 (fun p => ¬ andI (shrI D p) 1 = 0 ∧ cReason mi a p = 0) k
def cRWn (mi : Nat → Nat → Int) (x : Int) (k : Nat) : Nat := cntB (fun b => decide (¬ cWet mi b x = 0)) k
theorem who_cb (mi : Nat → Nat → Int) (p x : Int) : ∀ k : Nat, -1 ≤ cWho mi p x k ∧ cWho mi p x k ≤ k
  | 0 => by show (-1 : Int) ≤ -1 ∧ (-1 : Int) ≤ 0; omega
  | k + 1 => by
    have ih := who_cb mi p x k
    show -1 ≤ (if cA mi k 8 = p ∧ ¬ cStays mi k x = 0 then (k : Int) else cWho mi p x k) ∧ (if cA mi k 8 = p ∧ ¬ cStays mi k x = 0 then (k : Int) else cWho mi p x k) ≤ ((k + 1 : Nat) : Int)
    split <;> omega
set_option maxRecDepth 100000 in
set_option maxHeartbeats 4000000 in
theorem lR_dry {G : gG} (hsz : G.2.2.2.2.2.2 = true) {n : Nat} (hn : 5 ≤ n) (mi : Nat → Nat → Int) (ml : Nat → Nat → Int64) (x : Int) (rx : rng x) (hv : CV mi) (hu : ∀ p : Int, 0 ≤ p → p < mi 1 2 → cUni mi p) : ∀ (f : Nat) (k : Int), 0 ≤ k → k ≤ mi 1 2 → mi 1 2 - k < f → Go G mX6_dryPitches n 0 0 4 [some (gr 127), some (gi x), some (gi (cDry mi x k.toNat)), some (gi k), none] [] (gw mi ml) (gret (cDry mi x (mi 1 2).toNat) (gw mi ml)) := by
  have hn1 : 1 ≤ n := by omega
  obtain ⟨hR, ht, hp, hq, hP, hQ⟩ := id hv
  intro f
  induction f with
  | zero => intros; omega
  | succ f ih =>
    intro k k0 k1 k2
    refine Go.run hsz hn1 4 (pc' := 12) (lv' := [some (gr 127), some (gi x), some (gi (cDry mi x k.toNat)), some (gi k), none]) (st' := [gi (mi 1 2), gi k]) (M' := gw mi ml) rfl ?_
    refine Go.icmp_ge (by rfl) ⟨by omega, by omega⟩ (hR _ _) (fun kq1 => ?_) (fun kq1 => ?_)
    · refine Go.run hsz hn1 1 (pc' := 75) (lv' := [some (gr 127), some (gi x), some (gi (cDry mi x k.toNat)), some (gi k), none]) (st' := [gi (cDry mi x k.toNat)]) (M' := gw mi ml) rfl ?_
      obtain rfl : k = mi 1 2 := by omega
      exact Go.iret (by rfl) ⟨rfl, rfl⟩
    · refine Go.run hsz hn1 4 (pc' := 23) (lv' := [some (gr 127), some (gi x), some (gi (cDry mi x k.toNat)), some (gi k), none]) (st' := [gi k, gr 2]) (M' := gw mi ml) rfl ?_
      refine Go.aaldR 3 (by rfl) (N := 12) (by rfl) ⟨by decide, by decide⟩ (by omega) (by omega) (by decide) (gMR_2 (by omega) (by omega)) ?_
      refine Go.getf (by rfl) (c := 3) (N := 10) (shP (i := k) (by omega)) ?_
      refine Go.run hsz hn1 1 (pc' := 28) (lv' := [some (gr 127), some (gi x), some (gi (cDry mi x k.toNat)), some (gi k), none]) (st' := [gi x, gi (cP mi k 3)]) (M' := gw mi ml) rfl ?_
      refine Go.icmp_lt (by rfl) (hR _ _) rx (fun kq2 => ?_) (fun kq2 => ?_)
      · refine Go.run hsz hn1 3 (pc' := 40) (lv' := [some (gr 127), some (gi x), some (gi (cDry mi x k.toNat)), some (gi k), some (gi 0)]) (st' := [gi 0]) (M' := gw mi ml) rfl ?_
        refine Go.if_eq (by rfl) ⟨by decide, by decide⟩ (fun kq3 => ?_) (fun kq3 => ?_)
        · refine Go.run hsz hn1 2 (pc' := 4) (lv' := [some (gr 127), some (gi x), some (gi (cDry mi x k.toNat)), some (gi (k + 1)), some (gi 0)]) (st' := []) (M' := gw mi ml) rfl ?_
          refine Go.dropl 4 ?_
          refine Go.run hsz hn1 0 (pc' := 4) (lv' := [some (gr 127), some (gi x), some (gi (cDry mi x k.toNat)), some (gi (k + 1)), none]) (st' := []) (M' := gw mi ml) rfl ?_
          have h9 := ih (k + 1) (by omega) (by omega) (by omega)
          rw [show cDry mi x (k + 1).toNat = _ from gfold_s k0] at h9
          (try dsimp only at h9)
          (repeat' split at h9) <;> first | exact h9 | (exfalso; omega)
        · exact absurd kq3 (by decide)
      · refine Go.run hsz hn1 4 (pc' := 40) (lv' := [some (gr 127), some (gi x), some (gi (cDry mi x k.toNat)), some (gi k), some (gi 1)]) (st' := [gi 1]) (M' := gw mi ml) rfl ?_
        refine Go.if_eq (by rfl) ⟨by decide, by decide⟩ (fun kq4 => ?_) (fun kq4 => ?_)
        · exact absurd kq4 (by decide)
        · refine Go.run hsz hn1 6 (pc' := 55) (lv' := [some (gr 127), some (gi x), some (gi (cDry mi x k.toNat)), some (gi k), some (gi 1)]) (st' := [gi (mi 1 0), gi k, gr 1]) (M' := gw mi ml) rfl ?_
          refine Go.callV (As := [gi k, gi (mi 1 0)]) (b := 1) (st := []) (mc1 := 0) (mc := 0) (ms1 := 0) (ms := 0) (by rfl) rfl (c := 7) (N := 11) (by rfl) (by decide) (by rfl) (gcn 70 (by decide)).1 (gcn 70 (by decide)).2 rfl (Nat.le_of_ble_eq_true rfl) (by omega) (cS_holder hsz (n := n - 1) (by omega) mi ml k (mi 1 0) ⟨by omega, by omega⟩ (hR _ _) (hu _ (by omega) (by omega)) hv) ?_
          rintro _ _ ⟨rfl, rfl⟩
          refine Go.run hsz hn1 1 (pc' := 59) (lv' := [some (gr 127), some (gi x), some (gi (cDry mi x k.toNat)), some (gi k), some (gi 1)]) (st' := [gi (-1), gi (cWho mi k (mi 1 0) (mi 1 3).toNat)]) (M' := gw mi ml) rfl ?_
          refine Go.icmp_ne (by rfl) (by have := who_cb mi k (mi 1 0) (mi 1 3).toNat; exact ⟨by omega, by omega⟩) ⟨by decide, by decide⟩ (fun kq5 => ?_) (fun kq5 => ?_)
          · refine Go.run hsz hn1 2 (pc' := 4) (lv' := [some (gr 127), some (gi x), some (gi (cDry mi x k.toNat)), some (gi (k + 1)), some (gi 1)]) (st' := []) (M' := gw mi ml) rfl ?_
            refine Go.dropl 4 ?_
            refine Go.run hsz hn1 0 (pc' := 4) (lv' := [some (gr 127), some (gi x), some (gi (cDry mi x k.toNat)), some (gi (k + 1)), none]) (st' := []) (M' := gw mi ml) rfl ?_
            have h9 := ih (k + 1) (by omega) (by omega) (by omega)
            rw [show cDry mi x (k + 1).toNat = _ from gfold_s k0] at h9
            (try dsimp only at h9)
            (repeat' split at h9) <;> first | exact h9 | (exfalso; omega)
          · refine Go.run hsz hn1 8 (pc' := 4) (lv' := [some (gr 127), some (gi x), some (gi (orI (cDry mi x k.toNat) (shlI 1 k))), some (gi (k + 1)), some (gi 1)]) (st' := []) (M' := gw mi ml) rfl ?_
            refine Go.dropl 4 ?_
            refine Go.run hsz hn1 0 (pc' := 4) (lv' := [some (gr 127), some (gi x), some (gi (orI (cDry mi x k.toNat) (shlI 1 k))), some (gi (k + 1)), none]) (st' := []) (M' := gw mi ml) rfl ?_
            have h9 := ih (k + 1) (by omega) (by omega) (by omega)
            rw [show cDry mi x (k + 1).toNat = _ from gfold_s k0] at h9
            (try dsimp only at h9)
            (repeat' split at h9) <;> first | exact h9 | (exfalso; omega)
set_option maxRecDepth 100000 in
set_option maxHeartbeats 4000000 in
theorem cR_dry {G : gG} (hsz : G.2.2.2.2.2.2 = true) {n : Nat} (hn : 5 ≤ n) (mi : Nat → Nat → Int) (ml : Nat → Nat → Int64) (x : Int) (rx : rng x) (hv : CV mi) (hu : ∀ p : Int, 0 ≤ p → p < mi 1 2 → cUni mi p) : gM G 47 n 0 0 [gr 127, gi x] (gw mi ml) (gret (cDry mi x (mi 1 2).toNat) (gw mi ml)) := by
  have hn1 : 1 ≤ n := by omega
  refine gM.of mX6_dryPitches okX6_dryPitches (gcp 47 (by decide)).1 (gcp 47 (by decide)).2 (Nat.le_of_ble_eq_true rfl) ?_
  refine Go.run hsz hn1 4 (pc' := 4) (lv' := [some (gr 127), some (gi x), some (gi 0), some (gi 0), none]) (st' := []) (M' := gw mi ml) rfl ?_
  exact lR_dry hsz hn mi ml x rx hv hu ((mi 1 2).toNat + 1) 0 (by omega) (by have := hv.2.2.1; omega) (by omega)
theorem CV.oR {m mi : Nat → Nat → Int} (h : CV mi) (hR : gR32 m) (hm : ∀ c k : Nat, c < 107 → m c k = mi c k) : CV m := by
  have h' := h
  obtain ⟨-, h0, h2, h3, h4, h5⟩ := h
  refine ⟨hR, by rw [hm _ _ (by decide)]; exact h0, by rw [hm _ _ (by decide)]; exact h2, by rw [hm _ _ (by decide)]; exact h3, fun a a0 a1 => ?_, fun p p0 p1 => ?_⟩
  · rw [hm _ _ (by decide)] at a1
    have := h4 a a0 a1
    have eA : ∀ k, cA m a k = cA mi a k := fun k => hm _ _ (by omega)
    unfold CPV at this ⊢
    simp only [eA, hm 1 2 (by decide), hm 1 3 (by decide)]
    exact this
  · rw [hm _ _ (by decide)] at p1
    have := h5 p p0 p1
    have eP : ∀ k, cP m p k = cP mi p k := fun k => hm _ _ (by omega)
    unfold CQV at this ⊢
    simp only [eP]
    exact this
theorem cReason_c {m mi : Nat → Nat → Int} (hm : ∀ c k : Nat, c < 107 → m c k = mi c k) {a p : Int} (a1 : a < 24) (p1 : p < 12) : cReason m a p = cReason mi a p := by
  have eA : ∀ k, cA m a k = cA mi a k := fun k => hm _ _ (by omega)
  have eP : ∀ k, cP m p k = cP mi p k := fun k => hm _ _ (by omega)
  unfold cReason
  simp only [eA, eP]
theorem cFit_c {m mi : Nat → Nat → Int} (hm : ∀ c k : Nat, c < 107 → m c k = mi c k) {a D : Int} (a1 : a < 24) {k : Nat} (hk : k ≤ 12) : cFit m a D k = cFit mi a D k := by
  unfold cFit gset1
  refine gfold_congr (fun p hp acc => ?_)
  have e := cReason_c hm a1 (p := (p : Int)) (by omega)
  simp only [e]
theorem cWet_c {m mi : Nat → Nat → Int} (hm : ∀ c k : Nat, c < 107 → m c k = mi c k) (hv : CV mi) {a x : Int} (a0 : 0 ≤ a) (a1 : a < mi 1 3) : cWet m a x = cWet mi a x := by
  have h6 := hv.2.2.2.1
  have h2 := hv.2.2.1
  have eA : ∀ k, cA m a k = cA mi a k := fun k => hm _ _ (by omega)
  have h8 := (hv.2.2.2.2.1 a a0 a1).2.2.2.2.2.2.2.1
  have eP : cP m (cA mi a 8) 3 = cP mi (cA mi a 8) 3 := hm _ _ (by omega)
  unfold cWet cHere cStays
  simp only [eA, eP, hm 1 0 (by decide)]
set_option maxRecDepth 100000 in
set_option maxHeartbeats 4000000 in
theorem lR_fit {G : gG} (hsz : G.2.2.2.2.2.2 = true) {n : Nat} (hn : 5 ≤ n) (mi : Nat → Nat → Int) (ml : Nat → Nat → Int64) (a D : Int) (a0 : 0 ≤ a) (a1 : a < mi 1 3) (hv : CV mi) : ∀ (f : Nat) (k : Int), 0 ≤ k → k ≤ mi 1 2 → mi 1 2 - k < f → Go G mX6_fitting n 0 0 5 [some (gr 127), some (gi a), some (gi D), some (gi (cFit mi a D k.toNat)), some (gi k), none] [] (gw mi ml) (gret (cFit mi a D (mi 1 2).toNat) (gw mi ml)) := by
  have hn1 : 1 ≤ n := by omega
  obtain ⟨hR, ht, hp, hq, hP, hQ⟩ := id hv
  intro f
  induction f with
  | zero => intros; omega
  | succ f ih =>
    intro k k0 k1 k2
    refine Go.run hsz hn1 4 (pc' := 14) (lv' := [some (gr 127), some (gi a), some (gi D), some (gi (cFit mi a D k.toNat)), some (gi k), none]) (st' := [gi (mi 1 2), gi k]) (M' := gw mi ml) rfl ?_
    refine Go.icmp_ge (by rfl) ⟨by omega, by omega⟩ (hR _ _) (fun kq1 => ?_) (fun kq1 => ?_)
    · refine Go.run hsz hn1 1 (pc' := 77) (lv' := [some (gr 127), some (gi a), some (gi D), some (gi (cFit mi a D k.toNat)), some (gi k), none]) (st' := [gi (cFit mi a D k.toNat)]) (M' := gw mi ml) rfl ?_
      obtain rfl : k = mi 1 2 := by omega
      exact Go.iret (by rfl) ⟨rfl, rfl⟩
    · refine Go.run hsz hn1 5 (pc' := 23) (lv' := [some (gr 127), some (gi a), some (gi D), some (gi (cFit mi a D k.toNat)), some (gi k), none]) (st' := [gi (andI (shrI D k) 1)]) (M' := gw mi ml) rfl ?_
      refine Go.if_eq (by rfl) (rng_of _) (fun kq2 => ?_) (fun kq2 => ?_)
      · refine Go.run hsz hn1 3 (pc' := 35) (lv' := [some (gr 127), some (gi a), some (gi D), some (gi (cFit mi a D k.toNat)), some (gi k), some (gi 0)]) (st' := [gi 0]) (M' := gw mi ml) rfl ?_
        refine Go.if_eq (by rfl) ⟨by decide, by decide⟩ (fun kq3 => ?_) (fun kq3 => ?_)
        · refine Go.run hsz hn1 2 (pc' := 5) (lv' := [some (gr 127), some (gi a), some (gi D), some (gi (cFit mi a D k.toNat)), some (gi (k + 1)), some (gi 0)]) (st' := []) (M' := gw mi ml) rfl ?_
          refine Go.dropl 5 ?_
          refine Go.run hsz hn1 0 (pc' := 5) (lv' := [some (gr 127), some (gi a), some (gi D), some (gi (cFit mi a D k.toNat)), some (gi (k + 1)), none]) (st' := []) (M' := gw mi ml) rfl ?_
          have h9 := ih (k + 1) (by omega) (by omega) (by omega)
          rw [show cFit mi a D (k + 1).toNat = _ from gfold_s k0] at h9
          (try dsimp only at h9)
          (repeat' split at h9) <;> first | exact h9 | (exfalso; omega)
        · exact absurd kq3 (by decide)
      · refine Go.run hsz hn1 4 (pc' := 35) (lv' := [some (gr 127), some (gi a), some (gi D), some (gi (cFit mi a D k.toNat)), some (gi k), some (gi 1)]) (st' := [gi 1]) (M' := gw mi ml) rfl ?_
        refine Go.if_eq (by rfl) ⟨by decide, by decide⟩ (fun kq4 => ?_) (fun kq4 => ?_)
        · exact absurd kq4 (by decide)
        · refine Go.run hsz hn1 4 (pc' := 46) (lv' := [some (gr 127), some (gi a), some (gi D), some (gi (cFit mi a D k.toNat)), some (gi k), some (gi 1)]) (st' := [gi a, gr 3]) (M' := gw mi ml) rfl ?_
          refine Go.aaldR 4 (by rfl) (N := 24) (by rfl) ⟨by decide, by decide⟩ (by omega) (by omega) (by decide) (gMR_3 (by omega) (by omega)) ?_
          refine Go.run hsz hn1 4 (pc' := 56) (lv' := [some (gr 127), some (gi a), some (gi D), some (gi (cFit mi a D k.toNat)), some (gi k), some (gi 1)]) (st' := [gi k, gr 2, gr (24 + a.toNat)]) (M' := gw mi ml) rfl ?_
          refine Go.aaldR 3 (by rfl) (N := 12) (by rfl) ⟨by decide, by decide⟩ (by omega) (by omega) (by decide) (gMR_2 (by omega) (by omega)) ?_
          refine Go.callS (As := [gr (24 + a.toNat), gr (12 + k.toNat)]) (st := []) (mc1 := 0) (mc := 0) (ms1 := 0) (ms := 0) (by rfl) rfl (gcn 10 (by decide)).1 (gcn 10 (by decide)).2 (Nat.le_of_ble_eq_true rfl) (by omega) (cK_reason hsz (n := n - 1) (by omega) mi ml a k (by omega) (by omega) (by omega) (by omega) (hP _ (by omega) (by omega)) hR) ?_
          rintro _ _ ⟨rfl, rfl⟩
          refine Go.run hsz hn1 0 (pc' := 60) (lv' := [some (gr 127), some (gi a), some (gi D), some (gi (cFit mi a D k.toNat)), some (gi k), some (gi 1)]) (st' := [gi (cReason mi a k)]) (M' := gw mi ml) rfl ?_
          refine Go.if_ne (by rfl) ⟨by have := cReason_b mi a k; omega, by have := cReason_b mi a k; omega⟩ (fun kq5 => ?_) (fun kq5 => ?_)
          · refine Go.run hsz hn1 2 (pc' := 5) (lv' := [some (gr 127), some (gi a), some (gi D), some (gi (cFit mi a D k.toNat)), some (gi (k + 1)), some (gi 1)]) (st' := []) (M' := gw mi ml) rfl ?_
            refine Go.dropl 5 ?_
            refine Go.run hsz hn1 0 (pc' := 5) (lv' := [some (gr 127), some (gi a), some (gi D), some (gi (cFit mi a D k.toNat)), some (gi (k + 1)), none]) (st' := []) (M' := gw mi ml) rfl ?_
            have h9 := ih (k + 1) (by omega) (by omega) (by omega)
            rw [show cFit mi a D (k + 1).toNat = _ from gfold_s k0] at h9
            (try dsimp only at h9)
            (repeat' split at h9) <;> first | exact h9 | (exfalso; omega)
          · refine Go.run hsz hn1 8 (pc' := 5) (lv' := [some (gr 127), some (gi a), some (gi D), some (gi (orI (cFit mi a D k.toNat) (shlI 1 k))), some (gi (k + 1)), some (gi 1)]) (st' := []) (M' := gw mi ml) rfl ?_
            refine Go.dropl 5 ?_
            refine Go.run hsz hn1 0 (pc' := 5) (lv' := [some (gr 127), some (gi a), some (gi D), some (gi (orI (cFit mi a D k.toNat) (shlI 1 k))), some (gi (k + 1)), none]) (st' := []) (M' := gw mi ml) rfl ?_
            have h9 := ih (k + 1) (by omega) (by omega) (by omega)
            rw [show cFit mi a D (k + 1).toNat = _ from gfold_s k0] at h9
            (try dsimp only at h9)
            (repeat' split at h9) <;> first | exact h9 | (exfalso; omega)
set_option maxRecDepth 100000 in
set_option maxHeartbeats 4000000 in
theorem cR_fit {G : gG} (hsz : G.2.2.2.2.2.2 = true) {n : Nat} (hn : 5 ≤ n) (mi : Nat → Nat → Int) (ml : Nat → Nat → Int64) (a D : Int) (a0 : 0 ≤ a) (a1 : a < mi 1 3) (hv : CV mi) : gM G 48 n 0 0 [gr 127, gi a, gi D] (gw mi ml) (gret (cFit mi a D (mi 1 2).toNat) (gw mi ml)) := by
  have hn1 : 1 ≤ n := by omega
  refine gM.of mX6_fitting okX6_fitting (gcp 48 (by decide)).1 (gcp 48 (by decide)).2 (Nat.le_of_ble_eq_true rfl) ?_
  refine Go.run hsz hn1 4 (pc' := 5) (lv' := [some (gr 127), some (gi a), some (gi D), some (gi 0), some (gi 0), none]) (st' := []) (M' := gw mi ml) rfl ?_
  exact lR_fit hsz hn mi ml a D a0 a1 hv ((mi 1 2).toNat + 1) 0 (by omega) (by have := hv.2.2.1; omega) (by omega)
def rGo_ (m mi : Nat → Nat → Int) : Prop := ∀ c j : Nat, (c ≠ 127 ∨ j ≠ 1) → c ≠ 128 → c ≠ 129 → m c j = mi c j
def rGa (mi m : Nat → Nat → Int) (x D : Int) (k : Nat) : Prop := rGo_ m mi ∧ gR32 m ∧ m 127 1 = (cRWn mi x k : Nat) ∧ ∀ b : Nat, b < k → ¬ cWet mi b x = 0 → m 128 (cRWn mi x b) = b ∧ m 129 (cRWn mi x b) = cFit mi b D (mi 1 2).toNat
theorem cRWn_lt {mi : Nat → Nat → Int} {x : Int} {b : Nat} (hw : ¬ cWet mi b x = 0) : ∀ {k : Nat}, b < k → cRWn mi x b < cRWn mi x k
  | 0, h => absurd h (by omega)
  | k + 1, h => by
    have e : cRWn mi x (k + 1) = cRWn mi x k + (decide (¬ cWet mi k x = 0)).toNat := rfl
    rw [e]
    by_cases ek : b = k
    · subst ek
      rw [decide_eq_true hw]
      simp only [Bool.toNat_true]; omega
    · have := cRWn_lt hw (k := k) (by omega)
      omega
theorem rGa_skip {mi m : Nat → Nat → Int} {x D : Int} {k : Nat} (h : rGa mi m x D k) (hw : cWet mi k x = 0) : rGa mi m x D (k + 1) := by
  obtain ⟨h1, h2, h3, h4⟩ := h
  have e : cRWn mi x (k + 1) = cRWn mi x k + (decide (¬ cWet mi k x = 0)).toNat := rfl
  rw [decide_eq_false (fun q => q hw)] at e
  refine ⟨h1, h2, by rw [e]; exact h3, fun b hb hwb => ?_⟩
  by_cases ek : b = k
  · subst ek; exact absurd hw hwb
  · exact h4 b (by omega) hwb
theorem rGa_add {mi m : Nat → Nat → Int} {x D : Int} {k : Nat} (h : rGa mi m x D k) (hw : ¬ cWet mi k x = 0) (hk : k < 24) (hD : rng (cFit mi k D (mi 1 2).toNat)) : rGa mi (gu (gu (gu m 128 (m 127 1).toNat k) 129 (m 127 1).toNat (cFit mi k D (mi 1 2).toNat)) 127 1 (m 127 1 + 1)) x D (k + 1) := by
  obtain ⟨h1, h2, h3, h4⟩ := h
  have hle := cntB_le (fun b => decide (¬ cWet mi b x = 0)) k
  have hle : cRWn mi x k ≤ k := hle
  have e : cRWn mi x (k + 1) = cRWn mi x k + (decide (¬ cWet mi k x = 0)).toNat := rfl
  rw [decide_eq_true hw] at e
  simp only [Bool.toNat_true] at e
  have ez : (m 127 1).toNat = cRWn mi x k := by omega
  refine ⟨fun c j a b d => ?_, gR32_gu (gR32_gu (gR32_gu h2 ⟨by omega, by omega⟩) hD) ⟨by omega, by omega⟩, by rw [gu_self, e]; omega, fun b hb hwb => ?_⟩
  · rw [gu_ne a, gu_other d, gu_other b]; exact h1 c j a b d
  · have A : ∀ j, gu (gu (gu m 128 (m 127 1).toNat k) 129 (m 127 1).toNat (cFit mi k D (mi 1 2).toNat)) 127 1 (m 127 1 + 1) 128 j = if j = cRWn mi x k then (k : Int) else m 128 j := fun j => by
      rw [gu_other (by decide), gu_other (by decide), gu_eq, ez]
      by_cases e9 : j = cRWn mi x k
      · rw [if_pos ⟨rfl, e9⟩, if_pos e9]
      · rw [if_neg (fun z => e9 z.2), if_neg e9]
    have B : ∀ j, gu (gu (gu m 128 (m 127 1).toNat k) 129 (m 127 1).toNat (cFit mi k D (mi 1 2).toNat)) 127 1 (m 127 1 + 1) 129 j = if j = cRWn mi x k then cFit mi k D (mi 1 2).toNat else m 129 j := fun j => by
      rw [gu_other (by decide), gu_eq, ez]
      by_cases e9 : j = cRWn mi x k
      · rw [if_pos ⟨rfl, e9⟩, if_pos e9]
      · rw [if_neg (fun z => e9 z.2), if_neg e9, gu_other (by decide)]
    rw [A, B]
    by_cases ek : b = k
    · subst ek
      rw [if_pos rfl, if_pos rfl]
      exact ⟨rfl, rfl⟩
    · have hlt := cRWn_lt hwb (k := k) (by omega)
      rw [if_neg (by omega), if_neg (by omega)]
      exact h4 b (by omega) hwb
theorem rGa_at {mi : Nat → Nat → Int} {x : Int} : ∀ {k : Nat}, ∀ i : Nat, i < cRWn mi x k → ∃ b : Nat, b < k ∧ ¬ cWet mi b x = 0 ∧ cRWn mi x b = i := by
  intro k
  induction k with
  | zero => intro i hi; exact absurd hi (by show ¬ i < 0; omega)
  | succ k ih =>
    intro i hi
    have e : cRWn mi x (k + 1) = cRWn mi x k + (decide (¬ cWet mi k x = 0)).toNat := rfl
    by_cases c : i < cRWn mi x k
    · obtain ⟨b, h1, h2⟩ := ih i c
      exact ⟨b, by omega, h2⟩
    · by_cases hw : cWet mi k x = 0
      · rw [e, decide_eq_false (fun q => q hw)] at hi
        simp only [Bool.toNat_false] at hi
        omega
      · rw [e, decide_eq_true hw] at hi
        simp only [Bool.toNat_true] at hi
        exact ⟨k, by omega, hw, by omega⟩
set_option maxRecDepth 100000 in
set_option maxHeartbeats 4000000 in
theorem lR_ga {G : gG} (hsz : G.2.2.2.2.2.2 = true) {n : Nat} (hn : 6 ≤ n) (mi : Nat → Nat → Int) (ml : Nat → Nat → Int64) (x : Int) (rx : rng x) (hv : CV mi) : ∀ (f : Nat) (k : Int) (m : Nat → Nat → Int) (hm : rGa mi m x (cDry mi x (mi 1 2).toNat) k.toNat), 0 ≤ k → k ≤ mi 1 3 → mi 1 3 - k < f → Go G mX6_gather n 0 0 13 [some (gr 127), some (gi x), some (gi (cDry mi x (mi 1 2).toNat)), some (gi k)] [] (gw m ml) (fun r M => ∃ m, rGa mi m x (cDry mi x (mi 1 2).toNat) (mi 1 3).toNat ∧ r = none ∧ M = gw m ml) := by
  have hn1 : 1 ≤ n := by omega
  obtain ⟨hR, ht, hp, hq, hP, hQ⟩ := id hv
  intro f
  induction f with
  | zero => intros; omega
  | succ f ih =>
    intro k m hm k0 k1 k2
    have e12 : m 1 2 = mi 1 2 := hm.1 1 2 (by decide) (by decide) (by decide)
    have e13 : m 1 3 = mi 1 3 := hm.1 1 3 (by decide) (by decide) (by decide)
    have hle : cRWn mi x k.toNat ≤ k.toNat := cntB_le _ _
    have e71 := hm.2.2.1
    refine Go.run hsz hn1 4 (pc' := 21) (lv' := [some (gr 127), some (gi x), some (gi (cDry mi x (mi 1 2).toNat)), some (gi k)]) (st' := [gi (m 1 3), gi k]) (M' := gw m ml) rfl ?_
    refine Go.icmp_ge (by rfl) ⟨by omega, by omega⟩ (hm.2.1 _ _) (fun kq1 => ?_) (fun kq1 => ?_)
    · have hk : k = mi 1 3 := by omega
      subst hk
      exact Go.vret (by rfl) ⟨m, hm, rfl, rfl⟩
    · refine Go.run hsz hn1 4 (pc' := 30) (lv' := [some (gr 127), some (gi x), some (gi (cDry mi x (mi 1 2).toNat)), some (gi k)]) (st' := [gi x, gi k, gr 1]) (M' := gw m ml) rfl ?_
      refine Go.callV (As := [gi k, gi x]) (b := 1) (st := []) (mc1 := 0) (mc := 0) (ms1 := 0) (ms := 0) (by rfl) rfl (c := 7) (N := 11) (by rfl) (by decide) (by rfl) (gcn 66 (by decide)).1 (gcn 66 (by decide)).2 rfl (Nat.le_of_ble_eq_true rfl) (by omega) (cS_isWet hsz (n := n - 1) (by omega) m ml k x (by omega) (by omega) rx (hv.oR hm.2.1 (fun c j hc => hm.1 c j (by omega) (by omega) (by omega))) (by rw [e13]; omega)) ?_
      rintro _ _ ⟨rfl, rfl⟩
      rw [cWet_c (fun c j hc => hm.1 c j (by omega) (by omega) (by omega)) hv k0 (by omega)]
      refine Go.run hsz hn1 0 (pc' := 33) (lv' := [some (gr 127), some (gi x), some (gi (cDry mi x (mi 1 2).toNat)), some (gi k)]) (st' := [gi (cWet mi k x)]) (M' := gw m ml) rfl ?_
      refine Go.if_eq (by rfl) (b2_rng _) (fun kq2 => ?_) (fun kq2 => ?_)
      · refine Go.run hsz hn1 2 (pc' := 13) (lv' := [some (gr 127), some (gi x), some (gi (cDry mi x (mi 1 2).toNat)), some (gi (k + 1))]) (st' := []) (M' := gw m ml) rfl ?_
        have hB := rGa_skip hm (show cWet mi ((k.toNat : Nat) : Int) x = 0 by rw [show ((k.toNat : Nat) : Int) = k by omega]; assumption)
        exact ih (k + 1) m (by rw [show (k + 1).toNat = k.toNat + 1 by omega]; exact hB) (by omega) (by omega) (by omega)
      · refine Go.run hsz hn1 5 (pc' := 45) (lv' := [some (gr 127), some (gi x), some (gi (cDry mi x (mi 1 2).toNat)), some (gi k)]) (st' := [gi k, gi (m 127 1), gr 128]) (M' := gw m ml) rfl ?_
        refine Go.iast (by rfl) (N := 24) (by rfl) (by omega) (by omega) (by decide) ?_
        refine Go.run hsz hn1 4 (pc' := 54) (lv' := [some (gr 127), some (gi x), some (gi (cDry mi x (mi 1 2).toNat)), some (gi k)]) (st' := [gi ((gu m 128 ((m 127 1).toNat) k) 127 1), gr 129]) (M' := gw (gu m 128 ((m 127 1).toNat) k) ml) rfl ?_
        refine Go.run hsz hn1 0 (pc' := 54) (lv' := [some (gr 127), some (gi x), some (gi (cDry mi x (mi 1 2).toNat)), some (gi k)]) (st' := [gi ((gu m 128 ((m 127 1).toNat) k) 127 1), gr 129]) (M' := gw (gu m 128 ((m 127 1).toNat) k) ml) rfl ?_
        rw [show (gu m 128 ((m 127 1).toNat) k) 127 1 = m 127 1 from gu_ne (Or.inl (by decide))]
        refine Go.run hsz hn1 3 (pc' := 57) (lv' := [some (gr 127), some (gi x), some (gi (cDry mi x (mi 1 2).toNat)), some (gi k)]) (st' := [gi (cDry mi x (mi 1 2).toNat), gi k, gr 127, gi (m 127 1), gr 129]) (M' := gw (gu m 128 ((m 127 1).toNat) k) ml) rfl ?_
        refine Go.callV (As := [gi k, gi (cDry mi x (mi 1 2).toNat)]) (b := 127) (st := [gi (m 127 1), gr 129]) (mc1 := 0) (mc := 0) (ms1 := 0) (ms := 0) (by rfl) rfl (c := 5) (N := 7) (by rfl) (by decide) (by rfl) (gcn 48 (by decide)).1 (gcn 48 (by decide)).2 rfl (Nat.le_of_ble_eq_true rfl) (by omega) (cR_fit hsz (n := n - 1) (by omega) (gu m 128 ((m 127 1).toNat) k) ml k (cDry mi x (mi 1 2).toNat) (by omega) (by rw [gu_other (by decide), e13]; omega) (hv.oR (gR32_gu hm.2.1 ⟨by omega, by omega⟩) (fun c j hc => (gu_other (by omega)).trans (hm.1 c j (by omega) (by omega) (by omega))))) ?_
        rintro _ _ ⟨rfl, rfl⟩
        rw [show (gu m 128 ((m 127 1).toNat) k) 1 2 = mi 1 2 from (gu_other (by decide)).trans e12, cFit_c (mi := mi) (fun c j hc => (gu_other (by omega)).trans (hm.1 c j (by omega) (by omega) (by omega))) (by omega) (by omega)]
        refine Go.run hsz hn1 0 (pc' := 60) (lv' := [some (gr 127), some (gi x), some (gi (cDry mi x (mi 1 2).toNat)), some (gi k)]) (st' := [gi (cFit mi k (cDry mi x (mi 1 2).toNat) (mi 1 2).toNat), gi (m 127 1), gr 129]) (M' := gw (gu m 128 ((m 127 1).toNat) k) ml) rfl ?_
        refine Go.iast (by rfl) (N := 24) (by rfl) (by omega) (by omega) (by decide) ?_
        refine Go.run hsz hn1 3 (pc' := 66) (lv' := [some (gr 127), some (gi x), some (gi (cDry mi x (mi 1 2).toNat)), some (gi k)]) (st' := [gi ((gu (gu m 128 ((m 127 1).toNat) k) 129 ((m 127 1).toNat) (cFit mi k (cDry mi x (mi 1 2).toNat) (mi 1 2).toNat)) 127 1), gr 127]) (M' := gw (gu (gu m 128 ((m 127 1).toNat) k) 129 ((m 127 1).toNat) (cFit mi k (cDry mi x (mi 1 2).toNat) (mi 1 2).toNat)) ml) rfl ?_
        refine Go.run hsz hn1 0 (pc' := 66) (lv' := [some (gr 127), some (gi x), some (gi (cDry mi x (mi 1 2).toNat)), some (gi k)]) (st' := [gi ((gu (gu m 128 ((m 127 1).toNat) k) 129 ((m 127 1).toNat) (cFit mi k (cDry mi x (mi 1 2).toNat) (mi 1 2).toNat)) 127 1), gr 127]) (M' := gw (gu (gu m 128 ((m 127 1).toNat) k) 129 ((m 127 1).toNat) (cFit mi k (cDry mi x (mi 1 2).toNat) (mi 1 2).toNat)) ml) rfl ?_
        rw [show (gu (gu m 128 ((m 127 1).toNat) k) 129 ((m 127 1).toNat) (cFit mi k (cDry mi x (mi 1 2).toNat) (mi 1 2).toNat)) 127 1 = m 127 1 from (gu_ne (Or.inl (by decide))).trans (gu_ne (Or.inl (by decide)))]
        refine Go.run hsz hn1 5 (pc' := 13) (lv' := [some (gr 127), some (gi x), some (gi (cDry mi x (mi 1 2).toNat)), some (gi (k + 1))]) (st' := []) (M' := gw (gu (gu (gu m 128 ((m 127 1).toNat) k) 129 ((m 127 1).toNat) (cFit mi k (cDry mi x (mi 1 2).toNat) (mi 1 2).toNat)) 127 1 ((m 127 1) + 1)) ml) rfl ?_
        have hB := rGa_add hm (show ¬ cWet mi ((k.toNat : Nat) : Int) x = 0 by rw [show ((k.toNat : Nat) : Int) = k by omega]; assumption) (by omega) (gset1_rng _ _)
        rw [show ((k.toNat : Nat) : Int) = k by omega] at hB
        exact ih (k + 1) _ (by rw [show (k + 1).toNat = k.toNat + 1 by omega]; exact hB) (by omega) (by omega) (by omega)
set_option maxRecDepth 100000 in
set_option maxHeartbeats 4000000 in
theorem cR_ga {G : gG} (hsz : G.2.2.2.2.2.2 = true) {n : Nat} (hn : 6 ≤ n) (mi : Nat → Nat → Int) (ml : Nat → Nat → Int64) (x : Int) (rx : rng x) (hv : CV mi) (hu : ∀ p : Int, 0 ≤ p → p < mi 1 2 → cUni mi p) : gM G 46 n 0 0 [gr 127, gi x] (gw mi ml) (fun r M => ∃ m, rGa mi m x (cDry mi x (mi 1 2).toNat) (mi 1 3).toNat ∧ r = none ∧ M = gw m ml) := by
  have hn1 : 1 ≤ n := by omega
  refine gM.of mX6_gather okX6_gather (gcp 46 (by decide)).1 (gcp 46 (by decide)).2 (Nat.le_of_ble_eq_true rfl) ?_
  refine Go.run hsz hn1 2 (pc' := 2) (lv' := [some (gr 127), some (gi x), none, none]) (st' := [gi x, gr 127]) (M' := gw mi ml) rfl ?_
  refine Go.callV (As := [gi x]) (b := 127) (st := []) (mc1 := 0) (mc := 0) (ms1 := 0) (ms := 0) (by rfl) rfl (c := 5) (N := 7) (by rfl) (by decide) (by rfl) (gcn 47 (by decide)).1 (gcn 47 (by decide)).2 rfl (Nat.le_of_ble_eq_true rfl) (by omega) (cR_dry hsz (n := n - 1) (by omega) mi ml x rx hv hu) ?_
  rintro _ _ ⟨rfl, rfl⟩
  refine Go.run hsz hn1 6 (pc' := 13) (lv' := [some (gr 127), some (gi x), some (gi (cDry mi x (mi 1 2).toNat)), some (gi 0)]) (st' := []) (M' := gw (gu mi 127 1 0) ml) rfl ?_
  exact lR_ga hsz (n := n) (by omega) mi ml x rx hv ((mi 1 3).toNat + 1) 0 _ ⟨fun c j a _ _ => gu_ne a, gR32_gu hv.1 ⟨by decide, by decide⟩, gu_self _ _ _ _, fun b hb => absurd hb (by show ¬ b < 0; omega)⟩ (by omega) (by have := hv.2.2.2.1; omega) (by omega)
def sS (zs : Nat → Int) : Nat → Int
  | 0 => 0
  | k + 1 => if zs k < 0 then sS zs k else orI (sS zs k) (shlI 1 (zs k))
def sL (zs : Nat → Int) (L : Int) : Nat → Int
  | 0 => L
  | k + 1 => if zs k < 0 then sL zs L k else sL zs L k - 1
def rSq (can : Nat → Nat → Bool) (w : Nat) (L : Int) (zs : Nat → Int) (n : Nat) : Prop := ∀ i, i < n → rGoal can w i (sS zs i) (sL zs L i) (zs i)
theorem sS_c {zs zs' : Nat → Int} : ∀ {k : Nat}, (∀ j, j < k → zs j = zs' j) → sS zs k = sS zs' k
  | 0, _ => rfl
  | k + 1, h => by
    show (if zs k < 0 then sS zs k else orI (sS zs k) (shlI 1 (zs k))) = (if zs' k < 0 then sS zs' k else orI (sS zs' k) (shlI 1 (zs' k)))
    rw [sS_c (fun j hj => h j (by omega)), h k (by omega)]
theorem sL_c {zs zs' : Nat → Int} {L : Int} : ∀ {k : Nat}, (∀ j, j < k → zs j = zs' j) → sL zs L k = sL zs' L k
  | 0, _ => rfl
  | k + 1, h => by
    show (if zs k < 0 then sL zs L k else sL zs L k - 1) = (if zs' k < 0 then sL zs' L k else sL zs' L k - 1)
    rw [sL_c (fun j hj => h j (by omega)), h k (by omega)]
theorem sL_b (zs : Nat → Int) (L : Int) : ∀ k : Nat, L - k ≤ sL zs L k ∧ sL zs L k ≤ L
  | 0 => by show L - ((0 : Nat) : Int) ≤ L ∧ L ≤ L; omega
  | k + 1 => by
    have ih := sL_b zs L k
    show L - ((k + 1 : Nat) : Int) ≤ (if zs k < 0 then sL zs L k else sL zs L k - 1) ∧ (if zs k < 0 then sL zs L k else sL zs L k - 1) ≤ L
    split <;> omega
theorem sS_rng (zs : Nat → Int) : ∀ k : Nat, rng (sS zs k)
  | 0 => ⟨by show (-2147483648 : Int) ≤ 0; omega, by show (0 : Int) < 2147483648; omega⟩
  | k + 1 => by
    show rng (if zs k < 0 then sS zs k else orI (sS zs k) (shlI 1 (zs k)))
    split
    · exact sS_rng zs k
    · exact orI_rng _ _
def rWo (m mi : Nat → Nat → Int) : Prop := ∀ c j : Nat, c ≠ 130 → c ≠ 131 → (c ≠ 127 ∨ j ≠ 6) → m c j = mi c j
/-- the goals up to the k-th -/
def rWk (mi m : Nat → Nat → Int) (al : Int) (k S L : Int) (zs : Nat → Int) : Prop := rWo m mi ∧ gR32 m ∧ (∀ j : Nat, (j : Int) < k → m 130 j = zs j) ∧ rSq (rOp mi (mi 1 2)) (mi 127 1).toNat al zs k.toNat ∧ S = sS zs k.toNat ∧ L = sL zs al k.toNat
theorem rWk_step {mi m m9 : Nat → Nat → Int} {al k S L z : Int} {zs : Nat → Int} (h : rWk mi m al k S L zs) (k0 : 0 ≤ k) (hg : rGoal (rOp mi (mi 1 2)) (mi 127 1).toNat k.toNat S L z) (hz : rng z) (ho : rOff m9 m) (hR : gR32 m9) : ∃ zs', rWk mi (gu m9 130 k.toNat z) al (k + 1) (if z < 0 then S else orI S (shlI 1 z)) (if z < 0 then L else L - 1) zs' := by
  obtain ⟨h1, h2, h3, h4, h5, h6⟩ := h
  have hc : ∀ j, j < k.toNat → (fun j => if j = k.toNat then z else zs j) j = zs j := fun j hj => if_neg (by omega)
  have ek : (k + 1).toNat = k.toNat + 1 := by omega
  refine ⟨fun j => if j = k.toNat then z else zs j, fun c j a b d => ?_, gR32_gu hR hz, fun j hj => ?_, fun i hi => ?_, ?_, ?_⟩
  · rw [gu_other a, ho c j b d]; exact h1 c j a b d
  · by_cases e : j = k.toNat
    · rw [e, gu_self]; simp only [if_true]
    · rw [gu_ne (Or.inr e), ho 130 j (by decide) (Or.inl (by decide)), h3 j (by omega)]
      simp only [if_neg e]
  · rw [ek] at hi
    by_cases e : i = k.toNat
    · subst e
      rw [sS_c hc, sL_c hc, ← h5, ← h6]
      simp only [if_true]
      exact hg
    · have hi' : i < k.toNat := by omega
      rw [sS_c (fun j hj => hc j (by omega)), sL_c (fun j hj => hc j (by omega)), hc i hi']
      exact h4 i hi'
  · rw [ek]
    show _ = if (if k.toNat = k.toNat then z else zs k.toNat) < 0 then sS (fun j => if j = k.toNat then z else zs j) k.toNat else orI (sS (fun j => if j = k.toNat then z else zs j) k.toNat) (shlI 1 (if k.toNat = k.toNat then z else zs k.toNat))
    rw [sS_c hc, ← h5]
    simp only [if_true]
  · rw [ek]
    show _ = if (if k.toNat = k.toNat then z else zs k.toNat) < 0 then sL (fun j => if j = k.toNat then z else zs j) al k.toNat else sL (fun j => if j = k.toNat then z else zs j) al k.toNat - 1
    rw [sL_c hc, ← h6]
    simp only [if_true]
set_option maxRecDepth 100000 in
set_option maxHeartbeats 4000000 in
theorem lR_wk {G : gG} (hsz : G.2.2.2.2.2.2 = true) {n : Nat} (hn : 18 ≤ n) (mi : Nat → Nat → Int) (ml : Nat → Nat → Int64) (x al : Int) (hal : 0 ≤ al ∧ al ≤ 12) (hP : 0 ≤ mi 1 2 ∧ mi 1 2 ≤ 12) (hz : 0 ≤ mi 127 1 ∧ mi 127 1 ≤ 24) : ∀ (f : Nat) (k : Int) (m : Nat → Nat → Int) (S L : Int) (zs : Nat → Int) (hm : rWk mi m al k S L zs), 0 ≤ k → k ≤ mi 127 1 → mi 127 1 - k < f → Go G mX6_work n 0 0 20 [some (gr 127), some (gi x), some (gi al), some (gi L), some (gi S), some (gi k)] [] (gw m ml) (fun r M => ∃ (m : Nat → Nat → Int) (S L : Int) (zs : Nat → Int), rWk mi m al (mi 127 1) S L zs ∧ r = some (gi al) ∧ M = gw m ml) := by
  have hn1 : 1 ≤ n := by omega

  intro f
  induction f with
  | zero => intros; omega
  | succ f ih =>
    intro k m S L zs hm k0 k1 k2
    have e12 : m 1 2 = mi 1 2 := hm.1 1 2 (by decide) (by decide) (Or.inl (by decide))
    have e71 : m 127 1 = mi 127 1 := hm.1 127 1 (by decide) (by decide) (Or.inr (by decide))
    have hLb := sL_b zs al k.toNat
    have hLe := hm.2.2.2.2.2
    refine Go.run hsz hn1 3 (pc' := 26) (lv' := [some (gr 127), some (gi x), some (gi al), some (gi L), some (gi S), some (gi k)]) (st' := [gi (m 127 1), gi k]) (M' := gw m ml) rfl ?_
    refine Go.icmp_ge (by rfl) ⟨by omega, by omega⟩ (hm.2.1 _ _) (fun kq1 => ?_) (fun kq1 => ?_)
    · refine Go.run hsz hn1 1 (pc' := 79) (lv' := [some (gr 127), some (gi x), some (gi al), some (gi L), some (gi S), some (gi k)]) (st' := [gi al]) (M' := gw m ml) rfl ?_
      have hk : k = mi 127 1 := by omega
      subst hk
      exact Go.iret (by rfl) ⟨m, S, L, zs, hm, rfl, rfl⟩
    · refine Go.run hsz hn1 7 (pc' := 41) (lv' := [some (gr 127), some (gi x), some (gi al), some (gi L), some (gi S), some (gi k)]) (st' := [gi L, gi S, gi k, gr 127, gi k, gr 130]) (M' := gw m ml) rfl ?_
      refine Go.callV (As := [gi k, gi S, gi L]) (b := 127) (st := [gi k, gr 130]) (mc1 := 0) (mc := 0) (ms1 := 0) (ms := 0) (by rfl) rfl (c := 5) (N := 7) (by rfl) (by decide) (by rfl) (gcn 49 (by decide)).1 (gcn 49 (by decide)).2 rfl (Nat.le_of_ble_eq_true rfl) (by omega) (cR_goal hsz (n := n - 1) (by omega) m ml k S L (by omega) (by omega) ⟨by omega, by omega⟩ (by rw [e12]; exact hP) (by rw [e71]; exact hz) hm.2.1) ?_
      rintro _ _ ⟨z9, m9, hg9, hz9, ho9, hR9, rfl, rfl⟩
      rw [e12, e71, show rOp m (mi 1 2) = rOp mi (mi 1 2) from funext (fun a => funext (fun b => by unfold rOp; rw [hm.1 129 _ (by decide) (by decide) (Or.inl (by decide))]))] at hg9
      have hz8 : -1 ≤ z9 ∧ z9 < 12 := (by rcases hg9 with q | q <;> omega)
      obtain ⟨zs9, hB⟩ := rWk_step hm k0 hg9 ⟨by omega, by omega⟩ ho9 hR9
      refine Go.run hsz hn1 0 (pc' := 44) (lv' := [some (gr 127), some (gi x), some (gi al), some (gi L), some (gi S), some (gi k)]) (st' := [gi z9, gi k, gr 130]) (M' := gw m9 ml) rfl ?_
      refine Go.iast (by rfl) (N := 24) (by rfl) (by omega) (by omega) (by decide) ?_
      refine Go.run hsz hn1 3 (pc' := 51) (lv' := [some (gr 127), some (gi x), some (gi al), some (gi L), some (gi S), some (gi k)]) (st' := [gi k, gr 130]) (M' := gw (gu m9 130 k.toNat z9) ml) rfl ?_
      refine Go.iald (by rfl) (N := 24) (by rfl) (by omega) (by omega) (by decide) ?_
      refine Go.run hsz hn1 0 (pc' := 52) (lv' := [some (gr 127), some (gi x), some (gi al), some (gi L), some (gi S), some (gi k)]) (st' := [gi ((gu m9 130 k.toNat z9) 130 k.toNat)]) (M' := gw (gu m9 130 k.toNat z9) ml) rfl ?_
      rw [show (gu m9 130 k.toNat z9) 130 k.toNat = z9 from gu_self _ _ _ _]
      refine Go.run hsz hn1 0 (pc' := 52) (lv' := [some (gr 127), some (gi x), some (gi al), some (gi L), some (gi S), some (gi k)]) (st' := [gi z9]) (M' := gw (gu m9 130 k.toNat z9) ml) rfl ?_
      refine Go.if_lt (by rfl) ⟨by omega, by omega⟩ (fun kq2 => ?_) (fun kq2 => ?_)
      · refine Go.run hsz hn1 2 (pc' := 20) (lv' := [some (gr 127), some (gi x), some (gi al), some (gi L), some (gi S), some (gi (k + 1))]) (st' := []) (M' := gw (gu m9 130 k.toNat z9) ml) rfl ?_
        rw [if_pos (by omega), if_pos (by omega)] at hB
        exact ih (k + 1) _ _ _ zs9 hB (by omega) (by omega) (by omega)
      · refine Go.run hsz hn1 5 (pc' := 64) (lv' := [some (gr 127), some (gi x), some (gi al), some (gi L), some (gi S), some (gi k)]) (st' := [gi k, gr 130, gi 1, gi S]) (M' := gw (gu m9 130 k.toNat z9) ml) rfl ?_
        refine Go.iald (by rfl) (N := 24) (by rfl) (by omega) (by omega) (by decide) ?_
        refine Go.run hsz hn1 0 (pc' := 65) (lv' := [some (gr 127), some (gi x), some (gi al), some (gi L), some (gi S), some (gi k)]) (st' := [gi ((gu m9 130 k.toNat z9) 130 k.toNat), gi 1, gi S]) (M' := gw (gu m9 130 k.toNat z9) ml) rfl ?_
        rw [show (gu m9 130 k.toNat z9) 130 k.toNat = z9 from gu_self _ _ _ _]
        refine Go.run hsz hn1 6 (pc' := 20) (lv' := [some (gr 127), some (gi x), some (gi al), some (gi (L + (-1))), some (gi (orI S (shlI 1 z9))), some (gi (k + 1))]) (st' := []) (M' := gw (gu m9 130 k.toNat z9) ml) rfl ?_
        rw [if_neg (by omega), if_neg (by omega)] at hB
        rw [show L + (-1) = L - 1 by omega]
        exact ih (k + 1) _ _ _ zs9 hB (by omega) (by omega) (by omega)
def cCan (mi : Nat → Nat → Int) (x : Int) (b p : Nat) : Bool := decide ((¬ cP mi p 3 < x ∧ cWho mi p (mi 1 0) (mi 1 3).toNat = -1) ∧ cReason mi b p = 0) && decide ((p : Int) < mi 1 2)
/-- all of a rescue -/
def rRes (wn : Nat → Nat) (wt : Nat → Prop) (cb : Nat → Nat → Bool) (n : Nat) (al : Int) (zs : Nat → Int) : Prop := ∃ can : Nat → Nat → Bool, (∀ b p : Nat, b < n → wt b → p < 12 → can (wn b) p = cb b p) ∧ (∃ z : Nat, al = z ∧ mMax can (wn n) 0 (ib 0) z) ∧ rSq can (wn n) al zs (wn n)
theorem rGa_can {mi m : Nat → Nat → Int} {x : Int} {k : Nat} (h : rGa mi m x (cDry mi x (mi 1 2).toNat) k) (hP : 0 ≤ mi 1 2 ∧ mi 1 2 ≤ 12) {b p : Nat} (hb : b < k) (hw : ¬ cWet mi b x = 0) (hp : p < 12) : rOp m (mi 1 2) (cRWn mi x b) p = cCan mi x b p := by
  have e := (h.2.2.2 b hb hw).2
  unfold rOp cCan
  rw [e]
  unfold cFit
  rw [ib_gset hp _ (by omega)]
  have hbit := bit_ib (cDry mi x (mi 1 2).toNat) hp
  have hd : ib (cDry mi x (mi 1 2).toNat) p = (decide (p < (mi 1 2).toNat) && decide (¬ cP mi p 3 < x ∧ cWho mi p (mi 1 0) (mi 1 3).toNat = -1)) := ib_gset hp _ (by omega)
  by_cases c : (p : Int) < mi 1 2
  · rw [decide_eq_true c, decide_eq_true (show p < (mi 1 2).toNat by omega), Bool.true_and, Bool.and_true, Bool.and_true]
    rw [decide_eq_true (show p < (mi 1 2).toNat by omega), Bool.true_and] at hd
    rw [hd] at hbit
    by_cases c2 : ¬ cP mi p 3 < x ∧ cWho mi p (mi 1 0) (mi 1 3).toNat = -1
    · rw [decide_eq_true c2, if_pos rfl] at hbit
      by_cases c3 : cReason mi b p = 0
      · rw [decide_eq_true ⟨by omega, c3⟩, decide_eq_true ⟨c2, c3⟩]
      · rw [decide_eq_false (fun q => c3 q.2), decide_eq_false (fun q => c3 q.2)]
    · rw [decide_eq_false c2, if_neg (by decide)] at hbit
      rw [decide_eq_false (fun q => q.1 hbit), decide_eq_false (fun q => c2 q.1)]
  · rw [decide_eq_false c, Bool.and_false, Bool.and_false]
def rCo (m mi : Nat → Nat → Int) : Prop := ∀ c j : Nat, (c < 127 ∨ 131 < c) → m c j = mi c j
def rFin (mi m : Nat → Nat → Int) (x : Int) (zs : Nat → Int) : Prop := rCo m mi ∧ gR32 m ∧ m 127 1 = (cRWn mi x (mi 1 3).toNat : Nat) ∧ (∀ b : Nat, b < (mi 1 3).toNat → ¬ cWet mi b x = 0 → m 128 (cRWn mi x b) = b) ∧ ∀ j : Nat, j < cRWn mi x (mi 1 3).toNat → m 130 j = zs j
set_option maxRecDepth 100000 in
set_option maxHeartbeats 4000000 in
theorem cR_work {G : gG} (hsz : G.2.2.2.2.2.2 = true) {n : Nat} (hn : 19 ≤ n) (mi : Nat → Nat → Int) (ml : Nat → Nat → Int64) (x : Int) (rx : rng x) (hv : CV mi) (hu : ∀ p : Int, 0 ≤ p → p < mi 1 2 → cUni mi p) : gM G 44 n 0 0 [gr 127, gi x] (gw mi ml) (fun r M => ∃ (al : Int) (zs : Nat → Int) (m : Nat → Nat → Int), rRes (cRWn mi x) (fun b => ¬ cWet mi b x = 0) (cCan mi x) (mi 1 3).toNat al zs ∧ rFin mi m x zs ∧ (0 ≤ al ∧ al ≤ 12) ∧ r = some (gi al) ∧ M = gw m ml) := by
  have hn1 : 1 ≤ n := by omega
  obtain ⟨hR, ht, hp, hq, hP, hQ⟩ := id hv
  refine gM.of mX6_work okX6_work (gcp 44 (by decide)).1 (gcp 44 (by decide)).2 (Nat.le_of_ble_eq_true rfl) ?_
  refine Go.run hsz hn1 2 (pc' := 2) (lv' := [some (gr 127), some (gi x), none, none, none, none]) (st' := [gi x, gr 127]) (M' := gw mi ml) rfl ?_
  refine Go.callV (As := [gi x]) (b := 127) (st := []) (mc1 := 0) (mc := 0) (ms1 := 0) (ms := 0) (by rfl) rfl (c := 5) (N := 7) (by rfl) (by decide) (by rfl) (gcn 46 (by decide)).1 (gcn 46 (by decide)).2 rfl (Nat.le_of_ble_eq_true rfl) (by omega) (cR_ga hsz (n := n - 1) (by omega) mi ml x rx hv hu) ?_
  rintro _ _ ⟨mg, hg, rfl, rfl⟩
  have g12 : mg 1 2 = mi 1 2 := hg.1 1 2 (by decide) (by decide) (by decide)
  have hle : cRWn mi x (mi 1 3).toNat ≤ (mi 1 3).toNat := cntB_le _ _
  have g71 := hg.2.2.1
  refine Go.run hsz hn1 3 (pc' := 8) (lv' := [some (gr 127), some (gi x), none, none, none, none]) (st' := [gi 0, gi 0, gr 127]) (M' := gw mg ml) rfl ?_
  refine Go.callV (As := [gi 0, gi 0]) (b := 127) (st := []) (mc1 := 0) (mc := 0) (ms1 := 0) (ms := 0) (by rfl) rfl (c := 5) (N := 7) (by rfl) (by decide) (by rfl) (gcn 50 (by decide)).1 (gcn 50 (by decide)).2 rfl (Nat.le_of_ble_eq_true rfl) (by omega) (cR_most hsz (n := n - 1) (by omega) mg ml 0 0 (by omega) (by omega) ⟨by decide, by decide⟩ (by omega) (by omega) hg.2.1) ?_
  rintro _ _ ⟨z9, m9, hx9, ho9, hR9, rfl, rfl⟩
  have hz9 : (z9 : Int) ≤ 12 := (by obtain ⟨⟨f9, -, e9⟩, -⟩ := hx9; have := cntB_le (fun p => decide (0 ≤ f9 p)) 12; unfold mCnt at e9; omega)
  refine Go.run hsz hn1 7 (pc' := 20) (lv' := [some (gr 127), some (gi x), some (gi ((z9 : Nat) : Int)), some (gi ((z9 : Nat) : Int)), some (gi 0), some (gi 0)]) (st' := []) (M' := gw m9 ml) rfl ?_
  have h9 := lR_wk hsz (n := n) (by omega) mg ml x z9 (by omega) (by omega) (by omega) ((mg 127 1).toNat + 1) 0 m9 0 z9 (fun _ => 0) ⟨fun c j _ b d => ho9 c j b d, hR9, fun j hj => by omega, fun i hi => absurd hi (by show ¬ i < 0; omega), rfl, rfl⟩ (by omega) (by omega) (by omega)
  refine Go.imp ?_ h9
  rintro r M ⟨m, S, L, zs, ⟨a1, a2, a3, a4, -, -⟩, rfl, rfl⟩
  refine ⟨z9, zs, m, ⟨rOp mg (mi 1 2), fun b p hb hw hp => rGa_can hg (by omega) hb hw hp, ⟨z9, rfl, ?_⟩, ?_⟩, ⟨fun c j hc => ?_, a2, ?_, fun b hb hw => ?_, fun j hj => a3 j (by omega)⟩, by omega, rfl, rfl⟩
  · rw [g12, show (mg 127 1).toNat = cRWn mi x (mi 1 3).toNat by omega] at hx9; exact hx9
  · rw [g12, show (mg 127 1).toNat = cRWn mi x (mi 1 3).toNat by omega] at a4; exact a4
  · rw [a1 c j (by omega) (by omega) (by omega)]; exact hg.1 c j (by omega) (by omega) (by omega)
  · rw [a1 127 1 (by decide) (by decide) (Or.inr (by decide))]; exact g71
  · rw [a1 128 _ (by decide) (by decide) (Or.inl (by decide))]; exact (hg.2.2.2 b hb hw).1
set_option maxRecDepth 100000 in
set_option maxHeartbeats 4000000 in
theorem lR_go {G : gG} (hsz : G.2.2.2.2.2.2 = true) {n : Nat} (hn : 2 ≤ n) (mi : Nat → Nat → Int) (ml : Nat → Nat → Int64) (a : Int) (ra : rng a) (hR : gR32 mi) (hz : 0 ≤ mi 127 1 ∧ mi 127 1 ≤ 24) : ∀ (f : Nat) (k : Int) (hno : ∀ i : Nat, (i : Int) < k → ¬ mi 128 i = a), 0 ≤ k → k ≤ mi 127 1 → mi 127 1 - k < f → Go G mX6_goalOf n 0 0 2 [some (gr 127), some (gi a), some (gi k)] [] (gw mi ml) (fun r M => ∃ z : Int, ((∃ i : Nat, (i : Int) < mi 127 1 ∧ mi 128 i = a ∧ z = mi 130 i) ∨ (z = -1 ∧ ∀ i : Nat, (i : Int) < mi 127 1 → ¬ mi 128 i = a)) ∧ r = some (gi z) ∧ M = gw mi ml) := by
  have hn1 : 1 ≤ n := by omega

  intro f
  induction f with
  | zero => intros; omega
  | succ f ih =>
    intro k hno k0 k1 k2
    refine Go.run hsz hn1 3 (pc' := 7) (lv' := [some (gr 127), some (gi a), some (gi k)]) (st' := [gi (mi 127 1), gi k]) (M' := gw mi ml) rfl ?_
    refine Go.icmp_ge (by rfl) ⟨by omega, by omega⟩ (hR _ _) (fun kq1 => ?_) (fun kq1 => ?_)
    · refine Go.run hsz hn1 1 (pc' := 34) (lv' := [some (gr 127), some (gi a), some (gi k)]) (st' := [gi (-1)]) (M' := gw mi ml) rfl ?_
      exact Go.iret (by rfl) ⟨-1, Or.inr ⟨rfl, fun i hi => hno i (by omega)⟩, rfl, rfl⟩
    · refine Go.run hsz hn1 3 (pc' := 15) (lv' := [some (gr 127), some (gi a), some (gi k)]) (st' := [gi k, gr 128]) (M' := gw mi ml) rfl ?_
      refine Go.iald (by rfl) (N := 24) (by rfl) (by omega) (by omega) (by decide) ?_
      refine Go.run hsz hn1 1 (pc' := 17) (lv' := [some (gr 127), some (gi a), some (gi k)]) (st' := [gi a, gi (mi 128 k.toNat)]) (M' := gw mi ml) rfl ?_
      refine Go.icmp_ne (by rfl) (hR _ _) ra (fun kq2 => ?_) (fun kq2 => ?_)
      · refine Go.run hsz hn1 2 (pc' := 2) (lv' := [some (gr 127), some (gi a), some (gi (k + 1))]) (st' := []) (M' := gw mi ml) rfl ?_
        exact ih (k + 1) (fun i hi => (by
          by_cases e : (i : Int) = k
          · rw [show i = k.toNat by omega]; omega
          · exact hno i (by omega))) (by omega) (by omega) (by omega)
      · refine Go.run hsz hn1 3 (pc' := 25) (lv' := [some (gr 127), some (gi a), some (gi k)]) (st' := [gi k, gr 130]) (M' := gw mi ml) rfl ?_
        refine Go.iald (by rfl) (N := 24) (by rfl) (by omega) (by omega) (by decide) ?_
        refine Go.run hsz hn1 0 (pc' := 26) (lv' := [some (gr 127), some (gi a), some (gi k)]) (st' := [gi (mi 130 k.toNat)]) (M' := gw mi ml) rfl ?_
        exact Go.iret (by rfl) ⟨_, Or.inl ⟨k.toNat, by omega, by omega, rfl⟩, rfl, rfl⟩
set_option maxRecDepth 100000 in
set_option maxHeartbeats 4000000 in
theorem cR_go {G : gG} (hsz : G.2.2.2.2.2.2 = true) {n : Nat} (hn : 2 ≤ n) (mi : Nat → Nat → Int) (ml : Nat → Nat → Int64) (a : Int) (ra : rng a) (hR : gR32 mi) (hz : 0 ≤ mi 127 1 ∧ mi 127 1 ≤ 24) : gM G 45 n 0 0 [gr 127, gi a] (gw mi ml) (fun r M => ∃ z : Int, ((∃ i : Nat, (i : Int) < mi 127 1 ∧ mi 128 i = a ∧ z = mi 130 i) ∨ (z = -1 ∧ ∀ i : Nat, (i : Int) < mi 127 1 → ¬ mi 128 i = a)) ∧ r = some (gi z) ∧ M = gw mi ml) := by
  have hn1 : 1 ≤ n := by omega
  refine gM.of mX6_goalOf okX6_goalOf (gcp 45 (by decide)).1 (gcp 45 (by decide)).2 (Nat.le_of_ble_eq_true rfl) ?_
  refine Go.run hsz hn1 2 (pc' := 2) (lv' := [some (gr 127), some (gi a), some (gi 0)]) (st' := []) (M' := gw mi ml) rfl ?_
  exact lR_go hsz hn mi ml a ra hR hz ((mi 127 1).toNat + 1) 0 (fun i hi => by omega) (by omega) (by omega) (by omega)
theorem rFin_go {mi m : Nat → Nat → Int} {x a z : Int} {zs : Nat → Int} (h : rFin mi m x zs) (a0 : 0 ≤ a) (a1 : a < mi 1 3) (hz : (∃ i : Nat, (i : Int) < m 127 1 ∧ m 128 i = a ∧ z = m 130 i) ∨ (z = -1 ∧ ∀ i : Nat, (i : Int) < m 127 1 → ¬ m 128 i = a)) : (¬ cWet mi a x = 0 ∧ z = zs (cRWn mi x a.toNat)) ∨ (cWet mi a x = 0 ∧ z = -1) := by
  obtain ⟨h1, h2, h3, h4, h5⟩ := h
  have ea : ((a.toNat : Nat) : Int) = a := by omega
  rcases hz with ⟨i, i1, i2, i3⟩ | ⟨z1, z2⟩
  · left
    have : ∃ b : Nat, b < (mi 1 3).toNat ∧ ¬ cWet mi b x = 0 ∧ cRWn mi x b = i := rGa_at i (by omega)
    obtain ⟨b, b1, b2, b3⟩ := this
    have h9 := h4 b b1 b2
    rw [b3, i2] at h9
    have eb : b = a.toNat := by omega
    rw [eb, ea] at b2
    refine ⟨b2, ?_⟩
    rw [i3, h5 i (by omega), ← b3, eb]
  · right
    refine ⟨?_, z1⟩
    by_cases c : cWet mi a x = 0
    · exact c
    · exfalso
      have c' : ¬ cWet mi ((a.toNat : Nat) : Int) x = 0 := by rw [ea]; exact c
      have h9 := h4 a.toNat (by omega) c'
      have hlt := cRWn_lt c' (k := (mi 1 3).toNat) (by omega)
      exact z2 (cRWn mi x a.toNat) (by omega) (by rw [h9, ea])
set_option maxRecDepth 100000 in
set_option maxHeartbeats 4000000 in
theorem pC_rescue {G : gG} (hsz : G.2.2.2.2.2.2 = true) {n : Nat} (hn : 20 ≤ n) (mi : Nat → Nat → Int) (ml : Nat → Nat → Int64) (x a : Int) (r_x : rng x) (r_a : rng a) (hv : CV mi) (hu : ∀ p : Int, 0 ≤ p → p < mi 1 2 → cUni mi p) : gM G 132 n 0 0 [gr 0, gi x, gi a] (gw mi ml) (fun r M => gE (¬ ((0 ≤ x ∧ x ≤ 99) ∧ (a = -1 ∨ (0 ≤ a ∧ a < mi 1 3)))) (-1000001) (cFd mi 0) ml r M ∨ (((0 ≤ x ∧ x ≤ 99) ∧ (a = -1 ∨ (0 ≤ a ∧ a < mi 1 3))) ∧ ∃ (al : Int) (zs : Nat → Int) (m : Nat → Nat → Int), rRes (cRWn mi x) (fun b => ¬ cWet mi b x = 0) (cCan mi x) (mi 1 3).toNat al zs ∧ rCo m mi ∧ gR32 m ∧ (0 ≤ al ∧ al ≤ 12) ∧ ((a = -1 ∧ r = some (gi al) ∧ M = gw m ml) ∨ (¬ a = -1 ∧ ∃ z : Int, ((¬ cWet mi a x = 0 ∧ z = zs (cRWn mi x a.toNat)) ∨ (cWet mi a x = 0 ∧ z = -1)) ∧ ((z < 0 ∧ r = some (gi (-1000004)) ∧ M = gw (cFd m 3) ml) ∨ (0 ≤ z ∧ r = some (gi z) ∧ M = gw m ml)))))) := by
  have hn1 : 1 ≤ n := by omega
  obtain ⟨hR, ht, hp, hq, hP, hQ⟩ := id hv
  refine gM.of mX11_rescue okX11_rescue (gcp 132 (by decide)).1 (gcp 132 (by decide)).2 (Nat.le_of_ble_eq_true rfl) ?_
  refine Go.run hsz hn1 3 (pc' := 4) (lv' := [some (gr 0), some (gi x), some (gi a), none, none]) (st' := [gi 99, gi 0, gi x]) (M' := gw mi ml) rfl ?_
  refine Go.callS (As := [gi x, gi 0, gi 99]) (st := []) (mc1 := 0) (mc := 0) (ms1 := 0) (ms := 0) (by rfl) rfl (gcn 150 (by decide)).1 (gcn 150 (by decide)).2 (Nat.le_of_ble_eq_true rfl) (by omega) (cC_isIn hsz (n := n - 1) (by omega) mi ml x 0 99 r_x ⟨by decide, by decide⟩ ⟨by decide, by decide⟩) ?_
  rintro _ _ ⟨rfl, rfl⟩
  refine Go.run hsz hn1 0 (pc' := 7) (lv' := [some (gr 0), some (gi x), some (gi a), none, none]) (st' := [gi (b2 (0 ≤ x ∧ x ≤ 99))]) (M' := gw mi ml) rfl ?_
  refine Go.if_eq (by rfl) (b2_rng _) (fun kq1 => ?_) (fun kq1 => ?_)
  · replace kq1 := b2_neg kq1
    refine Go.run hsz hn1 2 (pc' := 24) (lv' := [some (gr 0), some (gi x), some (gi a), none, none]) (st' := [gi (-1000001), gr 0]) (M' := gw mi ml) rfl ?_
    refine Go.callV (As := [gi (-1000001)]) (b := 0) (st := []) (mc1 := 0) (mc := 0) (ms1 := 0) (ms := 0) (by rfl) rfl (c := 10) (N := 9) (by rfl) (by decide) (by rfl) (gcn 147 (by decide)).1 (gcn 147 (by decide)).2 rfl (Nat.le_of_ble_eq_true rfl) (by omega) (cC_finding hsz (n := n - 1) (by omega) mi ml (-1000001) (by decide) (by decide)) ?_
    rintro _ _ ⟨rfl, rfl⟩
    refine Go.run hsz hn1 0 (pc' := 27) (lv' := [some (gr 0), some (gi x), some (gi a), none, none]) (st' := [gi (-1000001)]) (M' := gw (cFd mi 0) ml) rfl ?_
    exact Go.iret (by rfl) (Or.inl ⟨by omega, rfl, rfl⟩)
  · replace kq1 := b2_pos kq1
    refine Go.run hsz hn1 3 (pc' := 15) (lv' := [some (gr 0), some (gi x), some (gi a), none, none]) (st' := [gi a, gr 1]) (M' := gw mi ml) rfl ?_
    refine Go.callV (As := [gi a]) (b := 1) (st := []) (mc1 := 0) (mc := 0) (ms1 := 0) (ms := 0) (by rfl) rfl (c := 7) (N := 11) (by rfl) (by decide) (by rfl) (gcn 61 (by decide)).1 (gcn 61 (by decide)).2 rfl (Nat.le_of_ble_eq_true rfl) (by omega) (cS_isPON hsz (n := n - 1) (by omega) mi ml a r_a hR) ?_
    rintro _ _ ⟨rfl, rfl⟩
    refine Go.run hsz hn1 0 (pc' := 18) (lv' := [some (gr 0), some (gi x), some (gi a), none, none]) (st' := [gi (b2 (a = -1 ∨ (0 ≤ a ∧ a < mi 1 3)))]) (M' := gw mi ml) rfl ?_
    refine Go.if_ne (by rfl) (b2_rng _) (fun kq2 => ?_) (fun kq2 => ?_)
    · replace kq2 := b2_pos kq2
      refine Go.run hsz hn1 3 (pc' := 33) (lv' := [some (gr 0), some (gi x), some (gi a), none, none]) (st' := [gi x, gr 127]) (M' := gw mi ml) rfl ?_
      refine Go.callV (As := [gi x]) (b := 127) (st := []) (mc1 := 0) (mc := 0) (ms1 := 0) (ms := 0) (by rfl) rfl (c := 5) (N := 7) (by rfl) (by decide) (by rfl) (gcn 44 (by decide)).1 (gcn 44 (by decide)).2 rfl (Nat.le_of_ble_eq_true rfl) (by omega) (cR_work hsz (n := n - 1) (by omega) mi ml x r_x hv hu) ?_
      rintro _ _ ⟨al, zs, m, hres, hfin, hal, rfl, rfl⟩
      have hle : cRWn mi x (mi 1 3).toNat ≤ (mi 1 3).toNat := cntB_le _ _
      refine Go.run hsz hn1 3 (pc' := 39) (lv' := [some (gr 0), some (gi x), some (gi a), some (gi al), none]) (st' := [gi (-1), gi a]) (M' := gw m ml) rfl ?_
      refine Go.icmp_ne (by rfl) r_a ⟨by decide, by decide⟩ (fun kq3 => ?_) (fun kq3 => ?_)
      · refine Go.run hsz hn1 3 (pc' := 49) (lv' := [some (gr 0), some (gi x), some (gi a), some (gi al), none]) (st' := [gi a, gr 127]) (M' := gw m ml) rfl ?_
        refine Go.callV (As := [gi a]) (b := 127) (st := []) (mc1 := 0) (mc := 0) (ms1 := 0) (ms := 0) (by rfl) rfl (c := 5) (N := 7) (by rfl) (by decide) (by rfl) (gcn 45 (by decide)).1 (gcn 45 (by decide)).2 rfl (Nat.le_of_ble_eq_true rfl) (by omega) (cR_go hsz (n := n - 1) (by omega) m ml a r_a hfin.2.1 (by have := hfin.2.2.1; omega)) ?_
        rintro _ _ ⟨z7, hz7, rfl, rfl⟩
        have hz6 := rFin_go hfin (by omega) (by omega) hz7
        have hz5 : rng z7 := (by rcases hz7 with ⟨i, -, -, q⟩ | ⟨q, -⟩ <;> rw [q] <;> first | exact hfin.2.1 _ _ | exact ⟨by decide, by decide⟩)
        clear hz7
        refine Go.run hsz hn1 2 (pc' := 56) (lv' := [some (gr 0), some (gi x), some (gi a), some (gi al), some (gi z7)]) (st' := [gi z7]) (M' := gw m ml) rfl ?_
        refine Go.if_ge (by rfl) hz5 (fun kq4 => ?_) (fun kq4 => ?_)
        · refine Go.run hsz hn1 1 (pc' := 70) (lv' := [some (gr 0), some (gi x), some (gi a), some (gi al), some (gi z7)]) (st' := [gi z7]) (M' := gw m ml) rfl ?_
          first | exact Go.iret (by rfl) (Or.inr ⟨by omega, al, zs, m, hres, hfin.1, hfin.2.1, hal, Or.inr ⟨by omega, z7, hz6, Or.inl ⟨by omega, rfl, rfl⟩⟩⟩) | exact Go.iret (by rfl) (Or.inr ⟨by omega, al, zs, m, hres, hfin.1, hfin.2.1, hal, Or.inr ⟨by omega, z7, hz6, Or.inr ⟨by omega, rfl, rfl⟩⟩⟩)
        · refine Go.run hsz hn1 2 (pc' := 62) (lv' := [some (gr 0), some (gi x), some (gi a), some (gi al), some (gi z7)]) (st' := [gi (-1000004), gr 0]) (M' := gw m ml) rfl ?_
          refine Go.callV (As := [gi (-1000004)]) (b := 0) (st := []) (mc1 := 0) (mc := 0) (ms1 := 0) (ms := 0) (by rfl) rfl (c := 10) (N := 9) (by rfl) (by decide) (by rfl) (gcn 147 (by decide)).1 (gcn 147 (by decide)).2 rfl (Nat.le_of_ble_eq_true rfl) (by omega) (cC_finding hsz (n := n - 1) (by omega) m ml (-1000004) (by decide) (by decide)) ?_
          rintro _ _ ⟨rfl, rfl⟩
          refine Go.run hsz hn1 1 (pc' := 70) (lv' := [some (gr 0), some (gi x), some (gi a), some (gi al), some (gi z7)]) (st' := [gi (-1000004)]) (M' := gw (cFd m 3) ml) rfl ?_
          first | exact Go.iret (by rfl) (Or.inr ⟨by omega, al, zs, m, hres, hfin.1, hfin.2.1, hal, Or.inr ⟨by omega, z7, hz6, Or.inl ⟨by omega, rfl, rfl⟩⟩⟩) | exact Go.iret (by rfl) (Or.inr ⟨by omega, al, zs, m, hres, hfin.1, hfin.2.1, hal, Or.inr ⟨by omega, z7, hz6, Or.inr ⟨by omega, rfl, rfl⟩⟩⟩)
      · refine Go.run hsz hn1 1 (pc' := 43) (lv' := [some (gr 0), some (gi x), some (gi a), some (gi al), none]) (st' := [gi al]) (M' := gw m ml) rfl ?_
        exact Go.iret (by rfl) (Or.inr ⟨by omega, al, zs, m, hres, hfin.1, hfin.2.1, hal, Or.inl ⟨by omega, rfl, rfl⟩⟩)
    · replace kq2 := b2_neg kq2
      refine Go.run hsz hn1 2 (pc' := 24) (lv' := [some (gr 0), some (gi x), some (gi a), none, none]) (st' := [gi (-1000001), gr 0]) (M' := gw mi ml) rfl ?_
      refine Go.callV (As := [gi (-1000001)]) (b := 0) (st := []) (mc1 := 0) (mc := 0) (ms1 := 0) (ms := 0) (by rfl) rfl (c := 10) (N := 9) (by rfl) (by decide) (by rfl) (gcn 147 (by decide)).1 (gcn 147 (by decide)).2 rfl (Nat.le_of_ble_eq_true rfl) (by omega) (cC_finding hsz (n := n - 1) (by omega) mi ml (-1000001) (by decide) (by decide)) ?_
      rintro _ _ ⟨rfl, rfl⟩
      refine Go.run hsz hn1 0 (pc' := 27) (lv' := [some (gr 0), some (gi x), some (gi a), none, none]) (st' := [gi (-1000001)]) (M' := gw (cFd mi 0) ml) rfl ?_
      exact Go.iret (by rfl) (Or.inl ⟨by omega, rfl, rfl⟩)

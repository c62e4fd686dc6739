set_option maxRecDepth 100000 in
set_option maxHeartbeats 4000000 in
theorem cH_miss {G : gG} (hsz : G.2.2.2.2.2.2 = true) {n : Nat} (hn : 1 ≤ n) (mi : Nat → Nat → Int) (ml : Nat → Nat → Int64) (s : Int) (s0 : 0 ≤ s) (s1 : s < 4) (hR : gR32 mi) : gM G 54 n 0 0 [gr (139 + 2 * s.toNat)] (gw mi ml) (gret (b2 (mi (139 + 2 * s.toNat) 0 = 0)) (gw mi ml)) := by
  refine gM.of mX7_isMissing okX7_isMissing (gcp 54 (by decide)).1 (gcp 54 (by decide)).2 (Nat.le_of_ble_eq_true rfl) ?_
  refine Go.run hsz hn 1 (pc' := 1) (lv' := [some (gr (139 + 2 * s.toNat))]) (st' := [gr (139 + 2 * s.toNat)]) (M' := gw mi ml) rfl ?_
  refine Go.getf (by rfl) (c := 6) (N := 3) (shS (i := s) (by omega)) ?_
  refine Go.run hsz hn 0 (pc' := 4) (lv' := [some (gr (139 + 2 * s.toNat))]) (st' := [gi (mi (139 + 2 * s.toNat) 0)]) (M' := gw mi ml) rfl ?_
  refine Go.if_ne (by rfl) (hR _ _) (fun kq1 => ?_) (fun kq1 => ?_)
  · refine Go.run hsz hn 1 (pc' := 12) (lv' := [some (gr (139 + 2 * s.toNat))]) (st' := [gi 0]) (M' := gw mi ml) rfl ?_
    exact Go.zret (by rfl) (Or.inl rfl) ⟨congrArg (fun z => some (gi z)) (by unfold b2; split <;> omega), rfl⟩
  · refine Go.run hsz hn 2 (pc' := 12) (lv' := [some (gr (139 + 2 * s.toNat))]) (st' := [gi 1]) (M' := gw mi ml) rfl ?_
    exact Go.zret (by rfl) (Or.inr rfl) ⟨congrArg (fun z => some (gi z)) (by unfold b2; split <;> omega), rfl⟩
set_option maxRecDepth 100000 in
set_option maxHeartbeats 4000000 in
theorem cH_range {G : gG} (hsz : G.2.2.2.2.2.2 = true) {n : Nat} (hn : 1 ≤ n) (mi : Nat → Nat → Int) (ml : Nat → Nat → Int64) (s : Int) (s0 : 0 ≤ s) (s1 : s < 4) (u v : Int) (ru : rng u) (rv : rng v) (hR : gR32 mi) (hz : 0 ≤ mi (139 + 2 * s.toNat) 1 ∧ mi (139 + 2 * s.toNat) 1 ≤ 60) : gM G 55 n 0 0 [gr (139 + 2 * s.toNat), gi u, gi v] (gw mi ml) (gret (b2 (0 ≤ u ∧ 0 ≤ v ∧ u ≤ mi (139 + 2 * s.toNat) 1 ∧ v ≤ mi (139 + 2 * s.toNat) 1 - u)) (gw mi ml)) := by
  have qu : -2147483648 ≤ u ∧ u < 2147483648 := ru
  have qv : -2147483648 ≤ v ∧ v < 2147483648 := rv
  refine gM.of mX7_hasRange okX7_hasRange (gcp 55 (by decide)).1 (gcp 55 (by decide)).2 (Nat.le_of_ble_eq_true rfl) ?_
  refine Go.run hsz hn 1 (pc' := 1) (lv' := [some (gr (139 + 2 * s.toNat)), some (gi u), some (gi v)]) (st' := [gi u]) (M' := gw mi ml) rfl ?_
  refine Go.if_lt (by rfl) ru (fun kq1 => ?_) (fun kq1 => ?_)
  · refine Go.run hsz hn 1 (pc' := 31) (lv' := [some (gr (139 + 2 * s.toNat)), some (gi u), some (gi v)]) (st' := [gi 0]) (M' := gw mi ml) rfl ?_
    exact Go.zret (by rfl) (Or.inl rfl) ⟨congrArg (fun z => some (gi z)) (by unfold b2; split <;> omega), rfl⟩
  · refine Go.run hsz hn 1 (pc' := 5) (lv' := [some (gr (139 + 2 * s.toNat)), some (gi u), some (gi v)]) (st' := [gi v]) (M' := gw mi ml) rfl ?_
    refine Go.if_lt (by rfl) rv (fun kq2 => ?_) (fun kq2 => ?_)
    · refine Go.run hsz hn 1 (pc' := 31) (lv' := [some (gr (139 + 2 * s.toNat)), some (gi u), some (gi v)]) (st' := [gi 0]) (M' := gw mi ml) rfl ?_
      exact Go.zret (by rfl) (Or.inl rfl) ⟨congrArg (fun z => some (gi z)) (by unfold b2; split <;> omega), rfl⟩
    · refine Go.run hsz hn 2 (pc' := 10) (lv' := [some (gr (139 + 2 * s.toNat)), some (gi u), some (gi v)]) (st' := [gr (139 + 2 * s.toNat), gi u]) (M' := gw mi ml) rfl ?_
      refine Go.getf (by rfl) (c := 6) (N := 3) (shS (i := s) (by omega)) ?_
      refine Go.run hsz hn 0 (pc' := 13) (lv' := [some (gr (139 + 2 * s.toNat)), some (gi u), some (gi v)]) (st' := [gi (mi (139 + 2 * s.toNat) 1), gi u]) (M' := gw mi ml) rfl ?_
      refine Go.icmp_gt (by rfl) ru (hR _ _) (fun kq3 => ?_) (fun kq3 => ?_)
      · refine Go.run hsz hn 1 (pc' := 31) (lv' := [some (gr (139 + 2 * s.toNat)), some (gi u), some (gi v)]) (st' := [gi 0]) (M' := gw mi ml) rfl ?_
        exact Go.zret (by rfl) (Or.inl rfl) ⟨congrArg (fun z => some (gi z)) (by unfold b2; split <;> omega), rfl⟩
      · refine Go.run hsz hn 2 (pc' := 18) (lv' := [some (gr (139 + 2 * s.toNat)), some (gi u), some (gi v)]) (st' := [gr (139 + 2 * s.toNat), gi v]) (M' := gw mi ml) rfl ?_
        refine Go.getf (by rfl) (c := 6) (N := 3) (shS (i := s) (by omega)) ?_
        refine Go.run hsz hn 2 (pc' := 23) (lv' := [some (gr (139 + 2 * s.toNat)), some (gi u), some (gi v)]) (st' := [gi ((mi (139 + 2 * s.toNat) 1) - u), gi v]) (M' := gw mi ml) rfl ?_
        refine Go.icmp_gt (by rfl) rv ⟨by omega, by omega⟩ (fun kq4 => ?_) (fun kq4 => ?_)
        · refine Go.run hsz hn 1 (pc' := 31) (lv' := [some (gr (139 + 2 * s.toNat)), some (gi u), some (gi v)]) (st' := [gi 0]) (M' := gw mi ml) rfl ?_
          exact Go.zret (by rfl) (Or.inl rfl) ⟨congrArg (fun z => some (gi z)) (by unfold b2; split <;> omega), rfl⟩
        · refine Go.run hsz hn 2 (pc' := 31) (lv' := [some (gr (139 + 2 * s.toNat)), some (gi u), some (gi v)]) (st' := [gi 1]) (M' := gw mi ml) rfl ?_
          exact Go.zret (by rfl) (Or.inr rfl) ⟨congrArg (fun z => some (gi z)) (by unfold b2; split <;> omega), rfl⟩
def cChg (mi : Nat → Nat → Int) (s i v : Int) : Nat → Nat → Int := gu mi (140 + 2 * s.toNat) i.toNat (if mi (139 + 2 * s.toNat) 0 = 32 then v else andI v (shlI 1 (mi (139 + 2 * s.toNat) 0) - 1))
set_option maxRecDepth 100000 in
set_option maxHeartbeats 4000000 in
theorem cH_change {G : gG} (hsz : G.2.2.2.2.2.2 = true) {n : Nat} (hn : 1 ≤ n) (mi : Nat → Nat → Int) (ml : Nat → Nat → Int64) (s : Int) (s0 : 0 ≤ s) (s1 : s < 4) (i v : Int) (ri : rng i) (i0 : 0 ≤ i) (i1 : i < 60) (hR : gR32 mi) : gM G 56 n 0 0 [gr (139 + 2 * s.toNat), gi i, gi v] (gw mi ml) (gvd (gw (cChg mi s i v) ml)) := by
  refine gM.of mX7_change okX7_change (gcp 56 (by decide)).1 (gcp 56 (by decide)).2 (Nat.le_of_ble_eq_true rfl) ?_
  refine Go.run hsz hn 1 (pc' := 1) (lv' := [some (gr (139 + 2 * s.toNat)), some (gi i), some (gi v)]) (st' := [gi i]) (M' := gw mi ml) rfl ?_
  refine Go.if_lt (by rfl) ri (fun kq1 => ?_) (fun kq1 => ?_)
  · first | exact Go.vret (by rfl) ⟨rfl, by unfold cChg; rw [if_pos (by assumption)]⟩ | exact Go.vret (by rfl) ⟨rfl, by unfold cChg; rw [if_neg (by assumption)]⟩ | (exfalso; omega)
  · refine Go.run hsz hn 2 (pc' := 7) (lv' := [some (gr (139 + 2 * s.toNat)), some (gi i), some (gi v)]) (st' := [gi 60, gi i]) (M' := gw mi ml) rfl ?_
    refine Go.icmp_lt (by rfl) ri ⟨by decide, by decide⟩ (fun kq2 => ?_) (fun kq2 => ?_)
    · refine Go.run hsz hn 1 (pc' := 12) (lv' := [some (gr (139 + 2 * s.toNat)), some (gi i), some (gi v)]) (st' := [gr (139 + 2 * s.toNat)]) (M' := gw mi ml) rfl ?_
      refine Go.getf (by rfl) (c := 6) (N := 3) (shS (i := s) (by omega)) ?_
      rw [gfS2 (i := s) (by omega) (by omega)]
      refine Go.run hsz hn 2 (pc' := 17) (lv' := [some (gr (139 + 2 * s.toNat)), some (gi i), some (gi v)]) (st' := [gr (139 + 2 * s.toNat), gi i, gr (140 + 2 * s.toNat)]) (M' := gw mi ml) rfl ?_
      refine Go.getf (by rfl) (c := 6) (N := 3) (shS (i := s) (by omega)) ?_
      refine Go.run hsz hn 1 (pc' := 22) (lv' := [some (gr (139 + 2 * s.toNat)), some (gi i), some (gi v)]) (st' := [gi 32, gi (mi (139 + 2 * s.toNat) 0), gi i, gr (140 + 2 * s.toNat)]) (M' := gw mi ml) rfl ?_
      refine Go.icmp_ne (by rfl) (hR _ _) ⟨by decide, by decide⟩ (fun kq3 => ?_) (fun kq3 => ?_)
      · refine Go.run hsz hn 3 (pc' := 32) (lv' := [some (gr (139 + 2 * s.toNat)), some (gi i), some (gi v)]) (st' := [gr (139 + 2 * s.toNat), gi 1, gi v, gi i, gr (140 + 2 * s.toNat)]) (M' := gw mi ml) rfl ?_
        refine Go.getf (by rfl) (c := 6) (N := 3) (shS (i := s) (by omega)) ?_
        refine Go.run hsz hn 4 (pc' := 39) (lv' := [some (gr (139 + 2 * s.toNat)), some (gi i), some (gi v)]) (st' := [gi (andI v ((shlI 1 (mi (139 + 2 * s.toNat) 0)) - 1)), gi i, gr (140 + 2 * s.toNat)]) (M' := gw mi ml) rfl ?_
        refine Go.iast (by rfl) (N := 60) (shSn (i := s) (by omega)) (by omega) (by omega) (by decide) ?_
        refine Go.run hsz hn 0 (pc' := 40) (lv' := [some (gr (139 + 2 * s.toNat)), some (gi i), some (gi v)]) (st' := []) (M' := gw (gu mi (140 + 2 * s.toNat) i.toNat (andI v ((shlI 1 (mi (139 + 2 * s.toNat) 0)) - 1))) ml) rfl ?_
        first | exact Go.vret (by rfl) ⟨rfl, by unfold cChg; rw [if_pos (by assumption)]⟩ | exact Go.vret (by rfl) ⟨rfl, by unfold cChg; rw [if_neg (by assumption)]⟩ | (exfalso; omega)
      · refine Go.run hsz hn 2 (pc' := 39) (lv' := [some (gr (139 + 2 * s.toNat)), some (gi i), some (gi v)]) (st' := [gi v, gi i, gr (140 + 2 * s.toNat)]) (M' := gw mi ml) rfl ?_
        refine Go.iast (by rfl) (N := 60) (shSn (i := s) (by omega)) (by omega) (by omega) (by decide) ?_
        refine Go.run hsz hn 0 (pc' := 40) (lv' := [some (gr (139 + 2 * s.toNat)), some (gi i), some (gi v)]) (st' := []) (M' := gw (gu mi (140 + 2 * s.toNat) i.toNat v) ml) rfl ?_
        first | exact Go.vret (by rfl) ⟨rfl, by unfold cChg; rw [if_pos (by assumption)]⟩ | exact Go.vret (by rfl) ⟨rfl, by unfold cChg; rw [if_neg (by assumption)]⟩ | (exfalso; omega)
    · first | exact Go.vret (by rfl) ⟨rfl, by unfold cChg; rw [if_pos (by assumption)]⟩ | exact Go.vret (by rfl) ⟨rfl, by unfold cChg; rw [if_neg (by assumption)]⟩ | (exfalso; omega)
def cBg0 (mi : Nat → Nat → Int) (s b n : Int) : Nat → Nat → Int := gu (gu mi (139 + 2 * s.toNat) 0 b) (139 + 2 * s.toNat) 1 n
def cBeg (mi : Nat → Nat → Int) (s b n : Int) : Nat → Nat → Int := gfl (cBg0 mi s b n) (140 + 2 * s.toNat) 0 60
set_option maxRecDepth 100000 in
set_option maxHeartbeats 4000000 in
theorem lH_begin {G : gG} (hsz : G.2.2.2.2.2.2 = true) {n : Nat} (hn : 1 ≤ n) (mi : Nat → Nat → Int) (ml : Nat → Nat → Int64) (s : Int) (s0 : 0 ≤ s) (s1 : s < 4) (b n_ : Int) : ∀ (f : Nat) (k : Int), 0 ≤ k → k ≤ 60 → 60 - k < f → Go G mX7_begin n 0 0 12 [some (gr (139 + 2 * s.toNat)), some (gi b), some (gi n_), some (gi k)] [] (gw (gfl (cBg0 mi s b n_) (140 + 2 * s.toNat) 0 k.toNat) ml) (gvd (gw (cBeg mi s b n_) ml)) := by
  have hn1 : 1 ≤ n := by omega

  intro f
  induction f with
  | zero => intros; omega
  | succ f ih =>
    intro k k0 k1 k2
    refine Go.run hsz hn1 2 (pc' := 15) (lv' := [some (gr (139 + 2 * s.toNat)), some (gi b), some (gi n_), some (gi k)]) (st' := [gi 60, gi k]) (M' := gw (gfl (cBg0 mi s b n_) (140 + 2 * s.toNat) 0 k.toNat) ml) rfl ?_
    refine Go.icmp_ge (by rfl) ⟨by omega, by omega⟩ ⟨by decide, by decide⟩ (fun kq1 => ?_) (fun kq1 => ?_)
    · obtain rfl : k = 60 := by omega
      exact Go.vret (by rfl) ⟨rfl, rfl⟩
    · refine Go.run hsz hn1 1 (pc' := 19) (lv' := [some (gr (139 + 2 * s.toNat)), some (gi b), some (gi n_), some (gi k)]) (st' := [gr (139 + 2 * s.toNat)]) (M' := gw (gfl (cBg0 mi s b n_) (140 + 2 * s.toNat) 0 k.toNat) ml) rfl ?_
      refine Go.getf (by rfl) (c := 6) (N := 3) (shS (i := s) (by omega)) ?_
      rw [gfS2 (i := s) (by omega) (by omega)]
      refine Go.run hsz hn1 2 (pc' := 24) (lv' := [some (gr (139 + 2 * s.toNat)), some (gi b), some (gi n_), some (gi k)]) (st' := [gi 0, gi k, gr (140 + 2 * s.toNat)]) (M' := gw (gfl (cBg0 mi s b n_) (140 + 2 * s.toNat) 0 k.toNat) ml) rfl ?_
      refine Go.iast (by rfl) (N := 60) (shSn (i := s) (by omega)) (by omega) (by omega) (by decide) ?_
      refine Go.run hsz hn1 2 (pc' := 12) (lv' := [some (gr (139 + 2 * s.toNat)), some (gi b), some (gi n_), some (gi (k + 1))]) (st' := []) (M' := gw (gu (gfl (cBg0 mi s b n_) (140 + 2 * s.toNat) 0 k.toNat) (140 + 2 * s.toNat) k.toNat 0) ml) rfl ?_
      rw [show gu (gfl (cBg0 mi s b n_) (140 + 2 * s.toNat) 0 k.toNat) (140 + 2 * s.toNat) k.toNat 0 = gfl (cBg0 mi s b n_) (140 + 2 * s.toNat) 0 (k + 1).toNat from by have := gfl_s (cBg0 mi s b n_) (140 + 2 * s.toNat) 0 k.toNat; rw [Nat.zero_add] at this; rw [this, show (k + 1).toNat = k.toNat + 1 by omega]]
      exact ih (k + 1) (by omega) (by omega) (by omega)
set_option maxRecDepth 100000 in
set_option maxHeartbeats 4000000 in
theorem cH_begin {G : gG} (hsz : G.2.2.2.2.2.2 = true) {n : Nat} (hn : 1 ≤ n) (mi : Nat → Nat → Int) (ml : Nat → Nat → Int64) (s : Int) (s0 : 0 ≤ s) (s1 : s < 4) (b n_ : Int) : gM G 53 n 0 0 [gr (139 + 2 * s.toNat), gi b, gi n_] (gw mi ml) (gvd (gw (cBeg mi s b n_) ml)) := by
  refine gM.of mX7_begin okX7_begin (gcp 53 (by decide)).1 (gcp 53 (by decide)).2 (Nat.le_of_ble_eq_true rfl) ?_
  refine Go.run hsz hn 2 (pc' := 2) (lv' := [some (gr (139 + 2 * s.toNat)), some (gi b), some (gi n_), none]) (st' := [gi b, gr (139 + 2 * s.toNat)]) (M' := gw mi ml) rfl ?_
  refine Go.putI (by rfl) (c := 6) (N := 3) (shS (i := s) (by omega)) (by rfl) ?_
  refine Go.run hsz hn 2 (pc' := 7) (lv' := [some (gr (139 + 2 * s.toNat)), some (gi b), some (gi n_), none]) (st' := [gi n_, gr (139 + 2 * s.toNat)]) (M' := gw (gu mi (139 + 2 * s.toNat) 0 b) ml) rfl ?_
  refine Go.putI (by rfl) (c := 6) (N := 3) (shS (i := s) (by omega)) (by rfl) ?_
  refine Go.run hsz hn 2 (pc' := 12) (lv' := [some (gr (139 + 2 * s.toNat)), some (gi b), some (gi n_), some (gi 0)]) (st' := []) (M' := gw (gu (gu mi (139 + 2 * s.toNat) 0 b) (139 + 2 * s.toNat) 1 n_) ml) rfl ?_
  have h9 := lH_begin hsz hn mi ml s s0 s1 b n_ 61 0 (by omega) (by omega) (by omega)
  rw [show (0 : Int).toNat = 0 from rfl, gfl_0] at h9
  exact h9
set_option maxRecDepth 100000 in
set_option maxHeartbeats 4000000 in
theorem pC_sheet {G : gG} (hsz : G.2.2.2.2.2.2 = true) {n : Nat} (hn : 3 ≤ n) (mi : Nat → Nat → Int) (ml : Nat → Nat → Int64) (s b n_ : Int) (r_s : rng s) (r_b : rng b) (r_n_ : rng n_) (hv : CV mi)  : gM G 139 n 0 0 [gr 0, gi s, gi b, gi n_] (gw mi ml) (fun r M => gE ((0 ≤ s ∧ s ≤ 3) ∧ (b = 0 ∨ b = 8 ∨ b = 16 ∨ b = 32) ∧ 0 ≤ n_ ∧ n_ ≤ 60 ∧ b = 0) (cBeg mi s b 0 (139 + 2 * s.toNat) 1) (cBeg mi s b 0) (ml) r M ∨ gE ((0 ≤ s ∧ s ≤ 3) ∧ (b = 0 ∨ b = 8 ∨ b = 16 ∨ b = 32) ∧ 0 ≤ n_ ∧ n_ ≤ 60 ∧ ¬ b = 0) (cBeg mi s b n_ (139 + 2 * s.toNat) 1) (cBeg mi s b n_) (ml) r M ∨ gE (¬ ((0 ≤ s ∧ s ≤ 3) ∧ (b = 0 ∨ b = 8 ∨ b = 16 ∨ b = 32))) (-1000001) (cFd mi 0) (ml) r M ∨ gE ((0 ≤ s ∧ s ≤ 3) ∧ (b = 0 ∨ b = 8 ∨ b = 16 ∨ b = 32) ∧ n_ < 0) (-1000007) (cFd mi 6) (ml) r M ∨ gE ((0 ≤ s ∧ s ≤ 3) ∧ (b = 0 ∨ b = 8 ∨ b = 16 ∨ b = 32) ∧ 60 < n_) (-1000001) (cFd mi 0) (ml) r M) := by
  have hn1 : 1 ≤ n := by omega
  obtain ⟨hR, ht, hp, hq, hP, hQ⟩ := id hv
  refine gM.of mX11_sheet okX11_sheet (gcp 139 (by decide)).1 (gcp 139 (by decide)).2 (Nat.le_of_ble_eq_true rfl) ?_
  refine Go.run hsz hn1 1 (pc' := 1) (lv' := [some (gr 0), some (gi s), some (gi b), some (gi n_), none]) (st' := [gi b]) (M' := gw mi ml) rfl ?_
  refine Go.if_eq (by rfl) r_b (fun kq1 => ?_) (fun kq1 => ?_)
  · refine Go.run hsz hn1 6 (pc' := 32) (lv' := [some (gr 0), some (gi s), some (gi b), some (gi n_), some (gi 1)]) (st' := [gi 3, gi 0, gi s]) (M' := gw mi ml) rfl ?_
    refine Go.callS (As := [gi s, gi 0, gi 3]) (st := []) (mc1 := 0) (mc := 0) (ms1 := 0) (ms := 0) (by rfl) rfl (gcn 150 (by decide)).1 (gcn 150 (by decide)).2 (Nat.le_of_ble_eq_true rfl) (by omega) (cC_isIn hsz (n := n - 1) (by omega) mi ml s 0 3 r_s ⟨by decide, by decide⟩ ⟨by decide, by decide⟩) ?_
    rintro _ _ ⟨rfl, rfl⟩
    refine Go.run hsz hn1 0 (pc' := 35) (lv' := [some (gr 0), some (gi s), some (gi b), some (gi n_), some (gi 1)]) (st' := [gi (b2 (0 ≤ s ∧ s ≤ 3))]) (M' := gw mi ml) rfl ?_
    refine Go.if_eq (by rfl) (b2_rng _) (fun kq2 => ?_) (fun kq2 => ?_)
    · replace kq2 := b2_neg kq2
      refine Go.run hsz hn1 2 (pc' := 46) (lv' := [some (gr 0), some (gi s), some (gi b), some (gi n_), some (gi 1)]) (st' := [gi (-1000001), gr 0]) (M' := gw mi ml) rfl ?_
      refine Go.callV (As := [gi (-1000001)]) (b := 0) (st := []) (mc1 := 0) (mc := 0) (ms1 := 0) (ms := 0) (by rfl) rfl (c := 10) (N := 9) (by rfl) (by decide) (by rfl) (gcn 147 (by decide)).1 (gcn 147 (by decide)).2 rfl (Nat.le_of_ble_eq_true rfl) (by omega) (cC_finding hsz (n := n - 1) (by omega) mi ml (-1000001) (by decide) (by decide)) ?_
      rintro _ _ ⟨rfl, rfl⟩
      refine Go.run hsz hn1 0 (pc' := 49) (lv' := [some (gr 0), some (gi s), some (gi b), some (gi n_), some (gi 1)]) (st' := [gi (-1000001)]) (M' := gw (cFd mi 0) ml) rfl ?_
      refine Go.iret (by rfl) ?_
      first | (exact Or.inl ⟨by omega, rfl, rfl⟩) | (exact Or.inr (Or.inl ⟨by omega, rfl, rfl⟩)) | (exact Or.inr (Or.inr (Or.inl ⟨by omega, rfl, rfl⟩))) | (exact Or.inr (Or.inr (Or.inr (Or.inl ⟨by omega, rfl, rfl⟩)))) | (exact Or.inr (Or.inr (Or.inr (Or.inr (⟨by omega, rfl, rfl⟩)))))
    · replace kq2 := b2_pos kq2
      refine Go.run hsz hn1 1 (pc' := 40) (lv' := [some (gr 0), some (gi s), some (gi b), some (gi n_), some (gi 1)]) (st' := [gi 1]) (M' := gw mi ml) rfl ?_
      refine Go.if_ne (by rfl) ⟨by decide, by decide⟩ (fun kq3 => ?_) (fun kq3 => ?_)
      · refine Go.run hsz hn1 1 (pc' := 51) (lv' := [some (gr 0), some (gi s), some (gi b), some (gi n_), some (gi 1)]) (st' := [gi n_]) (M' := gw mi ml) rfl ?_
        refine Go.if_ge (by rfl) r_n_ (fun kq4 => ?_) (fun kq4 => ?_)
        · refine Go.run hsz hn1 2 (pc' := 65) (lv' := [some (gr 0), some (gi s), some (gi b), some (gi n_), some (gi 1)]) (st' := [gi 60, gi n_]) (M' := gw mi ml) rfl ?_
          refine Go.icmp_le (by rfl) r_n_ ⟨by decide, by decide⟩ (fun kq5 => ?_) (fun kq5 => ?_)
          · refine Go.run hsz hn1 3 (pc' := 80) (lv' := [some (gr 0), some (gi s), some (gi b), some (gi n_), some (gi 1)]) (st' := [gi s, gr 138]) (M' := gw mi ml) rfl ?_
            refine Go.aaldR 6 (by rfl) (N := 4) (by rfl) ⟨by decide, by decide⟩ (by omega) (by omega) (by decide) (gMR_138 (by omega) (by omega)) ?_
            refine Go.run hsz hn1 2 (pc' := 83) (lv' := [some (gr 0), some (gi s), some (gi b), some (gi n_), some (gi 1)]) (st' := [gi b, gi b, gr (139 + 2 * s.toNat)]) (M' := gw mi ml) rfl ?_
            refine Go.if_ne (by rfl) r_b (fun kq6 => ?_) (fun kq6 => ?_)
            · refine Go.run hsz hn1 1 (pc' := 91) (lv' := [some (gr 0), some (gi s), some (gi b), some (gi n_), some (gi 1)]) (st' := [gi n_, gi b, gr (139 + 2 * s.toNat)]) (M' := gw mi ml) rfl ?_
              refine Go.callV (As := [gi b, gi n_]) (b := 139 + 2 * s.toNat) (st := []) (mc1 := 0) (mc := 0) (ms1 := 0) (ms := 0) (by rfl) rfl (c := 6) (N := 3) (shS (i := s) (by omega)) (by decide) (by rfl) (gcn 53 (by decide)).1 (gcn 53 (by decide)).2 rfl (Nat.le_of_ble_eq_true rfl) (by omega) (cH_begin hsz (n := n - 1) (by omega) mi ml s (by omega) (by omega) b n_) ?_
              rintro _ _ ⟨rfl, rfl⟩
              refine Go.run hsz hn1 3 (pc' := 99) (lv' := [some (gr 0), some (gi s), some (gi b), some (gi n_), some (gi 1)]) (st' := [gi s, gr 138]) (M' := gw (cBeg mi s b n_) ml) rfl ?_
              refine Go.aaldR 6 (by rfl) (N := 4) (by rfl) ⟨by decide, by decide⟩ (by omega) (by omega) (by decide) (gMR_138 (by omega) (by omega)) ?_
              refine Go.run hsz hn1 0 (pc' := 100) (lv' := [some (gr 0), some (gi s), some (gi b), some (gi n_), some (gi 1)]) (st' := [gr (139 + 2 * s.toNat)]) (M' := gw (cBeg mi s b n_) ml) rfl ?_
              refine Go.getf (by rfl) (c := 6) (N := 3) (shS (i := s) (by omega)) ?_
              refine Go.run hsz hn1 0 (pc' := 103) (lv' := [some (gr 0), some (gi s), some (gi b), some (gi n_), some (gi 1)]) (st' := [gi ((cBeg mi s b n_) (139 + 2 * s.toNat) 1)]) (M' := gw (cBeg mi s b n_) ml) rfl ?_
              refine Go.iret (by rfl) ?_
              first | (exact Or.inl ⟨by omega, rfl, rfl⟩) | (exact Or.inr (Or.inl ⟨by omega, rfl, rfl⟩)) | (exact Or.inr (Or.inr (Or.inl ⟨by omega, rfl, rfl⟩))) | (exact Or.inr (Or.inr (Or.inr (Or.inl ⟨by omega, rfl, rfl⟩)))) | (exact Or.inr (Or.inr (Or.inr (Or.inr (⟨by omega, rfl, rfl⟩)))))
            · refine Go.run hsz hn1 2 (pc' := 91) (lv' := [some (gr 0), some (gi s), some (gi b), some (gi n_), some (gi 1)]) (st' := [gi 0, gi b, gr (139 + 2 * s.toNat)]) (M' := gw mi ml) rfl ?_
              refine Go.callV (As := [gi b, gi 0]) (b := 139 + 2 * s.toNat) (st := []) (mc1 := 0) (mc := 0) (ms1 := 0) (ms := 0) (by rfl) rfl (c := 6) (N := 3) (shS (i := s) (by omega)) (by decide) (by rfl) (gcn 53 (by decide)).1 (gcn 53 (by decide)).2 rfl (Nat.le_of_ble_eq_true rfl) (by omega) (cH_begin hsz (n := n - 1) (by omega) mi ml s (by omega) (by omega) b 0) ?_
              rintro _ _ ⟨rfl, rfl⟩
              refine Go.run hsz hn1 3 (pc' := 99) (lv' := [some (gr 0), some (gi s), some (gi b), some (gi n_), some (gi 1)]) (st' := [gi s, gr 138]) (M' := gw (cBeg mi s b 0) ml) rfl ?_
              refine Go.aaldR 6 (by rfl) (N := 4) (by rfl) ⟨by decide, by decide⟩ (by omega) (by omega) (by decide) (gMR_138 (by omega) (by omega)) ?_
              refine Go.run hsz hn1 0 (pc' := 100) (lv' := [some (gr 0), some (gi s), some (gi b), some (gi n_), some (gi 1)]) (st' := [gr (139 + 2 * s.toNat)]) (M' := gw (cBeg mi s b 0) ml) rfl ?_
              refine Go.getf (by rfl) (c := 6) (N := 3) (shS (i := s) (by omega)) ?_
              refine Go.run hsz hn1 0 (pc' := 103) (lv' := [some (gr 0), some (gi s), some (gi b), some (gi n_), some (gi 1)]) (st' := [gi ((cBeg mi s b 0) (139 + 2 * s.toNat) 1)]) (M' := gw (cBeg mi s b 0) ml) rfl ?_
              refine Go.iret (by rfl) ?_
              first | (exact Or.inl ⟨by omega, rfl, rfl⟩) | (exact Or.inr (Or.inl ⟨by omega, rfl, rfl⟩)) | (exact Or.inr (Or.inr (Or.inl ⟨by omega, rfl, rfl⟩))) | (exact Or.inr (Or.inr (Or.inr (Or.inl ⟨by omega, rfl, rfl⟩)))) | (exact Or.inr (Or.inr (Or.inr (Or.inr (⟨by omega, rfl, rfl⟩)))))
          · refine Go.run hsz hn1 2 (pc' := 71) (lv' := [some (gr 0), some (gi s), some (gi b), some (gi n_), some (gi 1)]) (st' := [gi (-1000001), gr 0]) (M' := gw mi ml) rfl ?_
            refine Go.callV (As := [gi (-1000001)]) (b := 0) (st := []) (mc1 := 0) (mc := 0) (ms1 := 0) (ms := 0) (by rfl) rfl (c := 10) (N := 9) (by rfl) (by decide) (by rfl) (gcn 147 (by decide)).1 (gcn 147 (by decide)).2 rfl (Nat.le_of_ble_eq_true rfl) (by omega) (cC_finding hsz (n := n - 1) (by omega) mi ml (-1000001) (by decide) (by decide)) ?_
            rintro _ _ ⟨rfl, rfl⟩
            refine Go.run hsz hn1 0 (pc' := 74) (lv' := [some (gr 0), some (gi s), some (gi b), some (gi n_), some (gi 1)]) (st' := [gi (-1000001)]) (M' := gw (cFd mi 0) ml) rfl ?_
            refine Go.iret (by rfl) ?_
            first | (exact Or.inl ⟨by omega, rfl, rfl⟩) | (exact Or.inr (Or.inl ⟨by omega, rfl, rfl⟩)) | (exact Or.inr (Or.inr (Or.inl ⟨by omega, rfl, rfl⟩))) | (exact Or.inr (Or.inr (Or.inr (Or.inl ⟨by omega, rfl, rfl⟩)))) | (exact Or.inr (Or.inr (Or.inr (Or.inr (⟨by omega, rfl, rfl⟩)))))
        · refine Go.run hsz hn1 2 (pc' := 58) (lv' := [some (gr 0), some (gi s), some (gi b), some (gi n_), some (gi 1)]) (st' := [gi (-1000007), gr 0]) (M' := gw mi ml) rfl ?_
          refine Go.callV (As := [gi (-1000007)]) (b := 0) (st := []) (mc1 := 0) (mc := 0) (ms1 := 0) (ms := 0) (by rfl) rfl (c := 10) (N := 9) (by rfl) (by decide) (by rfl) (gcn 147 (by decide)).1 (gcn 147 (by decide)).2 rfl (Nat.le_of_ble_eq_true rfl) (by omega) (cC_finding hsz (n := n - 1) (by omega) mi ml (-1000007) (by decide) (by decide)) ?_
          rintro _ _ ⟨rfl, rfl⟩
          refine Go.run hsz hn1 0 (pc' := 61) (lv' := [some (gr 0), some (gi s), some (gi b), some (gi n_), some (gi 1)]) (st' := [gi (-1000007)]) (M' := gw (cFd mi 6) ml) rfl ?_
          refine Go.iret (by rfl) ?_
          first | (exact Or.inl ⟨by omega, rfl, rfl⟩) | (exact Or.inr (Or.inl ⟨by omega, rfl, rfl⟩)) | (exact Or.inr (Or.inr (Or.inl ⟨by omega, rfl, rfl⟩))) | (exact Or.inr (Or.inr (Or.inr (Or.inl ⟨by omega, rfl, rfl⟩)))) | (exact Or.inr (Or.inr (Or.inr (Or.inr (⟨by omega, rfl, rfl⟩)))))
      · exact absurd kq3 (by decide)
  · refine Go.run hsz hn1 2 (pc' := 7) (lv' := [some (gr 0), some (gi s), some (gi b), some (gi n_), none]) (st' := [gi 8, gi b]) (M' := gw mi ml) rfl ?_
    refine Go.icmp_eq (by rfl) r_b ⟨by decide, by decide⟩ (fun kq7 => ?_) (fun kq7 => ?_)
    · refine Go.run hsz hn1 6 (pc' := 32) (lv' := [some (gr 0), some (gi s), some (gi b), some (gi n_), some (gi 1)]) (st' := [gi 3, gi 0, gi s]) (M' := gw mi ml) rfl ?_
      refine Go.callS (As := [gi s, gi 0, gi 3]) (st := []) (mc1 := 0) (mc := 0) (ms1 := 0) (ms := 0) (by rfl) rfl (gcn 150 (by decide)).1 (gcn 150 (by decide)).2 (Nat.le_of_ble_eq_true rfl) (by omega) (cC_isIn hsz (n := n - 1) (by omega) mi ml s 0 3 r_s ⟨by decide, by decide⟩ ⟨by decide, by decide⟩) ?_
      rintro _ _ ⟨rfl, rfl⟩
      refine Go.run hsz hn1 0 (pc' := 35) (lv' := [some (gr 0), some (gi s), some (gi b), some (gi n_), some (gi 1)]) (st' := [gi (b2 (0 ≤ s ∧ s ≤ 3))]) (M' := gw mi ml) rfl ?_
      refine Go.if_eq (by rfl) (b2_rng _) (fun kq8 => ?_) (fun kq8 => ?_)
      · replace kq8 := b2_neg kq8
        refine Go.run hsz hn1 2 (pc' := 46) (lv' := [some (gr 0), some (gi s), some (gi b), some (gi n_), some (gi 1)]) (st' := [gi (-1000001), gr 0]) (M' := gw mi ml) rfl ?_
        refine Go.callV (As := [gi (-1000001)]) (b := 0) (st := []) (mc1 := 0) (mc := 0) (ms1 := 0) (ms := 0) (by rfl) rfl (c := 10) (N := 9) (by rfl) (by decide) (by rfl) (gcn 147 (by decide)).1 (gcn 147 (by decide)).2 rfl (Nat.le_of_ble_eq_true rfl) (by omega) (cC_finding hsz (n := n - 1) (by omega) mi ml (-1000001) (by decide) (by decide)) ?_
        rintro _ _ ⟨rfl, rfl⟩
        refine Go.run hsz hn1 0 (pc' := 49) (lv' := [some (gr 0), some (gi s), some (gi b), some (gi n_), some (gi 1)]) (st' := [gi (-1000001)]) (M' := gw (cFd mi 0) ml) rfl ?_
        refine Go.iret (by rfl) ?_
        first | (exact Or.inl ⟨by omega, rfl, rfl⟩) | (exact Or.inr (Or.inl ⟨by omega, rfl, rfl⟩)) | (exact Or.inr (Or.inr (Or.inl ⟨by omega, rfl, rfl⟩))) | (exact Or.inr (Or.inr (Or.inr (Or.inl ⟨by omega, rfl, rfl⟩)))) | (exact Or.inr (Or.inr (Or.inr (Or.inr (⟨by omega, rfl, rfl⟩)))))
      · replace kq8 := b2_pos kq8
        refine Go.run hsz hn1 1 (pc' := 40) (lv' := [some (gr 0), some (gi s), some (gi b), some (gi n_), some (gi 1)]) (st' := [gi 1]) (M' := gw mi ml) rfl ?_
        refine Go.if_ne (by rfl) ⟨by decide, by decide⟩ (fun kq9 => ?_) (fun kq9 => ?_)
        · refine Go.run hsz hn1 1 (pc' := 51) (lv' := [some (gr 0), some (gi s), some (gi b), some (gi n_), some (gi 1)]) (st' := [gi n_]) (M' := gw mi ml) rfl ?_
          refine Go.if_ge (by rfl) r_n_ (fun kq10 => ?_) (fun kq10 => ?_)
          · refine Go.run hsz hn1 2 (pc' := 65) (lv' := [some (gr 0), some (gi s), some (gi b), some (gi n_), some (gi 1)]) (st' := [gi 60, gi n_]) (M' := gw mi ml) rfl ?_
            refine Go.icmp_le (by rfl) r_n_ ⟨by decide, by decide⟩ (fun kq11 => ?_) (fun kq11 => ?_)
            · refine Go.run hsz hn1 3 (pc' := 80) (lv' := [some (gr 0), some (gi s), some (gi b), some (gi n_), some (gi 1)]) (st' := [gi s, gr 138]) (M' := gw mi ml) rfl ?_
              refine Go.aaldR 6 (by rfl) (N := 4) (by rfl) ⟨by decide, by decide⟩ (by omega) (by omega) (by decide) (gMR_138 (by omega) (by omega)) ?_
              refine Go.run hsz hn1 2 (pc' := 83) (lv' := [some (gr 0), some (gi s), some (gi b), some (gi n_), some (gi 1)]) (st' := [gi b, gi b, gr (139 + 2 * s.toNat)]) (M' := gw mi ml) rfl ?_
              refine Go.if_ne (by rfl) r_b (fun kq12 => ?_) (fun kq12 => ?_)
              · refine Go.run hsz hn1 1 (pc' := 91) (lv' := [some (gr 0), some (gi s), some (gi b), some (gi n_), some (gi 1)]) (st' := [gi n_, gi b, gr (139 + 2 * s.toNat)]) (M' := gw mi ml) rfl ?_
                refine Go.callV (As := [gi b, gi n_]) (b := 139 + 2 * s.toNat) (st := []) (mc1 := 0) (mc := 0) (ms1 := 0) (ms := 0) (by rfl) rfl (c := 6) (N := 3) (shS (i := s) (by omega)) (by decide) (by rfl) (gcn 53 (by decide)).1 (gcn 53 (by decide)).2 rfl (Nat.le_of_ble_eq_true rfl) (by omega) (cH_begin hsz (n := n - 1) (by omega) mi ml s (by omega) (by omega) b n_) ?_
                rintro _ _ ⟨rfl, rfl⟩
                refine Go.run hsz hn1 3 (pc' := 99) (lv' := [some (gr 0), some (gi s), some (gi b), some (gi n_), some (gi 1)]) (st' := [gi s, gr 138]) (M' := gw (cBeg mi s b n_) ml) rfl ?_
                refine Go.aaldR 6 (by rfl) (N := 4) (by rfl) ⟨by decide, by decide⟩ (by omega) (by omega) (by decide) (gMR_138 (by omega) (by omega)) ?_
                refine Go.run hsz hn1 0 (pc' := 100) (lv' := [some (gr 0), some (gi s), some (gi b), some (gi n_), some (gi 1)]) (st' := [gr (139 + 2 * s.toNat)]) (M' := gw (cBeg mi s b n_) ml) rfl ?_
                refine Go.getf (by rfl) (c := 6) (N := 3) (shS (i := s) (by omega)) ?_
                refine Go.run hsz hn1 0 (pc' := 103) (lv' := [some (gr 0), some (gi s), some (gi b), some (gi n_), some (gi 1)]) (st' := [gi ((cBeg mi s b n_) (139 + 2 * s.toNat) 1)]) (M' := gw (cBeg mi s b n_) ml) rfl ?_
                refine Go.iret (by rfl) ?_
                first | (exact Or.inl ⟨by omega, rfl, rfl⟩) | (exact Or.inr (Or.inl ⟨by omega, rfl, rfl⟩)) | (exact Or.inr (Or.inr (Or.inl ⟨by omega, rfl, rfl⟩))) | (exact Or.inr (Or.inr (Or.inr (Or.inl ⟨by omega, rfl, rfl⟩)))) | (exact Or.inr (Or.inr (Or.inr (Or.inr (⟨by omega, rfl, rfl⟩)))))
              · refine Go.run hsz hn1 2 (pc' := 91) (lv' := [some (gr 0), some (gi s), some (gi b), some (gi n_), some (gi 1)]) (st' := [gi 0, gi b, gr (139 + 2 * s.toNat)]) (M' := gw mi ml) rfl ?_
                refine Go.callV (As := [gi b, gi 0]) (b := 139 + 2 * s.toNat) (st := []) (mc1 := 0) (mc := 0) (ms1 := 0) (ms := 0) (by rfl) rfl (c := 6) (N := 3) (shS (i := s) (by omega)) (by decide) (by rfl) (gcn 53 (by decide)).1 (gcn 53 (by decide)).2 rfl (Nat.le_of_ble_eq_true rfl) (by omega) (cH_begin hsz (n := n - 1) (by omega) mi ml s (by omega) (by omega) b 0) ?_
                rintro _ _ ⟨rfl, rfl⟩
                refine Go.run hsz hn1 3 (pc' := 99) (lv' := [some (gr 0), some (gi s), some (gi b), some (gi n_), some (gi 1)]) (st' := [gi s, gr 138]) (M' := gw (cBeg mi s b 0) ml) rfl ?_
                refine Go.aaldR 6 (by rfl) (N := 4) (by rfl) ⟨by decide, by decide⟩ (by omega) (by omega) (by decide) (gMR_138 (by omega) (by omega)) ?_
                refine Go.run hsz hn1 0 (pc' := 100) (lv' := [some (gr 0), some (gi s), some (gi b), some (gi n_), some (gi 1)]) (st' := [gr (139 + 2 * s.toNat)]) (M' := gw (cBeg mi s b 0) ml) rfl ?_
                refine Go.getf (by rfl) (c := 6) (N := 3) (shS (i := s) (by omega)) ?_
                refine Go.run hsz hn1 0 (pc' := 103) (lv' := [some (gr 0), some (gi s), some (gi b), some (gi n_), some (gi 1)]) (st' := [gi ((cBeg mi s b 0) (139 + 2 * s.toNat) 1)]) (M' := gw (cBeg mi s b 0) ml) rfl ?_
                refine Go.iret (by rfl) ?_
                first | (exact Or.inl ⟨by omega, rfl, rfl⟩) | (exact Or.inr (Or.inl ⟨by omega, rfl, rfl⟩)) | (exact Or.inr (Or.inr (Or.inl ⟨by omega, rfl, rfl⟩))) | (exact Or.inr (Or.inr (Or.inr (Or.inl ⟨by omega, rfl, rfl⟩)))) | (exact Or.inr (Or.inr (Or.inr (Or.inr (⟨by omega, rfl, rfl⟩)))))
            · refine Go.run hsz hn1 2 (pc' := 71) (lv' := [some (gr 0), some (gi s), some (gi b), some (gi n_), some (gi 1)]) (st' := [gi (-1000001), gr 0]) (M' := gw mi ml) rfl ?_
              refine Go.callV (As := [gi (-1000001)]) (b := 0) (st := []) (mc1 := 0) (mc := 0) (ms1 := 0) (ms := 0) (by rfl) rfl (c := 10) (N := 9) (by rfl) (by decide) (by rfl) (gcn 147 (by decide)).1 (gcn 147 (by decide)).2 rfl (Nat.le_of_ble_eq_true rfl) (by omega) (cC_finding hsz (n := n - 1) (by omega) mi ml (-1000001) (by decide) (by decide)) ?_
              rintro _ _ ⟨rfl, rfl⟩
              refine Go.run hsz hn1 0 (pc' := 74) (lv' := [some (gr 0), some (gi s), some (gi b), some (gi n_), some (gi 1)]) (st' := [gi (-1000001)]) (M' := gw (cFd mi 0) ml) rfl ?_
              refine Go.iret (by rfl) ?_
              first | (exact Or.inl ⟨by omega, rfl, rfl⟩) | (exact Or.inr (Or.inl ⟨by omega, rfl, rfl⟩)) | (exact Or.inr (Or.inr (Or.inl ⟨by omega, rfl, rfl⟩))) | (exact Or.inr (Or.inr (Or.inr (Or.inl ⟨by omega, rfl, rfl⟩)))) | (exact Or.inr (Or.inr (Or.inr (Or.inr (⟨by omega, rfl, rfl⟩)))))
          · refine Go.run hsz hn1 2 (pc' := 58) (lv' := [some (gr 0), some (gi s), some (gi b), some (gi n_), some (gi 1)]) (st' := [gi (-1000007), gr 0]) (M' := gw mi ml) rfl ?_
            refine Go.callV (As := [gi (-1000007)]) (b := 0) (st := []) (mc1 := 0) (mc := 0) (ms1 := 0) (ms := 0) (by rfl) rfl (c := 10) (N := 9) (by rfl) (by decide) (by rfl) (gcn 147 (by decide)).1 (gcn 147 (by decide)).2 rfl (Nat.le_of_ble_eq_true rfl) (by omega) (cC_finding hsz (n := n - 1) (by omega) mi ml (-1000007) (by decide) (by decide)) ?_
            rintro _ _ ⟨rfl, rfl⟩
            refine Go.run hsz hn1 0 (pc' := 61) (lv' := [some (gr 0), some (gi s), some (gi b), some (gi n_), some (gi 1)]) (st' := [gi (-1000007)]) (M' := gw (cFd mi 6) ml) rfl ?_
            refine Go.iret (by rfl) ?_
            first | (exact Or.inl ⟨by omega, rfl, rfl⟩) | (exact Or.inr (Or.inl ⟨by omega, rfl, rfl⟩)) | (exact Or.inr (Or.inr (Or.inl ⟨by omega, rfl, rfl⟩))) | (exact Or.inr (Or.inr (Or.inr (Or.inl ⟨by omega, rfl, rfl⟩)))) | (exact Or.inr (Or.inr (Or.inr (Or.inr (⟨by omega, rfl, rfl⟩)))))
        · exact absurd kq9 (by decide)
    · refine Go.run hsz hn1 2 (pc' := 13) (lv' := [some (gr 0), some (gi s), some (gi b), some (gi n_), none]) (st' := [gi 16, gi b]) (M' := gw mi ml) rfl ?_
      refine Go.icmp_eq (by rfl) r_b ⟨by decide, by decide⟩ (fun kq13 => ?_) (fun kq13 => ?_)
      · refine Go.run hsz hn1 6 (pc' := 32) (lv' := [some (gr 0), some (gi s), some (gi b), some (gi n_), some (gi 1)]) (st' := [gi 3, gi 0, gi s]) (M' := gw mi ml) rfl ?_
        refine Go.callS (As := [gi s, gi 0, gi 3]) (st := []) (mc1 := 0) (mc := 0) (ms1 := 0) (ms := 0) (by rfl) rfl (gcn 150 (by decide)).1 (gcn 150 (by decide)).2 (Nat.le_of_ble_eq_true rfl) (by omega) (cC_isIn hsz (n := n - 1) (by omega) mi ml s 0 3 r_s ⟨by decide, by decide⟩ ⟨by decide, by decide⟩) ?_
        rintro _ _ ⟨rfl, rfl⟩
        refine Go.run hsz hn1 0 (pc' := 35) (lv' := [some (gr 0), some (gi s), some (gi b), some (gi n_), some (gi 1)]) (st' := [gi (b2 (0 ≤ s ∧ s ≤ 3))]) (M' := gw mi ml) rfl ?_
        refine Go.if_eq (by rfl) (b2_rng _) (fun kq14 => ?_) (fun kq14 => ?_)
        · replace kq14 := b2_neg kq14
          refine Go.run hsz hn1 2 (pc' := 46) (lv' := [some (gr 0), some (gi s), some (gi b), some (gi n_), some (gi 1)]) (st' := [gi (-1000001), gr 0]) (M' := gw mi ml) rfl ?_
          refine Go.callV (As := [gi (-1000001)]) (b := 0) (st := []) (mc1 := 0) (mc := 0) (ms1 := 0) (ms := 0) (by rfl) rfl (c := 10) (N := 9) (by rfl) (by decide) (by rfl) (gcn 147 (by decide)).1 (gcn 147 (by decide)).2 rfl (Nat.le_of_ble_eq_true rfl) (by omega) (cC_finding hsz (n := n - 1) (by omega) mi ml (-1000001) (by decide) (by decide)) ?_
          rintro _ _ ⟨rfl, rfl⟩
          refine Go.run hsz hn1 0 (pc' := 49) (lv' := [some (gr 0), some (gi s), some (gi b), some (gi n_), some (gi 1)]) (st' := [gi (-1000001)]) (M' := gw (cFd mi 0) ml) rfl ?_
          refine Go.iret (by rfl) ?_
          first | (exact Or.inl ⟨by omega, rfl, rfl⟩) | (exact Or.inr (Or.inl ⟨by omega, rfl, rfl⟩)) | (exact Or.inr (Or.inr (Or.inl ⟨by omega, rfl, rfl⟩))) | (exact Or.inr (Or.inr (Or.inr (Or.inl ⟨by omega, rfl, rfl⟩)))) | (exact Or.inr (Or.inr (Or.inr (Or.inr (⟨by omega, rfl, rfl⟩)))))
        · replace kq14 := b2_pos kq14
          refine Go.run hsz hn1 1 (pc' := 40) (lv' := [some (gr 0), some (gi s), some (gi b), some (gi n_), some (gi 1)]) (st' := [gi 1]) (M' := gw mi ml) rfl ?_
          refine Go.if_ne (by rfl) ⟨by decide, by decide⟩ (fun kq15 => ?_) (fun kq15 => ?_)
          · refine Go.run hsz hn1 1 (pc' := 51) (lv' := [some (gr 0), some (gi s), some (gi b), some (gi n_), some (gi 1)]) (st' := [gi n_]) (M' := gw mi ml) rfl ?_
            refine Go.if_ge (by rfl) r_n_ (fun kq16 => ?_) (fun kq16 => ?_)
            · refine Go.run hsz hn1 2 (pc' := 65) (lv' := [some (gr 0), some (gi s), some (gi b), some (gi n_), some (gi 1)]) (st' := [gi 60, gi n_]) (M' := gw mi ml) rfl ?_
              refine Go.icmp_le (by rfl) r_n_ ⟨by decide, by decide⟩ (fun kq17 => ?_) (fun kq17 => ?_)
              · refine Go.run hsz hn1 3 (pc' := 80) (lv' := [some (gr 0), some (gi s), some (gi b), some (gi n_), some (gi 1)]) (st' := [gi s, gr 138]) (M' := gw mi ml) rfl ?_
                refine Go.aaldR 6 (by rfl) (N := 4) (by rfl) ⟨by decide, by decide⟩ (by omega) (by omega) (by decide) (gMR_138 (by omega) (by omega)) ?_
                refine Go.run hsz hn1 2 (pc' := 83) (lv' := [some (gr 0), some (gi s), some (gi b), some (gi n_), some (gi 1)]) (st' := [gi b, gi b, gr (139 + 2 * s.toNat)]) (M' := gw mi ml) rfl ?_
                refine Go.if_ne (by rfl) r_b (fun kq18 => ?_) (fun kq18 => ?_)
                · refine Go.run hsz hn1 1 (pc' := 91) (lv' := [some (gr 0), some (gi s), some (gi b), some (gi n_), some (gi 1)]) (st' := [gi n_, gi b, gr (139 + 2 * s.toNat)]) (M' := gw mi ml) rfl ?_
                  refine Go.callV (As := [gi b, gi n_]) (b := 139 + 2 * s.toNat) (st := []) (mc1 := 0) (mc := 0) (ms1 := 0) (ms := 0) (by rfl) rfl (c := 6) (N := 3) (shS (i := s) (by omega)) (by decide) (by rfl) (gcn 53 (by decide)).1 (gcn 53 (by decide)).2 rfl (Nat.le_of_ble_eq_true rfl) (by omega) (cH_begin hsz (n := n - 1) (by omega) mi ml s (by omega) (by omega) b n_) ?_
                  rintro _ _ ⟨rfl, rfl⟩
                  refine Go.run hsz hn1 3 (pc' := 99) (lv' := [some (gr 0), some (gi s), some (gi b), some (gi n_), some (gi 1)]) (st' := [gi s, gr 138]) (M' := gw (cBeg mi s b n_) ml) rfl ?_
                  refine Go.aaldR 6 (by rfl) (N := 4) (by rfl) ⟨by decide, by decide⟩ (by omega) (by omega) (by decide) (gMR_138 (by omega) (by omega)) ?_
                  refine Go.run hsz hn1 0 (pc' := 100) (lv' := [some (gr 0), some (gi s), some (gi b), some (gi n_), some (gi 1)]) (st' := [gr (139 + 2 * s.toNat)]) (M' := gw (cBeg mi s b n_) ml) rfl ?_
                  refine Go.getf (by rfl) (c := 6) (N := 3) (shS (i := s) (by omega)) ?_
                  refine Go.run hsz hn1 0 (pc' := 103) (lv' := [some (gr 0), some (gi s), some (gi b), some (gi n_), some (gi 1)]) (st' := [gi ((cBeg mi s b n_) (139 + 2 * s.toNat) 1)]) (M' := gw (cBeg mi s b n_) ml) rfl ?_
                  refine Go.iret (by rfl) ?_
                  first | (exact Or.inl ⟨by omega, rfl, rfl⟩) | (exact Or.inr (Or.inl ⟨by omega, rfl, rfl⟩)) | (exact Or.inr (Or.inr (Or.inl ⟨by omega, rfl, rfl⟩))) | (exact Or.inr (Or.inr (Or.inr (Or.inl ⟨by omega, rfl, rfl⟩)))) | (exact Or.inr (Or.inr (Or.inr (Or.inr (⟨by omega, rfl, rfl⟩)))))
                · refine Go.run hsz hn1 2 (pc' := 91) (lv' := [some (gr 0), some (gi s), some (gi b), some (gi n_), some (gi 1)]) (st' := [gi 0, gi b, gr (139 + 2 * s.toNat)]) (M' := gw mi ml) rfl ?_
                  refine Go.callV (As := [gi b, gi 0]) (b := 139 + 2 * s.toNat) (st := []) (mc1 := 0) (mc := 0) (ms1 := 0) (ms := 0) (by rfl) rfl (c := 6) (N := 3) (shS (i := s) (by omega)) (by decide) (by rfl) (gcn 53 (by decide)).1 (gcn 53 (by decide)).2 rfl (Nat.le_of_ble_eq_true rfl) (by omega) (cH_begin hsz (n := n - 1) (by omega) mi ml s (by omega) (by omega) b 0) ?_
                  rintro _ _ ⟨rfl, rfl⟩
                  refine Go.run hsz hn1 3 (pc' := 99) (lv' := [some (gr 0), some (gi s), some (gi b), some (gi n_), some (gi 1)]) (st' := [gi s, gr 138]) (M' := gw (cBeg mi s b 0) ml) rfl ?_
                  refine Go.aaldR 6 (by rfl) (N := 4) (by rfl) ⟨by decide, by decide⟩ (by omega) (by omega) (by decide) (gMR_138 (by omega) (by omega)) ?_
                  refine Go.run hsz hn1 0 (pc' := 100) (lv' := [some (gr 0), some (gi s), some (gi b), some (gi n_), some (gi 1)]) (st' := [gr (139 + 2 * s.toNat)]) (M' := gw (cBeg mi s b 0) ml) rfl ?_
                  refine Go.getf (by rfl) (c := 6) (N := 3) (shS (i := s) (by omega)) ?_
                  refine Go.run hsz hn1 0 (pc' := 103) (lv' := [some (gr 0), some (gi s), some (gi b), some (gi n_), some (gi 1)]) (st' := [gi ((cBeg mi s b 0) (139 + 2 * s.toNat) 1)]) (M' := gw (cBeg mi s b 0) ml) rfl ?_
                  refine Go.iret (by rfl) ?_
                  first | (exact Or.inl ⟨by omega, rfl, rfl⟩) | (exact Or.inr (Or.inl ⟨by omega, rfl, rfl⟩)) | (exact Or.inr (Or.inr (Or.inl ⟨by omega, rfl, rfl⟩))) | (exact Or.inr (Or.inr (Or.inr (Or.inl ⟨by omega, rfl, rfl⟩)))) | (exact Or.inr (Or.inr (Or.inr (Or.inr (⟨by omega, rfl, rfl⟩)))))
              · refine Go.run hsz hn1 2 (pc' := 71) (lv' := [some (gr 0), some (gi s), some (gi b), some (gi n_), some (gi 1)]) (st' := [gi (-1000001), gr 0]) (M' := gw mi ml) rfl ?_
                refine Go.callV (As := [gi (-1000001)]) (b := 0) (st := []) (mc1 := 0) (mc := 0) (ms1 := 0) (ms := 0) (by rfl) rfl (c := 10) (N := 9) (by rfl) (by decide) (by rfl) (gcn 147 (by decide)).1 (gcn 147 (by decide)).2 rfl (Nat.le_of_ble_eq_true rfl) (by omega) (cC_finding hsz (n := n - 1) (by omega) mi ml (-1000001) (by decide) (by decide)) ?_
                rintro _ _ ⟨rfl, rfl⟩
                refine Go.run hsz hn1 0 (pc' := 74) (lv' := [some (gr 0), some (gi s), some (gi b), some (gi n_), some (gi 1)]) (st' := [gi (-1000001)]) (M' := gw (cFd mi 0) ml) rfl ?_
                refine Go.iret (by rfl) ?_
                first | (exact Or.inl ⟨by omega, rfl, rfl⟩) | (exact Or.inr (Or.inl ⟨by omega, rfl, rfl⟩)) | (exact Or.inr (Or.inr (Or.inl ⟨by omega, rfl, rfl⟩))) | (exact Or.inr (Or.inr (Or.inr (Or.inl ⟨by omega, rfl, rfl⟩)))) | (exact Or.inr (Or.inr (Or.inr (Or.inr (⟨by omega, rfl, rfl⟩)))))
            · refine Go.run hsz hn1 2 (pc' := 58) (lv' := [some (gr 0), some (gi s), some (gi b), some (gi n_), some (gi 1)]) (st' := [gi (-1000007), gr 0]) (M' := gw mi ml) rfl ?_
              refine Go.callV (As := [gi (-1000007)]) (b := 0) (st := []) (mc1 := 0) (mc := 0) (ms1 := 0) (ms := 0) (by rfl) rfl (c := 10) (N := 9) (by rfl) (by decide) (by rfl) (gcn 147 (by decide)).1 (gcn 147 (by decide)).2 rfl (Nat.le_of_ble_eq_true rfl) (by omega) (cC_finding hsz (n := n - 1) (by omega) mi ml (-1000007) (by decide) (by decide)) ?_
              rintro _ _ ⟨rfl, rfl⟩
              refine Go.run hsz hn1 0 (pc' := 61) (lv' := [some (gr 0), some (gi s), some (gi b), some (gi n_), some (gi 1)]) (st' := [gi (-1000007)]) (M' := gw (cFd mi 6) ml) rfl ?_
              refine Go.iret (by rfl) ?_
              first | (exact Or.inl ⟨by omega, rfl, rfl⟩) | (exact Or.inr (Or.inl ⟨by omega, rfl, rfl⟩)) | (exact Or.inr (Or.inr (Or.inl ⟨by omega, rfl, rfl⟩))) | (exact Or.inr (Or.inr (Or.inr (Or.inl ⟨by omega, rfl, rfl⟩)))) | (exact Or.inr (Or.inr (Or.inr (Or.inr (⟨by omega, rfl, rfl⟩)))))
          · exact absurd kq15 (by decide)
      · refine Go.run hsz hn1 2 (pc' := 19) (lv' := [some (gr 0), some (gi s), some (gi b), some (gi n_), none]) (st' := [gi 32, gi b]) (M' := gw mi ml) rfl ?_
        refine Go.icmp_ne (by rfl) r_b ⟨by decide, by decide⟩ (fun kq19 => ?_) (fun kq19 => ?_)
        · refine Go.run hsz hn1 5 (pc' := 32) (lv' := [some (gr 0), some (gi s), some (gi b), some (gi n_), some (gi 0)]) (st' := [gi 3, gi 0, gi s]) (M' := gw mi ml) rfl ?_
          refine Go.callS (As := [gi s, gi 0, gi 3]) (st := []) (mc1 := 0) (mc := 0) (ms1 := 0) (ms := 0) (by rfl) rfl (gcn 150 (by decide)).1 (gcn 150 (by decide)).2 (Nat.le_of_ble_eq_true rfl) (by omega) (cC_isIn hsz (n := n - 1) (by omega) mi ml s 0 3 r_s ⟨by decide, by decide⟩ ⟨by decide, by decide⟩) ?_
          rintro _ _ ⟨rfl, rfl⟩
          refine Go.run hsz hn1 0 (pc' := 35) (lv' := [some (gr 0), some (gi s), some (gi b), some (gi n_), some (gi 0)]) (st' := [gi (b2 (0 ≤ s ∧ s ≤ 3))]) (M' := gw mi ml) rfl ?_
          refine Go.if_eq (by rfl) (b2_rng _) (fun kq20 => ?_) (fun kq20 => ?_)
          · replace kq20 := b2_neg kq20
            refine Go.run hsz hn1 2 (pc' := 46) (lv' := [some (gr 0), some (gi s), some (gi b), some (gi n_), some (gi 0)]) (st' := [gi (-1000001), gr 0]) (M' := gw mi ml) rfl ?_
            refine Go.callV (As := [gi (-1000001)]) (b := 0) (st := []) (mc1 := 0) (mc := 0) (ms1 := 0) (ms := 0) (by rfl) rfl (c := 10) (N := 9) (by rfl) (by decide) (by rfl) (gcn 147 (by decide)).1 (gcn 147 (by decide)).2 rfl (Nat.le_of_ble_eq_true rfl) (by omega) (cC_finding hsz (n := n - 1) (by omega) mi ml (-1000001) (by decide) (by decide)) ?_
            rintro _ _ ⟨rfl, rfl⟩
            refine Go.run hsz hn1 0 (pc' := 49) (lv' := [some (gr 0), some (gi s), some (gi b), some (gi n_), some (gi 0)]) (st' := [gi (-1000001)]) (M' := gw (cFd mi 0) ml) rfl ?_
            refine Go.iret (by rfl) ?_
            first | (exact Or.inl ⟨by omega, rfl, rfl⟩) | (exact Or.inr (Or.inl ⟨by omega, rfl, rfl⟩)) | (exact Or.inr (Or.inr (Or.inl ⟨by omega, rfl, rfl⟩))) | (exact Or.inr (Or.inr (Or.inr (Or.inl ⟨by omega, rfl, rfl⟩)))) | (exact Or.inr (Or.inr (Or.inr (Or.inr (⟨by omega, rfl, rfl⟩)))))
          · replace kq20 := b2_pos kq20
            refine Go.run hsz hn1 1 (pc' := 40) (lv' := [some (gr 0), some (gi s), some (gi b), some (gi n_), some (gi 0)]) (st' := [gi 0]) (M' := gw mi ml) rfl ?_
            refine Go.if_ne (by rfl) ⟨by decide, by decide⟩ (fun kq21 => ?_) (fun kq21 => ?_)
            · exact absurd kq21 (by decide)
            · refine Go.run hsz hn1 2 (pc' := 46) (lv' := [some (gr 0), some (gi s), some (gi b), some (gi n_), some (gi 0)]) (st' := [gi (-1000001), gr 0]) (M' := gw mi ml) rfl ?_
              refine Go.callV (As := [gi (-1000001)]) (b := 0) (st := []) (mc1 := 0) (mc := 0) (ms1 := 0) (ms := 0) (by rfl) rfl (c := 10) (N := 9) (by rfl) (by decide) (by rfl) (gcn 147 (by decide)).1 (gcn 147 (by decide)).2 rfl (Nat.le_of_ble_eq_true rfl) (by omega) (cC_finding hsz (n := n - 1) (by omega) mi ml (-1000001) (by decide) (by decide)) ?_
              rintro _ _ ⟨rfl, rfl⟩
              refine Go.run hsz hn1 0 (pc' := 49) (lv' := [some (gr 0), some (gi s), some (gi b), some (gi n_), some (gi 0)]) (st' := [gi (-1000001)]) (M' := gw (cFd mi 0) ml) rfl ?_
              refine Go.iret (by rfl) ?_
              first | (exact Or.inl ⟨by omega, rfl, rfl⟩) | (exact Or.inr (Or.inl ⟨by omega, rfl, rfl⟩)) | (exact Or.inr (Or.inr (Or.inl ⟨by omega, rfl, rfl⟩))) | (exact Or.inr (Or.inr (Or.inr (Or.inl ⟨by omega, rfl, rfl⟩)))) | (exact Or.inr (Or.inr (Or.inr (Or.inr (⟨by omega, rfl, rfl⟩)))))
        · refine Go.run hsz hn1 6 (pc' := 32) (lv' := [some (gr 0), some (gi s), some (gi b), some (gi n_), some (gi 1)]) (st' := [gi 3, gi 0, gi s]) (M' := gw mi ml) rfl ?_
          refine Go.callS (As := [gi s, gi 0, gi 3]) (st := []) (mc1 := 0) (mc := 0) (ms1 := 0) (ms := 0) (by rfl) rfl (gcn 150 (by decide)).1 (gcn 150 (by decide)).2 (Nat.le_of_ble_eq_true rfl) (by omega) (cC_isIn hsz (n := n - 1) (by omega) mi ml s 0 3 r_s ⟨by decide, by decide⟩ ⟨by decide, by decide⟩) ?_
          rintro _ _ ⟨rfl, rfl⟩
          refine Go.run hsz hn1 0 (pc' := 35) (lv' := [some (gr 0), some (gi s), some (gi b), some (gi n_), some (gi 1)]) (st' := [gi (b2 (0 ≤ s ∧ s ≤ 3))]) (M' := gw mi ml) rfl ?_
          refine Go.if_eq (by rfl) (b2_rng _) (fun kq22 => ?_) (fun kq22 => ?_)
          · replace kq22 := b2_neg kq22
            refine Go.run hsz hn1 2 (pc' := 46) (lv' := [some (gr 0), some (gi s), some (gi b), some (gi n_), some (gi 1)]) (st' := [gi (-1000001), gr 0]) (M' := gw mi ml) rfl ?_
            refine Go.callV (As := [gi (-1000001)]) (b := 0) (st := []) (mc1 := 0) (mc := 0) (ms1 := 0) (ms := 0) (by rfl) rfl (c := 10) (N := 9) (by rfl) (by decide) (by rfl) (gcn 147 (by decide)).1 (gcn 147 (by decide)).2 rfl (Nat.le_of_ble_eq_true rfl) (by omega) (cC_finding hsz (n := n - 1) (by omega) mi ml (-1000001) (by decide) (by decide)) ?_
            rintro _ _ ⟨rfl, rfl⟩
            refine Go.run hsz hn1 0 (pc' := 49) (lv' := [some (gr 0), some (gi s), some (gi b), some (gi n_), some (gi 1)]) (st' := [gi (-1000001)]) (M' := gw (cFd mi 0) ml) rfl ?_
            refine Go.iret (by rfl) ?_
            first | (exact Or.inl ⟨by omega, rfl, rfl⟩) | (exact Or.inr (Or.inl ⟨by omega, rfl, rfl⟩)) | (exact Or.inr (Or.inr (Or.inl ⟨by omega, rfl, rfl⟩))) | (exact Or.inr (Or.inr (Or.inr (Or.inl ⟨by omega, rfl, rfl⟩)))) | (exact Or.inr (Or.inr (Or.inr (Or.inr (⟨by omega, rfl, rfl⟩)))))
          · replace kq22 := b2_pos kq22
            refine Go.run hsz hn1 1 (pc' := 40) (lv' := [some (gr 0), some (gi s), some (gi b), some (gi n_), some (gi 1)]) (st' := [gi 1]) (M' := gw mi ml) rfl ?_
            refine Go.if_ne (by rfl) ⟨by decide, by decide⟩ (fun kq23 => ?_) (fun kq23 => ?_)
            · refine Go.run hsz hn1 1 (pc' := 51) (lv' := [some (gr 0), some (gi s), some (gi b), some (gi n_), some (gi 1)]) (st' := [gi n_]) (M' := gw mi ml) rfl ?_
              refine Go.if_ge (by rfl) r_n_ (fun kq24 => ?_) (fun kq24 => ?_)
              · refine Go.run hsz hn1 2 (pc' := 65) (lv' := [some (gr 0), some (gi s), some (gi b), some (gi n_), some (gi 1)]) (st' := [gi 60, gi n_]) (M' := gw mi ml) rfl ?_
                refine Go.icmp_le (by rfl) r_n_ ⟨by decide, by decide⟩ (fun kq25 => ?_) (fun kq25 => ?_)
                · refine Go.run hsz hn1 3 (pc' := 80) (lv' := [some (gr 0), some (gi s), some (gi b), some (gi n_), some (gi 1)]) (st' := [gi s, gr 138]) (M' := gw mi ml) rfl ?_
                  refine Go.aaldR 6 (by rfl) (N := 4) (by rfl) ⟨by decide, by decide⟩ (by omega) (by omega) (by decide) (gMR_138 (by omega) (by omega)) ?_
                  refine Go.run hsz hn1 2 (pc' := 83) (lv' := [some (gr 0), some (gi s), some (gi b), some (gi n_), some (gi 1)]) (st' := [gi b, gi b, gr (139 + 2 * s.toNat)]) (M' := gw mi ml) rfl ?_
                  refine Go.if_ne (by rfl) r_b (fun kq26 => ?_) (fun kq26 => ?_)
                  · refine Go.run hsz hn1 1 (pc' := 91) (lv' := [some (gr 0), some (gi s), some (gi b), some (gi n_), some (gi 1)]) (st' := [gi n_, gi b, gr (139 + 2 * s.toNat)]) (M' := gw mi ml) rfl ?_
                    refine Go.callV (As := [gi b, gi n_]) (b := 139 + 2 * s.toNat) (st := []) (mc1 := 0) (mc := 0) (ms1 := 0) (ms := 0) (by rfl) rfl (c := 6) (N := 3) (shS (i := s) (by omega)) (by decide) (by rfl) (gcn 53 (by decide)).1 (gcn 53 (by decide)).2 rfl (Nat.le_of_ble_eq_true rfl) (by omega) (cH_begin hsz (n := n - 1) (by omega) mi ml s (by omega) (by omega) b n_) ?_
                    rintro _ _ ⟨rfl, rfl⟩
                    refine Go.run hsz hn1 3 (pc' := 99) (lv' := [some (gr 0), some (gi s), some (gi b), some (gi n_), some (gi 1)]) (st' := [gi s, gr 138]) (M' := gw (cBeg mi s b n_) ml) rfl ?_
                    refine Go.aaldR 6 (by rfl) (N := 4) (by rfl) ⟨by decide, by decide⟩ (by omega) (by omega) (by decide) (gMR_138 (by omega) (by omega)) ?_
                    refine Go.run hsz hn1 0 (pc' := 100) (lv' := [some (gr 0), some (gi s), some (gi b), some (gi n_), some (gi 1)]) (st' := [gr (139 + 2 * s.toNat)]) (M' := gw (cBeg mi s b n_) ml) rfl ?_
                    refine Go.getf (by rfl) (c := 6) (N := 3) (shS (i := s) (by omega)) ?_
                    refine Go.run hsz hn1 0 (pc' := 103) (lv' := [some (gr 0), some (gi s), some (gi b), some (gi n_), some (gi 1)]) (st' := [gi ((cBeg mi s b n_) (139 + 2 * s.toNat) 1)]) (M' := gw (cBeg mi s b n_) ml) rfl ?_
                    refine Go.iret (by rfl) ?_
                    first | (exact Or.inl ⟨by omega, rfl, rfl⟩) | (exact Or.inr (Or.inl ⟨by omega, rfl, rfl⟩)) | (exact Or.inr (Or.inr (Or.inl ⟨by omega, rfl, rfl⟩))) | (exact Or.inr (Or.inr (Or.inr (Or.inl ⟨by omega, rfl, rfl⟩)))) | (exact Or.inr (Or.inr (Or.inr (Or.inr (⟨by omega, rfl, rfl⟩)))))
                  · refine Go.run hsz hn1 2 (pc' := 91) (lv' := [some (gr 0), some (gi s), some (gi b), some (gi n_), some (gi 1)]) (st' := [gi 0, gi b, gr (139 + 2 * s.toNat)]) (M' := gw mi ml) rfl ?_
                    refine Go.callV (As := [gi b, gi 0]) (b := 139 + 2 * s.toNat) (st := []) (mc1 := 0) (mc := 0) (ms1 := 0) (ms := 0) (by rfl) rfl (c := 6) (N := 3) (shS (i := s) (by omega)) (by decide) (by rfl) (gcn 53 (by decide)).1 (gcn 53 (by decide)).2 rfl (Nat.le_of_ble_eq_true rfl) (by omega) (cH_begin hsz (n := n - 1) (by omega) mi ml s (by omega) (by omega) b 0) ?_
                    rintro _ _ ⟨rfl, rfl⟩
                    refine Go.run hsz hn1 3 (pc' := 99) (lv' := [some (gr 0), some (gi s), some (gi b), some (gi n_), some (gi 1)]) (st' := [gi s, gr 138]) (M' := gw (cBeg mi s b 0) ml) rfl ?_
                    refine Go.aaldR 6 (by rfl) (N := 4) (by rfl) ⟨by decide, by decide⟩ (by omega) (by omega) (by decide) (gMR_138 (by omega) (by omega)) ?_
                    refine Go.run hsz hn1 0 (pc' := 100) (lv' := [some (gr 0), some (gi s), some (gi b), some (gi n_), some (gi 1)]) (st' := [gr (139 + 2 * s.toNat)]) (M' := gw (cBeg mi s b 0) ml) rfl ?_
                    refine Go.getf (by rfl) (c := 6) (N := 3) (shS (i := s) (by omega)) ?_
                    refine Go.run hsz hn1 0 (pc' := 103) (lv' := [some (gr 0), some (gi s), some (gi b), some (gi n_), some (gi 1)]) (st' := [gi ((cBeg mi s b 0) (139 + 2 * s.toNat) 1)]) (M' := gw (cBeg mi s b 0) ml) rfl ?_
                    refine Go.iret (by rfl) ?_
                    first | (exact Or.inl ⟨by omega, rfl, rfl⟩) | (exact Or.inr (Or.inl ⟨by omega, rfl, rfl⟩)) | (exact Or.inr (Or.inr (Or.inl ⟨by omega, rfl, rfl⟩))) | (exact Or.inr (Or.inr (Or.inr (Or.inl ⟨by omega, rfl, rfl⟩)))) | (exact Or.inr (Or.inr (Or.inr (Or.inr (⟨by omega, rfl, rfl⟩)))))
                · refine Go.run hsz hn1 2 (pc' := 71) (lv' := [some (gr 0), some (gi s), some (gi b), some (gi n_), some (gi 1)]) (st' := [gi (-1000001), gr 0]) (M' := gw mi ml) rfl ?_
                  refine Go.callV (As := [gi (-1000001)]) (b := 0) (st := []) (mc1 := 0) (mc := 0) (ms1 := 0) (ms := 0) (by rfl) rfl (c := 10) (N := 9) (by rfl) (by decide) (by rfl) (gcn 147 (by decide)).1 (gcn 147 (by decide)).2 rfl (Nat.le_of_ble_eq_true rfl) (by omega) (cC_finding hsz (n := n - 1) (by omega) mi ml (-1000001) (by decide) (by decide)) ?_
                  rintro _ _ ⟨rfl, rfl⟩
                  refine Go.run hsz hn1 0 (pc' := 74) (lv' := [some (gr 0), some (gi s), some (gi b), some (gi n_), some (gi 1)]) (st' := [gi (-1000001)]) (M' := gw (cFd mi 0) ml) rfl ?_
                  refine Go.iret (by rfl) ?_
                  first | (exact Or.inl ⟨by omega, rfl, rfl⟩) | (exact Or.inr (Or.inl ⟨by omega, rfl, rfl⟩)) | (exact Or.inr (Or.inr (Or.inl ⟨by omega, rfl, rfl⟩))) | (exact Or.inr (Or.inr (Or.inr (Or.inl ⟨by omega, rfl, rfl⟩)))) | (exact Or.inr (Or.inr (Or.inr (Or.inr (⟨by omega, rfl, rfl⟩)))))
              · refine Go.run hsz hn1 2 (pc' := 58) (lv' := [some (gr 0), some (gi s), some (gi b), some (gi n_), some (gi 1)]) (st' := [gi (-1000007), gr 0]) (M' := gw mi ml) rfl ?_
                refine Go.callV (As := [gi (-1000007)]) (b := 0) (st := []) (mc1 := 0) (mc := 0) (ms1 := 0) (ms := 0) (by rfl) rfl (c := 10) (N := 9) (by rfl) (by decide) (by rfl) (gcn 147 (by decide)).1 (gcn 147 (by decide)).2 rfl (Nat.le_of_ble_eq_true rfl) (by omega) (cC_finding hsz (n := n - 1) (by omega) mi ml (-1000007) (by decide) (by decide)) ?_
                rintro _ _ ⟨rfl, rfl⟩
                refine Go.run hsz hn1 0 (pc' := 61) (lv' := [some (gr 0), some (gi s), some (gi b), some (gi n_), some (gi 1)]) (st' := [gi (-1000007)]) (M' := gw (cFd mi 6) ml) rfl ?_
                refine Go.iret (by rfl) ?_
                first | (exact Or.inl ⟨by omega, rfl, rfl⟩) | (exact Or.inr (Or.inl ⟨by omega, rfl, rfl⟩)) | (exact Or.inr (Or.inr (Or.inl ⟨by omega, rfl, rfl⟩))) | (exact Or.inr (Or.inr (Or.inr (Or.inl ⟨by omega, rfl, rfl⟩)))) | (exact Or.inr (Or.inr (Or.inr (Or.inr (⟨by omega, rfl, rfl⟩)))))
            · exact absurd kq23 (by decide)
set_option maxRecDepth 100000 in
set_option maxHeartbeats 4000000 in
theorem pC_write {G : gG} (hsz : G.2.2.2.2.2.2 = true) {n : Nat} (hn : 3 ≤ n) (mi : Nat → Nat → Int) (ml : Nat → Nat → Int64) (s i v : Int) (r_s : rng s) (r_i : rng i) (r_v : rng v) (hv : CV mi) (hz : ∀ s : Int, 0 ≤ s → s < 4 → (0 ≤ mi (139 + 2 * s.toNat) 1 ∧ mi (139 + 2 * s.toNat) 1 ≤ 60) ∧ True) : gM G 140 n 0 0 [gr 0, gi s, gi i, gi v] (gw mi ml) (fun r M => gE (¬ (0 ≤ s ∧ s ≤ 3)) (-1000001) (cFd mi 0) (ml) r M ∨ gE ((0 ≤ s ∧ s ≤ 3) ∧ mi (139 + 2 * s.toNat) 0 = 0) (-1000006) (cFd mi 5) (ml) r M ∨ gE ((0 ≤ s ∧ s ≤ 3) ∧ ¬ mi (139 + 2 * s.toNat) 0 = 0 ∧ ¬ (0 ≤ i ∧ i ≤ mi (139 + 2 * s.toNat) 1 - 1)) (-1000001) (cFd mi 0) (ml) r M ∨ gE ((0 ≤ s ∧ s ≤ 3) ∧ ¬ mi (139 + 2 * s.toNat) 0 = 0 ∧ (0 ≤ i ∧ i ≤ mi (139 + 2 * s.toNat) 1 - 1)) (1) (cChg mi s i v) (ml) r M) := by
  have hn1 : 1 ≤ n := by omega
  obtain ⟨hR, ht, hp, hq, hP, hQ⟩ := id hv
  have hzs : (0 ≤ s ∧ s ≤ 3) → 0 ≤ mi (139 + 2 * s.toNat) 1 ∧ mi (139 + 2 * s.toNat) 1 ≤ 60 := fun h => (hz s (by omega) (by omega)).1
  refine gM.of mX11_write okX11_write (gcp 140 (by decide)).1 (gcp 140 (by decide)).2 (Nat.le_of_ble_eq_true rfl) ?_
  refine Go.run hsz hn1 3 (pc' := 3) (lv' := [some (gr 0), some (gi s), some (gi i), some (gi v)]) (st' := [gi 3, gi 0, gi s]) (M' := gw mi ml) rfl ?_
  refine Go.callS (As := [gi s, gi 0, gi 3]) (st := []) (mc1 := 0) (mc := 0) (ms1 := 0) (ms := 0) (by rfl) rfl (gcn 150 (by decide)).1 (gcn 150 (by decide)).2 (Nat.le_of_ble_eq_true rfl) (by omega) (cC_isIn hsz (n := n - 1) (by omega) mi ml s 0 3 r_s ⟨by decide, by decide⟩ ⟨by decide, by decide⟩) ?_
  rintro _ _ ⟨rfl, rfl⟩
  refine Go.run hsz hn1 0 (pc' := 6) (lv' := [some (gr 0), some (gi s), some (gi i), some (gi v)]) (st' := [gi (b2 (0 ≤ s ∧ s ≤ 3))]) (M' := gw mi ml) rfl ?_
  refine Go.if_ne (by rfl) (b2_rng _) (fun kq1 => ?_) (fun kq1 => ?_)
  · replace kq1 := b2_pos kq1
    refine Go.run hsz hn1 3 (pc' := 21) (lv' := [some (gr 0), some (gi s), some (gi i), some (gi v)]) (st' := [gi s, gr 138]) (M' := gw mi ml) rfl ?_
    refine Go.aaldR 6 (by rfl) (N := 4) (by rfl) ⟨by decide, by decide⟩ (by omega) (by omega) (by decide) (gMR_138 (by omega) (by omega)) ?_
    refine Go.run hsz hn1 0 (pc' := 22) (lv' := [some (gr 0), some (gi s), some (gi i), some (gi v)]) (st' := [gr (139 + 2 * s.toNat)]) (M' := gw mi ml) rfl ?_
    refine Go.callV (As := []) (b := 139 + 2 * s.toNat) (st := []) (mc1 := 0) (mc := 0) (ms1 := 0) (ms := 0) (by rfl) rfl (c := 6) (N := 3) (shS (i := s) (by omega)) (by decide) (by rfl) (gcn 54 (by decide)).1 (gcn 54 (by decide)).2 rfl (Nat.le_of_ble_eq_true rfl) (by omega) (cH_miss hsz (n := n - 1) (by omega) mi ml s (by omega) (by omega) hR) ?_
    rintro _ _ ⟨rfl, rfl⟩
    refine Go.run hsz hn1 0 (pc' := 25) (lv' := [some (gr 0), some (gi s), some (gi i), some (gi v)]) (st' := [gi (b2 (mi (139 + 2 * s.toNat) 0 = 0))]) (M' := gw mi ml) rfl ?_
    refine Go.if_eq (by rfl) (b2_rng _) (fun kq2 => ?_) (fun kq2 => ?_)
    · replace kq2 := b2_neg kq2
      refine Go.run hsz hn1 5 (pc' := 43) (lv' := [some (gr 0), some (gi s), some (gi i), some (gi v)]) (st' := [gi s, gr 138, gi 0, gi i]) (M' := gw mi ml) rfl ?_
      refine Go.aaldR 6 (by rfl) (N := 4) (by rfl) ⟨by decide, by decide⟩ (by omega) (by omega) (by decide) (gMR_138 (by omega) (by omega)) ?_
      refine Go.run hsz hn1 0 (pc' := 44) (lv' := [some (gr 0), some (gi s), some (gi i), some (gi v)]) (st' := [gr (139 + 2 * s.toNat), gi 0, gi i]) (M' := gw mi ml) rfl ?_
      refine Go.getf (by rfl) (c := 6) (N := 3) (shS (i := s) (by omega)) ?_
      refine Go.run hsz hn1 2 (pc' := 49) (lv' := [some (gr 0), some (gi s), some (gi i), some (gi v)]) (st' := [gi ((mi (139 + 2 * s.toNat) 1) - 1), gi 0, gi i]) (M' := gw mi ml) rfl ?_
      refine Go.callS (As := [gi i, gi 0, gi ((mi (139 + 2 * s.toNat) 1) - 1)]) (st := []) (mc1 := 0) (mc := 0) (ms1 := 0) (ms := 0) (by rfl) rfl (gcn 150 (by decide)).1 (gcn 150 (by decide)).2 (Nat.le_of_ble_eq_true rfl) (by omega) (cC_isIn hsz (n := n - 1) (by omega) mi ml i 0 ((mi (139 + 2 * s.toNat) 1) - 1) r_i ⟨by decide, by decide⟩ ⟨by omega, by omega⟩) ?_
      rintro _ _ ⟨rfl, rfl⟩
      refine Go.run hsz hn1 0 (pc' := 52) (lv' := [some (gr 0), some (gi s), some (gi i), some (gi v)]) (st' := [gi (b2 (0 ≤ i ∧ i ≤ (mi (139 + 2 * s.toNat) 1) - 1))]) (M' := gw mi ml) rfl ?_
      refine Go.if_ne (by rfl) (b2_rng _) (fun kq3 => ?_) (fun kq3 => ?_)
      · replace kq3 := b2_pos kq3
        refine Go.run hsz hn1 3 (pc' := 67) (lv' := [some (gr 0), some (gi s), some (gi i), some (gi v)]) (st' := [gi s, gr 138]) (M' := gw mi ml) rfl ?_
        refine Go.aaldR 6 (by rfl) (N := 4) (by rfl) ⟨by decide, by decide⟩ (by omega) (by omega) (by decide) (gMR_138 (by omega) (by omega)) ?_
        refine Go.run hsz hn1 2 (pc' := 70) (lv' := [some (gr 0), some (gi s), some (gi i), some (gi v)]) (st' := [gi v, gi i, gr (139 + 2 * s.toNat)]) (M' := gw mi ml) rfl ?_
        refine Go.callV (As := [gi i, gi v]) (b := 139 + 2 * s.toNat) (st := []) (mc1 := 0) (mc := 0) (ms1 := 0) (ms := 0) (by rfl) rfl (c := 6) (N := 3) (shS (i := s) (by omega)) (by decide) (by rfl) (gcn 56 (by decide)).1 (gcn 56 (by decide)).2 rfl (Nat.le_of_ble_eq_true rfl) (by omega) (cH_change hsz (n := n - 1) (by omega) mi ml s (by omega) (by omega) i v r_i (by omega) (by omega) hR) ?_
        rintro _ _ ⟨rfl, rfl⟩
        refine Go.run hsz hn1 1 (pc' := 74) (lv' := [some (gr 0), some (gi s), some (gi i), some (gi v)]) (st' := [gi 1]) (M' := gw (cChg mi s i v) ml) rfl ?_
        refine Go.iret (by rfl) ?_
        first | (exact Or.inl ⟨by omega, rfl, rfl⟩) | (exact Or.inr (Or.inl ⟨by omega, rfl, rfl⟩)) | (exact Or.inr (Or.inr (Or.inl ⟨by omega, rfl, rfl⟩))) | (exact Or.inr (Or.inr (Or.inr (⟨by omega, rfl, rfl⟩))))
      · replace kq3 := b2_neg kq3
        refine Go.run hsz hn1 2 (pc' := 58) (lv' := [some (gr 0), some (gi s), some (gi i), some (gi v)]) (st' := [gi (-1000001), gr 0]) (M' := gw mi ml) rfl ?_
        refine Go.callV (As := [gi (-1000001)]) (b := 0) (st := []) (mc1 := 0) (mc := 0) (ms1 := 0) (ms := 0) (by rfl) rfl (c := 10) (N := 9) (by rfl) (by decide) (by rfl) (gcn 147 (by decide)).1 (gcn 147 (by decide)).2 rfl (Nat.le_of_ble_eq_true rfl) (by omega) (cC_finding hsz (n := n - 1) (by omega) mi ml (-1000001) (by decide) (by decide)) ?_
        rintro _ _ ⟨rfl, rfl⟩
        refine Go.run hsz hn1 0 (pc' := 61) (lv' := [some (gr 0), some (gi s), some (gi i), some (gi v)]) (st' := [gi (-1000001)]) (M' := gw (cFd mi 0) ml) rfl ?_
        refine Go.iret (by rfl) ?_
        first | (exact Or.inl ⟨by omega, rfl, rfl⟩) | (exact Or.inr (Or.inl ⟨by omega, rfl, rfl⟩)) | (exact Or.inr (Or.inr (Or.inl ⟨by omega, rfl, rfl⟩))) | (exact Or.inr (Or.inr (Or.inr (⟨by omega, rfl, rfl⟩))))
    · replace kq2 := b2_pos kq2
      refine Go.run hsz hn1 2 (pc' := 32) (lv' := [some (gr 0), some (gi s), some (gi i), some (gi v)]) (st' := [gi (-1000006), gr 0]) (M' := gw mi ml) rfl ?_
      refine Go.callV (As := [gi (-1000006)]) (b := 0) (st := []) (mc1 := 0) (mc := 0) (ms1 := 0) (ms := 0) (by rfl) rfl (c := 10) (N := 9) (by rfl) (by decide) (by rfl) (gcn 147 (by decide)).1 (gcn 147 (by decide)).2 rfl (Nat.le_of_ble_eq_true rfl) (by omega) (cC_finding hsz (n := n - 1) (by omega) mi ml (-1000006) (by decide) (by decide)) ?_
      rintro _ _ ⟨rfl, rfl⟩
      refine Go.run hsz hn1 0 (pc' := 35) (lv' := [some (gr 0), some (gi s), some (gi i), some (gi v)]) (st' := [gi (-1000006)]) (M' := gw (cFd mi 5) ml) rfl ?_
      refine Go.iret (by rfl) ?_
      first | (exact Or.inl ⟨by omega, rfl, rfl⟩) | (exact Or.inr (Or.inl ⟨by omega, rfl, rfl⟩)) | (exact Or.inr (Or.inr (Or.inl ⟨by omega, rfl, rfl⟩))) | (exact Or.inr (Or.inr (Or.inr (⟨by omega, rfl, rfl⟩))))
  · replace kq1 := b2_neg kq1
    refine Go.run hsz hn1 2 (pc' := 12) (lv' := [some (gr 0), some (gi s), some (gi i), some (gi v)]) (st' := [gi (-1000001), gr 0]) (M' := gw mi ml) rfl ?_
    refine Go.callV (As := [gi (-1000001)]) (b := 0) (st := []) (mc1 := 0) (mc := 0) (ms1 := 0) (ms := 0) (by rfl) rfl (c := 10) (N := 9) (by rfl) (by decide) (by rfl) (gcn 147 (by decide)).1 (gcn 147 (by decide)).2 rfl (Nat.le_of_ble_eq_true rfl) (by omega) (cC_finding hsz (n := n - 1) (by omega) mi ml (-1000001) (by decide) (by decide)) ?_
    rintro _ _ ⟨rfl, rfl⟩
    refine Go.run hsz hn1 0 (pc' := 15) (lv' := [some (gr 0), some (gi s), some (gi i), some (gi v)]) (st' := [gi (-1000001)]) (M' := gw (cFd mi 0) ml) rfl ?_
    refine Go.iret (by rfl) ?_
    first | (exact Or.inl ⟨by omega, rfl, rfl⟩) | (exact Or.inr (Or.inl ⟨by omega, rfl, rfl⟩)) | (exact Or.inr (Or.inr (Or.inl ⟨by omega, rfl, rfl⟩))) | (exact Or.inr (Or.inr (Or.inr (⟨by omega, rfl, rfl⟩))))
def mBg0 (mi : Nat → Nat → Int) (s b n : Int) : Nat → Nat → Int := gu (gu mi 172 s.toNat b) 173 s.toNat n
def mBeg (mi : Nat → Nat → Int) (s b n : Int) : Nat → Nat → Int := gfl (mBg0 mi s b n) 174 (60 * s).toNat 60
set_option maxRecDepth 100000 in
set_option maxHeartbeats 4000000 in
theorem lM_sheet {G : gG} (hsz : G.2.2.2.2.2.2 = true) {n : Nat} (hn : 1 ≤ n) (mi : Nat → Nat → Int) (ml : Nat → Nat → Int64) (s b n_ q : Int) (s0 : 0 ≤ s) (s1 : s < 4) : ∀ (f : Nat) (k : Int), 0 ≤ k → k ≤ 60 → 60 - k < f → Go G mX12_sheet n 0 0 83 [some (gr 148), some (gi s), some (gi b), some (gi n_), some (gi k)] [] (gw (gfl (mBg0 mi s b q) 174 (60 * s).toNat k.toNat) ml) (gret (mBeg mi s b q 173 s.toNat) (gw (mBeg mi s b q) ml)) := by
  have hn1 : 1 ≤ n := by omega

  intro f
  induction f with
  | zero => intros; omega
  | succ f ih =>
    intro k k0 k1 k2
    refine Go.run hsz hn1 2 (pc' := 87) (lv' := [some (gr 148), some (gi s), some (gi b), some (gi n_), some (gi k)]) (st' := [gi 60, gi k]) (M' := gw (gfl (mBg0 mi s b q) 174 (60 * s).toNat k.toNat) ml) rfl ?_
    refine Go.icmp_ge (by rfl) ⟨by omega, by omega⟩ ⟨by decide, by decide⟩ (fun kq1 => ?_) (fun kq1 => ?_)
    · refine Go.run hsz hn1 3 (pc' := 114) (lv' := [some (gr 148), some (gi s), some (gi b), some (gi n_), some (gi k)]) (st' := [gi s, gr 173]) (M' := gw (gfl (mBg0 mi s b q) 174 (60 * s).toNat k.toNat) ml) rfl ?_
      refine Go.iald (by rfl) (N := 4) (by rfl) (by omega) (by omega) (by decide) ?_
      refine Go.run hsz hn1 0 (pc' := 115) (lv' := [some (gr 148), some (gi s), some (gi b), some (gi n_), some (gi k)]) (st' := [gi ((gfl (mBg0 mi s b q) 174 (60 * s).toNat k.toNat) 173 s.toNat)]) (M' := gw (gfl (mBg0 mi s b q) 174 (60 * s).toNat k.toNat) ml) rfl ?_
      obtain rfl : k = 60 := by omega
      exact Go.iret (by rfl) ⟨rfl, rfl⟩
    · refine Go.run hsz hn1 8 (pc' := 102) (lv' := [some (gr 148), some (gi s), some (gi b), some (gi n_), some (gi k)]) (st' := [gi 0, gi ((60 * s) + k), gr 174]) (M' := gw (gfl (mBg0 mi s b q) 174 (60 * s).toNat k.toNat) ml) rfl ?_
      refine Go.iast (by rfl) (N := 240) (by rfl) (by omega) (by omega) (by decide) ?_
      refine Go.run hsz hn1 2 (pc' := 83) (lv' := [some (gr 148), some (gi s), some (gi b), some (gi n_), some (gi (k + 1))]) (st' := []) (M' := gw (gu (gfl (mBg0 mi s b q) 174 (60 * s).toNat k.toNat) 174 (((60 * s) + k).toNat) 0) ml) rfl ?_
      rw [show gu (gfl (mBg0 mi s b q) 174 (60 * s).toNat k.toNat) 174 (60 * s + k).toNat 0 = gfl (mBg0 mi s b q) 174 (60 * s).toNat (k + 1).toNat from by rw [show (k + 1).toNat = k.toNat + 1 by omega, ← gfl_s, show (60 * s + k).toNat = (60 * s).toNat + k.toNat by omega]]
      exact ih (k + 1) (by omega) (by omega) (by omega)
set_option maxRecDepth 100000 in
set_option maxHeartbeats 4000000 in
theorem pM_sheet {G : gG} (hsz : G.2.2.2.2.2.2 = true) {n : Nat} (hn : 3 ≤ n) (mi : Nat → Nat → Int) (ml : Nat → Nat → Int64) (s b n_ : Int) (r_s : rng s) (r_b : rng b) (r_n_ : rng n_) (hv : SV mi)  : gM G 238 n 0 0 [gr 148, gi s, gi b, gi n_] (gw mi ml) (fun r M => gE ((0 ≤ s ∧ s ≤ 3) ∧ (b = 0 ∨ b = 8 ∨ b = 16 ∨ b = 32) ∧ 0 ≤ n_ ∧ n_ ≤ 60 ∧ b = 0) (mBeg mi s b 0 173 s.toNat) (mBeg mi s b 0) (ml) r M ∨ gE ((0 ≤ s ∧ s ≤ 3) ∧ (b = 0 ∨ b = 8 ∨ b = 16 ∨ b = 32) ∧ 0 ≤ n_ ∧ n_ ≤ 60 ∧ ¬ b = 0) (mBeg mi s b n_ 173 s.toNat) (mBeg mi s b n_) (ml) r M ∨ gE (¬ ((0 ≤ s ∧ s ≤ 3) ∧ (b = 0 ∨ b = 8 ∨ b = 16 ∨ b = 32))) (-1000001) (mFd mi 0) (ml) r M ∨ gE ((0 ≤ s ∧ s ≤ 3) ∧ (b = 0 ∨ b = 8 ∨ b = 16 ∨ b = 32) ∧ n_ < 0) (-1000007) (mFd mi 6) (ml) r M ∨ gE ((0 ≤ s ∧ s ≤ 3) ∧ (b = 0 ∨ b = 8 ∨ b = 16 ∨ b = 32) ∧ 60 < n_) (-1000001) (mFd mi 0) (ml) r M) := by
  have hn1 : 1 ≤ n := by omega
  obtain ⟨hR, ht, hp, hq, hP, hQ⟩ := id hv
  refine gM.of mX12_sheet okX12_sheet (gcp 238 (by decide)).1 (gcp 238 (by decide)).2 (Nat.le_of_ble_eq_true rfl) ?_
  refine Go.run hsz hn1 1 (pc' := 1) (lv' := [some (gr 148), some (gi s), some (gi b), some (gi n_), none]) (st' := [gi s]) (M' := gw mi ml) rfl ?_
  refine Go.callS (As := [gi s]) (st := []) (mc1 := 0) (mc := 0) (ms1 := 0) (ms := 0) (by rfl) rfl (gcn 237 (by decide)).1 (gcn 237 (by decide)).2 (Nat.le_of_ble_eq_true rfl) (by omega) (cM_isSheet hsz (n := n - 1) (by omega) mi ml s r_s) ?_
  rintro _ _ ⟨rfl, rfl⟩
  refine Go.run hsz hn1 0 (pc' := 4) (lv' := [some (gr 148), some (gi s), some (gi b), some (gi n_), none]) (st' := [gi (b2 (0 ≤ s ∧ s ≤ 3))]) (M' := gw mi ml) rfl ?_
  refine Go.if_eq (by rfl) (b2_rng _) (fun kq1 => ?_) (fun kq1 => ?_)
  · replace kq1 := b2_neg kq1
    refine Go.run hsz hn1 2 (pc' := 31) (lv' := [some (gr 148), some (gi s), some (gi b), some (gi n_), none]) (st' := [gi 0, gr 148]) (M' := gw mi ml) rfl ?_
    refine Go.callV (As := [gi 0]) (b := 148) (st := []) (mc1 := 0) (mc := 0) (ms1 := 0) (ms := 0) (by rfl) rfl (c := 11) (N := 46) (by rfl) (by decide) (by rfl) (gcn 154 (by decide)).1 (gcn 154 (by decide)).2 rfl (Nat.le_of_ble_eq_true rfl) (by omega) (cM_finds hsz (n := n - 1) (by omega) mi ml 0 (by decide) (by decide)) ?_
    rintro _ _ ⟨rfl, rfl⟩
    refine Go.run hsz hn1 0 (pc' := 34) (lv' := [some (gr 148), some (gi s), some (gi b), some (gi n_), none]) (st' := [gi (-1000001)]) (M' := gw (mFd mi 0) ml) rfl ?_
    refine Go.iret (by rfl) ?_
    first | (exact Or.inl ⟨by omega, rfl, rfl⟩) | (exact Or.inr (Or.inl ⟨by omega, rfl, rfl⟩)) | (exact Or.inr (Or.inr (Or.inl ⟨by omega, rfl, rfl⟩))) | (exact Or.inr (Or.inr (Or.inr (Or.inl ⟨by omega, rfl, rfl⟩)))) | (exact Or.inr (Or.inr (Or.inr (Or.inr (⟨by omega, rfl, rfl⟩)))))
  · replace kq1 := b2_pos kq1
    refine Go.run hsz hn1 1 (pc' := 8) (lv' := [some (gr 148), some (gi s), some (gi b), some (gi n_), none]) (st' := [gi b]) (M' := gw mi ml) rfl ?_
    refine Go.if_eq (by rfl) r_b (fun kq2 => ?_) (fun kq2 => ?_)
    · refine Go.run hsz hn1 1 (pc' := 36) (lv' := [some (gr 148), some (gi s), some (gi b), some (gi n_), none]) (st' := [gi n_]) (M' := gw mi ml) rfl ?_
      refine Go.if_ge (by rfl) r_n_ (fun kq3 => ?_) (fun kq3 => ?_)
      · refine Go.run hsz hn1 2 (pc' := 49) (lv' := [some (gr 148), some (gi s), some (gi b), some (gi n_), none]) (st' := [gi 60, gi n_]) (M' := gw mi ml) rfl ?_
        refine Go.icmp_le (by rfl) r_n_ ⟨by decide, by decide⟩ (fun kq4 => ?_) (fun kq4 => ?_)
        · refine Go.run hsz hn1 4 (pc' := 64) (lv' := [some (gr 148), some (gi s), some (gi b), some (gi n_), none]) (st' := [gi b, gi s, gr 172]) (M' := gw mi ml) rfl ?_
          refine Go.iast (by rfl) (N := 4) (by rfl) (by omega) (by omega) (by decide) ?_
          refine Go.run hsz hn1 4 (pc' := 71) (lv' := [some (gr 148), some (gi s), some (gi b), some (gi n_), none]) (st' := [gi b, gi s, gr 173]) (M' := gw (gu mi 172 s.toNat b) ml) rfl ?_
          refine Go.if_ne (by rfl) r_b (fun kq5 => ?_) (fun kq5 => ?_)
          · refine Go.run hsz hn1 1 (pc' := 79) (lv' := [some (gr 148), some (gi s), some (gi b), some (gi n_), none]) (st' := [gi n_, gi s, gr 173]) (M' := gw (gu mi 172 s.toNat b) ml) rfl ?_
            refine Go.iast (by rfl) (N := 4) (by rfl) (by omega) (by omega) (by decide) ?_
            refine Go.run hsz hn1 2 (pc' := 83) (lv' := [some (gr 148), some (gi s), some (gi b), some (gi n_), some (gi 0)]) (st' := []) (M' := gw (gu (gu mi 172 s.toNat b) 173 s.toNat n_) ml) rfl ?_
            have h9 := lM_sheet hsz (n := n) (by omega) mi ml s b n_ n_ (by omega) (by omega) 61 0 (by omega) (by omega) (by omega)
            rw [show (0 : Int).toNat = 0 from rfl, gfl_0] at h9
            refine Go.imp ?_ h9
            rintro _ _ ⟨rfl, rfl⟩
            exact Or.inr (Or.inl ⟨by omega, rfl, rfl⟩)
          · refine Go.run hsz hn1 2 (pc' := 79) (lv' := [some (gr 148), some (gi s), some (gi b), some (gi n_), none]) (st' := [gi 0, gi s, gr 173]) (M' := gw (gu mi 172 s.toNat b) ml) rfl ?_
            refine Go.iast (by rfl) (N := 4) (by rfl) (by omega) (by omega) (by decide) ?_
            refine Go.run hsz hn1 2 (pc' := 83) (lv' := [some (gr 148), some (gi s), some (gi b), some (gi n_), some (gi 0)]) (st' := []) (M' := gw (gu (gu mi 172 s.toNat b) 173 s.toNat 0) ml) rfl ?_
            have h9 := lM_sheet hsz (n := n) (by omega) mi ml s b n_ 0 (by omega) (by omega) 61 0 (by omega) (by omega) (by omega)
            rw [show (0 : Int).toNat = 0 from rfl, gfl_0] at h9
            refine Go.imp ?_ h9
            rintro _ _ ⟨rfl, rfl⟩
            exact Or.inl ⟨by omega, rfl, rfl⟩
        · refine Go.run hsz hn1 2 (pc' := 54) (lv' := [some (gr 148), some (gi s), some (gi b), some (gi n_), none]) (st' := [gi 0, gr 148]) (M' := gw mi ml) rfl ?_
          refine Go.callV (As := [gi 0]) (b := 148) (st := []) (mc1 := 0) (mc := 0) (ms1 := 0) (ms := 0) (by rfl) rfl (c := 11) (N := 46) (by rfl) (by decide) (by rfl) (gcn 154 (by decide)).1 (gcn 154 (by decide)).2 rfl (Nat.le_of_ble_eq_true rfl) (by omega) (cM_finds hsz (n := n - 1) (by omega) mi ml 0 (by decide) (by decide)) ?_
          rintro _ _ ⟨rfl, rfl⟩
          refine Go.run hsz hn1 0 (pc' := 57) (lv' := [some (gr 148), some (gi s), some (gi b), some (gi n_), none]) (st' := [gi (-1000001)]) (M' := gw (mFd mi 0) ml) rfl ?_
          refine Go.iret (by rfl) ?_
          first | (exact Or.inl ⟨by omega, rfl, rfl⟩) | (exact Or.inr (Or.inl ⟨by omega, rfl, rfl⟩)) | (exact Or.inr (Or.inr (Or.inl ⟨by omega, rfl, rfl⟩))) | (exact Or.inr (Or.inr (Or.inr (Or.inl ⟨by omega, rfl, rfl⟩)))) | (exact Or.inr (Or.inr (Or.inr (Or.inr (⟨by omega, rfl, rfl⟩)))))
      · refine Go.run hsz hn1 2 (pc' := 42) (lv' := [some (gr 148), some (gi s), some (gi b), some (gi n_), none]) (st' := [gi 6, gr 148]) (M' := gw mi ml) rfl ?_
        refine Go.callV (As := [gi 6]) (b := 148) (st := []) (mc1 := 0) (mc := 0) (ms1 := 0) (ms := 0) (by rfl) rfl (c := 11) (N := 46) (by rfl) (by decide) (by rfl) (gcn 154 (by decide)).1 (gcn 154 (by decide)).2 rfl (Nat.le_of_ble_eq_true rfl) (by omega) (cM_finds hsz (n := n - 1) (by omega) mi ml 6 (by decide) (by decide)) ?_
        rintro _ _ ⟨rfl, rfl⟩
        refine Go.run hsz hn1 0 (pc' := 45) (lv' := [some (gr 148), some (gi s), some (gi b), some (gi n_), none]) (st' := [gi (-1000007)]) (M' := gw (mFd mi 6) ml) rfl ?_
        refine Go.iret (by rfl) ?_
        first | (exact Or.inl ⟨by omega, rfl, rfl⟩) | (exact Or.inr (Or.inl ⟨by omega, rfl, rfl⟩)) | (exact Or.inr (Or.inr (Or.inl ⟨by omega, rfl, rfl⟩))) | (exact Or.inr (Or.inr (Or.inr (Or.inl ⟨by omega, rfl, rfl⟩)))) | (exact Or.inr (Or.inr (Or.inr (Or.inr (⟨by omega, rfl, rfl⟩)))))
    · refine Go.run hsz hn1 2 (pc' := 14) (lv' := [some (gr 148), some (gi s), some (gi b), some (gi n_), none]) (st' := [gi 8, gi b]) (M' := gw mi ml) rfl ?_
      refine Go.icmp_eq (by rfl) r_b ⟨by decide, by decide⟩ (fun kq6 => ?_) (fun kq6 => ?_)
      · refine Go.run hsz hn1 1 (pc' := 36) (lv' := [some (gr 148), some (gi s), some (gi b), some (gi n_), none]) (st' := [gi n_]) (M' := gw mi ml) rfl ?_
        refine Go.if_ge (by rfl) r_n_ (fun kq7 => ?_) (fun kq7 => ?_)
        · refine Go.run hsz hn1 2 (pc' := 49) (lv' := [some (gr 148), some (gi s), some (gi b), some (gi n_), none]) (st' := [gi 60, gi n_]) (M' := gw mi ml) rfl ?_
          refine Go.icmp_le (by rfl) r_n_ ⟨by decide, by decide⟩ (fun kq8 => ?_) (fun kq8 => ?_)
          · refine Go.run hsz hn1 4 (pc' := 64) (lv' := [some (gr 148), some (gi s), some (gi b), some (gi n_), none]) (st' := [gi b, gi s, gr 172]) (M' := gw mi ml) rfl ?_
            refine Go.iast (by rfl) (N := 4) (by rfl) (by omega) (by omega) (by decide) ?_
            refine Go.run hsz hn1 4 (pc' := 71) (lv' := [some (gr 148), some (gi s), some (gi b), some (gi n_), none]) (st' := [gi b, gi s, gr 173]) (M' := gw (gu mi 172 s.toNat b) ml) rfl ?_
            refine Go.if_ne (by rfl) r_b (fun kq9 => ?_) (fun kq9 => ?_)
            · refine Go.run hsz hn1 1 (pc' := 79) (lv' := [some (gr 148), some (gi s), some (gi b), some (gi n_), none]) (st' := [gi n_, gi s, gr 173]) (M' := gw (gu mi 172 s.toNat b) ml) rfl ?_
              refine Go.iast (by rfl) (N := 4) (by rfl) (by omega) (by omega) (by decide) ?_
              refine Go.run hsz hn1 2 (pc' := 83) (lv' := [some (gr 148), some (gi s), some (gi b), some (gi n_), some (gi 0)]) (st' := []) (M' := gw (gu (gu mi 172 s.toNat b) 173 s.toNat n_) ml) rfl ?_
              have h9 := lM_sheet hsz (n := n) (by omega) mi ml s b n_ n_ (by omega) (by omega) 61 0 (by omega) (by omega) (by omega)
              rw [show (0 : Int).toNat = 0 from rfl, gfl_0] at h9
              refine Go.imp ?_ h9
              rintro _ _ ⟨rfl, rfl⟩
              exact Or.inr (Or.inl ⟨by omega, rfl, rfl⟩)
            · refine Go.run hsz hn1 2 (pc' := 79) (lv' := [some (gr 148), some (gi s), some (gi b), some (gi n_), none]) (st' := [gi 0, gi s, gr 173]) (M' := gw (gu mi 172 s.toNat b) ml) rfl ?_
              refine Go.iast (by rfl) (N := 4) (by rfl) (by omega) (by omega) (by decide) ?_
              refine Go.run hsz hn1 2 (pc' := 83) (lv' := [some (gr 148), some (gi s), some (gi b), some (gi n_), some (gi 0)]) (st' := []) (M' := gw (gu (gu mi 172 s.toNat b) 173 s.toNat 0) ml) rfl ?_
              have h9 := lM_sheet hsz (n := n) (by omega) mi ml s b n_ 0 (by omega) (by omega) 61 0 (by omega) (by omega) (by omega)
              rw [show (0 : Int).toNat = 0 from rfl, gfl_0] at h9
              refine Go.imp ?_ h9
              rintro _ _ ⟨rfl, rfl⟩
              exact Or.inl ⟨by omega, rfl, rfl⟩
          · refine Go.run hsz hn1 2 (pc' := 54) (lv' := [some (gr 148), some (gi s), some (gi b), some (gi n_), none]) (st' := [gi 0, gr 148]) (M' := gw mi ml) rfl ?_
            refine Go.callV (As := [gi 0]) (b := 148) (st := []) (mc1 := 0) (mc := 0) (ms1 := 0) (ms := 0) (by rfl) rfl (c := 11) (N := 46) (by rfl) (by decide) (by rfl) (gcn 154 (by decide)).1 (gcn 154 (by decide)).2 rfl (Nat.le_of_ble_eq_true rfl) (by omega) (cM_finds hsz (n := n - 1) (by omega) mi ml 0 (by decide) (by decide)) ?_
            rintro _ _ ⟨rfl, rfl⟩
            refine Go.run hsz hn1 0 (pc' := 57) (lv' := [some (gr 148), some (gi s), some (gi b), some (gi n_), none]) (st' := [gi (-1000001)]) (M' := gw (mFd mi 0) ml) rfl ?_
            refine Go.iret (by rfl) ?_
            first | (exact Or.inl ⟨by omega, rfl, rfl⟩) | (exact Or.inr (Or.inl ⟨by omega, rfl, rfl⟩)) | (exact Or.inr (Or.inr (Or.inl ⟨by omega, rfl, rfl⟩))) | (exact Or.inr (Or.inr (Or.inr (Or.inl ⟨by omega, rfl, rfl⟩)))) | (exact Or.inr (Or.inr (Or.inr (Or.inr (⟨by omega, rfl, rfl⟩)))))
        · refine Go.run hsz hn1 2 (pc' := 42) (lv' := [some (gr 148), some (gi s), some (gi b), some (gi n_), none]) (st' := [gi 6, gr 148]) (M' := gw mi ml) rfl ?_
          refine Go.callV (As := [gi 6]) (b := 148) (st := []) (mc1 := 0) (mc := 0) (ms1 := 0) (ms := 0) (by rfl) rfl (c := 11) (N := 46) (by rfl) (by decide) (by rfl) (gcn 154 (by decide)).1 (gcn 154 (by decide)).2 rfl (Nat.le_of_ble_eq_true rfl) (by omega) (cM_finds hsz (n := n - 1) (by omega) mi ml 6 (by decide) (by decide)) ?_
          rintro _ _ ⟨rfl, rfl⟩
          refine Go.run hsz hn1 0 (pc' := 45) (lv' := [some (gr 148), some (gi s), some (gi b), some (gi n_), none]) (st' := [gi (-1000007)]) (M' := gw (mFd mi 6) ml) rfl ?_
          refine Go.iret (by rfl) ?_
          first | (exact Or.inl ⟨by omega, rfl, rfl⟩) | (exact Or.inr (Or.inl ⟨by omega, rfl, rfl⟩)) | (exact Or.inr (Or.inr (Or.inl ⟨by omega, rfl, rfl⟩))) | (exact Or.inr (Or.inr (Or.inr (Or.inl ⟨by omega, rfl, rfl⟩)))) | (exact Or.inr (Or.inr (Or.inr (Or.inr (⟨by omega, rfl, rfl⟩)))))
      · refine Go.run hsz hn1 2 (pc' := 20) (lv' := [some (gr 148), some (gi s), some (gi b), some (gi n_), none]) (st' := [gi 16, gi b]) (M' := gw mi ml) rfl ?_
        refine Go.icmp_eq (by rfl) r_b ⟨by decide, by decide⟩ (fun kq10 => ?_) (fun kq10 => ?_)
        · refine Go.run hsz hn1 1 (pc' := 36) (lv' := [some (gr 148), some (gi s), some (gi b), some (gi n_), none]) (st' := [gi n_]) (M' := gw mi ml) rfl ?_
          refine Go.if_ge (by rfl) r_n_ (fun kq11 => ?_) (fun kq11 => ?_)
          · refine Go.run hsz hn1 2 (pc' := 49) (lv' := [some (gr 148), some (gi s), some (gi b), some (gi n_), none]) (st' := [gi 60, gi n_]) (M' := gw mi ml) rfl ?_
            refine Go.icmp_le (by rfl) r_n_ ⟨by decide, by decide⟩ (fun kq12 => ?_) (fun kq12 => ?_)
            · refine Go.run hsz hn1 4 (pc' := 64) (lv' := [some (gr 148), some (gi s), some (gi b), some (gi n_), none]) (st' := [gi b, gi s, gr 172]) (M' := gw mi ml) rfl ?_
              refine Go.iast (by rfl) (N := 4) (by rfl) (by omega) (by omega) (by decide) ?_
              refine Go.run hsz hn1 4 (pc' := 71) (lv' := [some (gr 148), some (gi s), some (gi b), some (gi n_), none]) (st' := [gi b, gi s, gr 173]) (M' := gw (gu mi 172 s.toNat b) ml) rfl ?_
              refine Go.if_ne (by rfl) r_b (fun kq13 => ?_) (fun kq13 => ?_)
              · refine Go.run hsz hn1 1 (pc' := 79) (lv' := [some (gr 148), some (gi s), some (gi b), some (gi n_), none]) (st' := [gi n_, gi s, gr 173]) (M' := gw (gu mi 172 s.toNat b) ml) rfl ?_
                refine Go.iast (by rfl) (N := 4) (by rfl) (by omega) (by omega) (by decide) ?_
                refine Go.run hsz hn1 2 (pc' := 83) (lv' := [some (gr 148), some (gi s), some (gi b), some (gi n_), some (gi 0)]) (st' := []) (M' := gw (gu (gu mi 172 s.toNat b) 173 s.toNat n_) ml) rfl ?_
                have h9 := lM_sheet hsz (n := n) (by omega) mi ml s b n_ n_ (by omega) (by omega) 61 0 (by omega) (by omega) (by omega)
                rw [show (0 : Int).toNat = 0 from rfl, gfl_0] at h9
                refine Go.imp ?_ h9
                rintro _ _ ⟨rfl, rfl⟩
                exact Or.inr (Or.inl ⟨by omega, rfl, rfl⟩)
              · refine Go.run hsz hn1 2 (pc' := 79) (lv' := [some (gr 148), some (gi s), some (gi b), some (gi n_), none]) (st' := [gi 0, gi s, gr 173]) (M' := gw (gu mi 172 s.toNat b) ml) rfl ?_
                refine Go.iast (by rfl) (N := 4) (by rfl) (by omega) (by omega) (by decide) ?_
                refine Go.run hsz hn1 2 (pc' := 83) (lv' := [some (gr 148), some (gi s), some (gi b), some (gi n_), some (gi 0)]) (st' := []) (M' := gw (gu (gu mi 172 s.toNat b) 173 s.toNat 0) ml) rfl ?_
                have h9 := lM_sheet hsz (n := n) (by omega) mi ml s b n_ 0 (by omega) (by omega) 61 0 (by omega) (by omega) (by omega)
                rw [show (0 : Int).toNat = 0 from rfl, gfl_0] at h9
                refine Go.imp ?_ h9
                rintro _ _ ⟨rfl, rfl⟩
                exact Or.inl ⟨by omega, rfl, rfl⟩
            · refine Go.run hsz hn1 2 (pc' := 54) (lv' := [some (gr 148), some (gi s), some (gi b), some (gi n_), none]) (st' := [gi 0, gr 148]) (M' := gw mi ml) rfl ?_
              refine Go.callV (As := [gi 0]) (b := 148) (st := []) (mc1 := 0) (mc := 0) (ms1 := 0) (ms := 0) (by rfl) rfl (c := 11) (N := 46) (by rfl) (by decide) (by rfl) (gcn 154 (by decide)).1 (gcn 154 (by decide)).2 rfl (Nat.le_of_ble_eq_true rfl) (by omega) (cM_finds hsz (n := n - 1) (by omega) mi ml 0 (by decide) (by decide)) ?_
              rintro _ _ ⟨rfl, rfl⟩
              refine Go.run hsz hn1 0 (pc' := 57) (lv' := [some (gr 148), some (gi s), some (gi b), some (gi n_), none]) (st' := [gi (-1000001)]) (M' := gw (mFd mi 0) ml) rfl ?_
              refine Go.iret (by rfl) ?_
              first | (exact Or.inl ⟨by omega, rfl, rfl⟩) | (exact Or.inr (Or.inl ⟨by omega, rfl, rfl⟩)) | (exact Or.inr (Or.inr (Or.inl ⟨by omega, rfl, rfl⟩))) | (exact Or.inr (Or.inr (Or.inr (Or.inl ⟨by omega, rfl, rfl⟩)))) | (exact Or.inr (Or.inr (Or.inr (Or.inr (⟨by omega, rfl, rfl⟩)))))
          · refine Go.run hsz hn1 2 (pc' := 42) (lv' := [some (gr 148), some (gi s), some (gi b), some (gi n_), none]) (st' := [gi 6, gr 148]) (M' := gw mi ml) rfl ?_
            refine Go.callV (As := [gi 6]) (b := 148) (st := []) (mc1 := 0) (mc := 0) (ms1 := 0) (ms := 0) (by rfl) rfl (c := 11) (N := 46) (by rfl) (by decide) (by rfl) (gcn 154 (by decide)).1 (gcn 154 (by decide)).2 rfl (Nat.le_of_ble_eq_true rfl) (by omega) (cM_finds hsz (n := n - 1) (by omega) mi ml 6 (by decide) (by decide)) ?_
            rintro _ _ ⟨rfl, rfl⟩
            refine Go.run hsz hn1 0 (pc' := 45) (lv' := [some (gr 148), some (gi s), some (gi b), some (gi n_), none]) (st' := [gi (-1000007)]) (M' := gw (mFd mi 6) ml) rfl ?_
            refine Go.iret (by rfl) ?_
            first | (exact Or.inl ⟨by omega, rfl, rfl⟩) | (exact Or.inr (Or.inl ⟨by omega, rfl, rfl⟩)) | (exact Or.inr (Or.inr (Or.inl ⟨by omega, rfl, rfl⟩))) | (exact Or.inr (Or.inr (Or.inr (Or.inl ⟨by omega, rfl, rfl⟩)))) | (exact Or.inr (Or.inr (Or.inr (Or.inr (⟨by omega, rfl, rfl⟩)))))
        · refine Go.run hsz hn1 2 (pc' := 26) (lv' := [some (gr 148), some (gi s), some (gi b), some (gi n_), none]) (st' := [gi 32, gi b]) (M' := gw mi ml) rfl ?_
          refine Go.icmp_eq (by rfl) r_b ⟨by decide, by decide⟩ (fun kq14 => ?_) (fun kq14 => ?_)
          · refine Go.run hsz hn1 1 (pc' := 36) (lv' := [some (gr 148), some (gi s), some (gi b), some (gi n_), none]) (st' := [gi n_]) (M' := gw mi ml) rfl ?_
            refine Go.if_ge (by rfl) r_n_ (fun kq15 => ?_) (fun kq15 => ?_)
            · refine Go.run hsz hn1 2 (pc' := 49) (lv' := [some (gr 148), some (gi s), some (gi b), some (gi n_), none]) (st' := [gi 60, gi n_]) (M' := gw mi ml) rfl ?_
              refine Go.icmp_le (by rfl) r_n_ ⟨by decide, by decide⟩ (fun kq16 => ?_) (fun kq16 => ?_)
              · refine Go.run hsz hn1 4 (pc' := 64) (lv' := [some (gr 148), some (gi s), some (gi b), some (gi n_), none]) (st' := [gi b, gi s, gr 172]) (M' := gw mi ml) rfl ?_
                refine Go.iast (by rfl) (N := 4) (by rfl) (by omega) (by omega) (by decide) ?_
                refine Go.run hsz hn1 4 (pc' := 71) (lv' := [some (gr 148), some (gi s), some (gi b), some (gi n_), none]) (st' := [gi b, gi s, gr 173]) (M' := gw (gu mi 172 s.toNat b) ml) rfl ?_
                refine Go.if_ne (by rfl) r_b (fun kq17 => ?_) (fun kq17 => ?_)
                · refine Go.run hsz hn1 1 (pc' := 79) (lv' := [some (gr 148), some (gi s), some (gi b), some (gi n_), none]) (st' := [gi n_, gi s, gr 173]) (M' := gw (gu mi 172 s.toNat b) ml) rfl ?_
                  refine Go.iast (by rfl) (N := 4) (by rfl) (by omega) (by omega) (by decide) ?_
                  refine Go.run hsz hn1 2 (pc' := 83) (lv' := [some (gr 148), some (gi s), some (gi b), some (gi n_), some (gi 0)]) (st' := []) (M' := gw (gu (gu mi 172 s.toNat b) 173 s.toNat n_) ml) rfl ?_
                  have h9 := lM_sheet hsz (n := n) (by omega) mi ml s b n_ n_ (by omega) (by omega) 61 0 (by omega) (by omega) (by omega)
                  rw [show (0 : Int).toNat = 0 from rfl, gfl_0] at h9
                  refine Go.imp ?_ h9
                  rintro _ _ ⟨rfl, rfl⟩
                  exact Or.inr (Or.inl ⟨by omega, rfl, rfl⟩)
                · refine Go.run hsz hn1 2 (pc' := 79) (lv' := [some (gr 148), some (gi s), some (gi b), some (gi n_), none]) (st' := [gi 0, gi s, gr 173]) (M' := gw (gu mi 172 s.toNat b) ml) rfl ?_
                  refine Go.iast (by rfl) (N := 4) (by rfl) (by omega) (by omega) (by decide) ?_
                  refine Go.run hsz hn1 2 (pc' := 83) (lv' := [some (gr 148), some (gi s), some (gi b), some (gi n_), some (gi 0)]) (st' := []) (M' := gw (gu (gu mi 172 s.toNat b) 173 s.toNat 0) ml) rfl ?_
                  have h9 := lM_sheet hsz (n := n) (by omega) mi ml s b n_ 0 (by omega) (by omega) 61 0 (by omega) (by omega) (by omega)
                  rw [show (0 : Int).toNat = 0 from rfl, gfl_0] at h9
                  refine Go.imp ?_ h9
                  rintro _ _ ⟨rfl, rfl⟩
                  exact Or.inl ⟨by omega, rfl, rfl⟩
              · refine Go.run hsz hn1 2 (pc' := 54) (lv' := [some (gr 148), some (gi s), some (gi b), some (gi n_), none]) (st' := [gi 0, gr 148]) (M' := gw mi ml) rfl ?_
                refine Go.callV (As := [gi 0]) (b := 148) (st := []) (mc1 := 0) (mc := 0) (ms1 := 0) (ms := 0) (by rfl) rfl (c := 11) (N := 46) (by rfl) (by decide) (by rfl) (gcn 154 (by decide)).1 (gcn 154 (by decide)).2 rfl (Nat.le_of_ble_eq_true rfl) (by omega) (cM_finds hsz (n := n - 1) (by omega) mi ml 0 (by decide) (by decide)) ?_
                rintro _ _ ⟨rfl, rfl⟩
                refine Go.run hsz hn1 0 (pc' := 57) (lv' := [some (gr 148), some (gi s), some (gi b), some (gi n_), none]) (st' := [gi (-1000001)]) (M' := gw (mFd mi 0) ml) rfl ?_
                refine Go.iret (by rfl) ?_
                first | (exact Or.inl ⟨by omega, rfl, rfl⟩) | (exact Or.inr (Or.inl ⟨by omega, rfl, rfl⟩)) | (exact Or.inr (Or.inr (Or.inl ⟨by omega, rfl, rfl⟩))) | (exact Or.inr (Or.inr (Or.inr (Or.inl ⟨by omega, rfl, rfl⟩)))) | (exact Or.inr (Or.inr (Or.inr (Or.inr (⟨by omega, rfl, rfl⟩)))))
            · refine Go.run hsz hn1 2 (pc' := 42) (lv' := [some (gr 148), some (gi s), some (gi b), some (gi n_), none]) (st' := [gi 6, gr 148]) (M' := gw mi ml) rfl ?_
              refine Go.callV (As := [gi 6]) (b := 148) (st := []) (mc1 := 0) (mc := 0) (ms1 := 0) (ms := 0) (by rfl) rfl (c := 11) (N := 46) (by rfl) (by decide) (by rfl) (gcn 154 (by decide)).1 (gcn 154 (by decide)).2 rfl (Nat.le_of_ble_eq_true rfl) (by omega) (cM_finds hsz (n := n - 1) (by omega) mi ml 6 (by decide) (by decide)) ?_
              rintro _ _ ⟨rfl, rfl⟩
              refine Go.run hsz hn1 0 (pc' := 45) (lv' := [some (gr 148), some (gi s), some (gi b), some (gi n_), none]) (st' := [gi (-1000007)]) (M' := gw (mFd mi 6) ml) rfl ?_
              refine Go.iret (by rfl) ?_
              first | (exact Or.inl ⟨by omega, rfl, rfl⟩) | (exact Or.inr (Or.inl ⟨by omega, rfl, rfl⟩)) | (exact Or.inr (Or.inr (Or.inl ⟨by omega, rfl, rfl⟩))) | (exact Or.inr (Or.inr (Or.inr (Or.inl ⟨by omega, rfl, rfl⟩)))) | (exact Or.inr (Or.inr (Or.inr (Or.inr (⟨by omega, rfl, rfl⟩)))))
          · refine Go.run hsz hn1 2 (pc' := 31) (lv' := [some (gr 148), some (gi s), some (gi b), some (gi n_), none]) (st' := [gi 0, gr 148]) (M' := gw mi ml) rfl ?_
            refine Go.callV (As := [gi 0]) (b := 148) (st := []) (mc1 := 0) (mc := 0) (ms1 := 0) (ms := 0) (by rfl) rfl (c := 11) (N := 46) (by rfl) (by decide) (by rfl) (gcn 154 (by decide)).1 (gcn 154 (by decide)).2 rfl (Nat.le_of_ble_eq_true rfl) (by omega) (cM_finds hsz (n := n - 1) (by omega) mi ml 0 (by decide) (by decide)) ?_
            rintro _ _ ⟨rfl, rfl⟩
            refine Go.run hsz hn1 0 (pc' := 34) (lv' := [some (gr 148), some (gi s), some (gi b), some (gi n_), none]) (st' := [gi (-1000001)]) (M' := gw (mFd mi 0) ml) rfl ?_
            refine Go.iret (by rfl) ?_
            first | (exact Or.inl ⟨by omega, rfl, rfl⟩) | (exact Or.inr (Or.inl ⟨by omega, rfl, rfl⟩)) | (exact Or.inr (Or.inr (Or.inl ⟨by omega, rfl, rfl⟩))) | (exact Or.inr (Or.inr (Or.inr (Or.inl ⟨by omega, rfl, rfl⟩)))) | (exact Or.inr (Or.inr (Or.inr (Or.inr (⟨by omega, rfl, rfl⟩)))))
def mChg (mi : Nat → Nat → Int) (s i v : Int) : Nat → Nat → Int := gu mi 174 (60 * s + i).toNat (if mi 172 s.toNat = 8 then (iI v).toInt8.toInt32.toInt else if mi 172 s.toNat = 16 then (iI v).toInt16.toInt32.toInt else v)
set_option maxRecDepth 100000 in
set_option maxHeartbeats 4000000 in
theorem pM_write {G : gG} (hsz : G.2.2.2.2.2.2 = true) {n : Nat} (hn : 3 ≤ n) (mi : Nat → Nat → Int) (ml : Nat → Nat → Int64) (s i v : Int) (r_s : rng s) (r_i : rng i) (r_v : rng v) (hv : SV mi) (hz : ∀ s : Int, 0 ≤ s → s < 4 → (0 ≤ mi 173 s.toNat ∧ mi 173 s.toNat ≤ 60) ∧ (mi 172 s.toNat = 0 ∨ mi 172 s.toNat = 8 ∨ mi 172 s.toNat = 16 ∨ mi 172 s.toNat = 32)) : gM G 239 n 0 0 [gr 148, gi s, gi i, gi v] (gw mi ml) (fun r M => gE (¬ (0 ≤ s ∧ s ≤ 3)) (-1000001) (mFd mi 0) ml r M ∨ gE ((0 ≤ s ∧ s ≤ 3) ∧ mi 172 s.toNat = 0) (-1000006) (mFd mi 5) ml r M ∨ gE ((0 ≤ s ∧ s ≤ 3) ∧ ¬ mi 172 s.toNat = 0 ∧ ¬ (0 ≤ i ∧ i ≤ mi 173 s.toNat - 1)) (-1000001) (mFd mi 0) ml r M ∨ gE ((0 ≤ s ∧ s ≤ 3) ∧ ¬ mi 172 s.toNat = 0 ∧ (0 ≤ i ∧ i ≤ mi 173 s.toNat - 1)) (1) (mChg mi s i v) ml r M) := by
  have hn1 : 1 ≤ n := by omega
  obtain ⟨hR, ht, hp, hq, hP, hQ⟩ := id hv
  have hzs : (0 ≤ s ∧ s ≤ 3) → 0 ≤ mi 173 s.toNat ∧ mi 173 s.toNat ≤ 60 := fun h => (hz s (by omega) (by omega)).1
  refine gM.of mX12_write okX12_write (gcp 239 (by decide)).1 (gcp 239 (by decide)).2 (Nat.le_of_ble_eq_true rfl) ?_
  refine Go.run hsz hn1 1 (pc' := 1) (lv' := [some (gr 148), some (gi s), some (gi i), some (gi v)]) (st' := [gi s]) (M' := gw mi ml) rfl ?_
  refine Go.callS (As := [gi s]) (st := []) (mc1 := 0) (mc := 0) (ms1 := 0) (ms := 0) (by rfl) rfl (gcn 237 (by decide)).1 (gcn 237 (by decide)).2 (Nat.le_of_ble_eq_true rfl) (by omega) (cM_isSheet hsz (n := n - 1) (by omega) mi ml s r_s) ?_
  rintro _ _ ⟨rfl, rfl⟩
  refine Go.run hsz hn1 0 (pc' := 4) (lv' := [some (gr 148), some (gi s), some (gi i), some (gi v)]) (st' := [gi (b2 (0 ≤ s ∧ s ≤ 3))]) (M' := gw mi ml) rfl ?_
  refine Go.if_ne (by rfl) (b2_rng _) (fun kq1 => ?_) (fun kq1 => ?_)
  · replace kq1 := b2_pos kq1
    refine Go.run hsz hn1 3 (pc' := 18) (lv' := [some (gr 148), some (gi s), some (gi i), some (gi v)]) (st' := [gi s, gr 172]) (M' := gw mi ml) rfl ?_
    refine Go.iald (by rfl) (N := 4) (by rfl) (by omega) (by omega) (by decide) ?_
    refine Go.run hsz hn1 0 (pc' := 19) (lv' := [some (gr 148), some (gi s), some (gi i), some (gi v)]) (st' := [gi (mi 172 s.toNat)]) (M' := gw mi ml) rfl ?_
    refine Go.if_ne (by rfl) (hR _ _) (fun kq2 => ?_) (fun kq2 => ?_)
    · refine Go.run hsz hn1 5 (pc' := 35) (lv' := [some (gr 148), some (gi s), some (gi i), some (gi v)]) (st' := [gi s, gr 173, gi 0, gi i]) (M' := gw mi ml) rfl ?_
      refine Go.iald (by rfl) (N := 4) (by rfl) (by omega) (by omega) (by decide) ?_
      refine Go.run hsz hn1 2 (pc' := 38) (lv' := [some (gr 148), some (gi s), some (gi i), some (gi v)]) (st' := [gi ((mi 173 s.toNat) - 1), gi 0, gi i]) (M' := gw mi ml) rfl ?_
      refine Go.callS (As := [gi i, gi 0, gi ((mi 173 s.toNat) - 1)]) (st := []) (mc1 := 0) (mc := 0) (ms1 := 0) (ms := 0) (by rfl) rfl (gcn 153 (by decide)).1 (gcn 153 (by decide)).2 (Nat.le_of_ble_eq_true rfl) (by omega) (cM_in hsz (n := n - 1) (by omega) mi ml i 0 ((mi 173 s.toNat) - 1) r_i ⟨by decide, by decide⟩ ⟨by omega, by omega⟩) ?_
      rintro _ _ ⟨rfl, rfl⟩
      refine Go.run hsz hn1 0 (pc' := 41) (lv' := [some (gr 148), some (gi s), some (gi i), some (gi v)]) (st' := [gi (b2 (0 ≤ i ∧ i ≤ (mi 173 s.toNat) - 1))]) (M' := gw mi ml) rfl ?_
      refine Go.if_ne (by rfl) (b2_rng _) (fun kq3 => ?_) (fun kq3 => ?_)
      · replace kq3 := b2_pos kq3
        refine Go.run hsz hn1 10 (pc' := 65) (lv' := [some (gr 148), some (gi s), some (gi i), some (gi v)]) (st' := [gi s, gr 172, gi ((60 * s) + i), gr 174]) (M' := gw mi ml) rfl ?_
        refine Go.iald (by rfl) (N := 4) (by rfl) (by omega) (by omega) (by decide) ?_
        refine Go.run hsz hn1 1 (pc' := 68) (lv' := [some (gr 148), some (gi s), some (gi i), some (gi v)]) (st' := [gi 8, gi (mi 172 s.toNat), gi ((60 * s) + i), gr 174]) (M' := gw mi ml) rfl ?_
        refine Go.icmp_ne (by rfl) (hR _ _) ⟨by decide, by decide⟩ (fun kq4 => ?_) (fun kq4 => ?_)
        · refine Go.run hsz hn1 3 (pc' := 81) (lv' := [some (gr 148), some (gi s), some (gi i), some (gi v)]) (st' := [gi s, gr 172, gi ((60 * s) + i), gr 174]) (M' := gw mi ml) rfl ?_
          refine Go.iald (by rfl) (N := 4) (by rfl) (by omega) (by omega) (by decide) ?_
          refine Go.run hsz hn1 1 (pc' := 84) (lv' := [some (gr 148), some (gi s), some (gi i), some (gi v)]) (st' := [gi 16, gi (mi 172 s.toNat), gi ((60 * s) + i), gr 174]) (M' := gw mi ml) rfl ?_
          refine Go.icmp_ne (by rfl) (hR _ _) ⟨by decide, by decide⟩ (fun kq5 => ?_) (fun kq5 => ?_)
          · refine Go.run hsz hn1 1 (pc' := 93) (lv' := [some (gr 148), some (gi s), some (gi i), some (gi v)]) (st' := [gi v, gi ((60 * s) + i), gr 174]) (M' := gw mi ml) rfl ?_
            refine Go.iast (by rfl) (N := 240) (by rfl) (by omega) (by omega) (by decide) ?_
            refine Go.run hsz hn1 1 (pc' := 95) (lv' := [some (gr 148), some (gi s), some (gi i), some (gi v)]) (st' := [gi 1]) (M' := gw (gu mi 174 (((60 * s) + i).toNat) v) ml) rfl ?_
            refine Go.iret (by rfl) ?_
            first | (exact Or.inl ⟨by omega, rfl, rfl⟩) | (exact Or.inr (Or.inl ⟨by omega, rfl, rfl⟩)) | (exact Or.inr (Or.inr (Or.inl ⟨by omega, rfl, rfl⟩))) | (refine Or.inr (Or.inr (Or.inr ⟨by omega, rfl, ?_⟩)); unfold mChg; (first | rw [if_pos (by assumption)] | rw [if_neg (by assumption), if_pos (by assumption)] | rw [if_neg (by assumption), if_neg (by assumption)]))
          · refine Go.run hsz hn1 3 (pc' := 93) (lv' := [some (gr 148), some (gi s), some (gi i), some (gi v)]) (st' := [gi ((iI v).toInt16.toInt32.toInt), gi ((60 * s) + i), gr 174]) (M' := gw mi ml) rfl ?_
            refine Go.iast (by rfl) (N := 240) (by rfl) (by omega) (by omega) (by decide) ?_
            refine Go.run hsz hn1 1 (pc' := 95) (lv' := [some (gr 148), some (gi s), some (gi i), some (gi v)]) (st' := [gi 1]) (M' := gw (gu mi 174 (((60 * s) + i).toNat) ((iI v).toInt16.toInt32.toInt)) ml) rfl ?_
            refine Go.iret (by rfl) ?_
            first | (exact Or.inl ⟨by omega, rfl, rfl⟩) | (exact Or.inr (Or.inl ⟨by omega, rfl, rfl⟩)) | (exact Or.inr (Or.inr (Or.inl ⟨by omega, rfl, rfl⟩))) | (refine Or.inr (Or.inr (Or.inr ⟨by omega, rfl, ?_⟩)); unfold mChg; (first | rw [if_pos (by assumption)] | rw [if_neg (by assumption), if_pos (by assumption)] | rw [if_neg (by assumption), if_neg (by assumption)]))
        · refine Go.run hsz hn1 3 (pc' := 93) (lv' := [some (gr 148), some (gi s), some (gi i), some (gi v)]) (st' := [gi ((iI v).toInt8.toInt32.toInt), gi ((60 * s) + i), gr 174]) (M' := gw mi ml) rfl ?_
          refine Go.iast (by rfl) (N := 240) (by rfl) (by omega) (by omega) (by decide) ?_
          refine Go.run hsz hn1 1 (pc' := 95) (lv' := [some (gr 148), some (gi s), some (gi i), some (gi v)]) (st' := [gi 1]) (M' := gw (gu mi 174 (((60 * s) + i).toNat) ((iI v).toInt8.toInt32.toInt)) ml) rfl ?_
          refine Go.iret (by rfl) ?_
          first | (exact Or.inl ⟨by omega, rfl, rfl⟩) | (exact Or.inr (Or.inl ⟨by omega, rfl, rfl⟩)) | (exact Or.inr (Or.inr (Or.inl ⟨by omega, rfl, rfl⟩))) | (refine Or.inr (Or.inr (Or.inr ⟨by omega, rfl, ?_⟩)); unfold mChg; (first | rw [if_pos (by assumption)] | rw [if_neg (by assumption), if_pos (by assumption)] | rw [if_neg (by assumption), if_neg (by assumption)]))
      · replace kq3 := b2_neg kq3
        refine Go.run hsz hn1 2 (pc' := 46) (lv' := [some (gr 148), some (gi s), some (gi i), some (gi v)]) (st' := [gi 0, gr 148]) (M' := gw mi ml) rfl ?_
        refine Go.callV (As := [gi 0]) (b := 148) (st := []) (mc1 := 0) (mc := 0) (ms1 := 0) (ms := 0) (by rfl) rfl (c := 11) (N := 46) (by rfl) (by decide) (by rfl) (gcn 154 (by decide)).1 (gcn 154 (by decide)).2 rfl (Nat.le_of_ble_eq_true rfl) (by omega) (cM_finds hsz (n := n - 1) (by omega) mi ml 0 (by decide) (by decide)) ?_
        rintro _ _ ⟨rfl, rfl⟩
        refine Go.run hsz hn1 0 (pc' := 49) (lv' := [some (gr 148), some (gi s), some (gi i), some (gi v)]) (st' := [gi (-1000001)]) (M' := gw (mFd mi 0) ml) rfl ?_
        refine Go.iret (by rfl) ?_
        first | (exact Or.inl ⟨by omega, rfl, rfl⟩) | (exact Or.inr (Or.inl ⟨by omega, rfl, rfl⟩)) | (exact Or.inr (Or.inr (Or.inl ⟨by omega, rfl, rfl⟩))) | (refine Or.inr (Or.inr (Or.inr ⟨by omega, rfl, ?_⟩)); unfold mChg; (first | rw [if_pos (by assumption)] | rw [if_neg (by assumption), if_pos (by assumption)] | rw [if_neg (by assumption), if_neg (by assumption)]))
    · refine Go.run hsz hn1 2 (pc' := 24) (lv' := [some (gr 148), some (gi s), some (gi i), some (gi v)]) (st' := [gi 5, gr 148]) (M' := gw mi ml) rfl ?_
      refine Go.callV (As := [gi 5]) (b := 148) (st := []) (mc1 := 0) (mc := 0) (ms1 := 0) (ms := 0) (by rfl) rfl (c := 11) (N := 46) (by rfl) (by decide) (by rfl) (gcn 154 (by decide)).1 (gcn 154 (by decide)).2 rfl (Nat.le_of_ble_eq_true rfl) (by omega) (cM_finds hsz (n := n - 1) (by omega) mi ml 5 (by decide) (by decide)) ?_
      rintro _ _ ⟨rfl, rfl⟩
      refine Go.run hsz hn1 0 (pc' := 27) (lv' := [some (gr 148), some (gi s), some (gi i), some (gi v)]) (st' := [gi (-1000006)]) (M' := gw (mFd mi 5) ml) rfl ?_
      refine Go.iret (by rfl) ?_
      first | (exact Or.inl ⟨by omega, rfl, rfl⟩) | (exact Or.inr (Or.inl ⟨by omega, rfl, rfl⟩)) | (exact Or.inr (Or.inr (Or.inl ⟨by omega, rfl, rfl⟩))) | (refine Or.inr (Or.inr (Or.inr ⟨by omega, rfl, ?_⟩)); unfold mChg; (first | rw [if_pos (by assumption)] | rw [if_neg (by assumption), if_pos (by assumption)] | rw [if_neg (by assumption), if_neg (by assumption)]))
  · replace kq1 := b2_neg kq1
    refine Go.run hsz hn1 2 (pc' := 9) (lv' := [some (gr 148), some (gi s), some (gi i), some (gi v)]) (st' := [gi 0, gr 148]) (M' := gw mi ml) rfl ?_
    refine Go.callV (As := [gi 0]) (b := 148) (st := []) (mc1 := 0) (mc := 0) (ms1 := 0) (ms := 0) (by rfl) rfl (c := 11) (N := 46) (by rfl) (by decide) (by rfl) (gcn 154 (by decide)).1 (gcn 154 (by decide)).2 rfl (Nat.le_of_ble_eq_true rfl) (by omega) (cM_finds hsz (n := n - 1) (by omega) mi ml 0 (by decide) (by decide)) ?_
    rintro _ _ ⟨rfl, rfl⟩
    refine Go.run hsz hn1 0 (pc' := 12) (lv' := [some (gr 148), some (gi s), some (gi i), some (gi v)]) (st' := [gi (-1000001)]) (M' := gw (mFd mi 0) ml) rfl ?_
    refine Go.iret (by rfl) ?_
    first | (exact Or.inl ⟨by omega, rfl, rfl⟩) | (exact Or.inr (Or.inl ⟨by omega, rfl, rfl⟩)) | (exact Or.inr (Or.inr (Or.inl ⟨by omega, rfl, rfl⟩))) | (refine Or.inr (Or.inr (Or.inr ⟨by omega, rfl, ?_⟩)); unfold mChg; (first | rw [if_pos (by assumption)] | rw [if_neg (by assumption), if_pos (by assumption)] | rw [if_neg (by assumption), if_neg (by assumption)]))

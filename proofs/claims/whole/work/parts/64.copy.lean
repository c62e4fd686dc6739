set_option maxRecDepth 100000 in
set_option maxHeartbeats 4000000 in
theorem pC_copy {G : gG} (hsz : G.2.2.2.2.2.2 = true) {n : Nat} (hn : 3 ≤ n) (mi : Nat → Nat → Int) (ml : Nat → Nat → Int64) (s u t v n_ : Int) (r_s : rng s) (r_u : rng u) (r_t : rng t) (r_v : rng v) (r_n_ : rng n_) (hv : CV mi) (hz : ∀ s : Int, 0 ≤ s → s < 4 → (0 ≤ mi (139 + 2 * s.toNat) 1 ∧ mi (139 + 2 * s.toNat) 1 ≤ 60) ∧ True) : gM G 141 n 0 0 [gr 0, gi s, gi u, gi t, gi v, gi n_] (gw mi ml) (fun r M => gE (¬ ((0 ≤ s ∧ s ≤ 3) ∧ (0 ≤ t ∧ t ≤ 3))) (-1000001) (cFd mi 0) (ml) r M ∨ gE ((0 ≤ s ∧ s ≤ 3) ∧ (0 ≤ t ∧ t ≤ 3) ∧ ¬ (¬ mi (139 + 2 * s.toNat) 0 = 0 ∧ ¬ mi (139 + 2 * t.toNat) 0 = 0)) (-1000006) (cFd mi 5) (ml) r M ∨ gE ((0 ≤ s ∧ s ≤ 3) ∧ (0 ≤ t ∧ t ≤ 3) ∧ (¬ mi (139 + 2 * s.toNat) 0 = 0 ∧ ¬ mi (139 + 2 * t.toNat) 0 = 0) ∧ ¬ mi (139 + 2 * s.toNat) 0 = mi (139 + 2 * t.toNat) 0) (-1000003) (cFd mi 2) (ml) r M ∨ gE ((0 ≤ s ∧ s ≤ 3) ∧ (0 ≤ t ∧ t ≤ 3) ∧ (¬ mi (139 + 2 * s.toNat) 0 = 0 ∧ ¬ mi (139 + 2 * t.toNat) 0 = 0) ∧ mi (139 + 2 * s.toNat) 0 = mi (139 + 2 * t.toNat) 0 ∧ ¬ (0 ≤ u ∧ 0 ≤ v ∧ 0 ≤ n_ ∧ u + n_ ≤ mi (139 + 2 * s.toNat) 1 ∧ v + n_ ≤ mi (139 + 2 * t.toNat) 1)) (-1000001) (cFd mi 0) (ml) r M ∨ gE ((0 ≤ s ∧ s ≤ 3) ∧ (0 ≤ t ∧ t ≤ 3) ∧ (¬ mi (139 + 2 * s.toNat) 0 = 0 ∧ ¬ mi (139 + 2 * t.toNat) 0 = 0) ∧ mi (139 + 2 * s.toNat) 0 = mi (139 + 2 * t.toNat) 0 ∧ (0 ≤ u ∧ 0 ≤ v ∧ 0 ≤ n_ ∧ u + n_ ≤ mi (139 + 2 * s.toNat) 1 ∧ v + n_ ≤ mi (139 + 2 * t.toNat) 1)) (n_) (gcpy mi (140 + 2 * s.toNat) u.toNat (140 + 2 * t.toNat) v.toNat n_.toNat) (ml) r M) := by
  have hn1 : 1 ≤ n := by omega
  obtain ⟨hR, ht, hp, hq, hP, hQ⟩ := id hv
  have q_s : -2147483648 ≤ s ∧ s < 2147483648 := r_s
  have q_u : -2147483648 ≤ u ∧ u < 2147483648 := r_u
  have q_t : -2147483648 ≤ t ∧ t < 2147483648 := r_t
  have q_v : -2147483648 ≤ v ∧ v < 2147483648 := r_v
  have q_n_ : -2147483648 ≤ n_ ∧ n_ < 2147483648 := r_n_
  have hzs : (0 ≤ s ∧ s ≤ 3) → 0 ≤ mi (139 + 2 * s.toNat) 1 ∧ mi (139 + 2 * s.toNat) 1 ≤ 60 := fun h => (hz s (by omega) (by omega)).1
  have hzt : (0 ≤ t ∧ t ≤ 3) → 0 ≤ mi (139 + 2 * t.toNat) 1 ∧ mi (139 + 2 * t.toNat) 1 ≤ 60 := fun h => (hz t (by omega) (by omega)).1
  refine gM.of mX11_copy okX11_copy (gcp 141 (by decide)).1 (gcp 141 (by decide)).2 (Nat.le_of_ble_eq_true rfl) ?_
  refine Go.run hsz hn1 3 (pc' := 3) (lv' := [some (gr 0), some (gi s), some (gi u), some (gi t), some (gi v), some (gi n_), none, none]) (st' := [gi 3, gi 0, gi s]) (M' := gw mi ml) rfl ?_
  refine Go.callS (As := [gi s, gi 0, gi 3]) (st := []) (mc1 := 0) (mc := 0) (ms1 := 0) (ms := 0) (by rfl) rfl (gcn 150 (by decide)).1 (gcn 150 (by decide)).2 (Nat.le_of_ble_eq_true rfl) (by omega) (cC_isIn hsz (n := n - 1) (by omega) mi ml s 0 3 r_s ⟨by decide, by decide⟩ ⟨by decide, by decide⟩) ?_
  rintro _ _ ⟨rfl, rfl⟩
  refine Go.run hsz hn1 0 (pc' := 6) (lv' := [some (gr 0), some (gi s), some (gi u), some (gi t), some (gi v), some (gi n_), none, none]) (st' := [gi (b2 (0 ≤ s ∧ s ≤ 3))]) (M' := gw mi ml) rfl ?_
  refine Go.if_eq (by rfl) (b2_rng _) (fun kq1 => ?_) (fun kq1 => ?_)
  · replace kq1 := b2_neg kq1
    refine Go.run hsz hn1 2 (pc' := 21) (lv' := [some (gr 0), some (gi s), some (gi u), some (gi t), some (gi v), some (gi n_), none, none]) (st' := [gi (-1000001), gr 0]) (M' := gw mi ml) rfl ?_
    refine Go.callV (As := [gi (-1000001)]) (b := 0) (st := []) (mc1 := 0) (mc := 0) (ms1 := 0) (ms := 0) (by rfl) rfl (c := 10) (N := 9) (by rfl) (by decide) (by rfl) (gcn 147 (by decide)).1 (gcn 147 (by decide)).2 rfl (Nat.le_of_ble_eq_true rfl) (by omega) (cC_finding hsz (n := n - 1) (by omega) mi ml (-1000001) (by decide) (by decide)) ?_
    rintro _ _ ⟨rfl, rfl⟩
    refine Go.run hsz hn1 0 (pc' := 24) (lv' := [some (gr 0), some (gi s), some (gi u), some (gi t), some (gi v), some (gi n_), none, none]) (st' := [gi (-1000001)]) (M' := gw (cFd mi 0) ml) rfl ?_
    refine Go.iret (by rfl) ?_
    first | (exact Or.inl ⟨by omega, rfl, rfl⟩) | (exact Or.inr (Or.inl ⟨by omega, rfl, rfl⟩)) | (exact Or.inr (Or.inr (Or.inl ⟨by omega, rfl, rfl⟩))) | (exact Or.inr (Or.inr (Or.inr (Or.inl ⟨by omega, rfl, rfl⟩)))) | (exact Or.inr (Or.inr (Or.inr (Or.inr (⟨by omega, rfl, rfl⟩)))))
  · replace kq1 := b2_pos kq1
    refine Go.run hsz hn1 3 (pc' := 12) (lv' := [some (gr 0), some (gi s), some (gi u), some (gi t), some (gi v), some (gi n_), none, none]) (st' := [gi 3, gi 0, gi t]) (M' := gw mi ml) rfl ?_
    refine Go.callS (As := [gi t, gi 0, gi 3]) (st := []) (mc1 := 0) (mc := 0) (ms1 := 0) (ms := 0) (by rfl) rfl (gcn 150 (by decide)).1 (gcn 150 (by decide)).2 (Nat.le_of_ble_eq_true rfl) (by omega) (cC_isIn hsz (n := n - 1) (by omega) mi ml t 0 3 r_t ⟨by decide, by decide⟩ ⟨by decide, by decide⟩) ?_
    rintro _ _ ⟨rfl, rfl⟩
    refine Go.run hsz hn1 0 (pc' := 15) (lv' := [some (gr 0), some (gi s), some (gi u), some (gi t), some (gi v), some (gi n_), none, none]) (st' := [gi (b2 (0 ≤ t ∧ t ≤ 3))]) (M' := gw mi ml) rfl ?_
    refine Go.if_ne (by rfl) (b2_rng _) (fun kq2 => ?_) (fun kq2 => ?_)
    · replace kq2 := b2_pos kq2
      refine Go.run hsz hn1 3 (pc' := 30) (lv' := [some (gr 0), some (gi s), some (gi u), some (gi t), some (gi v), some (gi n_), none, none]) (st' := [gi s, gr 138]) (M' := gw mi ml) rfl ?_
      refine Go.aaldR 6 (by rfl) (N := 4) (by rfl) ⟨by decide, by decide⟩ (by omega) (by omega) (by decide) (gMR_138 (by omega) (by omega)) ?_
      refine Go.run hsz hn1 4 (pc' := 38) (lv' := [some (gr 0), some (gi s), some (gi u), some (gi t), some (gi v), some (gi n_), some (gr (139 + 2 * s.toNat)), none]) (st' := [gi t, gr 138]) (M' := gw mi ml) rfl ?_
      refine Go.aaldR 6 (by rfl) (N := 4) (by rfl) ⟨by decide, by decide⟩ (by omega) (by omega) (by decide) (gMR_138 (by omega) (by omega)) ?_
      refine Go.run hsz hn1 2 (pc' := 43) (lv' := [some (gr 0), some (gi s), some (gi u), some (gi t), some (gi v), some (gi n_), some (gr (139 + 2 * s.toNat)), some (gr (139 + 2 * t.toNat))]) (st' := [gr (139 + 2 * s.toNat)]) (M' := gw mi ml) rfl ?_
      refine Go.callV (As := []) (b := 139 + 2 * s.toNat) (st := []) (mc1 := 0) (mc := 0) (ms1 := 0) (ms := 0) (by rfl) rfl (c := 6) (N := 3) (shS (i := s) (by omega)) (by decide) (by rfl) (gcn 54 (by decide)).1 (gcn 54 (by decide)).2 rfl (Nat.le_of_ble_eq_true rfl) (by omega) (cH_miss hsz (n := n - 1) (by omega) mi ml s (by omega) (by omega) hR) ?_
      rintro _ _ ⟨rfl, rfl⟩
      refine Go.run hsz hn1 0 (pc' := 46) (lv' := [some (gr 0), some (gi s), some (gi u), some (gi t), some (gi v), some (gi n_), some (gr (139 + 2 * s.toNat)), some (gr (139 + 2 * t.toNat))]) (st' := [gi (b2 (mi (139 + 2 * s.toNat) 0 = 0))]) (M' := gw mi ml) rfl ?_
      refine Go.if_ne (by rfl) (b2_rng _) (fun kq3 => ?_) (fun kq3 => ?_)
      · replace kq3 := b2_pos kq3
        refine Go.run hsz hn1 2 (pc' := 61) (lv' := [some (gr 0), some (gi s), some (gi u), some (gi t), some (gi v), some (gi n_), some (gr (139 + 2 * s.toNat)), some (gr (139 + 2 * t.toNat))]) (st' := [gi (-1000006), gr 0]) (M' := gw mi ml) rfl ?_
        refine Go.callV (As := [gi (-1000006)]) (b := 0) (st := []) (mc1 := 0) (mc := 0) (ms1 := 0) (ms := 0) (by rfl) rfl (c := 10) (N := 9) (by rfl) (by decide) (by rfl) (gcn 147 (by decide)).1 (gcn 147 (by decide)).2 rfl (Nat.le_of_ble_eq_true rfl) (by omega) (cC_finding hsz (n := n - 1) (by omega) mi ml (-1000006) (by decide) (by decide)) ?_
        rintro _ _ ⟨rfl, rfl⟩
        refine Go.run hsz hn1 0 (pc' := 64) (lv' := [some (gr 0), some (gi s), some (gi u), some (gi t), some (gi v), some (gi n_), some (gr (139 + 2 * s.toNat)), some (gr (139 + 2 * t.toNat))]) (st' := [gi (-1000006)]) (M' := gw (cFd mi 5) ml) rfl ?_
        refine Go.iret (by rfl) ?_
        first | (exact Or.inl ⟨by omega, rfl, rfl⟩) | (exact Or.inr (Or.inl ⟨by omega, rfl, rfl⟩)) | (exact Or.inr (Or.inr (Or.inl ⟨by omega, rfl, rfl⟩))) | (exact Or.inr (Or.inr (Or.inr (Or.inl ⟨by omega, rfl, rfl⟩)))) | (exact Or.inr (Or.inr (Or.inr (Or.inr (⟨by omega, rfl, rfl⟩)))))
      · replace kq3 := b2_neg kq3
        refine Go.run hsz hn1 1 (pc' := 51) (lv' := [some (gr 0), some (gi s), some (gi u), some (gi t), some (gi v), some (gi n_), some (gr (139 + 2 * s.toNat)), some (gr (139 + 2 * t.toNat))]) (st' := [gr (139 + 2 * t.toNat)]) (M' := gw mi ml) rfl ?_
        refine Go.callV (As := []) (b := 139 + 2 * t.toNat) (st := []) (mc1 := 0) (mc := 0) (ms1 := 0) (ms := 0) (by rfl) rfl (c := 6) (N := 3) (shS (i := t) (by omega)) (by decide) (by rfl) (gcn 54 (by decide)).1 (gcn 54 (by decide)).2 rfl (Nat.le_of_ble_eq_true rfl) (by omega) (cH_miss hsz (n := n - 1) (by omega) mi ml t (by omega) (by omega) hR) ?_
        rintro _ _ ⟨rfl, rfl⟩
        refine Go.run hsz hn1 0 (pc' := 54) (lv' := [some (gr 0), some (gi s), some (gi u), some (gi t), some (gi v), some (gi n_), some (gr (139 + 2 * s.toNat)), some (gr (139 + 2 * t.toNat))]) (st' := [gi (b2 (mi (139 + 2 * t.toNat) 0 = 0))]) (M' := gw mi ml) rfl ?_
        refine Go.if_eq (by rfl) (b2_rng _) (fun kq4 => ?_) (fun kq4 => ?_)
        · replace kq4 := b2_neg kq4
          refine Go.run hsz hn1 1 (pc' := 67) (lv' := [some (gr 0), some (gi s), some (gi u), some (gi t), some (gi v), some (gi n_), some (gr (139 + 2 * s.toNat)), some (gr (139 + 2 * t.toNat))]) (st' := [gr (139 + 2 * s.toNat)]) (M' := gw mi ml) rfl ?_
          refine Go.getf (by rfl) (c := 6) (N := 3) (shS (i := s) (by omega)) ?_
          refine Go.run hsz hn1 1 (pc' := 72) (lv' := [some (gr 0), some (gi s), some (gi u), some (gi t), some (gi v), some (gi n_), some (gr (139 + 2 * s.toNat)), some (gr (139 + 2 * t.toNat))]) (st' := [gr (139 + 2 * t.toNat), gi (mi (139 + 2 * s.toNat) 0)]) (M' := gw mi ml) rfl ?_
          refine Go.getf (by rfl) (c := 6) (N := 3) (shS (i := t) (by omega)) ?_
          refine Go.run hsz hn1 0 (pc' := 75) (lv' := [some (gr 0), some (gi s), some (gi u), some (gi t), some (gi v), some (gi n_), some (gr (139 + 2 * s.toNat)), some (gr (139 + 2 * t.toNat))]) (st' := [gi (mi (139 + 2 * t.toNat) 0), gi (mi (139 + 2 * s.toNat) 0)]) (M' := gw mi ml) rfl ?_
          refine Go.icmp_eq (by rfl) (hR _ _) (hR _ _) (fun kq5 => ?_) (fun kq5 => ?_)
          · refine Go.run hsz hn1 3 (pc' := 90) (lv' := [some (gr 0), some (gi s), some (gi u), some (gi t), some (gi v), some (gi n_), some (gr (139 + 2 * s.toNat)), some (gr (139 + 2 * t.toNat))]) (st' := [gi n_, gi u, gr (139 + 2 * s.toNat)]) (M' := gw mi ml) rfl ?_
            refine Go.callV (As := [gi u, gi n_]) (b := 139 + 2 * s.toNat) (st := []) (mc1 := 0) (mc := 0) (ms1 := 0) (ms := 0) (by rfl) rfl (c := 6) (N := 3) (shS (i := s) (by omega)) (by decide) (by rfl) (gcn 55 (by decide)).1 (gcn 55 (by decide)).2 rfl (Nat.le_of_ble_eq_true rfl) (by omega) (cH_range hsz (n := n - 1) (by omega) mi ml s (by omega) (by omega) u n_ r_u r_n_ hR (hz s (by omega) (by omega)).1) ?_
            rintro _ _ ⟨rfl, rfl⟩
            refine Go.run hsz hn1 0 (pc' := 93) (lv' := [some (gr 0), some (gi s), some (gi u), some (gi t), some (gi v), some (gi n_), some (gr (139 + 2 * s.toNat)), some (gr (139 + 2 * t.toNat))]) (st' := [gi (b2 (0 ≤ u ∧ 0 ≤ n_ ∧ u ≤ mi (139 + 2 * s.toNat) 1 ∧ n_ ≤ mi (139 + 2 * s.toNat) 1 - u))]) (M' := gw mi ml) rfl ?_
            refine Go.if_eq (by rfl) (b2_rng _) (fun kq6 => ?_) (fun kq6 => ?_)
            · replace kq6 := b2_neg kq6
              refine Go.run hsz hn1 2 (pc' := 111) (lv' := [some (gr 0), some (gi s), some (gi u), some (gi t), some (gi v), some (gi n_), some (gr (139 + 2 * s.toNat)), some (gr (139 + 2 * t.toNat))]) (st' := [gi (-1000001), gr 0]) (M' := gw mi ml) rfl ?_
              refine Go.callV (As := [gi (-1000001)]) (b := 0) (st := []) (mc1 := 0) (mc := 0) (ms1 := 0) (ms := 0) (by rfl) rfl (c := 10) (N := 9) (by rfl) (by decide) (by rfl) (gcn 147 (by decide)).1 (gcn 147 (by decide)).2 rfl (Nat.le_of_ble_eq_true rfl) (by omega) (cC_finding hsz (n := n - 1) (by omega) mi ml (-1000001) (by decide) (by decide)) ?_
              rintro _ _ ⟨rfl, rfl⟩
              refine Go.run hsz hn1 0 (pc' := 114) (lv' := [some (gr 0), some (gi s), some (gi u), some (gi t), some (gi v), some (gi n_), some (gr (139 + 2 * s.toNat)), some (gr (139 + 2 * t.toNat))]) (st' := [gi (-1000001)]) (M' := gw (cFd mi 0) ml) rfl ?_
              refine Go.iret (by rfl) ?_
              first | (exact Or.inl ⟨by omega, rfl, rfl⟩) | (exact Or.inr (Or.inl ⟨by omega, rfl, rfl⟩)) | (exact Or.inr (Or.inr (Or.inl ⟨by omega, rfl, rfl⟩))) | (exact Or.inr (Or.inr (Or.inr (Or.inl ⟨by omega, rfl, rfl⟩)))) | (exact Or.inr (Or.inr (Or.inr (Or.inr (⟨by omega, rfl, rfl⟩)))))
            · replace kq6 := b2_pos kq6
              refine Go.run hsz hn1 3 (pc' := 102) (lv' := [some (gr 0), some (gi s), some (gi u), some (gi t), some (gi v), some (gi n_), some (gr (139 + 2 * s.toNat)), some (gr (139 + 2 * t.toNat))]) (st' := [gi n_, gi v, gr (139 + 2 * t.toNat)]) (M' := gw mi ml) rfl ?_
              refine Go.callV (As := [gi v, gi n_]) (b := 139 + 2 * t.toNat) (st := []) (mc1 := 0) (mc := 0) (ms1 := 0) (ms := 0) (by rfl) rfl (c := 6) (N := 3) (shS (i := t) (by omega)) (by decide) (by rfl) (gcn 55 (by decide)).1 (gcn 55 (by decide)).2 rfl (Nat.le_of_ble_eq_true rfl) (by omega) (cH_range hsz (n := n - 1) (by omega) mi ml t (by omega) (by omega) v n_ r_v r_n_ hR (hz t (by omega) (by omega)).1) ?_
              rintro _ _ ⟨rfl, rfl⟩
              refine Go.run hsz hn1 0 (pc' := 105) (lv' := [some (gr 0), some (gi s), some (gi u), some (gi t), some (gi v), some (gi n_), some (gr (139 + 2 * s.toNat)), some (gr (139 + 2 * t.toNat))]) (st' := [gi (b2 (0 ≤ v ∧ 0 ≤ n_ ∧ v ≤ mi (139 + 2 * t.toNat) 1 ∧ n_ ≤ mi (139 + 2 * t.toNat) 1 - v))]) (M' := gw mi ml) rfl ?_
              refine Go.if_ne (by rfl) (b2_rng _) (fun kq7 => ?_) (fun kq7 => ?_)
              · replace kq7 := b2_pos kq7
                refine Go.run hsz hn1 1 (pc' := 117) (lv' := [some (gr 0), some (gi s), some (gi u), some (gi t), some (gi v), some (gi n_), some (gr (139 + 2 * s.toNat)), some (gr (139 + 2 * t.toNat))]) (st' := [gr (139 + 2 * s.toNat)]) (M' := gw mi ml) rfl ?_
                refine Go.getf (by rfl) (c := 6) (N := 3) (shS (i := s) (by omega)) ?_
                rw [gfS2 (i := s) (by omega) (by omega)]
                refine Go.run hsz hn1 2 (pc' := 123) (lv' := [some (gr 0), some (gi s), some (gi u), some (gi t), some (gi v), some (gi n_), some (gr (139 + 2 * s.toNat)), some (gr (139 + 2 * t.toNat))]) (st' := [gr (139 + 2 * t.toNat), gi u, gr (140 + 2 * s.toNat)]) (M' := gw mi ml) rfl ?_
                refine Go.getf (by rfl) (c := 6) (N := 3) (shS (i := t) (by omega)) ?_
                rw [gfS2 (i := t) (by omega) (by omega)]
                refine Go.run hsz hn1 2 (pc' := 130) (lv' := [some (gr 0), some (gi s), some (gi u), some (gi t), some (gi v), some (gi n_), some (gr (139 + 2 * s.toNat)), some (gr (139 + 2 * t.toNat))]) (st' := [gi n_, gi v, gr (140 + 2 * t.toNat), gi u, gr (140 + 2 * s.toNat)]) (M' := gw mi ml) rfl ?_
                refine Go.copyW (by rfl) hn1 (Nat.le_of_ble_eq_true rfl) (N := 60) (shSn (i := s) (by omega)) (N1 := 60) (shSn (i := t) (by omega)) (by decide) (by decide) (by omega) (by omega) (by omega) (by omega) (by omega) ?_
                refine Go.run hsz hn1 1 (pc' := 135) (lv' := [some (gr 0), some (gi s), some (gi u), some (gi t), some (gi v), some (gi n_), some (gr (139 + 2 * s.toNat)), some (gr (139 + 2 * t.toNat))]) (st' := [gi n_]) (M' := gw (gcpy mi (140 + 2 * s.toNat) u.toNat (140 + 2 * t.toNat) v.toNat n_.toNat) ml) rfl ?_
                refine Go.iret (by rfl) ?_
                first | (exact Or.inl ⟨by omega, rfl, rfl⟩) | (exact Or.inr (Or.inl ⟨by omega, rfl, rfl⟩)) | (exact Or.inr (Or.inr (Or.inl ⟨by omega, rfl, rfl⟩))) | (exact Or.inr (Or.inr (Or.inr (Or.inl ⟨by omega, rfl, rfl⟩)))) | (exact Or.inr (Or.inr (Or.inr (Or.inr (⟨by omega, rfl, rfl⟩)))))
              · replace kq7 := b2_neg kq7
                refine Go.run hsz hn1 2 (pc' := 111) (lv' := [some (gr 0), some (gi s), some (gi u), some (gi t), some (gi v), some (gi n_), some (gr (139 + 2 * s.toNat)), some (gr (139 + 2 * t.toNat))]) (st' := [gi (-1000001), gr 0]) (M' := gw mi ml) rfl ?_
                refine Go.callV (As := [gi (-1000001)]) (b := 0) (st := []) (mc1 := 0) (mc := 0) (ms1 := 0) (ms := 0) (by rfl) rfl (c := 10) (N := 9) (by rfl) (by decide) (by rfl) (gcn 147 (by decide)).1 (gcn 147 (by decide)).2 rfl (Nat.le_of_ble_eq_true rfl) (by omega) (cC_finding hsz (n := n - 1) (by omega) mi ml (-1000001) (by decide) (by decide)) ?_
                rintro _ _ ⟨rfl, rfl⟩
                refine Go.run hsz hn1 0 (pc' := 114) (lv' := [some (gr 0), some (gi s), some (gi u), some (gi t), some (gi v), some (gi n_), some (gr (139 + 2 * s.toNat)), some (gr (139 + 2 * t.toNat))]) (st' := [gi (-1000001)]) (M' := gw (cFd mi 0) ml) rfl ?_
                refine Go.iret (by rfl) ?_
                first | (exact Or.inl ⟨by omega, rfl, rfl⟩) | (exact Or.inr (Or.inl ⟨by omega, rfl, rfl⟩)) | (exact Or.inr (Or.inr (Or.inl ⟨by omega, rfl, rfl⟩))) | (exact Or.inr (Or.inr (Or.inr (Or.inl ⟨by omega, rfl, rfl⟩)))) | (exact Or.inr (Or.inr (Or.inr (Or.inr (⟨by omega, rfl, rfl⟩)))))
          · refine Go.run hsz hn1 2 (pc' := 81) (lv' := [some (gr 0), some (gi s), some (gi u), some (gi t), some (gi v), some (gi n_), some (gr (139 + 2 * s.toNat)), some (gr (139 + 2 * t.toNat))]) (st' := [gi (-1000003), gr 0]) (M' := gw mi ml) rfl ?_
            refine Go.callV (As := [gi (-1000003)]) (b := 0) (st := []) (mc1 := 0) (mc := 0) (ms1 := 0) (ms := 0) (by rfl) rfl (c := 10) (N := 9) (by rfl) (by decide) (by rfl) (gcn 147 (by decide)).1 (gcn 147 (by decide)).2 rfl (Nat.le_of_ble_eq_true rfl) (by omega) (cC_finding hsz (n := n - 1) (by omega) mi ml (-1000003) (by decide) (by decide)) ?_
            rintro _ _ ⟨rfl, rfl⟩
            refine Go.run hsz hn1 0 (pc' := 84) (lv' := [some (gr 0), some (gi s), some (gi u), some (gi t), some (gi v), some (gi n_), some (gr (139 + 2 * s.toNat)), some (gr (139 + 2 * t.toNat))]) (st' := [gi (-1000003)]) (M' := gw (cFd mi 2) ml) rfl ?_
            refine Go.iret (by rfl) ?_
            first | (exact Or.inl ⟨by omega, rfl, rfl⟩) | (exact Or.inr (Or.inl ⟨by omega, rfl, rfl⟩)) | (exact Or.inr (Or.inr (Or.inl ⟨by omega, rfl, rfl⟩))) | (exact Or.inr (Or.inr (Or.inr (Or.inl ⟨by omega, rfl, rfl⟩)))) | (exact Or.inr (Or.inr (Or.inr (Or.inr (⟨by omega, rfl, rfl⟩)))))
        · replace kq4 := b2_pos kq4
          refine Go.run hsz hn1 2 (pc' := 61) (lv' := [some (gr 0), some (gi s), some (gi u), some (gi t), some (gi v), some (gi n_), some (gr (139 + 2 * s.toNat)), some (gr (139 + 2 * t.toNat))]) (st' := [gi (-1000006), gr 0]) (M' := gw mi ml) rfl ?_
          refine Go.callV (As := [gi (-1000006)]) (b := 0) (st := []) (mc1 := 0) (mc := 0) (ms1 := 0) (ms := 0) (by rfl) rfl (c := 10) (N := 9) (by rfl) (by decide) (by rfl) (gcn 147 (by decide)).1 (gcn 147 (by decide)).2 rfl (Nat.le_of_ble_eq_true rfl) (by omega) (cC_finding hsz (n := n - 1) (by omega) mi ml (-1000006) (by decide) (by decide)) ?_
          rintro _ _ ⟨rfl, rfl⟩
          refine Go.run hsz hn1 0 (pc' := 64) (lv' := [some (gr 0), some (gi s), some (gi u), some (gi t), some (gi v), some (gi n_), some (gr (139 + 2 * s.toNat)), some (gr (139 + 2 * t.toNat))]) (st' := [gi (-1000006)]) (M' := gw (cFd mi 5) ml) rfl ?_
          refine Go.iret (by rfl) ?_
          first | (exact Or.inl ⟨by omega, rfl, rfl⟩) | (exact Or.inr (Or.inl ⟨by omega, rfl, rfl⟩)) | (exact Or.inr (Or.inr (Or.inl ⟨by omega, rfl, rfl⟩))) | (exact Or.inr (Or.inr (Or.inr (Or.inl ⟨by omega, rfl, rfl⟩)))) | (exact Or.inr (Or.inr (Or.inr (Or.inr (⟨by omega, rfl, rfl⟩)))))
    · replace kq2 := b2_neg kq2
      refine Go.run hsz hn1 2 (pc' := 21) (lv' := [some (gr 0), some (gi s), some (gi u), some (gi t), some (gi v), some (gi n_), none, none]) (st' := [gi (-1000001), gr 0]) (M' := gw mi ml) rfl ?_
      refine Go.callV (As := [gi (-1000001)]) (b := 0) (st := []) (mc1 := 0) (mc := 0) (ms1 := 0) (ms := 0) (by rfl) rfl (c := 10) (N := 9) (by rfl) (by decide) (by rfl) (gcn 147 (by decide)).1 (gcn 147 (by decide)).2 rfl (Nat.le_of_ble_eq_true rfl) (by omega) (cC_finding hsz (n := n - 1) (by omega) mi ml (-1000001) (by decide) (by decide)) ?_
      rintro _ _ ⟨rfl, rfl⟩
      refine Go.run hsz hn1 0 (pc' := 24) (lv' := [some (gr 0), some (gi s), some (gi u), some (gi t), some (gi v), some (gi n_), none, none]) (st' := [gi (-1000001)]) (M' := gw (cFd mi 0) ml) rfl ?_
      refine Go.iret (by rfl) ?_
      first | (exact Or.inl ⟨by omega, rfl, rfl⟩) | (exact Or.inr (Or.inl ⟨by omega, rfl, rfl⟩)) | (exact Or.inr (Or.inr (Or.inl ⟨by omega, rfl, rfl⟩))) | (exact Or.inr (Or.inr (Or.inr (Or.inl ⟨by omega, rfl, rfl⟩)))) | (exact Or.inr (Or.inr (Or.inr (Or.inr (⟨by omega, rfl, rfl⟩)))))
def mCp1 (mi : Nat → Nat → Int) (s u : Int) (k : Nat) : Nat → Nat → Int := gcpy mi 174 (60 * s + u).toNat 175 0 k
def mCpy (mi : Nat → Nat → Int) (s u t v n : Int) : Nat → Nat → Int := gcpy (mCp1 mi s u n.toNat) 175 0 174 (60 * t + v).toNat n.toNat
set_option maxRecDepth 100000 in
set_option maxHeartbeats 4000000 in
theorem lM_cp2 {G : gG} (hsz : G.2.2.2.2.2.2 = true) {n : Nat} (hn : 1 ≤ n) (mi : Nat → Nat → Int) (ml : Nat → Nat → Int64) (s u t v n_ : Int) (hs : 0 ≤ s ∧ s ≤ 3) (ht : 0 ≤ t ∧ t ≤ 3) (hu : 0 ≤ u ∧ 0 ≤ v ∧ 0 ≤ n_ ∧ u + n_ ≤ 60 ∧ v + n_ ≤ 60) : ∀ (f : Nat) (k : Int), 0 ≤ k → k ≤ n_ → n_ - k < f → Go G mX12_copy n 0 0 160 [some (gr 148), some (gi s), some (gi u), some (gi t), some (gi v), some (gi n_), some (gi k)] [] (gw (gcpy (mCp1 mi s u n_.toNat) 175 0 174 (60 * t + v).toNat k.toNat) ml) (gret n_ (gw (mCpy mi s u t v n_) ml)) := by
  have hn1 : 1 ≤ n := by omega

  intro f
  induction f with
  | zero => intros; omega
  | succ f ih =>
    intro k k0 k1 k2
    refine Go.run hsz hn1 2 (pc' := 164) (lv' := [some (gr 148), some (gi s), some (gi u), some (gi t), some (gi v), some (gi n_), some (gi k)]) (st' := [gi n_, gi k]) (M' := gw (gcpy (mCp1 mi s u n_.toNat) 175 0 174 (60 * t + v).toNat k.toNat) ml) rfl ?_
    refine Go.icmp_ge (by rfl) ⟨by omega, by omega⟩ ⟨by omega, by omega⟩ (fun kq1 => ?_) (fun kq1 => ?_)
    · refine Go.run hsz hn1 1 (pc' := 197) (lv' := [some (gr 148), some (gi s), some (gi u), some (gi t), some (gi v), some (gi n_), some (gi k)]) (st' := [gi n_]) (M' := gw (gcpy (mCp1 mi s u n_.toNat) 175 0 174 (60 * t + v).toNat k.toNat) ml) rfl ?_
      obtain rfl : k = n_ := by omega
      exact Go.iret (by rfl) ⟨rfl, rfl⟩
    · refine Go.run hsz hn1 12 (pc' := 187) (lv' := [some (gr 148), some (gi s), some (gi u), some (gi t), some (gi v), some (gi n_), some (gi k)]) (st' := [gi k, gr 175, gi (((60 * t) + v) + k), gr 174]) (M' := gw (gcpy (mCp1 mi s u n_.toNat) 175 0 174 (60 * t + v).toNat k.toNat) ml) rfl ?_
      refine Go.iald (by rfl) (N := 60) (by rfl) (by omega) (by omega) (by decide) ?_
      refine Go.run hsz hn1 0 (pc' := 188) (lv' := [some (gr 148), some (gi s), some (gi u), some (gi t), some (gi v), some (gi n_), some (gi k)]) (st' := [gi ((gcpy (mCp1 mi s u n_.toNat) 175 0 174 (60 * t + v).toNat k.toNat) 175 k.toNat), gi (((60 * t) + v) + k), gr 174]) (M' := gw (gcpy (mCp1 mi s u n_.toNat) 175 0 174 (60 * t + v).toNat k.toNat) ml) rfl ?_
      refine Go.iast (by rfl) (N := 240) (by rfl) (by omega) (by omega) (by decide) ?_
      refine Go.run hsz hn1 2 (pc' := 160) (lv' := [some (gr 148), some (gi s), some (gi u), some (gi t), some (gi v), some (gi n_), some (gi (k + 1))]) (st' := []) (M' := gw (gu (gcpy (mCp1 mi s u n_.toNat) 175 0 174 (60 * t + v).toNat k.toNat) 174 ((((60 * t) + v) + k).toNat) ((gcpy (mCp1 mi s u n_.toNat) 175 0 174 (60 * t + v).toNat k.toNat) 175 k.toNat)) ml) rfl ?_
      have h9 := ih (k + 1) (by omega) (by omega) (by omega)
      rw [show gcpy (mCp1 mi s u n_.toNat) 175 0 174 (60 * t + v).toNat (k + 1).toNat = gu (gcpy (mCp1 mi s u n_.toNat) 175 0 174 (60 * t + v).toNat k.toNat) 174 ((((60 * t) + v) + k).toNat) ((gcpy (mCp1 mi s u n_.toNat) 175 0 174 (60 * t + v).toNat k.toNat) 175 k.toNat) from ?_] at h9
      · exact h9
      · rw [show (k + 1).toNat = k.toNat + 1 by omega, ← gcpy_s, show ((60 * t + v) + k).toNat = (60 * t + v).toNat + k.toNat by omega, gcpy_off (Or.inl (by decide)), Nat.zero_add]
set_option maxRecDepth 100000 in
set_option maxHeartbeats 4000000 in
theorem lM_cp1 {G : gG} (hsz : G.2.2.2.2.2.2 = true) {n : Nat} (hn : 1 ≤ n) (mi : Nat → Nat → Int) (ml : Nat → Nat → Int64) (s u t v n_ : Int) (hs : 0 ≤ s ∧ s ≤ 3) (ht : 0 ≤ t ∧ t ≤ 3) (hu : 0 ≤ u ∧ 0 ≤ v ∧ 0 ≤ n_ ∧ u + n_ ≤ 60 ∧ v + n_ ≤ 60) : ∀ (f : Nat) (k : Int), 0 ≤ k → k ≤ n_ → n_ - k < f → Go G mX12_copy n 0 0 123 [some (gr 148), some (gi s), some (gi u), some (gi t), some (gi v), some (gi n_), some (gi k)] [] (gw (mCp1 mi s u k.toNat) ml) (gret n_ (gw (mCpy mi s u t v n_) ml)) := by
  have hn1 : 1 ≤ n := by omega

  intro f
  induction f with
  | zero => intros; omega
  | succ f ih =>
    intro k k0 k1 k2
    refine Go.run hsz hn1 2 (pc' := 127) (lv' := [some (gr 148), some (gi s), some (gi u), some (gi t), some (gi v), some (gi n_), some (gi k)]) (st' := [gi n_, gi k]) (M' := gw (mCp1 mi s u k.toNat) ml) rfl ?_
    refine Go.icmp_ge (by rfl) ⟨by omega, by omega⟩ ⟨by omega, by omega⟩ (fun kq1 => ?_) (fun kq1 => ?_)
    · refine Go.run hsz hn1 2 (pc' := 160) (lv' := [some (gr 148), some (gi s), some (gi u), some (gi t), some (gi v), some (gi n_), some (gi 0)]) (st' := []) (M' := gw (mCp1 mi s u k.toNat) ml) rfl ?_
      have hk : k = n_ := by omega
      rw [hk]
      have h9 := lM_cp2 hsz (n := n) (by omega) mi ml s u t v n_ hs ht hu (n_.toNat + 1) 0 (by omega) (by omega) (by omega)
      rw [show (0 : Int).toNat = 0 from rfl, gcpy_0] at h9
      exact h9
    · refine Go.run hsz hn1 12 (pc' := 149) (lv' := [some (gr 148), some (gi s), some (gi u), some (gi t), some (gi v), some (gi n_), some (gi k)]) (st' := [gi (((60 * s) + u) + k), gr 174, gi k, gr 175]) (M' := gw (mCp1 mi s u k.toNat) ml) rfl ?_
      refine Go.iald (by rfl) (N := 240) (by rfl) (by omega) (by omega) (by decide) ?_
      refine Go.run hsz hn1 0 (pc' := 150) (lv' := [some (gr 148), some (gi s), some (gi u), some (gi t), some (gi v), some (gi n_), some (gi k)]) (st' := [gi ((mCp1 mi s u k.toNat) 174 ((((60 * s) + u) + k).toNat)), gi k, gr 175]) (M' := gw (mCp1 mi s u k.toNat) ml) rfl ?_
      refine Go.iast (by rfl) (N := 60) (by rfl) (by omega) (by omega) (by decide) ?_
      refine Go.run hsz hn1 2 (pc' := 123) (lv' := [some (gr 148), some (gi s), some (gi u), some (gi t), some (gi v), some (gi n_), some (gi (k + 1))]) (st' := []) (M' := gw (gu (mCp1 mi s u k.toNat) 175 k.toNat ((mCp1 mi s u k.toNat) 174 ((((60 * s) + u) + k).toNat))) ml) rfl ?_
      have h9 := ih (k + 1) (by omega) (by omega) (by omega)
      rw [show mCp1 mi s u (k + 1).toNat = gu (mCp1 mi s u k.toNat) 175 k.toNat ((mCp1 mi s u k.toNat) 174 ((((60 * s) + u) + k).toNat)) from ?_] at h9
      · exact h9
      · unfold mCp1; rw [show (k + 1).toNat = k.toNat + 1 by omega, ← gcpy_s, Nat.zero_add, show ((60 * s + u) + k).toNat = (60 * s + u).toNat + k.toNat by omega, gcpy_off (Or.inl (by decide))]
set_option maxRecDepth 100000 in
set_option maxHeartbeats 4000000 in
theorem pM_copy {G : gG} (hsz : G.2.2.2.2.2.2 = true) {n : Nat} (hn : 3 ≤ n) (mi : Nat → Nat → Int) (ml : Nat → Nat → Int64) (s u t v n_ : Int) (r_s : rng s) (r_u : rng u) (r_t : rng t) (r_v : rng v) (r_n_ : rng n_) (hv : SV mi) (hz : ∀ s : Int, 0 ≤ s → s < 4 → (0 ≤ mi 173 s.toNat ∧ mi 173 s.toNat ≤ 60) ∧ (mi 172 s.toNat = 0 ∨ mi 172 s.toNat = 8 ∨ mi 172 s.toNat = 16 ∨ mi 172 s.toNat = 32)) : gM G 240 n 0 0 [gr 148, gi s, gi u, gi t, gi v, gi n_] (gw mi ml) (fun r M => gE (¬ ((0 ≤ s ∧ s ≤ 3) ∧ (0 ≤ t ∧ t ≤ 3))) (-1000001) (mFd mi 0) ml r M ∨ gE ((0 ≤ s ∧ s ≤ 3) ∧ (0 ≤ t ∧ t ≤ 3) ∧ ¬ (¬ mi 172 s.toNat = 0 ∧ ¬ mi 172 t.toNat = 0)) (-1000006) (mFd mi 5) ml r M ∨ gE ((0 ≤ s ∧ s ≤ 3) ∧ (0 ≤ t ∧ t ≤ 3) ∧ (¬ mi 172 s.toNat = 0 ∧ ¬ mi 172 t.toNat = 0) ∧ ¬ mi 172 s.toNat = mi 172 t.toNat) (-1000003) (mFd mi 2) ml r M ∨ gE ((0 ≤ s ∧ s ≤ 3) ∧ (0 ≤ t ∧ t ≤ 3) ∧ (¬ mi 172 s.toNat = 0 ∧ ¬ mi 172 t.toNat = 0) ∧ mi 172 s.toNat = mi 172 t.toNat ∧ ¬ (0 ≤ u ∧ 0 ≤ v ∧ 0 ≤ n_ ∧ u + n_ ≤ mi 173 s.toNat ∧ v + n_ ≤ mi 173 t.toNat)) (-1000001) (mFd mi 0) ml r M ∨ gE ((0 ≤ s ∧ s ≤ 3) ∧ (0 ≤ t ∧ t ≤ 3) ∧ (¬ mi 172 s.toNat = 0 ∧ ¬ mi 172 t.toNat = 0) ∧ mi 172 s.toNat = mi 172 t.toNat ∧ (0 ≤ u ∧ 0 ≤ v ∧ 0 ≤ n_ ∧ u + n_ ≤ mi 173 s.toNat ∧ v + n_ ≤ mi 173 t.toNat)) (n_) (mCpy mi s u t v n_) ml r M) := by
  have hn1 : 1 ≤ n := by omega
  obtain ⟨hR, ht, hp, hq, hP, hQ⟩ := id hv
  have q_s : -2147483648 ≤ s ∧ s < 2147483648 := r_s
  have q_u : -2147483648 ≤ u ∧ u < 2147483648 := r_u
  have q_t : -2147483648 ≤ t ∧ t < 2147483648 := r_t
  have q_v : -2147483648 ≤ v ∧ v < 2147483648 := r_v
  have q_n_ : -2147483648 ≤ n_ ∧ n_ < 2147483648 := r_n_
  have hzs : (0 ≤ s ∧ s ≤ 3) → 0 ≤ mi 173 s.toNat ∧ mi 173 s.toNat ≤ 60 := fun h => (hz s (by omega) (by omega)).1
  have hzt : (0 ≤ t ∧ t ≤ 3) → 0 ≤ mi 173 t.toNat ∧ mi 173 t.toNat ≤ 60 := fun h => (hz t (by omega) (by omega)).1
  refine gM.of mX12_copy okX12_copy (gcp 240 (by decide)).1 (gcp 240 (by decide)).2 (Nat.le_of_ble_eq_true rfl) ?_
  refine Go.run hsz hn1 1 (pc' := 1) (lv' := [some (gr 148), some (gi s), some (gi u), some (gi t), some (gi v), some (gi n_), none]) (st' := [gi s]) (M' := gw mi ml) rfl ?_
  refine Go.callS (As := [gi s]) (st := []) (mc1 := 0) (mc := 0) (ms1 := 0) (ms := 0) (by rfl) rfl (gcn 237 (by decide)).1 (gcn 237 (by decide)).2 (Nat.le_of_ble_eq_true rfl) (by omega) (cM_isSheet hsz (n := n - 1) (by omega) mi ml s r_s) ?_
  rintro _ _ ⟨rfl, rfl⟩
  refine Go.run hsz hn1 0 (pc' := 4) (lv' := [some (gr 148), some (gi s), some (gi u), some (gi t), some (gi v), some (gi n_), none]) (st' := [gi (b2 (0 ≤ s ∧ s ≤ 3))]) (M' := gw mi ml) rfl ?_
  refine Go.if_eq (by rfl) (b2_rng _) (fun kq1 => ?_) (fun kq1 => ?_)
  · replace kq1 := b2_neg kq1
    refine Go.run hsz hn1 2 (pc' := 16) (lv' := [some (gr 148), some (gi s), some (gi u), some (gi t), some (gi v), some (gi n_), none]) (st' := [gi 0, gr 148]) (M' := gw mi ml) rfl ?_
    refine Go.callV (As := [gi 0]) (b := 148) (st := []) (mc1 := 0) (mc := 0) (ms1 := 0) (ms := 0) (by rfl) rfl (c := 11) (N := 46) (by rfl) (by decide) (by rfl) (gcn 154 (by decide)).1 (gcn 154 (by decide)).2 rfl (Nat.le_of_ble_eq_true rfl) (by omega) (cM_finds hsz (n := n - 1) (by omega) mi ml 0 (by decide) (by decide)) ?_
    rintro _ _ ⟨rfl, rfl⟩
    refine Go.run hsz hn1 0 (pc' := 19) (lv' := [some (gr 148), some (gi s), some (gi u), some (gi t), some (gi v), some (gi n_), none]) (st' := [gi (-1000001)]) (M' := gw (mFd mi 0) ml) rfl ?_
    refine Go.iret (by rfl) ?_
    first | (exact Or.inl ⟨by omega, rfl, rfl⟩) | (exact Or.inr (Or.inl ⟨by omega, rfl, rfl⟩)) | (exact Or.inr (Or.inr (Or.inl ⟨by omega, rfl, rfl⟩))) | (exact Or.inr (Or.inr (Or.inr (Or.inl ⟨by omega, rfl, rfl⟩)))) | (exact Or.inr (Or.inr (Or.inr (Or.inr (⟨by omega, rfl, rfl⟩)))))
  · replace kq1 := b2_pos kq1
    refine Go.run hsz hn1 1 (pc' := 8) (lv' := [some (gr 148), some (gi s), some (gi u), some (gi t), some (gi v), some (gi n_), none]) (st' := [gi t]) (M' := gw mi ml) rfl ?_
    refine Go.callS (As := [gi t]) (st := []) (mc1 := 0) (mc := 0) (ms1 := 0) (ms := 0) (by rfl) rfl (gcn 237 (by decide)).1 (gcn 237 (by decide)).2 (Nat.le_of_ble_eq_true rfl) (by omega) (cM_isSheet hsz (n := n - 1) (by omega) mi ml t r_t) ?_
    rintro _ _ ⟨rfl, rfl⟩
    refine Go.run hsz hn1 0 (pc' := 11) (lv' := [some (gr 148), some (gi s), some (gi u), some (gi t), some (gi v), some (gi n_), none]) (st' := [gi (b2 (0 ≤ t ∧ t ≤ 3))]) (M' := gw mi ml) rfl ?_
    refine Go.if_ne (by rfl) (b2_rng _) (fun kq2 => ?_) (fun kq2 => ?_)
    · replace kq2 := b2_pos kq2
      refine Go.run hsz hn1 3 (pc' := 25) (lv' := [some (gr 148), some (gi s), some (gi u), some (gi t), some (gi v), some (gi n_), none]) (st' := [gi s, gr 172]) (M' := gw mi ml) rfl ?_
      refine Go.iald (by rfl) (N := 4) (by rfl) (by omega) (by omega) (by decide) ?_
      refine Go.run hsz hn1 0 (pc' := 26) (lv' := [some (gr 148), some (gi s), some (gi u), some (gi t), some (gi v), some (gi n_), none]) (st' := [gi (mi 172 s.toNat)]) (M' := gw mi ml) rfl ?_
      refine Go.if_eq (by rfl) (hR _ _) (fun kq3 => ?_) (fun kq3 => ?_)
      · refine Go.run hsz hn1 2 (pc' := 40) (lv' := [some (gr 148), some (gi s), some (gi u), some (gi t), some (gi v), some (gi n_), none]) (st' := [gi 5, gr 148]) (M' := gw mi ml) rfl ?_
        refine Go.callV (As := [gi 5]) (b := 148) (st := []) (mc1 := 0) (mc := 0) (ms1 := 0) (ms := 0) (by rfl) rfl (c := 11) (N := 46) (by rfl) (by decide) (by rfl) (gcn 154 (by decide)).1 (gcn 154 (by decide)).2 rfl (Nat.le_of_ble_eq_true rfl) (by omega) (cM_finds hsz (n := n - 1) (by omega) mi ml 5 (by decide) (by decide)) ?_
        rintro _ _ ⟨rfl, rfl⟩
        refine Go.run hsz hn1 0 (pc' := 43) (lv' := [some (gr 148), some (gi s), some (gi u), some (gi t), some (gi v), some (gi n_), none]) (st' := [gi (-1000006)]) (M' := gw (mFd mi 5) ml) rfl ?_
        refine Go.iret (by rfl) ?_
        first | (exact Or.inl ⟨by omega, rfl, rfl⟩) | (exact Or.inr (Or.inl ⟨by omega, rfl, rfl⟩)) | (exact Or.inr (Or.inr (Or.inl ⟨by omega, rfl, rfl⟩))) | (exact Or.inr (Or.inr (Or.inr (Or.inl ⟨by omega, rfl, rfl⟩)))) | (exact Or.inr (Or.inr (Or.inr (Or.inr (⟨by omega, rfl, rfl⟩)))))
      · refine Go.run hsz hn1 3 (pc' := 34) (lv' := [some (gr 148), some (gi s), some (gi u), some (gi t), some (gi v), some (gi n_), none]) (st' := [gi t, gr 172]) (M' := gw mi ml) rfl ?_
        refine Go.iald (by rfl) (N := 4) (by rfl) (by omega) (by omega) (by decide) ?_
        refine Go.run hsz hn1 0 (pc' := 35) (lv' := [some (gr 148), some (gi s), some (gi u), some (gi t), some (gi v), some (gi n_), none]) (st' := [gi (mi 172 t.toNat)]) (M' := gw mi ml) rfl ?_
        refine Go.if_ne (by rfl) (hR _ _) (fun kq4 => ?_) (fun kq4 => ?_)
        · refine Go.run hsz hn1 3 (pc' := 49) (lv' := [some (gr 148), some (gi s), some (gi u), some (gi t), some (gi v), some (gi n_), none]) (st' := [gi s, gr 172]) (M' := gw mi ml) rfl ?_
          refine Go.iald (by rfl) (N := 4) (by rfl) (by omega) (by omega) (by decide) ?_
          refine Go.run hsz hn1 3 (pc' := 55) (lv' := [some (gr 148), some (gi s), some (gi u), some (gi t), some (gi v), some (gi n_), none]) (st' := [gi t, gr 172, gi (mi 172 s.toNat)]) (M' := gw mi ml) rfl ?_
          refine Go.iald (by rfl) (N := 4) (by rfl) (by omega) (by omega) (by decide) ?_
          refine Go.run hsz hn1 0 (pc' := 56) (lv' := [some (gr 148), some (gi s), some (gi u), some (gi t), some (gi v), some (gi n_), none]) (st' := [gi (mi 172 t.toNat), gi (mi 172 s.toNat)]) (M' := gw mi ml) rfl ?_
          refine Go.icmp_eq (by rfl) (hR _ _) (hR _ _) (fun kq5 => ?_) (fun kq5 => ?_)
          · refine Go.run hsz hn1 1 (pc' := 66) (lv' := [some (gr 148), some (gi s), some (gi u), some (gi t), some (gi v), some (gi n_), none]) (st' := [gi u]) (M' := gw mi ml) rfl ?_
            refine Go.if_lt (by rfl) r_u (fun kq6 => ?_) (fun kq6 => ?_)
            · refine Go.run hsz hn1 2 (pc' := 116) (lv' := [some (gr 148), some (gi s), some (gi u), some (gi t), some (gi v), some (gi n_), none]) (st' := [gi 0, gr 148]) (M' := gw mi ml) rfl ?_
              refine Go.callV (As := [gi 0]) (b := 148) (st := []) (mc1 := 0) (mc := 0) (ms1 := 0) (ms := 0) (by rfl) rfl (c := 11) (N := 46) (by rfl) (by decide) (by rfl) (gcn 154 (by decide)).1 (gcn 154 (by decide)).2 rfl (Nat.le_of_ble_eq_true rfl) (by omega) (cM_finds hsz (n := n - 1) (by omega) mi ml 0 (by decide) (by decide)) ?_
              rintro _ _ ⟨rfl, rfl⟩
              refine Go.run hsz hn1 0 (pc' := 119) (lv' := [some (gr 148), some (gi s), some (gi u), some (gi t), some (gi v), some (gi n_), none]) (st' := [gi (-1000001)]) (M' := gw (mFd mi 0) ml) rfl ?_
              refine Go.iret (by rfl) ?_
              first | (exact Or.inl ⟨by omega, rfl, rfl⟩) | (exact Or.inr (Or.inl ⟨by omega, rfl, rfl⟩)) | (exact Or.inr (Or.inr (Or.inl ⟨by omega, rfl, rfl⟩))) | (exact Or.inr (Or.inr (Or.inr (Or.inl ⟨by omega, rfl, rfl⟩)))) | (exact Or.inr (Or.inr (Or.inr (Or.inr (⟨by omega, rfl, rfl⟩)))))
            · refine Go.run hsz hn1 1 (pc' := 71) (lv' := [some (gr 148), some (gi s), some (gi u), some (gi t), some (gi v), some (gi n_), none]) (st' := [gi v]) (M' := gw mi ml) rfl ?_
              refine Go.if_lt (by rfl) r_v (fun kq7 => ?_) (fun kq7 => ?_)
              · refine Go.run hsz hn1 2 (pc' := 116) (lv' := [some (gr 148), some (gi s), some (gi u), some (gi t), some (gi v), some (gi n_), none]) (st' := [gi 0, gr 148]) (M' := gw mi ml) rfl ?_
                refine Go.callV (As := [gi 0]) (b := 148) (st := []) (mc1 := 0) (mc := 0) (ms1 := 0) (ms := 0) (by rfl) rfl (c := 11) (N := 46) (by rfl) (by decide) (by rfl) (gcn 154 (by decide)).1 (gcn 154 (by decide)).2 rfl (Nat.le_of_ble_eq_true rfl) (by omega) (cM_finds hsz (n := n - 1) (by omega) mi ml 0 (by decide) (by decide)) ?_
                rintro _ _ ⟨rfl, rfl⟩
                refine Go.run hsz hn1 0 (pc' := 119) (lv' := [some (gr 148), some (gi s), some (gi u), some (gi t), some (gi v), some (gi n_), none]) (st' := [gi (-1000001)]) (M' := gw (mFd mi 0) ml) rfl ?_
                refine Go.iret (by rfl) ?_
                first | (exact Or.inl ⟨by omega, rfl, rfl⟩) | (exact Or.inr (Or.inl ⟨by omega, rfl, rfl⟩)) | (exact Or.inr (Or.inr (Or.inl ⟨by omega, rfl, rfl⟩))) | (exact Or.inr (Or.inr (Or.inr (Or.inl ⟨by omega, rfl, rfl⟩)))) | (exact Or.inr (Or.inr (Or.inr (Or.inr (⟨by omega, rfl, rfl⟩)))))
              · refine Go.run hsz hn1 1 (pc' := 76) (lv' := [some (gr 148), some (gi s), some (gi u), some (gi t), some (gi v), some (gi n_), none]) (st' := [gi n_]) (M' := gw mi ml) rfl ?_
                refine Go.if_lt (by rfl) r_n_ (fun kq8 => ?_) (fun kq8 => ?_)
                · refine Go.run hsz hn1 2 (pc' := 116) (lv' := [some (gr 148), some (gi s), some (gi u), some (gi t), some (gi v), some (gi n_), none]) (st' := [gi 0, gr 148]) (M' := gw mi ml) rfl ?_
                  refine Go.callV (As := [gi 0]) (b := 148) (st := []) (mc1 := 0) (mc := 0) (ms1 := 0) (ms := 0) (by rfl) rfl (c := 11) (N := 46) (by rfl) (by decide) (by rfl) (gcn 154 (by decide)).1 (gcn 154 (by decide)).2 rfl (Nat.le_of_ble_eq_true rfl) (by omega) (cM_finds hsz (n := n - 1) (by omega) mi ml 0 (by decide) (by decide)) ?_
                  rintro _ _ ⟨rfl, rfl⟩
                  refine Go.run hsz hn1 0 (pc' := 119) (lv' := [some (gr 148), some (gi s), some (gi u), some (gi t), some (gi v), some (gi n_), none]) (st' := [gi (-1000001)]) (M' := gw (mFd mi 0) ml) rfl ?_
                  refine Go.iret (by rfl) ?_
                  first | (exact Or.inl ⟨by omega, rfl, rfl⟩) | (exact Or.inr (Or.inl ⟨by omega, rfl, rfl⟩)) | (exact Or.inr (Or.inr (Or.inl ⟨by omega, rfl, rfl⟩))) | (exact Or.inr (Or.inr (Or.inr (Or.inl ⟨by omega, rfl, rfl⟩)))) | (exact Or.inr (Or.inr (Or.inr (Or.inr (⟨by omega, rfl, rfl⟩)))))
                · refine Go.run hsz hn1 8 (pc' := 90) (lv' := [some (gr 148), some (gi s), some (gi u), some (gi t), some (gi v), some (gi n_), none]) (st' := [gi s, gr 173, gl (((iI u).toInt64) + ((iI n_).toInt64))]) (M' := gw mi ml) rfl ?_
                  refine Go.iald (by rfl) (N := 4) (by rfl) (by omega) (by omega) (by decide) ?_
                  refine Go.run hsz hn1 2 (pc' := 93) (lv' := [some (gr 148), some (gi s), some (gi u), some (gi t), some (gi v), some (gi n_), none]) (st' := [gi ((lg_cmp (((iI u).toInt64) + ((iI n_).toInt64)) ((iI (mi 173 s.toNat)).toInt64)).toInt)]) (M' := gw mi ml) rfl ?_
                  rw [show (lg_cmp (((iI u).toInt64) + ((iI n_).toInt64)) ((iI (mi 173 s.toNat)).toInt64)).toInt = cmpI (u + n_) (mi 173 s.toNat) from lg_cmpI (i64_add r_u r_n_) (i64_of (hR _ _))]
                  have hcm9 := cmpI_f (u + n_) (mi 173 s.toNat)
                  refine Go.run hsz hn1 0 (pc' := 93) (lv' := [some (gr 148), some (gi s), some (gi u), some (gi t), some (gi v), some (gi n_), none]) (st' := [gi (cmpI (u + n_) (mi 173 s.toNat))]) (M' := gw mi ml) rfl ?_
                  refine Go.if_gt (by rfl) (cmpI_rng _ _) (fun kq10 => ?_) (fun kq10 => ?_)
                  · refine Go.run hsz hn1 2 (pc' := 116) (lv' := [some (gr 148), some (gi s), some (gi u), some (gi t), some (gi v), some (gi n_), none]) (st' := [gi 0, gr 148]) (M' := gw mi ml) rfl ?_
                    refine Go.callV (As := [gi 0]) (b := 148) (st := []) (mc1 := 0) (mc := 0) (ms1 := 0) (ms := 0) (by rfl) rfl (c := 11) (N := 46) (by rfl) (by decide) (by rfl) (gcn 154 (by decide)).1 (gcn 154 (by decide)).2 rfl (Nat.le_of_ble_eq_true rfl) (by omega) (cM_finds hsz (n := n - 1) (by omega) mi ml 0 (by decide) (by decide)) ?_
                    rintro _ _ ⟨rfl, rfl⟩
                    refine Go.run hsz hn1 0 (pc' := 119) (lv' := [some (gr 148), some (gi s), some (gi u), some (gi t), some (gi v), some (gi n_), none]) (st' := [gi (-1000001)]) (M' := gw (mFd mi 0) ml) rfl ?_
                    refine Go.iret (by rfl) ?_
                    first | (exact Or.inl ⟨by omega, rfl, rfl⟩) | (exact Or.inr (Or.inl ⟨by omega, rfl, rfl⟩)) | (exact Or.inr (Or.inr (Or.inl ⟨by omega, rfl, rfl⟩))) | (exact Or.inr (Or.inr (Or.inr (Or.inl ⟨by omega, rfl, rfl⟩)))) | (exact Or.inr (Or.inr (Or.inr (Or.inr (⟨by omega, rfl, rfl⟩)))))
                  · refine Go.run hsz hn1 8 (pc' := 108) (lv' := [some (gr 148), some (gi s), some (gi u), some (gi t), some (gi v), some (gi n_), none]) (st' := [gi t, gr 173, gl (((iI v).toInt64) + ((iI n_).toInt64))]) (M' := gw mi ml) rfl ?_
                    refine Go.iald (by rfl) (N := 4) (by rfl) (by omega) (by omega) (by decide) ?_
                    refine Go.run hsz hn1 2 (pc' := 111) (lv' := [some (gr 148), some (gi s), some (gi u), some (gi t), some (gi v), some (gi n_), none]) (st' := [gi ((lg_cmp (((iI v).toInt64) + ((iI n_).toInt64)) ((iI (mi 173 t.toNat)).toInt64)).toInt)]) (M' := gw mi ml) rfl ?_
                    rw [show (lg_cmp (((iI v).toInt64) + ((iI n_).toInt64)) ((iI (mi 173 t.toNat)).toInt64)).toInt = cmpI (v + n_) (mi 173 t.toNat) from lg_cmpI (i64_add r_v r_n_) (i64_of (hR _ _))]
                    have hcm11 := cmpI_f (v + n_) (mi 173 t.toNat)
                    refine Go.run hsz hn1 0 (pc' := 111) (lv' := [some (gr 148), some (gi s), some (gi u), some (gi t), some (gi v), some (gi n_), none]) (st' := [gi (cmpI (v + n_) (mi 173 t.toNat))]) (M' := gw mi ml) rfl ?_
                    refine Go.if_le (by rfl) (cmpI_rng _ _) (fun kq12 => ?_) (fun kq12 => ?_)
                    · refine Go.run hsz hn1 2 (pc' := 123) (lv' := [some (gr 148), some (gi s), some (gi u), some (gi t), some (gi v), some (gi n_), some (gi 0)]) (st' := []) (M' := gw mi ml) rfl ?_
                      have h9 := lM_cp1 hsz (n := n) (by omega) mi ml s u t v n_ (by omega) (by omega) (by omega) (n_.toNat + 1) 0 (by omega) (by omega) (by omega)
                      rw [show mCp1 mi s u (0 : Int).toNat = mi from gcpy_0 _ _ _ _ _] at h9
                      refine Go.imp ?_ h9
                      rintro _ _ ⟨rfl, rfl⟩
                      exact Or.inr (Or.inr (Or.inr (Or.inr ⟨by omega, rfl, rfl⟩)))
                    · refine Go.run hsz hn1 2 (pc' := 116) (lv' := [some (gr 148), some (gi s), some (gi u), some (gi t), some (gi v), some (gi n_), none]) (st' := [gi 0, gr 148]) (M' := gw mi ml) rfl ?_
                      refine Go.callV (As := [gi 0]) (b := 148) (st := []) (mc1 := 0) (mc := 0) (ms1 := 0) (ms := 0) (by rfl) rfl (c := 11) (N := 46) (by rfl) (by decide) (by rfl) (gcn 154 (by decide)).1 (gcn 154 (by decide)).2 rfl (Nat.le_of_ble_eq_true rfl) (by omega) (cM_finds hsz (n := n - 1) (by omega) mi ml 0 (by decide) (by decide)) ?_
                      rintro _ _ ⟨rfl, rfl⟩
                      refine Go.run hsz hn1 0 (pc' := 119) (lv' := [some (gr 148), some (gi s), some (gi u), some (gi t), some (gi v), some (gi n_), none]) (st' := [gi (-1000001)]) (M' := gw (mFd mi 0) ml) rfl ?_
                      refine Go.iret (by rfl) ?_
                      first | (exact Or.inl ⟨by omega, rfl, rfl⟩) | (exact Or.inr (Or.inl ⟨by omega, rfl, rfl⟩)) | (exact Or.inr (Or.inr (Or.inl ⟨by omega, rfl, rfl⟩))) | (exact Or.inr (Or.inr (Or.inr (Or.inl ⟨by omega, rfl, rfl⟩)))) | (exact Or.inr (Or.inr (Or.inr (Or.inr (⟨by omega, rfl, rfl⟩)))))
          · refine Go.run hsz hn1 2 (pc' := 61) (lv' := [some (gr 148), some (gi s), some (gi u), some (gi t), some (gi v), some (gi n_), none]) (st' := [gi 2, gr 148]) (M' := gw mi ml) rfl ?_
            refine Go.callV (As := [gi 2]) (b := 148) (st := []) (mc1 := 0) (mc := 0) (ms1 := 0) (ms := 0) (by rfl) rfl (c := 11) (N := 46) (by rfl) (by decide) (by rfl) (gcn 154 (by decide)).1 (gcn 154 (by decide)).2 rfl (Nat.le_of_ble_eq_true rfl) (by omega) (cM_finds hsz (n := n - 1) (by omega) mi ml 2 (by decide) (by decide)) ?_
            rintro _ _ ⟨rfl, rfl⟩
            refine Go.run hsz hn1 0 (pc' := 64) (lv' := [some (gr 148), some (gi s), some (gi u), some (gi t), some (gi v), some (gi n_), none]) (st' := [gi (-1000003)]) (M' := gw (mFd mi 2) ml) rfl ?_
            refine Go.iret (by rfl) ?_
            first | (exact Or.inl ⟨by omega, rfl, rfl⟩) | (exact Or.inr (Or.inl ⟨by omega, rfl, rfl⟩)) | (exact Or.inr (Or.inr (Or.inl ⟨by omega, rfl, rfl⟩))) | (exact Or.inr (Or.inr (Or.inr (Or.inl ⟨by omega, rfl, rfl⟩)))) | (exact Or.inr (Or.inr (Or.inr (Or.inr (⟨by omega, rfl, rfl⟩)))))
        · refine Go.run hsz hn1 2 (pc' := 40) (lv' := [some (gr 148), some (gi s), some (gi u), some (gi t), some (gi v), some (gi n_), none]) (st' := [gi 5, gr 148]) (M' := gw mi ml) rfl ?_
          refine Go.callV (As := [gi 5]) (b := 148) (st := []) (mc1 := 0) (mc := 0) (ms1 := 0) (ms := 0) (by rfl) rfl (c := 11) (N := 46) (by rfl) (by decide) (by rfl) (gcn 154 (by decide)).1 (gcn 154 (by decide)).2 rfl (Nat.le_of_ble_eq_true rfl) (by omega) (cM_finds hsz (n := n - 1) (by omega) mi ml 5 (by decide) (by decide)) ?_
          rintro _ _ ⟨rfl, rfl⟩
          refine Go.run hsz hn1 0 (pc' := 43) (lv' := [some (gr 148), some (gi s), some (gi u), some (gi t), some (gi v), some (gi n_), none]) (st' := [gi (-1000006)]) (M' := gw (mFd mi 5) ml) rfl ?_
          refine Go.iret (by rfl) ?_
          first | (exact Or.inl ⟨by omega, rfl, rfl⟩) | (exact Or.inr (Or.inl ⟨by omega, rfl, rfl⟩)) | (exact Or.inr (Or.inr (Or.inl ⟨by omega, rfl, rfl⟩))) | (exact Or.inr (Or.inr (Or.inr (Or.inl ⟨by omega, rfl, rfl⟩)))) | (exact Or.inr (Or.inr (Or.inr (Or.inr (⟨by omega, rfl, rfl⟩)))))
    · replace kq2 := b2_neg kq2
      refine Go.run hsz hn1 2 (pc' := 16) (lv' := [some (gr 148), some (gi s), some (gi u), some (gi t), some (gi v), some (gi n_), none]) (st' := [gi 0, gr 148]) (M' := gw mi ml) rfl ?_
      refine Go.callV (As := [gi 0]) (b := 148) (st := []) (mc1 := 0) (mc := 0) (ms1 := 0) (ms := 0) (by rfl) rfl (c := 11) (N := 46) (by rfl) (by decide) (by rfl) (gcn 154 (by decide)).1 (gcn 154 (by decide)).2 rfl (Nat.le_of_ble_eq_true rfl) (by omega) (cM_finds hsz (n := n - 1) (by omega) mi ml 0 (by decide) (by decide)) ?_
      rintro _ _ ⟨rfl, rfl⟩
      refine Go.run hsz hn1 0 (pc' := 19) (lv' := [some (gr 148), some (gi s), some (gi u), some (gi t), some (gi v), some (gi n_), none]) (st' := [gi (-1000001)]) (M' := gw (mFd mi 0) ml) rfl ?_
      refine Go.iret (by rfl) ?_
      first | (exact Or.inl ⟨by omega, rfl, rfl⟩) | (exact Or.inr (Or.inl ⟨by omega, rfl, rfl⟩)) | (exact Or.inr (Or.inr (Or.inl ⟨by omega, rfl, rfl⟩))) | (exact Or.inr (Or.inr (Or.inr (Or.inl ⟨by omega, rfl, rfl⟩)))) | (exact Or.inr (Or.inr (Or.inr (Or.inr (⟨by omega, rfl, rfl⟩)))))

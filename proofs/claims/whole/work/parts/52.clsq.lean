def cWet (mi : Nat → Nat → Int) (a w : Int) : Int := b2 (¬ cHere mi a = 0 ∧ cP mi (cA mi a 8) 3 < w)
def cWetS (mi : Nat → Nat → Int) (w : Int) (k : Nat) : Int := gset1 (fun a => ¬ cWet mi a w = 0) k
def cTripS (mi : Nat → Nat → Int) (post : Int) (k : Nat) : Int := gset1 (fun h => mi 4 post.toNat < cLoad mi post h (mi 1 3).toNat) k
def cStat (mi : Nat → Nat → Int) (k : Nat) : Int := gfold (fun a acc => acc + mi 147 a.toNat) 0 k
theorem cLoad_b {mi : Nat → Nat → Int} (hv : CV mi) (post hour : Int) : ∀ k : Nat, (k : Int) ≤ mi 1 3 → 0 ≤ cLoad mi post hour k ∧ cLoad mi post hour k ≤ 40 * k
  | 0, _ => ⟨Int.le_refl 0, Int.le_refl 0⟩
  | k + 1, h => by
    have ih := cLoad_b hv post hour k (by omega)
    have hb := (hv.2.2.2.2.1 k (by omega) (by omega)).2.2.2.2.2.2.2.2.2.2.2.1
    have e : cLoad mi post hour (k + 1) = if ¬ andI (shrI (cA mi k 11) hour) 1 = 0 ∧ ¬ cHere mi k = 0 ∧ cP mi (cA mi k 8) 7 = post then cLoad mi post hour k + cA mi k 12 else cLoad mi post hour k := rfl
    rw [e]
    split <;> omega
theorem cLoad_rng {mi : Nat → Nat → Int} (hv : CV mi) (post hour : Int) : rng (cLoad mi post hour (mi 1 3).toNat) := by
  have h := hv.2.2.2.1
  have := cLoad_b hv post hour (mi 1 3).toNat (by omega)
  exact ⟨by omega, by omega⟩
set_option maxRecDepth 100000 in
set_option maxHeartbeats 4000000 in
theorem pC_repeal {G : gG} (hsz : G.2.2.2.2.2.2 = true) {n : Nat} (hn : 3 ≤ n) (mi : Nat → Nat → Int) (ml : Nat → Nat → Int64) (l : Int) (r_l : rng l) (hv : CV mi)  : gM G 120 n 0 0 [gr 0, gi l] (gw mi ml) (fun r M => gE ((0 ≤ l ∧ l ≤ 1) ∧ ¬ mi (48 + 3 * l.toNat) 0 = 0) (1) (gu mi (48 + 3 * l.toNat) 0 0) ml r M ∨ gE ((0 ≤ l ∧ l ≤ 1) ∧ mi (48 + 3 * l.toNat) 0 = 0) (0) (gu mi (48 + 3 * l.toNat) 0 0) ml r M ∨ gE (¬ (0 ≤ l ∧ l ≤ 1)) (-1000001) (cFd mi 0) ml r M) := by
  have hn1 : 1 ≤ n := by omega
  obtain ⟨hR, ht, hp, hq, hP, hQ⟩ := id hv
  refine gM.of mX11_repeal okX11_repeal (gcp 120 (by decide)).1 (gcp 120 (by decide)).2 (Nat.le_of_ble_eq_true rfl) ?_
  refine Go.run hsz hn1 3 (pc' := 3) (lv' := [some (gr 0), some (gi l), none]) (st' := [gi 1, gi 0, gi l]) (M' := gw mi ml) rfl ?_
  refine Go.callS (As := [gi l, gi 0, gi 1]) (st := []) (mc1 := 0) (mc := 0) (ms1 := 0) (ms := 0) (by rfl) rfl (gcn 150 (by decide)).1 (gcn 150 (by decide)).2 (Nat.le_of_ble_eq_true rfl) (by omega) (cC_isIn hsz (n := n - 1) (by omega) mi ml l 0 1 r_l ⟨by decide, by decide⟩ ⟨by decide, by decide⟩) ?_
  rintro _ _ ⟨rfl, rfl⟩
  refine Go.run hsz hn1 0 (pc' := 6) (lv' := [some (gr 0), some (gi l), none]) (st' := [gi (b2 (0 ≤ l ∧ l ≤ 1))]) (M' := gw mi ml) rfl ?_
  refine Go.if_ne (by rfl) (b2_rng _) (fun kq1 => ?_) (fun kq1 => ?_)
  · replace kq1 := b2_pos kq1
    refine Go.run hsz hn1 4 (pc' := 24) (lv' := [some (gr 0), some (gi l), none]) (st' := [gi l, gr 6]) (M' := gw mi ml) rfl ?_
    refine Go.aaldR 5 (by rfl) (N := 2) (by rfl) ⟨by decide, by decide⟩ (by omega) (by omega) (by decide) (gMR_6 (by omega) (by omega)) ?_
    refine Go.run hsz hn1 0 (pc' := 25) (lv' := [some (gr 0), some (gi l), none]) (st' := [gr (48 + 3 * l.toNat)]) (M' := gw mi ml) rfl ?_
    refine Go.getf (by rfl) (c := 1) (N := 4) (shL (i := l) (by omega)) ?_
    refine Go.run hsz hn1 5 (pc' := 37) (lv' := [some (gr 0), some (gi l), some (gi (mi (48 + 3 * l.toNat) 0))]) (st' := [gi l, gr 6]) (M' := gw mi ml) rfl ?_
    refine Go.aaldR 5 (by rfl) (N := 2) (by rfl) ⟨by decide, by decide⟩ (by omega) (by omega) (by decide) (gMR_6 (by omega) (by omega)) ?_
    refine Go.run hsz hn1 1 (pc' := 39) (lv' := [some (gr 0), some (gi l), some (gi (mi (48 + 3 * l.toNat) 0))]) (st' := [gi 0, gr (48 + 3 * l.toNat)]) (M' := gw mi ml) rfl ?_
    refine Go.putZ (by rfl) (c := 1) (N := 4) (shL (i := l) (by omega)) (by rfl) (Or.inl rfl) ?_
    refine Go.run hsz hn1 1 (pc' := 43) (lv' := [some (gr 0), some (gi l), some (gi (mi (48 + 3 * l.toNat) 0))]) (st' := [gi (mi (48 + 3 * l.toNat) 0)]) (M' := gw (gu mi (48 + 3 * l.toNat) 0 0) ml) rfl ?_
    refine Go.if_eq (by rfl) (hR _ _) (fun kq2 => ?_) (fun kq2 => ?_)
    · refine Go.run hsz hn1 1 (pc' := 51) (lv' := [some (gr 0), some (gi l), some (gi (mi (48 + 3 * l.toNat) 0))]) (st' := [gi 0]) (M' := gw (gu mi (48 + 3 * l.toNat) 0 0) ml) rfl ?_
      refine Go.iret (by rfl) ?_
      first | (exact Or.inl ⟨by omega, rfl, rfl⟩) | (exact Or.inr (Or.inl ⟨by omega, rfl, rfl⟩)) | (exact Or.inr (Or.inr (⟨by omega, rfl, rfl⟩)))
    · refine Go.run hsz hn1 2 (pc' := 51) (lv' := [some (gr 0), some (gi l), some (gi (mi (48 + 3 * l.toNat) 0))]) (st' := [gi 1]) (M' := gw (gu mi (48 + 3 * l.toNat) 0 0) ml) rfl ?_
      refine Go.iret (by rfl) ?_
      first | (exact Or.inl ⟨by omega, rfl, rfl⟩) | (exact Or.inr (Or.inl ⟨by omega, rfl, rfl⟩)) | (exact Or.inr (Or.inr (⟨by omega, rfl, rfl⟩)))
  · replace kq1 := b2_neg kq1
    refine Go.run hsz hn1 2 (pc' := 12) (lv' := [some (gr 0), some (gi l), none]) (st' := [gi (-1000001), gr 0]) (M' := gw mi ml) rfl ?_
    refine Go.callV (As := [gi (-1000001)]) (b := 0) (st := []) (mc1 := 0) (mc := 0) (ms1 := 0) (ms := 0) (by rfl) rfl (c := 10) (N := 9) (by rfl) (by decide) (by rfl) (gcn 147 (by decide)).1 (gcn 147 (by decide)).2 rfl (Nat.le_of_ble_eq_true rfl) (by omega) (cC_finding hsz (n := n - 1) (by omega) mi ml (-1000001) (by decide) (by decide)) ?_
    rintro _ _ ⟨rfl, rfl⟩
    refine Go.run hsz hn1 0 (pc' := 15) (lv' := [some (gr 0), some (gi l), none]) (st' := [gi (-1000001)]) (M' := gw (cFd mi 0) ml) rfl ?_
    refine Go.iret (by rfl) ?_
    first | (exact Or.inl ⟨by omega, rfl, rfl⟩) | (exact Or.inr (Or.inl ⟨by omega, rfl, rfl⟩)) | (exact Or.inr (Or.inr (⟨by omega, rfl, rfl⟩)))
set_option maxRecDepth 100000 in
set_option maxHeartbeats 4000000 in
theorem pC_stars {G : gG} (hsz : G.2.2.2.2.2.2 = true) {n : Nat} (hn : 3 ≤ n) (mi : Nat → Nat → Int) (ml : Nat → Nat → Int64) (p : Int) (r_p : rng p) (hv : CV mi) (hs : ∀ p : Int, 0 ≤ p → p < mi 1 2 → (0 ≤ cP mi p 8 ∧ cP mi p 8 ≤ 100) ∧ (0 ≤ cP mi p 9 ∧ cP mi p 9 ≤ 500)) : gM G 125 n 0 0 [gr 0, gi p] (gw mi ml) (fun r M => gE (¬ (0 ≤ p ∧ p < mi 1 2)) (-1000001) (cFd mi 0) ml r M ∨ gE ((0 ≤ p ∧ p < mi 1 2) ∧ cP mi p 8 = 0) (-1000004) (cFd mi 3) ml r M ∨ gE ((0 ≤ p ∧ p < mi 1 2) ∧ ¬ cP mi p 8 = 0) ((100 * cP mi p 9).tdiv (cP mi p 8)) (mi) ml r M) := by
  have hn1 : 1 ≤ n := by omega
  obtain ⟨hR, ht, hp, hq, hP, hQ⟩ := id hv
  refine gM.of mX11_stars okX11_stars (gcp 125 (by decide)).1 (gcp 125 (by decide)).2 (Nat.le_of_ble_eq_true rfl) ?_
  refine Go.run hsz hn1 3 (pc' := 5) (lv' := [some (gr 0), some (gi p), none]) (st' := [gi p, gr 1]) (M' := gw mi ml) rfl ?_
  refine Go.callV (As := [gi p]) (b := 1) (st := []) (mc1 := 0) (mc := 0) (ms1 := 0) (ms := 0) (by rfl) rfl (c := 7) (N := 11) (by rfl) (by decide) (by rfl) (gcn 59 (by decide)).1 (gcn 59 (by decide)).2 rfl (Nat.le_of_ble_eq_true rfl) (by omega) (cS_isPitch hsz (n := n - 1) (by omega) mi ml p r_p hR) ?_
  rintro _ _ ⟨rfl, rfl⟩
  refine Go.run hsz hn1 0 (pc' := 8) (lv' := [some (gr 0), some (gi p), none]) (st' := [gi (b2 (0 ≤ p ∧ p < mi 1 2))]) (M' := gw mi ml) rfl ?_
  refine Go.if_ne (by rfl) (b2_rng _) (fun kq1 => ?_) (fun kq1 => ?_)
  · replace kq1 := b2_pos kq1
    refine Go.run hsz hn1 4 (pc' := 26) (lv' := [some (gr 0), some (gi p), none]) (st' := [gi p, gr 2]) (M' := gw mi ml) rfl ?_
    refine Go.aaldR 3 (by rfl) (N := 12) (by rfl) ⟨by decide, by decide⟩ (by omega) (by omega) (by decide) (gMR_2 (by omega) (by omega)) ?_
    refine Go.run hsz hn1 2 (pc' := 29) (lv' := [some (gr 0), some (gi p), some (gr (12 + p.toNat))]) (st' := [gr (12 + p.toNat)]) (M' := gw mi ml) rfl ?_
    refine Go.getf (by rfl) (c := 3) (N := 10) (shP (i := p) (by omega)) ?_
    refine Go.run hsz hn1 0 (pc' := 32) (lv' := [some (gr 0), some (gi p), some (gr (12 + p.toNat))]) (st' := [gi (cP mi p 8)]) (M' := gw mi ml) rfl ?_
    refine Go.if_ne (by rfl) (hR _ _) (fun kq2 => ?_) (fun kq2 => ?_)
    · refine Go.run hsz hn1 2 (pc' := 45) (lv' := [some (gr 0), some (gi p), some (gr (12 + p.toNat))]) (st' := [gr (12 + p.toNat), gi 100]) (M' := gw mi ml) rfl ?_
      refine Go.getf (by rfl) (c := 3) (N := 10) (shP (i := p) (by omega)) ?_
      refine Go.run hsz hn1 2 (pc' := 50) (lv' := [some (gr 0), some (gi p), some (gr (12 + p.toNat))]) (st' := [gr (12 + p.toNat), gi (100 * (cP mi p 9))]) (M' := gw mi ml) rfl ?_
      refine Go.getf (by rfl) (c := 3) (N := 10) (shP (i := p) (by omega)) ?_
      refine Go.run hsz hn1 0 (pc' := 53) (lv' := [some (gr 0), some (gi p), some (gr (12 + p.toNat))]) (st' := [gi (cP mi p 8), gi (100 * (cP mi p 9))]) (M' := gw mi ml) rfl ?_
      refine Go.idiv (by rfl) (by have := hs p (by omega) (by omega); exact ⟨by omega, by omega⟩) (hR _ _) (by omega) (rng_tdiv (by have := hs p (by omega) (by omega); exact ⟨by omega, by omega⟩) (by have := hs p (by omega) (by omega); omega)) ?_
      refine Go.iret (by rfl) ?_
      first | (exact Or.inl ⟨by omega, rfl, rfl⟩) | (exact Or.inr (Or.inl ⟨by omega, rfl, rfl⟩)) | (exact Or.inr (Or.inr (⟨by omega, rfl, rfl⟩)))
    · refine Go.run hsz hn1 2 (pc' := 38) (lv' := [some (gr 0), some (gi p), some (gr (12 + p.toNat))]) (st' := [gi (-1000004), gr 0]) (M' := gw mi ml) rfl ?_
      refine Go.callV (As := [gi (-1000004)]) (b := 0) (st := []) (mc1 := 0) (mc := 0) (ms1 := 0) (ms := 0) (by rfl) rfl (c := 10) (N := 9) (by rfl) (by decide) (by rfl) (gcn 147 (by decide)).1 (gcn 147 (by decide)).2 rfl (Nat.le_of_ble_eq_true rfl) (by omega) (cC_finding hsz (n := n - 1) (by omega) mi ml (-1000004) (by decide) (by decide)) ?_
      rintro _ _ ⟨rfl, rfl⟩
      refine Go.run hsz hn1 0 (pc' := 41) (lv' := [some (gr 0), some (gi p), some (gr (12 + p.toNat))]) (st' := [gi (-1000004)]) (M' := gw (cFd mi 3) ml) rfl ?_
      refine Go.iret (by rfl) ?_
      first | (exact Or.inl ⟨by omega, rfl, rfl⟩) | (exact Or.inr (Or.inl ⟨by omega, rfl, rfl⟩)) | (exact Or.inr (Or.inr (⟨by omega, rfl, rfl⟩)))
  · replace kq1 := b2_neg kq1
    refine Go.run hsz hn1 2 (pc' := 14) (lv' := [some (gr 0), some (gi p), none]) (st' := [gi (-1000001), gr 0]) (M' := gw mi ml) rfl ?_
    refine Go.callV (As := [gi (-1000001)]) (b := 0) (st := []) (mc1 := 0) (mc := 0) (ms1 := 0) (ms := 0) (by rfl) rfl (c := 10) (N := 9) (by rfl) (by decide) (by rfl) (gcn 147 (by decide)).1 (gcn 147 (by decide)).2 rfl (Nat.le_of_ble_eq_true rfl) (by omega) (cC_finding hsz (n := n - 1) (by omega) mi ml (-1000001) (by decide) (by decide)) ?_
    rintro _ _ ⟨rfl, rfl⟩
    refine Go.run hsz hn1 0 (pc' := 17) (lv' := [some (gr 0), some (gi p), none]) (st' := [gi (-1000001)]) (M' := gw (cFd mi 0) ml) rfl ?_
    refine Go.iret (by rfl) ?_
    first | (exact Or.inl ⟨by omega, rfl, rfl⟩) | (exact Or.inr (Or.inl ⟨by omega, rfl, rfl⟩)) | (exact Or.inr (Or.inr (⟨by omega, rfl, rfl⟩)))
set_option maxRecDepth 100000 in
set_option maxHeartbeats 4000000 in
theorem pC_review {G : gG} (hsz : G.2.2.2.2.2.2 = true) {n : Nat} (hn : 3 ≤ n) (mi : Nat → Nat → Int) (ml : Nat → Nat → Int64) (a v : Int) (r_a : rng a) (r_v : rng v) (hv : CV mi)  : gM G 124 n 0 0 [gr 0, gi a, gi v] (gw mi ml) (fun r M => gE (¬ ((0 ≤ a ∧ a < mi 1 3) ∧ (1 ≤ v ∧ v ≤ 5))) (-1000001) (cFd mi 0) ml r M ∨ gE ((0 ≤ a ∧ a < mi 1 3) ∧ (1 ≤ v ∧ v ≤ 5) ∧ (cA mi a 8 < 0 ∨ mi 1 0 ≤ cA mi a 4 + cA mi a 5 - 1 ∨ ¬ cA mi a 13 = 0)) (-1000005) (cFd mi 4) ml r M ∨ gE ((0 ≤ a ∧ a < mi 1 3) ∧ (1 ≤ v ∧ v ≤ 5) ∧ ¬ (cA mi a 8 < 0 ∨ mi 1 0 ≤ cA mi a 4 + cA mi a 5 - 1 ∨ ¬ cA mi a 13 = 0)) (cP mi (cA mi a 8) 8 + 1) (gu (gu (gu mi (24 + a.toNat) 13 1) (12 + (cA mi a 8).toNat) 8 (cP mi (cA mi a 8) 8 + 1)) (12 + (cA mi a 8).toNat) 9 (cP mi (cA mi a 8) 9 + v)) ml r M) := by
  have hn1 : 1 ≤ n := by omega
  obtain ⟨hR, ht, hp, hq, hP, hQ⟩ := id hv
  refine gM.of mX11_review okX11_review (gcp 124 (by decide)).1 (gcp 124 (by decide)).2 (Nat.le_of_ble_eq_true rfl) ?_
  refine Go.run hsz hn1 3 (pc' := 5) (lv' := [some (gr 0), some (gi a), some (gi v), none, none]) (st' := [gi a, gr 1]) (M' := gw mi ml) rfl ?_
  refine Go.callV (As := [gi a]) (b := 1) (st := []) (mc1 := 0) (mc := 0) (ms1 := 0) (ms := 0) (by rfl) rfl (c := 7) (N := 11) (by rfl) (by decide) (by rfl) (gcn 60 (by decide)).1 (gcn 60 (by decide)).2 rfl (Nat.le_of_ble_eq_true rfl) (by omega) (cS_isParty hsz (n := n - 1) (by omega) mi ml a r_a hR) ?_
  rintro _ _ ⟨rfl, rfl⟩
  refine Go.run hsz hn1 0 (pc' := 8) (lv' := [some (gr 0), some (gi a), some (gi v), none, none]) (st' := [gi (b2 (0 ≤ a ∧ a < mi 1 3))]) (M' := gw mi ml) rfl ?_
  refine Go.if_eq (by rfl) (b2_rng _) (fun kq1 => ?_) (fun kq1 => ?_)
  · replace kq1 := b2_neg kq1
    refine Go.run hsz hn1 2 (pc' := 23) (lv' := [some (gr 0), some (gi a), some (gi v), none, none]) (st' := [gi (-1000001), gr 0]) (M' := gw mi ml) rfl ?_
    refine Go.callV (As := [gi (-1000001)]) (b := 0) (st := []) (mc1 := 0) (mc := 0) (ms1 := 0) (ms := 0) (by rfl) rfl (c := 10) (N := 9) (by rfl) (by decide) (by rfl) (gcn 147 (by decide)).1 (gcn 147 (by decide)).2 rfl (Nat.le_of_ble_eq_true rfl) (by omega) (cC_finding hsz (n := n - 1) (by omega) mi ml (-1000001) (by decide) (by decide)) ?_
    rintro _ _ ⟨rfl, rfl⟩
    refine Go.run hsz hn1 0 (pc' := 26) (lv' := [some (gr 0), some (gi a), some (gi v), none, none]) (st' := [gi (-1000001)]) (M' := gw (cFd mi 0) ml) rfl ?_
    refine Go.iret (by rfl) ?_
    first | (exact Or.inl ⟨by omega, rfl, rfl⟩) | (exact Or.inr (Or.inl ⟨by omega, rfl, rfl⟩)) | (exact Or.inr (Or.inr (⟨by omega, rfl, rfl⟩)))
  · replace kq1 := b2_pos kq1
    refine Go.run hsz hn1 3 (pc' := 14) (lv' := [some (gr 0), some (gi a), some (gi v), none, none]) (st' := [gi 5, gi 1, gi v]) (M' := gw mi ml) rfl ?_
    refine Go.callS (As := [gi v, gi 1, gi 5]) (st := []) (mc1 := 0) (mc := 0) (ms1 := 0) (ms := 0) (by rfl) rfl (gcn 150 (by decide)).1 (gcn 150 (by decide)).2 (Nat.le_of_ble_eq_true rfl) (by omega) (cC_isIn hsz (n := n - 1) (by omega) mi ml v 1 5 r_v ⟨by decide, by decide⟩ ⟨by decide, by decide⟩) ?_
    rintro _ _ ⟨rfl, rfl⟩
    refine Go.run hsz hn1 0 (pc' := 17) (lv' := [some (gr 0), some (gi a), some (gi v), none, none]) (st' := [gi (b2 (1 ≤ v ∧ v ≤ 5))]) (M' := gw mi ml) rfl ?_
    refine Go.if_ne (by rfl) (b2_rng _) (fun kq2 => ?_) (fun kq2 => ?_)
    · replace kq2 := b2_pos kq2
      refine Go.run hsz hn1 4 (pc' := 35) (lv' := [some (gr 0), some (gi a), some (gi v), none, none]) (st' := [gi a, gr 3]) (M' := gw mi ml) rfl ?_
      refine Go.aaldR 4 (by rfl) (N := 24) (by rfl) ⟨by decide, by decide⟩ (by omega) (by omega) (by decide) (gMR_3 (by omega) (by omega)) ?_
      refine Go.run hsz hn1 4 (pc' := 42) (lv' := [some (gr 0), some (gi a), some (gi v), some (gr (24 + a.toNat)), none]) (st' := [gi a, gr 1]) (M' := gw mi ml) rfl ?_
      refine Go.callV (As := [gi a]) (b := 1) (st := []) (mc1 := 0) (mc := 0) (ms1 := 0) (ms := 0) (by rfl) rfl (c := 7) (N := 11) (by rfl) (by decide) (by rfl) (gcn 62 (by decide)).1 (gcn 62 (by decide)).2 rfl (Nat.le_of_ble_eq_true rfl) (by omega) (cS_isOn hsz (n := n - 1) (by omega) mi ml a (by omega) (by omega) hR) ?_
      rintro _ _ ⟨rfl, rfl⟩
      refine Go.run hsz hn1 0 (pc' := 45) (lv' := [some (gr 0), some (gi a), some (gi v), some (gr (24 + a.toNat)), none]) (st' := [gi (b2 (0 ≤ cA mi a 8))]) (M' := gw mi ml) rfl ?_
      refine Go.if_eq (by rfl) (b2_rng _) (fun kq3 => ?_) (fun kq3 => ?_)
      · replace kq3 := b2_neg kq3
        refine Go.run hsz hn1 2 (pc' := 72) (lv' := [some (gr 0), some (gi a), some (gi v), some (gr (24 + a.toNat)), none]) (st' := [gi (-1000005), gr 0]) (M' := gw mi ml) rfl ?_
        refine Go.callV (As := [gi (-1000005)]) (b := 0) (st := []) (mc1 := 0) (mc := 0) (ms1 := 0) (ms := 0) (by rfl) rfl (c := 10) (N := 9) (by rfl) (by decide) (by rfl) (gcn 147 (by decide)).1 (gcn 147 (by decide)).2 rfl (Nat.le_of_ble_eq_true rfl) (by omega) (cC_finding hsz (n := n - 1) (by omega) mi ml (-1000005) (by decide) (by decide)) ?_
        rintro _ _ ⟨rfl, rfl⟩
        refine Go.run hsz hn1 0 (pc' := 75) (lv' := [some (gr 0), some (gi a), some (gi v), some (gr (24 + a.toNat)), none]) (st' := [gi (-1000005)]) (M' := gw (cFd mi 4) ml) rfl ?_
        refine Go.iret (by rfl) ?_
        first | (exact Or.inl ⟨by omega, rfl, rfl⟩) | (exact Or.inr (Or.inl ⟨by omega, rfl, rfl⟩)) | (exact Or.inr (Or.inr (⟨by omega, rfl, rfl⟩)))
      · replace kq3 := b2_pos kq3
        refine Go.run hsz hn1 1 (pc' := 49) (lv' := [some (gr 0), some (gi a), some (gi v), some (gr (24 + a.toNat)), none]) (st' := [gr (24 + a.toNat)]) (M' := gw mi ml) rfl ?_
        refine Go.callV (As := []) (b := 24 + a.toNat) (st := []) (mc1 := 0) (mc := 0) (ms1 := 0) (ms := 0) (by rfl) rfl (c := 2) (N := 14) (shA (i := a) (by omega)) (by decide) (by rfl) (gcn 24 (by decide)).1 (gcn 24 (by decide)).2 rfl (Nat.le_of_ble_eq_true rfl) (by omega) (cPa_last hsz (n := n - 1) (by omega) mi ml a (by omega) (by omega)) ?_
        rintro _ _ ⟨rfl, rfl⟩
        refine Go.run hsz hn1 3 (pc' := 59) (lv' := [some (gr 0), some (gi a), some (gi v), some (gr (24 + a.toNat)), none]) (st' := [gi (mi 1 0), gi (cA mi a 4 + cA mi a 5 - 1)]) (M' := gw mi ml) rfl ?_
        refine Go.icmp_ge (by rfl) (by have := hP a (by omega) (by omega); unfold CPV at this; exact ⟨by omega, by omega⟩) (hR _ _) (fun kq4 => ?_) (fun kq4 => ?_)
        · refine Go.run hsz hn1 2 (pc' := 72) (lv' := [some (gr 0), some (gi a), some (gi v), some (gr (24 + a.toNat)), none]) (st' := [gi (-1000005), gr 0]) (M' := gw mi ml) rfl ?_
          refine Go.callV (As := [gi (-1000005)]) (b := 0) (st := []) (mc1 := 0) (mc := 0) (ms1 := 0) (ms := 0) (by rfl) rfl (c := 10) (N := 9) (by rfl) (by decide) (by rfl) (gcn 147 (by decide)).1 (gcn 147 (by decide)).2 rfl (Nat.le_of_ble_eq_true rfl) (by omega) (cC_finding hsz (n := n - 1) (by omega) mi ml (-1000005) (by decide) (by decide)) ?_
          rintro _ _ ⟨rfl, rfl⟩
          refine Go.run hsz hn1 0 (pc' := 75) (lv' := [some (gr 0), some (gi a), some (gi v), some (gr (24 + a.toNat)), none]) (st' := [gi (-1000005)]) (M' := gw (cFd mi 4) ml) rfl ?_
          refine Go.iret (by rfl) ?_
          first | (exact Or.inl ⟨by omega, rfl, rfl⟩) | (exact Or.inr (Or.inl ⟨by omega, rfl, rfl⟩)) | (exact Or.inr (Or.inr (⟨by omega, rfl, rfl⟩)))
        · refine Go.run hsz hn1 1 (pc' := 63) (lv' := [some (gr 0), some (gi a), some (gi v), some (gr (24 + a.toNat)), none]) (st' := [gr (24 + a.toNat)]) (M' := gw mi ml) rfl ?_
          refine Go.getf (by rfl) (c := 2) (N := 14) (shA (i := a) (by omega)) ?_
          refine Go.run hsz hn1 0 (pc' := 66) (lv' := [some (gr 0), some (gi a), some (gi v), some (gr (24 + a.toNat)), none]) (st' := [gi (cA mi a 13)]) (M' := gw mi ml) rfl ?_
          refine Go.if_eq (by rfl) (hR _ _) (fun kq5 => ?_) (fun kq5 => ?_)
          · refine Go.run hsz hn1 2 (pc' := 78) (lv' := [some (gr 0), some (gi a), some (gi v), some (gr (24 + a.toNat)), none]) (st' := [gi 1, gr (24 + a.toNat)]) (M' := gw mi ml) rfl ?_
            refine Go.putZ (by rfl) (c := 2) (N := 14) (shA (i := a) (by omega)) (by rfl) (Or.inr rfl) ?_
            refine Go.run hsz hn1 4 (pc' := 89) (lv' := [some (gr 0), some (gi a), some (gi v), some (gr (24 + a.toNat)), none]) (st' := [gr (24 + a.toNat), gr 2]) (M' := gw (gu mi (24 + a.toNat) 13 1) ml) rfl ?_
            refine Go.getf (by rfl) (c := 2) (N := 14) (shA (i := a) (by omega)) ?_
            refine Go.run hsz hn1 0 (pc' := 92) (lv' := [some (gr 0), some (gi a), some (gi v), some (gr (24 + a.toNat)), none]) (st' := [gi ((gu mi (24 + a.toNat) 13 1) (24 + a.toNat) 8), gr 2]) (M' := gw (gu mi (24 + a.toNat) 13 1) ml) rfl ?_
            rw [show (gu mi (24 + a.toNat) 13 1) (24 + a.toNat) 8 = mi (24 + a.toNat) 8 from gu_ne (Or.inr (by decide))]
            refine Go.run hsz hn1 0 (pc' := 92) (lv' := [some (gr 0), some (gi a), some (gi v), some (gr (24 + a.toNat)), none]) (st' := [gi (cA mi a 8), gr 2]) (M' := gw (gu mi (24 + a.toNat) 13 1) ml) rfl ?_
            refine Go.aaldR 3 (by rfl) (N := 12) (by rfl) ⟨by decide, by decide⟩ (by have := (hP a (by omega) (by omega)).2.2.2.2.2.2.2.1; omega) (by have := (hP a (by omega) (by omega)).2.2.2.2.2.2.2.1; omega) (by decide) (gMR_2 (by have := (hP a (by omega) (by omega)).2.2.2.2.2.2.2.1; omega) (by have := (hP a (by omega) (by omega)).2.2.2.2.2.2.2.1; omega)) ?_
            refine Go.run hsz hn1 3 (pc' := 98) (lv' := [some (gr 0), some (gi a), some (gi v), some (gr (24 + a.toNat)), some (gr (12 + (cA mi a 8).toNat))]) (st' := [gr (12 + (cA mi a 8).toNat), gr (12 + (cA mi a 8).toNat)]) (M' := gw (gu mi (24 + a.toNat) 13 1) ml) rfl ?_
            refine Go.getf (by rfl) (c := 3) (N := 10) (shP (i := cA mi a 8) (by have := (hP a (by omega) (by omega)).2.2.2.2.2.2.2.1; omega)) ?_
            refine Go.run hsz hn1 0 (pc' := 101) (lv' := [some (gr 0), some (gi a), some (gi v), some (gr (24 + a.toNat)), some (gr (12 + (cA mi a 8).toNat))]) (st' := [gi ((gu mi (24 + a.toNat) 13 1) (12 + (cA mi a 8).toNat) 8), gr (12 + (cA mi a 8).toNat)]) (M' := gw (gu mi (24 + a.toNat) 13 1) ml) rfl ?_
            rw [show (gu mi (24 + a.toNat) 13 1) (12 + (cA mi a 8).toNat) 8 = mi (12 + (cA mi a 8).toNat) 8 from gu_ne (Or.inr (by decide))]
            refine Go.run hsz hn1 2 (pc' := 103) (lv' := [some (gr 0), some (gi a), some (gi v), some (gr (24 + a.toNat)), some (gr (12 + (cA mi a 8).toNat))]) (st' := [gi ((cP mi (cA mi a 8) 8) + 1), gr (12 + (cA mi a 8).toNat)]) (M' := gw (gu mi (24 + a.toNat) 13 1) ml) rfl ?_
            refine Go.putI (by rfl) (c := 3) (N := 10) (shP (i := cA mi a 8) (by have := (hP a (by omega) (by omega)).2.2.2.2.2.2.2.1; omega)) (by rfl) ?_
            refine Go.run hsz hn1 2 (pc' := 109) (lv' := [some (gr 0), some (gi a), some (gi v), some (gr (24 + a.toNat)), some (gr (12 + (cA mi a 8).toNat))]) (st' := [gr (12 + (cA mi a 8).toNat), gr (12 + (cA mi a 8).toNat)]) (M' := gw (gu (gu mi (24 + a.toNat) 13 1) (12 + (cA mi a 8).toNat) 8 ((cP mi (cA mi a 8) 8) + 1)) ml) rfl ?_
            refine Go.getf (by rfl) (c := 3) (N := 10) (shP (i := cA mi a 8) (by have := (hP a (by omega) (by omega)).2.2.2.2.2.2.2.1; omega)) ?_
            refine Go.run hsz hn1 0 (pc' := 112) (lv' := [some (gr 0), some (gi a), some (gi v), some (gr (24 + a.toNat)), some (gr (12 + (cA mi a 8).toNat))]) (st' := [gi ((gu (gu mi (24 + a.toNat) 13 1) (12 + (cA mi a 8).toNat) 8 ((cP mi (cA mi a 8) 8) + 1)) (12 + (cA mi a 8).toNat) 9), gr (12 + (cA mi a 8).toNat)]) (M' := gw (gu (gu mi (24 + a.toNat) 13 1) (12 + (cA mi a 8).toNat) 8 ((cP mi (cA mi a 8) 8) + 1)) ml) rfl ?_
            rw [show (gu (gu mi (24 + a.toNat) 13 1) (12 + (cA mi a 8).toNat) 8 ((cP mi (cA mi a 8) 8) + 1)) (12 + (cA mi a 8).toNat) 9 = mi (12 + (cA mi a 8).toNat) 9 from (gu_ne (Or.inr (by decide))).trans (gu_ne (Or.inr (by decide)))]
            refine Go.run hsz hn1 2 (pc' := 114) (lv' := [some (gr 0), some (gi a), some (gi v), some (gr (24 + a.toNat)), some (gr (12 + (cA mi a 8).toNat))]) (st' := [gi ((cP mi (cA mi a 8) 9) + v), gr (12 + (cA mi a 8).toNat)]) (M' := gw (gu (gu mi (24 + a.toNat) 13 1) (12 + (cA mi a 8).toNat) 8 ((cP mi (cA mi a 8) 8) + 1)) ml) rfl ?_
            refine Go.putI (by rfl) (c := 3) (N := 10) (shP (i := cA mi a 8) (by have := (hP a (by omega) (by omega)).2.2.2.2.2.2.2.1; omega)) (by rfl) ?_
            refine Go.run hsz hn1 1 (pc' := 119) (lv' := [some (gr 0), some (gi a), some (gi v), some (gr (24 + a.toNat)), some (gr (12 + (cA mi a 8).toNat))]) (st' := [gr (12 + (cA mi a 8).toNat)]) (M' := gw (gu (gu (gu mi (24 + a.toNat) 13 1) (12 + (cA mi a 8).toNat) 8 ((cP mi (cA mi a 8) 8) + 1)) (12 + (cA mi a 8).toNat) 9 ((cP mi (cA mi a 8) 9) + v)) ml) rfl ?_
            refine Go.getf (by rfl) (c := 3) (N := 10) (shP (i := cA mi a 8) (by have := (hP a (by omega) (by omega)).2.2.2.2.2.2.2.1; omega)) ?_
            refine Go.run hsz hn1 0 (pc' := 122) (lv' := [some (gr 0), some (gi a), some (gi v), some (gr (24 + a.toNat)), some (gr (12 + (cA mi a 8).toNat))]) (st' := [gi ((gu (gu (gu mi (24 + a.toNat) 13 1) (12 + (cA mi a 8).toNat) 8 ((cP mi (cA mi a 8) 8) + 1)) (12 + (cA mi a 8).toNat) 9 ((cP mi (cA mi a 8) 9) + v)) (12 + (cA mi a 8).toNat) 8)]) (M' := gw (gu (gu (gu mi (24 + a.toNat) 13 1) (12 + (cA mi a 8).toNat) 8 ((cP mi (cA mi a 8) 8) + 1)) (12 + (cA mi a 8).toNat) 9 ((cP mi (cA mi a 8) 9) + v)) ml) rfl ?_
            rw [show (gu (gu (gu mi (24 + a.toNat) 13 1) (12 + (cA mi a 8).toNat) 8 ((cP mi (cA mi a 8) 8) + 1)) (12 + (cA mi a 8).toNat) 9 ((cP mi (cA mi a 8) 9) + v)) (12 + (cA mi a 8).toNat) 8 = (cP mi (cA mi a 8) 8) + 1 from (gu_ne (Or.inr (by decide))).trans (gu_self _ _ _ _)]
            refine Go.run hsz hn1 0 (pc' := 122) (lv' := [some (gr 0), some (gi a), some (gi v), some (gr (24 + a.toNat)), some (gr (12 + (cA mi a 8).toNat))]) (st' := [gi ((cP mi (cA mi a 8) 8) + 1)]) (M' := gw (gu (gu (gu mi (24 + a.toNat) 13 1) (12 + (cA mi a 8).toNat) 8 ((cP mi (cA mi a 8) 8) + 1)) (12 + (cA mi a 8).toNat) 9 ((cP mi (cA mi a 8) 9) + v)) ml) rfl ?_
            refine Go.iret (by rfl) ?_
            first | (exact Or.inl ⟨by omega, rfl, rfl⟩) | (exact Or.inr (Or.inl ⟨by omega, rfl, rfl⟩)) | (exact Or.inr (Or.inr (⟨by omega, rfl, rfl⟩)))
          · refine Go.run hsz hn1 2 (pc' := 72) (lv' := [some (gr 0), some (gi a), some (gi v), some (gr (24 + a.toNat)), none]) (st' := [gi (-1000005), gr 0]) (M' := gw mi ml) rfl ?_
            refine Go.callV (As := [gi (-1000005)]) (b := 0) (st := []) (mc1 := 0) (mc := 0) (ms1 := 0) (ms := 0) (by rfl) rfl (c := 10) (N := 9) (by rfl) (by decide) (by rfl) (gcn 147 (by decide)).1 (gcn 147 (by decide)).2 rfl (Nat.le_of_ble_eq_true rfl) (by omega) (cC_finding hsz (n := n - 1) (by omega) mi ml (-1000005) (by decide) (by decide)) ?_
            rintro _ _ ⟨rfl, rfl⟩
            refine Go.run hsz hn1 0 (pc' := 75) (lv' := [some (gr 0), some (gi a), some (gi v), some (gr (24 + a.toNat)), none]) (st' := [gi (-1000005)]) (M' := gw (cFd mi 4) ml) rfl ?_
            refine Go.iret (by rfl) ?_
            first | (exact Or.inl ⟨by omega, rfl, rfl⟩) | (exact Or.inr (Or.inl ⟨by omega, rfl, rfl⟩)) | (exact Or.inr (Or.inr (⟨by omega, rfl, rfl⟩)))
    · replace kq2 := b2_neg kq2
      refine Go.run hsz hn1 2 (pc' := 23) (lv' := [some (gr 0), some (gi a), some (gi v), none, none]) (st' := [gi (-1000001), gr 0]) (M' := gw mi ml) rfl ?_
      refine Go.callV (As := [gi (-1000001)]) (b := 0) (st := []) (mc1 := 0) (mc := 0) (ms1 := 0) (ms := 0) (by rfl) rfl (c := 10) (N := 9) (by rfl) (by decide) (by rfl) (gcn 147 (by decide)).1 (gcn 147 (by decide)).2 rfl (Nat.le_of_ble_eq_true rfl) (by omega) (cC_finding hsz (n := n - 1) (by omega) mi ml (-1000001) (by decide) (by decide)) ?_
      rintro _ _ ⟨rfl, rfl⟩
      refine Go.run hsz hn1 0 (pc' := 26) (lv' := [some (gr 0), some (gi a), some (gi v), none, none]) (st' := [gi (-1000001)]) (M' := gw (cFd mi 0) ml) rfl ?_
      refine Go.iret (by rfl) ?_
      first | (exact Or.inl ⟨by omega, rfl, rfl⟩) | (exact Or.inr (Or.inl ⟨by omega, rfl, rfl⟩)) | (exact Or.inr (Or.inr (⟨by omega, rfl, rfl⟩)))
set_option maxRecDepth 100000 in
set_option maxHeartbeats 4000000 in
theorem pC_as {G : gG} (hsz : G.2.2.2.2.2.2 = true) {n : Nat} (hn : 3 ≤ n) (mi : Nat → Nat → Int) (ml : Nat → Nat → Int64) (x kd : Int) (r_x : rng x) (r_kd : rng kd) (hv : CV mi) (hsp : ∀ i : Nat, i < 10 → -1 ≤ mi 5 i ∧ mi 5 i < mi 1 3) : gM G 138 n 0 0 [gr 0, gi x, gi kd] (gw mi ml) (fun r M => gE (¬ ((0 ≤ x ∧ x ≤ 9) ∧ (0 ≤ kd ∧ kd ≤ 4))) (-1000001) (cFd mi 0) ml r M ∨ gE ((0 ≤ x ∧ x ≤ 9) ∧ (0 ≤ kd ∧ kd ≤ 4) ∧ mi 5 x.toNat = -1) (-1000006) (cFd mi 5) ml r M ∨ gE ((0 ≤ x ∧ x ≤ 9) ∧ (0 ≤ kd ∧ kd ≤ 4) ∧ ¬ mi 5 x.toNat = -1 ∧ (cA mi (mi 5 x.toNat) 0 = kd ∨ kd = 0 ∨ (kd = 2 ∧ 3 ≤ cA mi (mi 5 x.toNat) 0))) (mi 5 x.toNat) (mi) ml r M ∨ gE ((0 ≤ x ∧ x ≤ 9) ∧ (0 ≤ kd ∧ kd ≤ 4) ∧ ¬ mi 5 x.toNat = -1 ∧ ¬ (cA mi (mi 5 x.toNat) 0 = kd ∨ kd = 0 ∨ (kd = 2 ∧ 3 ≤ cA mi (mi 5 x.toNat) 0))) (-1000003) (cFd mi 2) ml r M) := by
  have hn1 : 1 ≤ n := by omega
  obtain ⟨hR, ht, hp, hq, hP, hQ⟩ := id hv
  have hsx : (0 ≤ x ∧ x ≤ 9) → -1 ≤ mi 5 x.toNat ∧ mi 5 x.toNat < mi 1 3 := fun h => hsp x.toNat (by omega)
  have hsy : ((0 ≤ x ∧ x ≤ 9) ∧ ¬ mi 5 x.toNat = -1) → 0 ≤ cA mi (mi 5 x.toNat) 0 ∧ cA mi (mi 5 x.toNat) 0 ≤ 4 := fun h => (hP _ (by omega) (by omega)).1
  refine gM.of mX11_as okX11_as (gcp 138 (by decide)).1 (gcp 138 (by decide)).2 (Nat.le_of_ble_eq_true rfl) ?_
  refine Go.run hsz hn1 3 (pc' := 4) (lv' := [some (gr 0), some (gi x), some (gi kd), none]) (st' := [gi 9, gi 0, gi x]) (M' := gw mi ml) rfl ?_
  refine Go.callS (As := [gi x, gi 0, gi 9]) (st := []) (mc1 := 0) (mc := 0) (ms1 := 0) (ms := 0) (by rfl) rfl (gcn 150 (by decide)).1 (gcn 150 (by decide)).2 (Nat.le_of_ble_eq_true rfl) (by omega) (cC_isIn hsz (n := n - 1) (by omega) mi ml x 0 9 r_x ⟨by decide, by decide⟩ ⟨by decide, by decide⟩) ?_
  rintro _ _ ⟨rfl, rfl⟩
  refine Go.run hsz hn1 0 (pc' := 7) (lv' := [some (gr 0), some (gi x), some (gi kd), none]) (st' := [gi (b2 (0 ≤ x ∧ x ≤ 9))]) (M' := gw mi ml) rfl ?_
  refine Go.if_eq (by rfl) (b2_rng _) (fun kq1 => ?_) (fun kq1 => ?_)
  · replace kq1 := b2_neg kq1
    refine Go.run hsz hn1 2 (pc' := 22) (lv' := [some (gr 0), some (gi x), some (gi kd), none]) (st' := [gi (-1000001), gr 0]) (M' := gw mi ml) rfl ?_
    refine Go.callV (As := [gi (-1000001)]) (b := 0) (st := []) (mc1 := 0) (mc := 0) (ms1 := 0) (ms := 0) (by rfl) rfl (c := 10) (N := 9) (by rfl) (by decide) (by rfl) (gcn 147 (by decide)).1 (gcn 147 (by decide)).2 rfl (Nat.le_of_ble_eq_true rfl) (by omega) (cC_finding hsz (n := n - 1) (by omega) mi ml (-1000001) (by decide) (by decide)) ?_
    rintro _ _ ⟨rfl, rfl⟩
    refine Go.run hsz hn1 0 (pc' := 25) (lv' := [some (gr 0), some (gi x), some (gi kd), none]) (st' := [gi (-1000001)]) (M' := gw (cFd mi 0) ml) rfl ?_
    refine Go.iret (by rfl) ?_
    first | (exact Or.inl ⟨by omega, rfl, rfl⟩) | (exact Or.inr (Or.inl ⟨by omega, rfl, rfl⟩)) | (exact Or.inr (Or.inr (Or.inl ⟨by omega, rfl, rfl⟩))) | (exact Or.inr (Or.inr (Or.inr (⟨by omega, rfl, rfl⟩))))
  · replace kq1 := b2_pos kq1
    refine Go.run hsz hn1 3 (pc' := 13) (lv' := [some (gr 0), some (gi x), some (gi kd), none]) (st' := [gi 4, gi 0, gi kd]) (M' := gw mi ml) rfl ?_
    refine Go.callS (As := [gi kd, gi 0, gi 4]) (st := []) (mc1 := 0) (mc := 0) (ms1 := 0) (ms := 0) (by rfl) rfl (gcn 150 (by decide)).1 (gcn 150 (by decide)).2 (Nat.le_of_ble_eq_true rfl) (by omega) (cC_isIn hsz (n := n - 1) (by omega) mi ml kd 0 4 r_kd ⟨by decide, by decide⟩ ⟨by decide, by decide⟩) ?_
    rintro _ _ ⟨rfl, rfl⟩
    refine Go.run hsz hn1 0 (pc' := 16) (lv' := [some (gr 0), some (gi x), some (gi kd), none]) (st' := [gi (b2 (0 ≤ kd ∧ kd ≤ 4))]) (M' := gw mi ml) rfl ?_
    refine Go.if_ne (by rfl) (b2_rng _) (fun kq2 => ?_) (fun kq2 => ?_)
    · replace kq2 := b2_pos kq2
      refine Go.run hsz hn1 4 (pc' := 34) (lv' := [some (gr 0), some (gi x), some (gi kd), none]) (st' := [gi x, gr 5]) (M' := gw mi ml) rfl ?_
      refine Go.iald (by rfl) (N := 10) (by rfl) (by omega) (by omega) (by decide) ?_
      refine Go.run hsz hn1 3 (pc' := 38) (lv' := [some (gr 0), some (gi x), some (gi kd), some (gi (mi 5 x.toNat))]) (st' := [gi (-1), gi (mi 5 x.toNat)]) (M' := gw mi ml) rfl ?_
      refine Go.icmp_ne (by rfl) (hR _ _) ⟨by decide, by decide⟩ (fun kq3 => ?_) (fun kq3 => ?_)
      · refine Go.run hsz hn1 4 (pc' := 57) (lv' := [some (gr 0), some (gi x), some (gi kd), some (gi (mi 5 x.toNat))]) (st' := [gi (mi 5 x.toNat), gr 3]) (M' := gw mi ml) rfl ?_
        refine Go.aaldR 4 (by rfl) (N := 24) (by rfl) ⟨by decide, by decide⟩ (by omega) (by omega) (by decide) (gMR_3 (by omega) (by omega)) ?_
        refine Go.run hsz hn1 0 (pc' := 58) (lv' := [some (gr 0), some (gi x), some (gi kd), some (gi (mi 5 x.toNat))]) (st' := [gr (24 + (mi 5 x.toNat).toNat)]) (M' := gw mi ml) rfl ?_
        refine Go.getf (by rfl) (c := 2) (N := 14) (shA (i := mi 5 x.toNat) (by omega)) ?_
        refine Go.run hsz hn1 1 (pc' := 62) (lv' := [some (gr 0), some (gi x), some (gi kd), some (gi (mi 5 x.toNat))]) (st' := [gi kd, gi (cA mi (mi 5 x.toNat) 0)]) (M' := gw mi ml) rfl ?_
        refine Go.callS (As := [gi (cA mi (mi 5 x.toNat) 0), gi kd]) (st := []) (mc1 := 0) (mc := 0) (ms1 := 0) (ms := 0) (by rfl) rfl (gcn 9 (by decide)).1 (gcn 9 (by decide)).2 (Nat.le_of_ble_eq_true rfl) (by omega) (cK_under hsz (n := n - 1) (by omega) mi ml (cA mi (mi 5 x.toNat) 0) kd (by omega) (by omega) (by omega) (by omega)) ?_
        rintro _ _ ⟨rfl, rfl⟩
        refine Go.run hsz hn1 0 (pc' := 65) (lv' := [some (gr 0), some (gi x), some (gi kd), some (gi (mi 5 x.toNat))]) (st' := [gi (b2 (cA mi (mi 5 x.toNat) 0 = kd ∨ kd = 0 ∨ (kd = 2 ∧ 3 ≤ cA mi (mi 5 x.toNat) 0)))]) (M' := gw mi ml) rfl ?_
        refine Go.if_ne (by rfl) (b2_rng _) (fun kq4 => ?_) (fun kq4 => ?_)
        · replace kq4 := b2_pos kq4
          refine Go.run hsz hn1 1 (pc' := 76) (lv' := [some (gr 0), some (gi x), some (gi kd), some (gi (mi 5 x.toNat))]) (st' := [gi (mi 5 x.toNat)]) (M' := gw mi ml) rfl ?_
          refine Go.iret (by rfl) ?_
          first | (exact Or.inl ⟨by omega, rfl, rfl⟩) | (exact Or.inr (Or.inl ⟨by omega, rfl, rfl⟩)) | (exact Or.inr (Or.inr (Or.inl ⟨by omega, rfl, rfl⟩))) | (exact Or.inr (Or.inr (Or.inr (⟨by omega, rfl, rfl⟩))))
        · replace kq4 := b2_neg kq4
          refine Go.run hsz hn1 2 (pc' := 71) (lv' := [some (gr 0), some (gi x), some (gi kd), some (gi (mi 5 x.toNat))]) (st' := [gi (-1000003), gr 0]) (M' := gw mi ml) rfl ?_
          refine Go.callV (As := [gi (-1000003)]) (b := 0) (st := []) (mc1 := 0) (mc := 0) (ms1 := 0) (ms := 0) (by rfl) rfl (c := 10) (N := 9) (by rfl) (by decide) (by rfl) (gcn 147 (by decide)).1 (gcn 147 (by decide)).2 rfl (Nat.le_of_ble_eq_true rfl) (by omega) (cC_finding hsz (n := n - 1) (by omega) mi ml (-1000003) (by decide) (by decide)) ?_
          rintro _ _ ⟨rfl, rfl⟩
          refine Go.run hsz hn1 0 (pc' := 74) (lv' := [some (gr 0), some (gi x), some (gi kd), some (gi (mi 5 x.toNat))]) (st' := [gi (-1000003)]) (M' := gw (cFd mi 2) ml) rfl ?_
          refine Go.iret (by rfl) ?_
          first | (exact Or.inl ⟨by omega, rfl, rfl⟩) | (exact Or.inr (Or.inl ⟨by omega, rfl, rfl⟩)) | (exact Or.inr (Or.inr (Or.inl ⟨by omega, rfl, rfl⟩))) | (exact Or.inr (Or.inr (Or.inr (⟨by omega, rfl, rfl⟩))))
      · refine Go.run hsz hn1 2 (pc' := 45) (lv' := [some (gr 0), some (gi x), some (gi kd), some (gi (mi 5 x.toNat))]) (st' := [gi (-1000006), gr 0]) (M' := gw mi ml) rfl ?_
        refine Go.callV (As := [gi (-1000006)]) (b := 0) (st := []) (mc1 := 0) (mc := 0) (ms1 := 0) (ms := 0) (by rfl) rfl (c := 10) (N := 9) (by rfl) (by decide) (by rfl) (gcn 147 (by decide)).1 (gcn 147 (by decide)).2 rfl (Nat.le_of_ble_eq_true rfl) (by omega) (cC_finding hsz (n := n - 1) (by omega) mi ml (-1000006) (by decide) (by decide)) ?_
        rintro _ _ ⟨rfl, rfl⟩
        refine Go.run hsz hn1 0 (pc' := 48) (lv' := [some (gr 0), some (gi x), some (gi kd), some (gi (mi 5 x.toNat))]) (st' := [gi (-1000006)]) (M' := gw (cFd mi 5) ml) rfl ?_
        refine Go.iret (by rfl) ?_
        first | (exact Or.inl ⟨by omega, rfl, rfl⟩) | (exact Or.inr (Or.inl ⟨by omega, rfl, rfl⟩)) | (exact Or.inr (Or.inr (Or.inl ⟨by omega, rfl, rfl⟩))) | (exact Or.inr (Or.inr (Or.inr (⟨by omega, rfl, rfl⟩))))
    · replace kq2 := b2_neg kq2
      refine Go.run hsz hn1 2 (pc' := 22) (lv' := [some (gr 0), some (gi x), some (gi kd), none]) (st' := [gi (-1000001), gr 0]) (M' := gw mi ml) rfl ?_
      refine Go.callV (As := [gi (-1000001)]) (b := 0) (st := []) (mc1 := 0) (mc := 0) (ms1 := 0) (ms := 0) (by rfl) rfl (c := 10) (N := 9) (by rfl) (by decide) (by rfl) (gcn 147 (by decide)).1 (gcn 147 (by decide)).2 rfl (Nat.le_of_ble_eq_true rfl) (by omega) (cC_finding hsz (n := n - 1) (by omega) mi ml (-1000001) (by decide) (by decide)) ?_
      rintro _ _ ⟨rfl, rfl⟩
      refine Go.run hsz hn1 0 (pc' := 25) (lv' := [some (gr 0), some (gi x), some (gi kd), none]) (st' := [gi (-1000001)]) (M' := gw (cFd mi 0) ml) rfl ?_
      refine Go.iret (by rfl) ?_
      first | (exact Or.inl ⟨by omega, rfl, rfl⟩) | (exact Or.inr (Or.inl ⟨by omega, rfl, rfl⟩)) | (exact Or.inr (Or.inr (Or.inl ⟨by omega, rfl, rfl⟩))) | (exact Or.inr (Or.inr (Or.inr (⟨by omega, rfl, rfl⟩))))
set_option maxRecDepth 100000 in
set_option maxHeartbeats 4000000 in
theorem pC_tear {G : gG} (hsz : G.2.2.2.2.2.2 = true) {n : Nat} (hn : 2 ≤ n) (mi : Nat → Nat → Int) (ml : Nat → Nat → Int64)  (hv : CV mi)  : gM G 144 n 0 0 [gr 0] (gw mi ml) (fun r M => gE (¬ mi 0 8 = 0) (1) (gu mi 0 8 0) ml r M ∨ gE (mi 0 8 = 0) (0) (gu mi 0 8 0) ml r M) := by
  have hn1 : 1 ≤ n := by omega
  obtain ⟨hR, ht, hp, hq, hP, hQ⟩ := id hv
  refine gM.of mX11_tear okX11_tear (gcp 144 (by decide)).1 (gcp 144 (by decide)).2 (Nat.le_of_ble_eq_true rfl) ?_
  refine Go.run hsz hn1 7 (pc' := 11) (lv' := [some (gr 0), some (gi (mi 0 8))]) (st' := [gi (mi 0 8)]) (M' := gw (gu mi 0 8 0) ml) rfl ?_
  refine Go.if_eq (by rfl) (hR _ _) (fun kq1 => ?_) (fun kq1 => ?_)
  · refine Go.run hsz hn1 1 (pc' := 19) (lv' := [some (gr 0), some (gi (mi 0 8))]) (st' := [gi 0]) (M' := gw (gu mi 0 8 0) ml) rfl ?_
    refine Go.iret (by rfl) ?_
    first | (exact Or.inl ⟨by omega, rfl, rfl⟩) | (exact Or.inr (⟨by omega, rfl, rfl⟩))
  · refine Go.run hsz hn1 2 (pc' := 19) (lv' := [some (gr 0), some (gi (mi 0 8))]) (st' := [gi 1]) (M' := gw (gu mi 0 8 0) ml) rfl ?_
    refine Go.iret (by rfl) ?_
    first | (exact Or.inl ⟨by omega, rfl, rfl⟩) | (exact Or.inr (⟨by omega, rfl, rfl⟩))
set_option maxRecDepth 100000 in
set_option maxHeartbeats 4000000 in
theorem cS_isWet {G : gG} (hsz : G.2.2.2.2.2.2 = true) {n : Nat} (hn : 4 ≤ n) (mi : Nat → Nat → Int) (ml : Nat → Nat → Int64) (a w : Int) (h0 : 0 ≤ a) (h1 : a < 24) (rw_ : rng w) (hv : CV mi) (h2 : a < mi 1 3) : gM G 66 n 0 0 [gr 1, gi a, gi w] (gw mi ml) (gret (cWet mi a w) (gw mi ml)) := by
  have hn1 : 1 ≤ n := by omega
  obtain ⟨hR, ht, hp, hq, hP, hQ⟩ := id hv
  refine gM.of mX8_isWet okX8_isWet (gcp 66 (by decide)).1 (gcp 66 (by decide)).2 (Nat.le_of_ble_eq_true rfl) ?_
  refine Go.run hsz hn1 2 (pc' := 2) (lv' := [some (gr 1), some (gi a), some (gi w)]) (st' := [gi a, gr 1]) (M' := gw mi ml) rfl ?_
  refine Go.callV (As := [gi a]) (b := 1) (st := []) (mc1 := 0) (mc := 0) (ms1 := 0) (ms := 0) (by rfl) rfl (c := 7) (N := 11) (by rfl) (by decide) (by rfl) (gcn 65 (by decide)).1 (gcn 65 (by decide)).2 rfl (Nat.le_of_ble_eq_true rfl) (by omega) (cS_isHere hsz (n := n - 1) (by omega) mi ml a (by omega) (by omega) (hP a (by omega) (by omega)) hR) ?_
  rintro _ _ ⟨rfl, rfl⟩
  refine Go.run hsz hn1 0 (pc' := 5) (lv' := [some (gr 1), some (gi a), some (gi w)]) (st' := [gi (cHere mi a)]) (M' := gw mi ml) rfl ?_
  refine Go.if_eq (by rfl) (b2_rng _) (fun kq1 => ?_) (fun kq1 => ?_)
  · refine Go.run hsz hn1 1 (pc' := 34) (lv' := [some (gr 1), some (gi a), some (gi w)]) (st' := [gi 0]) (M' := gw mi ml) rfl ?_
    exact Go.zret (by rfl) (Or.inl rfl) ⟨congrArg (fun z => some (gi z)) (by unfold cWet b2; split <;> omega), rfl⟩
  · refine Go.run hsz hn1 5 (pc' := 17) (lv' := [some (gr 1), some (gi a), some (gi w)]) (st' := [gi a, gr 3, gr 2]) (M' := gw mi ml) rfl ?_
    refine Go.aaldR 4 (by rfl) (N := 24) (by rfl) ⟨by decide, by decide⟩ (by omega) (by omega) (by decide) (gMR_3 (by omega) (by omega)) ?_
    refine Go.run hsz hn1 0 (pc' := 18) (lv' := [some (gr 1), some (gi a), some (gi w)]) (st' := [gr (24 + a.toNat), gr 2]) (M' := gw mi ml) rfl ?_
    refine Go.getf (by rfl) (c := 2) (N := 14) (shA (i := a) (by omega)) ?_
    refine Go.run hsz hn1 0 (pc' := 21) (lv' := [some (gr 1), some (gi a), some (gi w)]) (st' := [gi (cA mi a 8), gr 2]) (M' := gw mi ml) rfl ?_
    refine Go.aaldR 3 (by rfl) (N := 12) (by rfl) ⟨by decide, by decide⟩ (by have := cHere_on (mi := mi) (a := a) (by assumption); have := (hP a (by omega) (by omega)).2.2.2.2.2.2.2.1; omega) (by have := cHere_on (mi := mi) (a := a) (by assumption); have := (hP a (by omega) (by omega)).2.2.2.2.2.2.2.1; omega) (by decide) (gMR_2 (by have := cHere_on (mi := mi) (a := a) (by assumption); have := (hP a (by omega) (by omega)).2.2.2.2.2.2.2.1; omega) (by have := cHere_on (mi := mi) (a := a) (by assumption); have := (hP a (by omega) (by omega)).2.2.2.2.2.2.2.1; omega)) ?_
    refine Go.run hsz hn1 0 (pc' := 22) (lv' := [some (gr 1), some (gi a), some (gi w)]) (st' := [gr (12 + (cA mi a 8).toNat)]) (M' := gw mi ml) rfl ?_
    refine Go.getf (by rfl) (c := 3) (N := 10) (shP (i := cA mi a 8) (by have := cHere_on (mi := mi) (a := a) (by assumption); have := (hP a (by omega) (by omega)).2.2.2.2.2.2.2.1; omega)) ?_
    refine Go.run hsz hn1 1 (pc' := 26) (lv' := [some (gr 1), some (gi a), some (gi w)]) (st' := [gi w, gi (cP mi (cA mi a 8) 3)]) (M' := gw mi ml) rfl ?_
    refine Go.icmp_ge (by rfl) (hR _ _) rw_ (fun kq2 => ?_) (fun kq2 => ?_)
    · refine Go.run hsz hn1 1 (pc' := 34) (lv' := [some (gr 1), some (gi a), some (gi w)]) (st' := [gi 0]) (M' := gw mi ml) rfl ?_
      exact Go.zret (by rfl) (Or.inl rfl) ⟨congrArg (fun z => some (gi z)) (by unfold cWet b2; split <;> omega), rfl⟩
    · refine Go.run hsz hn1 2 (pc' := 34) (lv' := [some (gr 1), some (gi a), some (gi w)]) (st' := [gi 1]) (M' := gw mi ml) rfl ?_
      exact Go.zret (by rfl) (Or.inr rfl) ⟨congrArg (fun z => some (gi z)) (by unfold cWet b2; split <;> omega), rfl⟩
set_option maxRecDepth 100000 in
set_option maxHeartbeats 4000000 in
theorem lC_wet {G : gG} (hsz : G.2.2.2.2.2.2 = true) {n : Nat} (hn : 5 ≤ n) (mi : Nat → Nat → Int) (ml : Nat → Nat → Int64) (x : Int) (r_x : rng x) (hv : CV mi) : ∀ (f : Nat) (k : Int), 0 ≤ k → k ≤ mi 1 3 → mi 1 3 - k < f → Go G mX11_wet n 0 0 21 [some (gr 0), some (gi x), some (gi (cWetS mi x k.toNat)), some (gi k)] [] (gw mi ml) (gret (cWetS mi x (mi 1 3).toNat) (gw mi ml)) := by
  have hn1 : 1 ≤ n := by omega
  obtain ⟨hR, ht, hp, hq, hP, hQ⟩ := id hv
  intro f
  induction f with
  | zero => intros; omega
  | succ f ih =>
    intro k k0 k1 k2
    refine Go.run hsz hn1 4 (pc' := 29) (lv' := [some (gr 0), some (gi x), some (gi (cWetS mi x k.toNat)), some (gi k)]) (st' := [gi (mi 1 3), gi k]) (M' := gw mi ml) rfl ?_
    refine Go.icmp_ge (by rfl) ⟨by omega, by omega⟩ (hR _ _) (fun kq1 => ?_) (fun kq1 => ?_)
    · refine Go.run hsz hn1 1 (pc' := 57) (lv' := [some (gr 0), some (gi x), some (gi (cWetS mi x k.toNat)), some (gi k)]) (st' := [gi (cWetS mi x k.toNat)]) (M' := gw mi ml) rfl ?_
      obtain rfl : k = mi 1 3 := by omega
      exact Go.iret (by rfl) ⟨rfl, rfl⟩
    · refine Go.run hsz hn1 4 (pc' := 38) (lv' := [some (gr 0), some (gi x), some (gi (cWetS mi x k.toNat)), some (gi k)]) (st' := [gi x, gi k, gr 1]) (M' := gw mi ml) rfl ?_
      refine Go.callV (As := [gi k, gi x]) (b := 1) (st := []) (mc1 := 0) (mc := 0) (ms1 := 0) (ms := 0) (by rfl) rfl (c := 7) (N := 11) (by rfl) (by decide) (by rfl) (gcn 66 (by decide)).1 (gcn 66 (by decide)).2 rfl (Nat.le_of_ble_eq_true rfl) (by omega) (cS_isWet hsz (n := n - 1) (by omega) mi ml k x (by omega) (by omega) r_x hv (by omega)) ?_
      rintro _ _ ⟨rfl, rfl⟩
      refine Go.run hsz hn1 0 (pc' := 41) (lv' := [some (gr 0), some (gi x), some (gi (cWetS mi x k.toNat)), some (gi k)]) (st' := [gi (cWet mi k x)]) (M' := gw mi ml) rfl ?_
      refine Go.if_eq (by rfl) (b2_rng _) (fun kq2 => ?_) (fun kq2 => ?_)
      · refine Go.run hsz hn1 2 (pc' := 21) (lv' := [some (gr 0), some (gi x), some (gi (cWetS mi x k.toNat)), some (gi (k + 1))]) (st' := []) (M' := gw mi ml) rfl ?_
        have h9 := ih (k + 1) (by omega) (by omega) (by omega)
        rw [show cWetS mi x (k + 1).toNat = _ from gfold_s k0] at h9
        (try dsimp only at h9)
        (repeat' split at h9) <;> first | exact h9 | (exfalso; omega)
      · refine Go.run hsz hn1 8 (pc' := 21) (lv' := [some (gr 0), some (gi x), some (gi (orI (cWetS mi x k.toNat) (shlI 1 k))), some (gi (k + 1))]) (st' := []) (M' := gw mi ml) rfl ?_
        have h9 := ih (k + 1) (by omega) (by omega) (by omega)
        rw [show cWetS mi x (k + 1).toNat = _ from gfold_s k0] at h9
        (try dsimp only at h9)
        (repeat' split at h9) <;> first | exact h9 | (exfalso; omega)
set_option maxRecDepth 100000 in
set_option maxHeartbeats 4000000 in
theorem pC_wet {G : gG} (hsz : G.2.2.2.2.2.2 = true) {n : Nat} (hn : 5 ≤ n) (mi : Nat → Nat → Int) (ml : Nat → Nat → Int64) (x : Int) (r_x : rng x) (hv : CV mi)  : gM G 131 n 0 0 [gr 0, gi x] (gw mi ml) (fun r M => gE ((0 ≤ x ∧ x ≤ 99)) (cWetS mi x (mi 1 3).toNat) (mi) ml r M ∨ gE (¬ (0 ≤ x ∧ x ≤ 99)) (-1000001) (cFd mi 0) ml r M) := by
  have hn1 : 1 ≤ n := by omega
  obtain ⟨hR, ht, hp, hq, hP, hQ⟩ := id hv
  refine gM.of mX11_wet okX11_wet (gcp 131 (by decide)).1 (gcp 131 (by decide)).2 (Nat.le_of_ble_eq_true rfl) ?_
  refine Go.run hsz hn1 3 (pc' := 4) (lv' := [some (gr 0), some (gi x), none, none]) (st' := [gi 99, gi 0, gi x]) (M' := gw mi ml) rfl ?_
  refine Go.callS (As := [gi x, gi 0, gi 99]) (st := []) (mc1 := 0) (mc := 0) (ms1 := 0) (ms := 0) (by rfl) rfl (gcn 150 (by decide)).1 (gcn 150 (by decide)).2 (Nat.le_of_ble_eq_true rfl) (by omega) (cC_isIn hsz (n := n - 1) (by omega) mi ml x 0 99 r_x ⟨by decide, by decide⟩ ⟨by decide, by decide⟩) ?_
  rintro _ _ ⟨rfl, rfl⟩
  refine Go.run hsz hn1 0 (pc' := 7) (lv' := [some (gr 0), some (gi x), none, none]) (st' := [gi (b2 (0 ≤ x ∧ x ≤ 99))]) (M' := gw mi ml) rfl ?_
  refine Go.if_ne (by rfl) (b2_rng _) (fun kq1 => ?_) (fun kq1 => ?_)
  · replace kq1 := b2_pos kq1
    refine Go.run hsz hn1 4 (pc' := 21) (lv' := [some (gr 0), some (gi x), some (gi 0), some (gi 0)]) (st' := []) (M' := gw mi ml) rfl ?_
    refine Go.imp ?_ (lC_wet hsz hn mi ml x r_x hv ((mi 1 3 - 0 : Int).toNat + 1) (0) (by omega) (by omega) (by omega))
    rintro _ _ ⟨rfl, rfl⟩
    exact Or.inl ⟨by omega, rfl, rfl⟩
  · replace kq1 := b2_neg kq1
    refine Go.run hsz hn1 2 (pc' := 13) (lv' := [some (gr 0), some (gi x), none, none]) (st' := [gi (-1000001), gr 0]) (M' := gw mi ml) rfl ?_
    refine Go.callV (As := [gi (-1000001)]) (b := 0) (st := []) (mc1 := 0) (mc := 0) (ms1 := 0) (ms := 0) (by rfl) rfl (c := 10) (N := 9) (by rfl) (by decide) (by rfl) (gcn 147 (by decide)).1 (gcn 147 (by decide)).2 rfl (Nat.le_of_ble_eq_true rfl) (by omega) (cC_finding hsz (n := n - 1) (by omega) mi ml (-1000001) (by decide) (by decide)) ?_
    rintro _ _ ⟨rfl, rfl⟩
    refine Go.run hsz hn1 0 (pc' := 16) (lv' := [some (gr 0), some (gi x), none, none]) (st' := [gi (-1000001)]) (M' := gw (cFd mi 0) ml) rfl ?_
    refine Go.iret (by rfl) ?_
    first | (exact Or.inl ⟨by omega, rfl, rfl⟩) | (exact Or.inr (⟨by omega, rfl, rfl⟩))
set_option maxRecDepth 100000 in
set_option maxHeartbeats 4000000 in
theorem lC_trips {G : gG} (hsz : G.2.2.2.2.2.2 = true) {n : Nat} (hn : 6 ≤ n) (mi : Nat → Nat → Int) (ml : Nat → Nat → Int64) (post : Int) (r_post : rng post) (q0 : 0 ≤ post) (q1 : post ≤ 3) (hv : CV mi) : ∀ (f : Nat) (k : Int), 0 ≤ k → k ≤ 24 → 24 - k < f → Go G mX11_trips n 0 0 20 [some (gr 0), some (gi post), some (gi (cTripS mi post k.toNat)), some (gi k)] [] (gw mi ml) (gret (cTripS mi post 24) (gw mi ml)) := by
  have hn1 : 1 ≤ n := by omega
  obtain ⟨hR, ht, hp, hq, hP, hQ⟩ := id hv
  intro f
  induction f with
  | zero => intros; omega
  | succ f ih =>
    intro k k0 k1 k2
    refine Go.run hsz hn1 2 (pc' := 23) (lv' := [some (gr 0), some (gi post), some (gi (cTripS mi post k.toNat)), some (gi k)]) (st' := [gi 24, gi k]) (M' := gw mi ml) rfl ?_
    refine Go.icmp_ge (by rfl) ⟨by omega, by omega⟩ ⟨by decide, by decide⟩ (fun kq1 => ?_) (fun kq1 => ?_)
    · refine Go.run hsz hn1 1 (pc' := 60) (lv' := [some (gr 0), some (gi post), some (gi (cTripS mi post k.toNat)), some (gi k)]) (st' := [gi (cTripS mi post k.toNat)]) (M' := gw mi ml) rfl ?_
      obtain rfl : k = 24 := by omega
      exact Go.iret (by rfl) ⟨rfl, rfl⟩
    · refine Go.run hsz hn1 4 (pc' := 32) (lv' := [some (gr 0), some (gi post), some (gi (cTripS mi post k.toNat)), some (gi k)]) (st' := [gi k, gi post, gr 1]) (M' := gw mi ml) rfl ?_
      refine Go.callV (As := [gi post, gi k]) (b := 1) (st := []) (mc1 := 0) (mc := 0) (ms1 := 0) (ms := 0) (by rfl) rfl (c := 7) (N := 11) (by rfl) (by decide) (by rfl) (gcn 72 (by decide)).1 (gcn 72 (by decide)).2 rfl (Nat.le_of_ble_eq_true rfl) (by omega) (cS_load hsz (n := n - 1) (by omega) mi ml post k r_post hv) ?_
      rintro _ _ ⟨rfl, rfl⟩
      refine Go.run hsz hn1 4 (pc' := 43) (lv' := [some (gr 0), some (gi post), some (gi (cTripS mi post k.toNat)), some (gi k)]) (st' := [gi post, gr 4, gi (cLoad mi post k (mi 1 3).toNat)]) (M' := gw mi ml) rfl ?_
      refine Go.iald (by rfl) (N := 4) (by rfl) (by omega) (by omega) (by decide) ?_
      refine Go.run hsz hn1 0 (pc' := 44) (lv' := [some (gr 0), some (gi post), some (gi (cTripS mi post k.toNat)), some (gi k)]) (st' := [gi (mi 4 post.toNat), gi (cLoad mi post k (mi 1 3).toNat)]) (M' := gw mi ml) rfl ?_
      refine Go.icmp_le (by rfl) (cLoad_rng hv _ _) (hR _ _) (fun kq2 => ?_) (fun kq2 => ?_)
      · refine Go.run hsz hn1 2 (pc' := 20) (lv' := [some (gr 0), some (gi post), some (gi (cTripS mi post k.toNat)), some (gi (k + 1))]) (st' := []) (M' := gw mi ml) rfl ?_
        have h9 := ih (k + 1) (by omega) (by omega) (by omega)
        rw [show cTripS mi post (k + 1).toNat = _ from gfold_s k0] at h9
        (try dsimp only at h9)
        (repeat' split at h9) <;> first | exact h9 | (exfalso; omega)
      · refine Go.run hsz hn1 8 (pc' := 20) (lv' := [some (gr 0), some (gi post), some (gi (orI (cTripS mi post k.toNat) (shlI 1 k))), some (gi (k + 1))]) (st' := []) (M' := gw mi ml) rfl ?_
        have h9 := ih (k + 1) (by omega) (by omega) (by omega)
        rw [show cTripS mi post (k + 1).toNat = _ from gfold_s k0] at h9
        (try dsimp only at h9)
        (repeat' split at h9) <;> first | exact h9 | (exfalso; omega)
set_option maxRecDepth 100000 in
set_option maxHeartbeats 4000000 in
theorem pC_trips {G : gG} (hsz : G.2.2.2.2.2.2 = true) {n : Nat} (hn : 6 ≤ n) (mi : Nat → Nat → Int) (ml : Nat → Nat → Int64) (post : Int) (r_post : rng post) (hv : CV mi)  : gM G 129 n 0 0 [gr 0, gi post] (gw mi ml) (fun r M => gE ((0 ≤ post ∧ post ≤ 3)) (cTripS mi post 24) (mi) ml r M ∨ gE (¬ (0 ≤ post ∧ post ≤ 3)) (-1000001) (cFd mi 0) ml r M) := by
  have hn1 : 1 ≤ n := by omega
  obtain ⟨hR, ht, hp, hq, hP, hQ⟩ := id hv
  refine gM.of mX11_trips okX11_trips (gcp 129 (by decide)).1 (gcp 129 (by decide)).2 (Nat.le_of_ble_eq_true rfl) ?_
  refine Go.run hsz hn1 3 (pc' := 3) (lv' := [some (gr 0), some (gi post), none, none]) (st' := [gi 3, gi 0, gi post]) (M' := gw mi ml) rfl ?_
  refine Go.callS (As := [gi post, gi 0, gi 3]) (st := []) (mc1 := 0) (mc := 0) (ms1 := 0) (ms := 0) (by rfl) rfl (gcn 150 (by decide)).1 (gcn 150 (by decide)).2 (Nat.le_of_ble_eq_true rfl) (by omega) (cC_isIn hsz (n := n - 1) (by omega) mi ml post 0 3 r_post ⟨by decide, by decide⟩ ⟨by decide, by decide⟩) ?_
  rintro _ _ ⟨rfl, rfl⟩
  refine Go.run hsz hn1 0 (pc' := 6) (lv' := [some (gr 0), some (gi post), none, none]) (st' := [gi (b2 (0 ≤ post ∧ post ≤ 3))]) (M' := gw mi ml) rfl ?_
  refine Go.if_ne (by rfl) (b2_rng _) (fun kq1 => ?_) (fun kq1 => ?_)
  · replace kq1 := b2_pos kq1
    refine Go.run hsz hn1 4 (pc' := 20) (lv' := [some (gr 0), some (gi post), some (gi 0), some (gi 0)]) (st' := []) (M' := gw mi ml) rfl ?_
    refine Go.imp ?_ (lC_trips hsz hn mi ml post r_post (by omega) (by omega) hv ((24 - 0 : Int).toNat + 1) (0) (by omega) (by omega) (by omega))
    rintro _ _ ⟨rfl, rfl⟩
    exact Or.inl ⟨by omega, rfl, rfl⟩
  · replace kq1 := b2_neg kq1
    refine Go.run hsz hn1 2 (pc' := 12) (lv' := [some (gr 0), some (gi post), none, none]) (st' := [gi (-1000001), gr 0]) (M' := gw mi ml) rfl ?_
    refine Go.callV (As := [gi (-1000001)]) (b := 0) (st := []) (mc1 := 0) (mc := 0) (ms1 := 0) (ms := 0) (by rfl) rfl (c := 10) (N := 9) (by rfl) (by decide) (by rfl) (gcn 147 (by decide)).1 (gcn 147 (by decide)).2 rfl (Nat.le_of_ble_eq_true rfl) (by omega) (cC_finding hsz (n := n - 1) (by omega) mi ml (-1000001) (by decide) (by decide)) ?_
    rintro _ _ ⟨rfl, rfl⟩
    refine Go.run hsz hn1 0 (pc' := 15) (lv' := [some (gr 0), some (gi post), none, none]) (st' := [gi (-1000001)]) (M' := gw (cFd mi 0) ml) rfl ?_
    refine Go.iret (by rfl) ?_
    first | (exact Or.inl ⟨by omega, rfl, rfl⟩) | (exact Or.inr (⟨by omega, rfl, rfl⟩))
set_option maxRecDepth 100000 in
set_option maxHeartbeats 4000000 in
theorem lC_status {G : gG} (hsz : G.2.2.2.2.2.2 = true) {n : Nat} (hn : 3 ≤ n) (mi : Nat → Nat → Int) (ml : Nat → Nat → Int64) (x : Int) (r_x : rng x) (hv : CV mi) : ∀ (f : Nat) (k : Int), 0 ≤ k → k ≤ 7 → 7 - k < f → Go G mX11_status n 0 0 32 [some (gr 0), some (gi x), some (gi (cStat mi k.toNat)), some (gi k)] [] (gw mi ml) (gret (cStat mi 7) (gw mi ml)) := by
  have hn1 : 1 ≤ n := by omega
  obtain ⟨hR, ht, hp, hq, hP, hQ⟩ := id hv
  intro f
  induction f with
  | zero => intros; omega
  | succ f ih =>
    intro k k0 k1 k2
    refine Go.run hsz hn1 2 (pc' := 35) (lv' := [some (gr 0), some (gi x), some (gi (cStat mi k.toNat)), some (gi k)]) (st' := [gi 7, gi k]) (M' := gw mi ml) rfl ?_
    refine Go.icmp_ge (by rfl) ⟨by omega, by omega⟩ ⟨by decide, by decide⟩ (fun kq1 => ?_) (fun kq1 => ?_)
    · refine Go.run hsz hn1 1 (pc' := 54) (lv' := [some (gr 0), some (gi x), some (gi (cStat mi k.toNat)), some (gi k)]) (st' := [gi (cStat mi k.toNat)]) (M' := gw mi ml) rfl ?_
      obtain rfl : k = 7 := by omega
      exact Go.iret (by rfl) ⟨rfl, rfl⟩
    · refine Go.run hsz hn1 4 (pc' := 44) (lv' := [some (gr 0), some (gi x), some (gi (cStat mi k.toNat)), some (gi k)]) (st' := [gi k, gr 147, gi (cStat mi k.toNat)]) (M' := gw mi ml) rfl ?_
      refine Go.iald (by rfl) (N := 7) (by rfl) (by omega) (by omega) (by decide) ?_
      refine Go.run hsz hn1 4 (pc' := 32) (lv' := [some (gr 0), some (gi x), some (gi ((cStat mi k.toNat) + (mi 147 k.toNat))), some (gi (k + 1))]) (st' := []) (M' := gw mi ml) rfl ?_
      have h9 := ih (k + 1) (by omega) (by omega) (by omega)
      rw [show cStat mi (k + 1).toNat = _ from gfold_s k0] at h9
      (try dsimp only at h9)
      (repeat' split at h9) <;> first | exact h9 | (exfalso; omega)
set_option maxRecDepth 100000 in
set_option maxHeartbeats 4000000 in
theorem pC_status {G : gG} (hsz : G.2.2.2.2.2.2 = true) {n : Nat} (hn : 3 ≤ n) (mi : Nat → Nat → Int) (ml : Nat → Nat → Int64) (x : Int) (r_x : rng x) (hv : CV mi)  : gM G 146 n 0 0 [gr 0, gi x] (gw mi ml) (fun r M => gE ((-1 ≤ x ∧ x ≤ 6) ∧ 0 ≤ x) (mi 147 x.toNat) (mi) ml r M ∨ gE ((-1 ≤ x ∧ x ≤ 6) ∧ ¬ 0 ≤ x) (cStat mi 7) (mi) ml r M ∨ gE (¬ (-1 ≤ x ∧ x ≤ 6)) (-1000001) (cFd mi 0) ml r M) := by
  have hn1 : 1 ≤ n := by omega
  obtain ⟨hR, ht, hp, hq, hP, hQ⟩ := id hv
  refine gM.of mX11_status okX11_status (gcp 146 (by decide)).1 (gcp 146 (by decide)).2 (Nat.le_of_ble_eq_true rfl) ?_
  refine Go.run hsz hn1 3 (pc' := 4) (lv' := [some (gr 0), some (gi x), none, none]) (st' := [gi 6, gi (-1), gi x]) (M' := gw mi ml) rfl ?_
  refine Go.callS (As := [gi x, gi (-1), gi 6]) (st := []) (mc1 := 0) (mc := 0) (ms1 := 0) (ms := 0) (by rfl) rfl (gcn 150 (by decide)).1 (gcn 150 (by decide)).2 (Nat.le_of_ble_eq_true rfl) (by omega) (cC_isIn hsz (n := n - 1) (by omega) mi ml x (-1) 6 r_x ⟨by decide, by decide⟩ ⟨by decide, by decide⟩) ?_
  rintro _ _ ⟨rfl, rfl⟩
  refine Go.run hsz hn1 0 (pc' := 7) (lv' := [some (gr 0), some (gi x), none, none]) (st' := [gi (b2 (-1 ≤ x ∧ x ≤ 6))]) (M' := gw mi ml) rfl ?_
  refine Go.if_ne (by rfl) (b2_rng _) (fun kq1 => ?_) (fun kq1 => ?_)
  · replace kq1 := b2_pos kq1
    refine Go.run hsz hn1 1 (pc' := 18) (lv' := [some (gr 0), some (gi x), none, none]) (st' := [gi x]) (M' := gw mi ml) rfl ?_
    refine Go.if_lt (by rfl) r_x (fun kq2 => ?_) (fun kq2 => ?_)
    · refine Go.run hsz hn1 4 (pc' := 32) (lv' := [some (gr 0), some (gi x), some (gi 0), some (gi 0)]) (st' := []) (M' := gw mi ml) rfl ?_
      refine Go.imp ?_ (lC_status hsz hn mi ml x r_x hv ((7 - 0 : Int).toNat + 1) (0) (by omega) (by omega) (by omega))
      rintro _ _ ⟨rfl, rfl⟩
      exact Or.inr (Or.inl ⟨by omega, rfl, rfl⟩)
    · refine Go.run hsz hn1 3 (pc' := 26) (lv' := [some (gr 0), some (gi x), none, none]) (st' := [gi x, gr 147]) (M' := gw mi ml) rfl ?_
      refine Go.iald (by rfl) (N := 7) (by rfl) (by omega) (by omega) (by decide) ?_
      refine Go.run hsz hn1 0 (pc' := 27) (lv' := [some (gr 0), some (gi x), none, none]) (st' := [gi (mi 147 x.toNat)]) (M' := gw mi ml) rfl ?_
      refine Go.iret (by rfl) ?_
      first | (exact Or.inl ⟨by omega, rfl, rfl⟩) | (exact Or.inr (Or.inl ⟨by omega, rfl, rfl⟩)) | (exact Or.inr (Or.inr (⟨by omega, rfl, rfl⟩)))
  · replace kq1 := b2_neg kq1
    refine Go.run hsz hn1 2 (pc' := 13) (lv' := [some (gr 0), some (gi x), none, none]) (st' := [gi (-1000001), gr 0]) (M' := gw mi ml) rfl ?_
    refine Go.callV (As := [gi (-1000001)]) (b := 0) (st := []) (mc1 := 0) (mc := 0) (ms1 := 0) (ms := 0) (by rfl) rfl (c := 10) (N := 9) (by rfl) (by decide) (by rfl) (gcn 147 (by decide)).1 (gcn 147 (by decide)).2 rfl (Nat.le_of_ble_eq_true rfl) (by omega) (cC_finding hsz (n := n - 1) (by omega) mi ml (-1000001) (by decide) (by decide)) ?_
    rintro _ _ ⟨rfl, rfl⟩
    refine Go.run hsz hn1 0 (pc' := 16) (lv' := [some (gr 0), some (gi x), none, none]) (st' := [gi (-1000001)]) (M' := gw (cFd mi 0) ml) rfl ?_
    refine Go.iret (by rfl) ?_
    first | (exact Or.inl ⟨by omega, rfl, rfl⟩) | (exact Or.inr (Or.inl ⟨by omega, rfl, rfl⟩)) | (exact Or.inr (Or.inr (⟨by omega, rfl, rfl⟩)))
set_option maxRecDepth 100000 in
set_option maxHeartbeats 4000000 in
theorem pC_count {G : gG} (hsz : G.2.2.2.2.2.2 = true) {n : Nat} (hn : 5 ≤ n) (mi : Nat → Nat → Int) (ml : Nat → Nat → Int64) (x : Int) (r_x : rng x) (hv : CV mi)  : gM G 145 n 0 0 [gr 0, gi x] (gw mi ml) (fun r M => gE (x = 0) (mi 1 0) (mi) ml r M ∨ gE (x = 1) (mi 1 2) (mi) ml r M ∨ gE (x = 2) (mi 1 3) (mi) ml r M ∨ gE (x = 3) (mi 1 1) (mi) ml r M ∨ gE (x = 4) (mi 132 0) (mi) ml r M ∨ gE (x = 5) (mi 7 0) (mi) ml r M ∨ gE (x = 6) (cHereN mi (mi 1 3).toNat) (mi) ml r M ∨ gE (x = 7) (cWaitN mi (mi 1 3).toNat) (mi) ml r M ∨ gE (x < 0 ∨ 7 < x) (-1000001) (cFd mi 0) ml r M) := by
  have hn1 : 1 ≤ n := by omega
  obtain ⟨hR, ht, hp, hq, hP, hQ⟩ := id hv
  refine gM.of mX11_count okX11_count (gcp 145 (by decide)).1 (gcp 145 (by decide)).2 (Nat.le_of_ble_eq_true rfl) ?_
  rcases (show x = 0 ∨ x = 1 ∨ x = 2 ∨ x = 3 ∨ x = 4 ∨ x = 5 ∨ x = 6 ∨ x = 7 ∨ (x < 0 ∨ 7 < x) by omega) with rfl | rfl | rfl | rfl | rfl | rfl | rfl | rfl | hd
  · refine Go.run hsz hn1 1 (pc' := 1) (lv' := [some (gr 0), some (gi 0)]) (st' := [gi 0]) (M' := gw mi ml) rfl ?_
    refine Go.tsw_in (l := _) (w' := 0) (t := 48) (by rfl) (by rfl) ⟨by decide, by decide⟩ (by decide) (by decide) (by rfl) ?_
    refine Go.run hsz hn1 3 (pc' := 55) (lv' := [some (gr 0), some (gi 0)]) (st' := [gi (mi 1 0)]) (M' := gw mi ml) rfl ?_
    refine Go.iret (by rfl) ?_
    first | (exact Or.inl ⟨by omega, rfl, rfl⟩) | (exact Or.inr (Or.inl ⟨by omega, rfl, rfl⟩)) | (exact Or.inr (Or.inr (Or.inl ⟨by omega, rfl, rfl⟩))) | (exact Or.inr (Or.inr (Or.inr (Or.inl ⟨by omega, rfl, rfl⟩)))) | (exact Or.inr (Or.inr (Or.inr (Or.inr (Or.inl ⟨by omega, rfl, rfl⟩))))) | (exact Or.inr (Or.inr (Or.inr (Or.inr (Or.inr (Or.inl ⟨by omega, rfl, rfl⟩)))))) | (exact Or.inr (Or.inr (Or.inr (Or.inr (Or.inr (Or.inr (Or.inl ⟨by omega, rfl, rfl⟩))))))) | (exact Or.inr (Or.inr (Or.inr (Or.inr (Or.inr (Or.inr (Or.inr (Or.inl ⟨by omega, rfl, rfl⟩)))))))) | (exact Or.inr (Or.inr (Or.inr (Or.inr (Or.inr (Or.inr (Or.inr (Or.inr (⟨by omega, rfl, rfl⟩)))))))))
  · refine Go.run hsz hn1 1 (pc' := 1) (lv' := [some (gr 0), some (gi 1)]) (st' := [gi 1]) (M' := gw mi ml) rfl ?_
    refine Go.tsw_in (l := _) (w' := 1) (t := 56) (by rfl) (by rfl) ⟨by decide, by decide⟩ (by decide) (by decide) (by rfl) ?_
    refine Go.run hsz hn1 3 (pc' := 63) (lv' := [some (gr 0), some (gi 1)]) (st' := [gi (mi 1 2)]) (M' := gw mi ml) rfl ?_
    refine Go.iret (by rfl) ?_
    first | (exact Or.inl ⟨by omega, rfl, rfl⟩) | (exact Or.inr (Or.inl ⟨by omega, rfl, rfl⟩)) | (exact Or.inr (Or.inr (Or.inl ⟨by omega, rfl, rfl⟩))) | (exact Or.inr (Or.inr (Or.inr (Or.inl ⟨by omega, rfl, rfl⟩)))) | (exact Or.inr (Or.inr (Or.inr (Or.inr (Or.inl ⟨by omega, rfl, rfl⟩))))) | (exact Or.inr (Or.inr (Or.inr (Or.inr (Or.inr (Or.inl ⟨by omega, rfl, rfl⟩)))))) | (exact Or.inr (Or.inr (Or.inr (Or.inr (Or.inr (Or.inr (Or.inl ⟨by omega, rfl, rfl⟩))))))) | (exact Or.inr (Or.inr (Or.inr (Or.inr (Or.inr (Or.inr (Or.inr (Or.inl ⟨by omega, rfl, rfl⟩)))))))) | (exact Or.inr (Or.inr (Or.inr (Or.inr (Or.inr (Or.inr (Or.inr (Or.inr (⟨by omega, rfl, rfl⟩)))))))))
  · refine Go.run hsz hn1 1 (pc' := 1) (lv' := [some (gr 0), some (gi 2)]) (st' := [gi 2]) (M' := gw mi ml) rfl ?_
    refine Go.tsw_in (l := _) (w' := 2) (t := 64) (by rfl) (by rfl) ⟨by decide, by decide⟩ (by decide) (by decide) (by rfl) ?_
    refine Go.run hsz hn1 3 (pc' := 71) (lv' := [some (gr 0), some (gi 2)]) (st' := [gi (mi 1 3)]) (M' := gw mi ml) rfl ?_
    refine Go.iret (by rfl) ?_
    first | (exact Or.inl ⟨by omega, rfl, rfl⟩) | (exact Or.inr (Or.inl ⟨by omega, rfl, rfl⟩)) | (exact Or.inr (Or.inr (Or.inl ⟨by omega, rfl, rfl⟩))) | (exact Or.inr (Or.inr (Or.inr (Or.inl ⟨by omega, rfl, rfl⟩)))) | (exact Or.inr (Or.inr (Or.inr (Or.inr (Or.inl ⟨by omega, rfl, rfl⟩))))) | (exact Or.inr (Or.inr (Or.inr (Or.inr (Or.inr (Or.inl ⟨by omega, rfl, rfl⟩)))))) | (exact Or.inr (Or.inr (Or.inr (Or.inr (Or.inr (Or.inr (Or.inl ⟨by omega, rfl, rfl⟩))))))) | (exact Or.inr (Or.inr (Or.inr (Or.inr (Or.inr (Or.inr (Or.inr (Or.inl ⟨by omega, rfl, rfl⟩)))))))) | (exact Or.inr (Or.inr (Or.inr (Or.inr (Or.inr (Or.inr (Or.inr (Or.inr (⟨by omega, rfl, rfl⟩)))))))))
  · refine Go.run hsz hn1 1 (pc' := 1) (lv' := [some (gr 0), some (gi 3)]) (st' := [gi 3]) (M' := gw mi ml) rfl ?_
    refine Go.tsw_in (l := _) (w' := 3) (t := 72) (by rfl) (by rfl) ⟨by decide, by decide⟩ (by decide) (by decide) (by rfl) ?_
    refine Go.run hsz hn1 3 (pc' := 79) (lv' := [some (gr 0), some (gi 3)]) (st' := [gi (mi 1 1)]) (M' := gw mi ml) rfl ?_
    refine Go.iret (by rfl) ?_
    first | (exact Or.inl ⟨by omega, rfl, rfl⟩) | (exact Or.inr (Or.inl ⟨by omega, rfl, rfl⟩)) | (exact Or.inr (Or.inr (Or.inl ⟨by omega, rfl, rfl⟩))) | (exact Or.inr (Or.inr (Or.inr (Or.inl ⟨by omega, rfl, rfl⟩)))) | (exact Or.inr (Or.inr (Or.inr (Or.inr (Or.inl ⟨by omega, rfl, rfl⟩))))) | (exact Or.inr (Or.inr (Or.inr (Or.inr (Or.inr (Or.inl ⟨by omega, rfl, rfl⟩)))))) | (exact Or.inr (Or.inr (Or.inr (Or.inr (Or.inr (Or.inr (Or.inl ⟨by omega, rfl, rfl⟩))))))) | (exact Or.inr (Or.inr (Or.inr (Or.inr (Or.inr (Or.inr (Or.inr (Or.inl ⟨by omega, rfl, rfl⟩)))))))) | (exact Or.inr (Or.inr (Or.inr (Or.inr (Or.inr (Or.inr (Or.inr (Or.inr (⟨by omega, rfl, rfl⟩)))))))))
  · refine Go.run hsz hn1 1 (pc' := 1) (lv' := [some (gr 0), some (gi 4)]) (st' := [gi 4]) (M' := gw mi ml) rfl ?_
    refine Go.tsw_in (l := _) (w' := 4) (t := 80) (by rfl) (by rfl) ⟨by decide, by decide⟩ (by decide) (by decide) (by rfl) ?_
    refine Go.run hsz hn1 3 (pc' := 87) (lv' := [some (gr 0), some (gi 4)]) (st' := [gi (mi 132 0)]) (M' := gw mi ml) rfl ?_
    refine Go.iret (by rfl) ?_
    first | (exact Or.inl ⟨by omega, rfl, rfl⟩) | (exact Or.inr (Or.inl ⟨by omega, rfl, rfl⟩)) | (exact Or.inr (Or.inr (Or.inl ⟨by omega, rfl, rfl⟩))) | (exact Or.inr (Or.inr (Or.inr (Or.inl ⟨by omega, rfl, rfl⟩)))) | (exact Or.inr (Or.inr (Or.inr (Or.inr (Or.inl ⟨by omega, rfl, rfl⟩))))) | (exact Or.inr (Or.inr (Or.inr (Or.inr (Or.inr (Or.inl ⟨by omega, rfl, rfl⟩)))))) | (exact Or.inr (Or.inr (Or.inr (Or.inr (Or.inr (Or.inr (Or.inl ⟨by omega, rfl, rfl⟩))))))) | (exact Or.inr (Or.inr (Or.inr (Or.inr (Or.inr (Or.inr (Or.inr (Or.inl ⟨by omega, rfl, rfl⟩)))))))) | (exact Or.inr (Or.inr (Or.inr (Or.inr (Or.inr (Or.inr (Or.inr (Or.inr (⟨by omega, rfl, rfl⟩)))))))))
  · refine Go.run hsz hn1 1 (pc' := 1) (lv' := [some (gr 0), some (gi 5)]) (st' := [gi 5]) (M' := gw mi ml) rfl ?_
    refine Go.tsw_in (l := _) (w' := 5) (t := 88) (by rfl) (by rfl) ⟨by decide, by decide⟩ (by decide) (by decide) (by rfl) ?_
    refine Go.run hsz hn1 4 (pc' := 98) (lv' := [some (gr 0), some (gi 5)]) (st' := [gi (mi 7 0)]) (M' := gw mi ml) rfl ?_
    refine Go.iret (by rfl) ?_
    first | (exact Or.inl ⟨by omega, rfl, rfl⟩) | (exact Or.inr (Or.inl ⟨by omega, rfl, rfl⟩)) | (exact Or.inr (Or.inr (Or.inl ⟨by omega, rfl, rfl⟩))) | (exact Or.inr (Or.inr (Or.inr (Or.inl ⟨by omega, rfl, rfl⟩)))) | (exact Or.inr (Or.inr (Or.inr (Or.inr (Or.inl ⟨by omega, rfl, rfl⟩))))) | (exact Or.inr (Or.inr (Or.inr (Or.inr (Or.inr (Or.inl ⟨by omega, rfl, rfl⟩)))))) | (exact Or.inr (Or.inr (Or.inr (Or.inr (Or.inr (Or.inr (Or.inl ⟨by omega, rfl, rfl⟩))))))) | (exact Or.inr (Or.inr (Or.inr (Or.inr (Or.inr (Or.inr (Or.inr (Or.inl ⟨by omega, rfl, rfl⟩)))))))) | (exact Or.inr (Or.inr (Or.inr (Or.inr (Or.inr (Or.inr (Or.inr (Or.inr (⟨by omega, rfl, rfl⟩)))))))))
  · refine Go.run hsz hn1 1 (pc' := 1) (lv' := [some (gr 0), some (gi 6)]) (st' := [gi 6]) (M' := gw mi ml) rfl ?_
    refine Go.tsw_in (l := _) (w' := 6) (t := 99) (by rfl) (by rfl) ⟨by decide, by decide⟩ (by decide) (by decide) (by rfl) ?_
    refine Go.run hsz hn1 2 (pc' := 103) (lv' := [some (gr 0), some (gi 6)]) (st' := [gr 1]) (M' := gw mi ml) rfl ?_
    refine Go.callV (As := []) (b := 1) (st := []) (mc1 := 0) (mc := 0) (ms1 := 0) (ms := 0) (by rfl) rfl (c := 7) (N := 11) (by rfl) (by decide) (by rfl) (gcn 67 (by decide)).1 (gcn 67 (by decide)).2 rfl (Nat.le_of_ble_eq_true rfl) (by omega) (cS_hereN hsz (n := n - 1) (by omega) mi ml  hv) ?_
    rintro _ _ ⟨rfl, rfl⟩
    refine Go.run hsz hn1 0 (pc' := 106) (lv' := [some (gr 0), some (gi 6)]) (st' := [gi (cHereN mi (mi 1 3).toNat)]) (M' := gw mi ml) rfl ?_
    refine Go.iret (by rfl) ?_
    first | (exact Or.inl ⟨by omega, rfl, rfl⟩) | (exact Or.inr (Or.inl ⟨by omega, rfl, rfl⟩)) | (exact Or.inr (Or.inr (Or.inl ⟨by omega, rfl, rfl⟩))) | (exact Or.inr (Or.inr (Or.inr (Or.inl ⟨by omega, rfl, rfl⟩)))) | (exact Or.inr (Or.inr (Or.inr (Or.inr (Or.inl ⟨by omega, rfl, rfl⟩))))) | (exact Or.inr (Or.inr (Or.inr (Or.inr (Or.inr (Or.inl ⟨by omega, rfl, rfl⟩)))))) | (exact Or.inr (Or.inr (Or.inr (Or.inr (Or.inr (Or.inr (Or.inl ⟨by omega, rfl, rfl⟩))))))) | (exact Or.inr (Or.inr (Or.inr (Or.inr (Or.inr (Or.inr (Or.inr (Or.inl ⟨by omega, rfl, rfl⟩)))))))) | (exact Or.inr (Or.inr (Or.inr (Or.inr (Or.inr (Or.inr (Or.inr (Or.inr (⟨by omega, rfl, rfl⟩)))))))))
  · refine Go.run hsz hn1 1 (pc' := 1) (lv' := [some (gr 0), some (gi 7)]) (st' := [gi 7]) (M' := gw mi ml) rfl ?_
    refine Go.tsw_in (l := _) (w' := 7) (t := 107) (by rfl) (by rfl) ⟨by decide, by decide⟩ (by decide) (by decide) (by rfl) ?_
    refine Go.run hsz hn1 2 (pc' := 111) (lv' := [some (gr 0), some (gi 7)]) (st' := [gr 1]) (M' := gw mi ml) rfl ?_
    refine Go.callV (As := []) (b := 1) (st := []) (mc1 := 0) (mc := 0) (ms1 := 0) (ms := 0) (by rfl) rfl (c := 7) (N := 11) (by rfl) (by decide) (by rfl) (gcn 68 (by decide)).1 (gcn 68 (by decide)).2 rfl (Nat.le_of_ble_eq_true rfl) (by omega) (cS_waitN hsz (n := n - 1) (by omega) mi ml  hv) ?_
    rintro _ _ ⟨rfl, rfl⟩
    refine Go.run hsz hn1 0 (pc' := 114) (lv' := [some (gr 0), some (gi 7)]) (st' := [gi (cWaitN mi (mi 1 3).toNat)]) (M' := gw mi ml) rfl ?_
    refine Go.iret (by rfl) ?_
    first | (exact Or.inl ⟨by omega, rfl, rfl⟩) | (exact Or.inr (Or.inl ⟨by omega, rfl, rfl⟩)) | (exact Or.inr (Or.inr (Or.inl ⟨by omega, rfl, rfl⟩))) | (exact Or.inr (Or.inr (Or.inr (Or.inl ⟨by omega, rfl, rfl⟩)))) | (exact Or.inr (Or.inr (Or.inr (Or.inr (Or.inl ⟨by omega, rfl, rfl⟩))))) | (exact Or.inr (Or.inr (Or.inr (Or.inr (Or.inr (Or.inl ⟨by omega, rfl, rfl⟩)))))) | (exact Or.inr (Or.inr (Or.inr (Or.inr (Or.inr (Or.inr (Or.inl ⟨by omega, rfl, rfl⟩))))))) | (exact Or.inr (Or.inr (Or.inr (Or.inr (Or.inr (Or.inr (Or.inr (Or.inl ⟨by omega, rfl, rfl⟩)))))))) | (exact Or.inr (Or.inr (Or.inr (Or.inr (Or.inr (Or.inr (Or.inr (Or.inr (⟨by omega, rfl, rfl⟩)))))))))
  · refine Go.run hsz hn1 1 (pc' := 1) (lv' := [some (gr 0), some (gi x)]) (st' := [gi x]) (M' := gw mi ml) rfl ?_
    refine Go.tsw_out (l := _) (by rfl) (by rfl) r_x (by omega) ?_
    refine Go.run hsz hn1 2 (pc' := 118) (lv' := [some (gr 0), some (gi x)]) (st' := [gi (-1000001), gr 0]) (M' := gw mi ml) rfl ?_
    refine Go.callV (As := [gi (-1000001)]) (b := 0) (st := []) (mc1 := 0) (mc := 0) (ms1 := 0) (ms := 0) (by rfl) rfl (c := 10) (N := 9) (by rfl) (by decide) (by rfl) (gcn 147 (by decide)).1 (gcn 147 (by decide)).2 rfl (Nat.le_of_ble_eq_true rfl) (by omega) (cC_finding hsz (n := n - 1) (by omega) mi ml (-1000001) (by decide) (by decide)) ?_
    rintro _ _ ⟨rfl, rfl⟩
    refine Go.run hsz hn1 0 (pc' := 121) (lv' := [some (gr 0), some (gi x)]) (st' := [gi (-1000001)]) (M' := gw (cFd mi 0) ml) rfl ?_
    refine Go.iret (by rfl) ?_
    first | (exact Or.inl ⟨by omega, rfl, rfl⟩) | (exact Or.inr (Or.inl ⟨by omega, rfl, rfl⟩)) | (exact Or.inr (Or.inr (Or.inl ⟨by omega, rfl, rfl⟩))) | (exact Or.inr (Or.inr (Or.inr (Or.inl ⟨by omega, rfl, rfl⟩)))) | (exact Or.inr (Or.inr (Or.inr (Or.inr (Or.inl ⟨by omega, rfl, rfl⟩))))) | (exact Or.inr (Or.inr (Or.inr (Or.inr (Or.inr (Or.inl ⟨by omega, rfl, rfl⟩)))))) | (exact Or.inr (Or.inr (Or.inr (Or.inr (Or.inr (Or.inr (Or.inl ⟨by omega, rfl, rfl⟩))))))) | (exact Or.inr (Or.inr (Or.inr (Or.inr (Or.inr (Or.inr (Or.inr (Or.inl ⟨by omega, rfl, rfl⟩)))))))) | (exact Or.inr (Or.inr (Or.inr (Or.inr (Or.inr (Or.inr (Or.inr (Or.inr (⟨by omega, rfl, rfl⟩)))))))))

def cFar (mi : Nat → Nat → Int) (p q : Int) : Int := absI (cP mi p 0 - cP mi q 0) + absI (cP mi p 1 - cP mi q 1)
def cApart (mi : Nat → Nat → Int) (k : Nat) : Int := gfold (fun a acc => if ¬ cA mi a 9 = -1 ∧ 0 ≤ cA mi a 8 ∧ 0 ≤ cA mi (cA mi a 9) 8 then acc + cFar mi (cA mi a 8) (cA mi (cA mi a 9) 8) else acc) 0 k
set_option maxRecDepth 100000 in
set_option maxHeartbeats 4000000 in
theorem cS_dist {G : gG} (hsz : G.2.2.2.2.2.2 = true) {n : Nat} (hn : 2 ≤ n) (mi : Nat → Nat → Int) (ml : Nat → Nat → Int64) (p q : Int) (p0 : 0 ≤ p) (p1 : p < 12) (q0 : 0 ≤ q) (q1 : q < 12) (ha : CQV mi p) (hb : CQV mi q) : gM G 69 n 0 0 [gr 1, gi p, gi q] (gw mi ml) (gret (cFar mi p q) (gw mi ml)) := by
  have hn1 : 1 ≤ n := by omega
  obtain ⟨⟨x0, x1⟩, ⟨y0, y1⟩, -⟩ := id ha
  obtain ⟨⟨x2, x3⟩, ⟨y2, y3⟩, -⟩ := id hb
  refine gM.of mX8_distance okX8_distance (gcp 69 (by decide)).1 (gcp 69 (by decide)).2 (Nat.le_of_ble_eq_true rfl) ?_
  refine Go.run hsz hn1 3 (pc' := 5) (lv' := [some (gr 1), some (gi p), some (gi q)]) (st' := [gi p, gr 2]) (M' := gw mi ml) rfl ?_
  refine Go.aaldR 3 (by rfl) (N := 12) (by rfl) ⟨by decide, by decide⟩ (by omega) (by omega) (by decide) (gMR_2 (by omega) (by omega)) ?_
  refine Go.getf (by rfl) (c := 3) (N := 10) (shP (i := p) (by omega)) ?_
  refine Go.run hsz hn1 3 (pc' := 14) (lv' := [some (gr 1), some (gi p), some (gi q)]) (st' := [gi q, gr 2, gi (cP mi p 0)]) (M' := gw mi ml) rfl ?_
  refine Go.aaldR 3 (by rfl) (N := 12) (by rfl) ⟨by decide, by decide⟩ (by omega) (by omega) (by decide) (gMR_2 (by omega) (by omega)) ?_
  refine Go.run hsz hn1 0 (pc' := 15) (lv' := [some (gr 1), some (gi p), some (gi q)]) (st' := [gr (12 + q.toNat), gi (cP mi p 0)]) (M' := gw mi ml) rfl ?_
  refine Go.getf (by rfl) (c := 3) (N := 10) (shP (i := q) (by omega)) ?_
  refine Go.run hsz hn1 1 (pc' := 19) (lv' := [some (gr 1), some (gi p), some (gi q)]) (st' := [gi ((cP mi p 0) - (cP mi q 0))]) (M' := gw mi ml) rfl ?_
  refine Go.mabs (by rfl) hn1 (Nat.le_of_ble_eq_true rfl) ⟨by omega, by omega⟩ ?_
  refine Go.run hsz hn1 3 (pc' := 27) (lv' := [some (gr 1), some (gi p), some (gi q)]) (st' := [gi p, gr 2, gi (absI ((cP mi p 0) - (cP mi q 0)))]) (M' := gw mi ml) rfl ?_
  refine Go.aaldR 3 (by rfl) (N := 12) (by rfl) ⟨by decide, by decide⟩ (by omega) (by omega) (by decide) (gMR_2 (by omega) (by omega)) ?_
  refine Go.run hsz hn1 0 (pc' := 28) (lv' := [some (gr 1), some (gi p), some (gi q)]) (st' := [gr (12 + p.toNat), gi (absI ((cP mi p 0) - (cP mi q 0)))]) (M' := gw mi ml) rfl ?_
  refine Go.getf (by rfl) (c := 3) (N := 10) (shP (i := p) (by omega)) ?_
  refine Go.run hsz hn1 3 (pc' := 36) (lv' := [some (gr 1), some (gi p), some (gi q)]) (st' := [gi q, gr 2, gi (cP mi p 1), gi (absI ((cP mi p 0) - (cP mi q 0)))]) (M' := gw mi ml) rfl ?_
  refine Go.aaldR 3 (by rfl) (N := 12) (by rfl) ⟨by decide, by decide⟩ (by omega) (by omega) (by decide) (gMR_2 (by omega) (by omega)) ?_
  refine Go.run hsz hn1 0 (pc' := 37) (lv' := [some (gr 1), some (gi p), some (gi q)]) (st' := [gr (12 + q.toNat), gi (cP mi p 1), gi (absI ((cP mi p 0) - (cP mi q 0)))]) (M' := gw mi ml) rfl ?_
  refine Go.getf (by rfl) (c := 3) (N := 10) (shP (i := q) (by omega)) ?_
  refine Go.run hsz hn1 1 (pc' := 41) (lv' := [some (gr 1), some (gi p), some (gi q)]) (st' := [gi ((cP mi p 1) - (cP mi q 1)), gi (absI ((cP mi p 0) - (cP mi q 0)))]) (M' := gw mi ml) rfl ?_
  refine Go.mabs (by rfl) hn1 (Nat.le_of_ble_eq_true rfl) ⟨by omega, by omega⟩ ?_
  refine Go.run hsz hn1 1 (pc' := 45) (lv' := [some (gr 1), some (gi p), some (gi q)]) (st' := [gi ((absI ((cP mi p 0) - (cP mi q 0))) + (absI ((cP mi p 1) - (cP mi q 1))))]) (M' := gw mi ml) rfl ?_
  first | exact Go.iret (by rfl) ⟨congrArg (fun z => some (gi z)) (rfl), rfl⟩ | (exfalso; omega)
set_option maxRecDepth 100000 in
set_option maxHeartbeats 4000000 in
theorem pC_far {G : gG} (hsz : G.2.2.2.2.2.2 = true) {n : Nat} (hn : 4 ≤ n) (mi : Nat → Nat → Int) (ml : Nat → Nat → Int64) (p q : Int) (r_p : rng p) (r_q : rng q) (hv : CV mi)  : gM G 106 n 0 0 [gr 0, gi p, gi q] (gw mi ml) (fun r M => gE ((0 ≤ p ∧ p < mi 1 2) ∧ (0 ≤ q ∧ q < mi 1 2)) (cFar mi p q) (mi) ml r M ∨ gE (¬ ((0 ≤ p ∧ p < mi 1 2) ∧ (0 ≤ q ∧ q < mi 1 2))) (-1000001) (cFd mi 0) ml r M) := by
  have hn1 : 1 ≤ n := by omega
  obtain ⟨hR, ht, hp, hq, hP, hQ⟩ := id hv
  refine gM.of mX11_far okX11_far (gcp 106 (by decide)).1 (gcp 106 (by decide)).2 (Nat.le_of_ble_eq_true rfl) ?_
  refine Go.run hsz hn1 3 (pc' := 5) (lv' := [some (gr 0), some (gi p), some (gi q)]) (st' := [gi p, gr 1]) (M' := gw mi ml) rfl ?_
  refine Go.callV (As := [gi p]) (b := 1) (st := []) (mc1 := 0) (mc := 0) (ms1 := 0) (ms := 0) (by rfl) rfl (c := 7) (N := 11) (by rfl) (by decide) (by rfl) (gcn 59 (by decide)).1 (gcn 59 (by decide)).2 rfl (Nat.le_of_ble_eq_true rfl) (by omega) (cS_isPitch hsz (n := n - 1) (by omega) mi ml p r_p hR) ?_
  rintro _ _ ⟨rfl, rfl⟩
  refine Go.run hsz hn1 0 (pc' := 8) (lv' := [some (gr 0), some (gi p), some (gi q)]) (st' := [gi (b2 (0 ≤ p ∧ p < mi 1 2))]) (M' := gw mi ml) rfl ?_
  refine Go.if_eq (by rfl) (b2_rng _) (fun kq1 => ?_) (fun kq1 => ?_)
  · replace kq1 := b2_neg kq1
    refine Go.run hsz hn1 2 (pc' := 25) (lv' := [some (gr 0), some (gi p), some (gi q)]) (st' := [gi (-1000001), gr 0]) (M' := gw mi ml) rfl ?_
    refine Go.callV (As := [gi (-1000001)]) (b := 0) (st := []) (mc1 := 0) (mc := 0) (ms1 := 0) (ms := 0) (by rfl) rfl (c := 10) (N := 9) (by rfl) (by decide) (by rfl) (gcn 147 (by decide)).1 (gcn 147 (by decide)).2 rfl (Nat.le_of_ble_eq_true rfl) (by omega) (cC_finding hsz (n := n - 1) (by omega) mi ml (-1000001) (by decide) (by decide)) ?_
    rintro _ _ ⟨rfl, rfl⟩
    refine Go.run hsz hn1 0 (pc' := 28) (lv' := [some (gr 0), some (gi p), some (gi q)]) (st' := [gi (-1000001)]) (M' := gw (cFd mi 0) ml) rfl ?_
    refine Go.iret (by rfl) ?_
    first | (exact Or.inl ⟨by omega, rfl, rfl⟩) | (exact Or.inr (⟨by omega, rfl, rfl⟩))
  · replace kq1 := b2_pos kq1
    refine Go.run hsz hn1 3 (pc' := 16) (lv' := [some (gr 0), some (gi p), some (gi q)]) (st' := [gi q, gr 1]) (M' := gw mi ml) rfl ?_
    refine Go.callV (As := [gi q]) (b := 1) (st := []) (mc1 := 0) (mc := 0) (ms1 := 0) (ms := 0) (by rfl) rfl (c := 7) (N := 11) (by rfl) (by decide) (by rfl) (gcn 59 (by decide)).1 (gcn 59 (by decide)).2 rfl (Nat.le_of_ble_eq_true rfl) (by omega) (cS_isPitch hsz (n := n - 1) (by omega) mi ml q r_q hR) ?_
    rintro _ _ ⟨rfl, rfl⟩
    refine Go.run hsz hn1 0 (pc' := 19) (lv' := [some (gr 0), some (gi p), some (gi q)]) (st' := [gi (b2 (0 ≤ q ∧ q < mi 1 2))]) (M' := gw mi ml) rfl ?_
    refine Go.if_ne (by rfl) (b2_rng _) (fun kq2 => ?_) (fun kq2 => ?_)
    · replace kq2 := b2_pos kq2
      refine Go.run hsz hn1 4 (pc' := 35) (lv' := [some (gr 0), some (gi p), some (gi q)]) (st' := [gi q, gi p, gr 1]) (M' := gw mi ml) rfl ?_
      refine Go.callV (As := [gi p, gi q]) (b := 1) (st := []) (mc1 := 0) (mc := 0) (ms1 := 0) (ms := 0) (by rfl) rfl (c := 7) (N := 11) (by rfl) (by decide) (by rfl) (gcn 69 (by decide)).1 (gcn 69 (by decide)).2 rfl (Nat.le_of_ble_eq_true rfl) (by omega) (cS_dist hsz (n := n - 1) (by omega) mi ml p q (by omega) (by omega) (by omega) (by omega) (hQ _ (by omega) (by omega)) (hQ _ (by omega) (by omega))) ?_
      rintro _ _ ⟨rfl, rfl⟩
      refine Go.run hsz hn1 0 (pc' := 38) (lv' := [some (gr 0), some (gi p), some (gi q)]) (st' := [gi (cFar mi p q)]) (M' := gw mi ml) rfl ?_
      refine Go.iret (by rfl) ?_
      first | (exact Or.inl ⟨by omega, rfl, rfl⟩) | (exact Or.inr (⟨by omega, rfl, rfl⟩))
    · replace kq2 := b2_neg kq2
      refine Go.run hsz hn1 2 (pc' := 25) (lv' := [some (gr 0), some (gi p), some (gi q)]) (st' := [gi (-1000001), gr 0]) (M' := gw mi ml) rfl ?_
      refine Go.callV (As := [gi (-1000001)]) (b := 0) (st := []) (mc1 := 0) (mc := 0) (ms1 := 0) (ms := 0) (by rfl) rfl (c := 10) (N := 9) (by rfl) (by decide) (by rfl) (gcn 147 (by decide)).1 (gcn 147 (by decide)).2 rfl (Nat.le_of_ble_eq_true rfl) (by omega) (cC_finding hsz (n := n - 1) (by omega) mi ml (-1000001) (by decide) (by decide)) ?_
      rintro _ _ ⟨rfl, rfl⟩
      refine Go.run hsz hn1 0 (pc' := 28) (lv' := [some (gr 0), some (gi p), some (gi q)]) (st' := [gi (-1000001)]) (M' := gw (cFd mi 0) ml) rfl ?_
      refine Go.iret (by rfl) ?_
      first | (exact Or.inl ⟨by omega, rfl, rfl⟩) | (exact Or.inr (⟨by omega, rfl, rfl⟩))
set_option maxRecDepth 100000 in
set_option maxHeartbeats 4000000 in
theorem lC_apart {G : gG} (hsz : G.2.2.2.2.2.2 = true) {n : Nat} (hn : 4 ≤ n) (mi : Nat → Nat → Int) (ml : Nat → Nat → Int64) (hv : CV mi) : ∀ (f : Nat) (k : Int), 0 ≤ k → k ≤ mi 1 3 → mi 1 3 - k < f → Go G mX11_apart n 0 0 4 [some (gr 0), some (gi (cApart mi k.toNat)), some (gi k), none] [] (gw mi ml) (gret (cApart mi (mi 1 3).toNat) (gw mi ml)) := by
  have hn1 : 1 ≤ n := by omega
  obtain ⟨hR, ht, hp, hq, hP, hQ⟩ := id hv
  intro f
  induction f with
  | zero => intros; omega
  | succ f ih =>
    intro k k0 k1 k2
    refine Go.run hsz hn1 4 (pc' := 12) (lv' := [some (gr 0), some (gi (cApart mi k.toNat)), some (gi k), none]) (st' := [gi (mi 1 3), gi k]) (M' := gw mi ml) rfl ?_
    refine Go.icmp_ge (by rfl) ⟨by omega, by omega⟩ (hR _ _) (fun kq1 => ?_) (fun kq1 => ?_)
    · refine Go.run hsz hn1 1 (pc' := 96) (lv' := [some (gr 0), some (gi (cApart mi k.toNat)), some (gi k), none]) (st' := [gi (cApart mi k.toNat)]) (M' := gw mi ml) rfl ?_
      exact Go.iret (by rfl) ⟨by rw [show mi 1 3 = k by omega], rfl⟩
    · refine Go.run hsz hn1 4 (pc' := 23) (lv' := [some (gr 0), some (gi (cApart mi k.toNat)), some (gi k), none]) (st' := [gi k, gr 3]) (M' := gw mi ml) rfl ?_
      refine Go.aaldR 4 (by rfl) (N := 24) (by rfl) ⟨by decide, by decide⟩ (by omega) (by omega) (by decide) (gMR_3 (by omega) (by omega)) ?_
      refine Go.getf (by rfl) (c := 2) (N := 14) (shA (i := k) (by omega)) ?_
      refine Go.run hsz hn1 3 (pc' := 30) (lv' := [some (gr 0), some (gi (cApart mi k.toNat)), some (gi k), some (gi (cA mi k 9))]) (st' := [gi (-1), gi (cA mi k 9)]) (M' := gw mi ml) rfl ?_
      refine Go.icmp_eq (by rfl) (hR _ _) ⟨by decide, by decide⟩ (fun kq2 => ?_) (fun kq2 => ?_)
      · refine Go.run hsz hn1 2 (pc' := 4) (lv' := [some (gr 0), some (gi (cApart mi k.toNat)), some (gi (k + 1)), some (gi (cA mi k 9))]) (st' := []) (M' := gw mi ml) rfl ?_
        refine Go.dropl 3 ?_
        refine Go.run hsz hn1 0 (pc' := 4) (lv' := [some (gr 0), some (gi (cApart mi k.toNat)), some (gi (k + 1)), none]) (st' := []) (M' := gw mi ml) rfl ?_
        have h9 := ih (k + 1) (by omega) (by omega) (by omega)
        rw [show cApart mi (k + 1).toNat = _ from gfold_s k0] at h9
        (try dsimp only at h9)
        (repeat' split at h9) <;> first | exact h9 | (exfalso; omega)
      · refine Go.run hsz hn1 3 (pc' := 38) (lv' := [some (gr 0), some (gi (cApart mi k.toNat)), some (gi k), some (gi (cA mi k 9))]) (st' := [gi k, gr 1]) (M' := gw mi ml) rfl ?_
        refine Go.callV (As := [gi k]) (b := 1) (st := []) (mc1 := 0) (mc := 0) (ms1 := 0) (ms := 0) (by rfl) rfl (c := 7) (N := 11) (by rfl) (by decide) (by rfl) (gcn 62 (by decide)).1 (gcn 62 (by decide)).2 rfl (Nat.le_of_ble_eq_true rfl) (by omega) (cS_isOn hsz (n := n - 1) (by omega) mi ml k (by omega) (by omega) hR) ?_
        rintro _ _ ⟨rfl, rfl⟩
        have ex := (hP k (by omega) (by omega)).2.2.2.2.2.2.2.1
        have e9 := (hP k (by omega) (by omega)).2.2.2.2.2.2.2.2.1
        refine Go.run hsz hn1 0 (pc' := 41) (lv' := [some (gr 0), some (gi (cApart mi k.toNat)), some (gi k), some (gi (cA mi k 9))]) (st' := [gi (b2 (0 ≤ cA mi k 8))]) (M' := gw mi ml) rfl ?_
        refine Go.if_eq (by rfl) (b2_rng _) (fun kq3 => ?_) (fun kq3 => ?_)
        · replace kq3 := b2_neg kq3
          refine Go.run hsz hn1 2 (pc' := 4) (lv' := [some (gr 0), some (gi (cApart mi k.toNat)), some (gi (k + 1)), some (gi (cA mi k 9))]) (st' := []) (M' := gw mi ml) rfl ?_
          refine Go.dropl 3 ?_
          refine Go.run hsz hn1 0 (pc' := 4) (lv' := [some (gr 0), some (gi (cApart mi k.toNat)), some (gi (k + 1)), none]) (st' := []) (M' := gw mi ml) rfl ?_
          have h9 := ih (k + 1) (by omega) (by omega) (by omega)
          rw [show cApart mi (k + 1).toNat = _ from gfold_s k0] at h9
          (try dsimp only at h9)
          (repeat' split at h9) <;> first | exact h9 | (exfalso; omega)
        · replace kq3 := b2_pos kq3
          refine Go.run hsz hn1 3 (pc' := 49) (lv' := [some (gr 0), some (gi (cApart mi k.toNat)), some (gi k), some (gi (cA mi k 9))]) (st' := [gi (cA mi k 9), gr 1]) (M' := gw mi ml) rfl ?_
          refine Go.callV (As := [gi (cA mi k 9)]) (b := 1) (st := []) (mc1 := 0) (mc := 0) (ms1 := 0) (ms := 0) (by rfl) rfl (c := 7) (N := 11) (by rfl) (by decide) (by rfl) (gcn 62 (by decide)).1 (gcn 62 (by decide)).2 rfl (Nat.le_of_ble_eq_true rfl) (by omega) (cS_isOn hsz (n := n - 1) (by omega) mi ml (cA mi k 9) (by omega) (by omega) hR) ?_
          rintro _ _ ⟨rfl, rfl⟩
          have ey := (hP (cA mi k 9) (by omega) (by omega)).2.2.2.2.2.2.2.1
          refine Go.run hsz hn1 0 (pc' := 52) (lv' := [some (gr 0), some (gi (cApart mi k.toNat)), some (gi k), some (gi (cA mi k 9))]) (st' := [gi (b2 (0 ≤ cA mi (cA mi k 9) 8))]) (M' := gw mi ml) rfl ?_
          refine Go.if_eq (by rfl) (b2_rng _) (fun kq4 => ?_) (fun kq4 => ?_)
          · replace kq4 := b2_neg kq4
            refine Go.run hsz hn1 2 (pc' := 4) (lv' := [some (gr 0), some (gi (cApart mi k.toNat)), some (gi (k + 1)), some (gi (cA mi k 9))]) (st' := []) (M' := gw mi ml) rfl ?_
            refine Go.dropl 3 ?_
            refine Go.run hsz hn1 0 (pc' := 4) (lv' := [some (gr 0), some (gi (cApart mi k.toNat)), some (gi (k + 1)), none]) (st' := []) (M' := gw mi ml) rfl ?_
            have h9 := ih (k + 1) (by omega) (by omega) (by omega)
            rw [show cApart mi (k + 1).toNat = _ from gfold_s k0] at h9
            (try dsimp only at h9)
            (repeat' split at h9) <;> first | exact h9 | (exfalso; omega)
          · replace kq4 := b2_pos kq4
            refine Go.run hsz hn1 7 (pc' := 68) (lv' := [some (gr 0), some (gi (cApart mi k.toNat)), some (gi k), some (gi (cA mi k 9))]) (st' := [gi k, gr 3, gr 1, gi (cApart mi k.toNat)]) (M' := gw mi ml) rfl ?_
            refine Go.aaldR 4 (by rfl) (N := 24) (by rfl) ⟨by decide, by decide⟩ (by omega) (by omega) (by decide) (gMR_3 (by omega) (by omega)) ?_
            refine Go.run hsz hn1 0 (pc' := 69) (lv' := [some (gr 0), some (gi (cApart mi k.toNat)), some (gi k), some (gi (cA mi k 9))]) (st' := [gr (24 + k.toNat), gr 1, gi (cApart mi k.toNat)]) (M' := gw mi ml) rfl ?_
            refine Go.getf (by rfl) (c := 2) (N := 14) (shA (i := k) (by omega)) ?_
            refine Go.run hsz hn1 4 (pc' := 80) (lv' := [some (gr 0), some (gi (cApart mi k.toNat)), some (gi k), some (gi (cA mi k 9))]) (st' := [gi (cA mi k 9), gr 3, gi (cA mi k 8), gr 1, gi (cApart mi k.toNat)]) (M' := gw mi ml) rfl ?_
            refine Go.aaldR 4 (by rfl) (N := 24) (by rfl) ⟨by decide, by decide⟩ (by omega) (by omega) (by decide) (gMR_3 (by omega) (by omega)) ?_
            refine Go.run hsz hn1 0 (pc' := 81) (lv' := [some (gr 0), some (gi (cApart mi k.toNat)), some (gi k), some (gi (cA mi k 9))]) (st' := [gr (24 + (cA mi k 9).toNat), gi (cA mi k 8), gr 1, gi (cApart mi k.toNat)]) (M' := gw mi ml) rfl ?_
            refine Go.getf (by rfl) (c := 2) (N := 14) (shA (i := cA mi k 9) (by omega)) ?_
            refine Go.run hsz hn1 0 (pc' := 84) (lv' := [some (gr 0), some (gi (cApart mi k.toNat)), some (gi k), some (gi (cA mi k 9))]) (st' := [gi (cA mi (cA mi k 9) 8), gi (cA mi k 8), gr 1, gi (cApart mi k.toNat)]) (M' := gw mi ml) rfl ?_
            refine Go.callV (As := [gi (cA mi k 8), gi (cA mi (cA mi k 9) 8)]) (b := 1) (st := [gi (cApart mi k.toNat)]) (mc1 := 0) (mc := 0) (ms1 := 0) (ms := 0) (by rfl) rfl (c := 7) (N := 11) (by rfl) (by decide) (by rfl) (gcn 69 (by decide)).1 (gcn 69 (by decide)).2 rfl (Nat.le_of_ble_eq_true rfl) (by omega) (cS_dist hsz (n := n - 1) (by omega) mi ml (cA mi k 8) (cA mi (cA mi k 9) 8) (by omega) (by omega) (by omega) (by omega) (hQ _ (by omega) (by omega)) (hQ _ (by omega) (by omega))) ?_
            rintro _ _ ⟨rfl, rfl⟩
            refine Go.run hsz hn1 4 (pc' := 4) (lv' := [some (gr 0), some (gi ((cApart mi k.toNat) + (cFar mi (cA mi k 8) (cA mi (cA mi k 9) 8)))), some (gi (k + 1)), some (gi (cA mi k 9))]) (st' := []) (M' := gw mi ml) rfl ?_
            refine Go.dropl 3 ?_
            refine Go.run hsz hn1 0 (pc' := 4) (lv' := [some (gr 0), some (gi ((cApart mi k.toNat) + (cFar mi (cA mi k 8) (cA mi (cA mi k 9) 8)))), some (gi (k + 1)), none]) (st' := []) (M' := gw mi ml) rfl ?_
            have h9 := ih (k + 1) (by omega) (by omega) (by omega)
            rw [show cApart mi (k + 1).toNat = _ from gfold_s k0] at h9
            (try dsimp only at h9)
            (repeat' split at h9) <;> first | exact h9 | (exfalso; omega)
set_option maxRecDepth 100000 in
set_option maxHeartbeats 4000000 in
theorem cC_apart {G : gG} (hsz : G.2.2.2.2.2.2 = true) {n : Nat} (hn : 4 ≤ n) (mi : Nat → Nat → Int) (ml : Nat → Nat → Int64) (hv : CV mi) : gM G 116 n 0 0 [gr 0] (gw mi ml) (gret (cApart mi (mi 1 3).toNat) (gw mi ml)) := by
  have hn1 : 1 ≤ n := by omega
  refine gM.of mX11_apart okX11_apart (gcp 116 (by decide)).1 (gcp 116 (by decide)).2 (Nat.le_of_ble_eq_true rfl) ?_
  refine Go.run hsz hn1 4 (pc' := 4) (lv' := [some (gr 0), some (gi 0), some (gi 0), none]) (st' := []) (M' := gw mi ml) rfl ?_
  exact lC_apart hsz hn mi ml  hv ((mi 1 3).toNat + 1) 0 (by omega) (by have := hv.2.2.2.1.1; omega) (by omega)

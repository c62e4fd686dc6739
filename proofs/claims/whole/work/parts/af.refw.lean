/-! ===== plan: the reference whole ===== -/
set_option maxRecDepth 100000 in
set_option maxHeartbeats 4000000 in
theorem lM_p151 {G : gG} (hsz : G.2.2.2.2.2.2 = true) {n : Nat} (hn : 8 ≤ n) (ml : Nat → Nat → Int64) (mi : Nat → Nat → Int) (hv : SV mi) (x : Int) (mem : Nat → Nat) (z : Nat) (hz : z ≤ 4) (hmem : ∀ i, i < z → (mem i : Int) < mi 148 6) (hinj : ∀ i j, i < z → j < z → mem i = mem j → i = j) (W : Int) (hW0 : 1 ≤ W ∧ W ≤ 28561) (hW : plN (mi 148 2).toNat z = W.toNat) : ∀ (f : Nat) (q : Int) (m : Nat → Nat → Int) (hm : pQ mi m mem z z) (hG : pGq m q.toNat), 0 ≤ q → q ≤ mi 148 2 → mi 148 2 - q < f → Go G mX12_plan n 0 0 151 [some (gr 148), some (gi x), some (gi W), some (gi q), none, none, none, none, none, none, none] [] (gw m ml) (plFin mi mem z ml) := by
  have hn1 : 1 ≤ n := by omega
  have hP : 0 ≤ mi 148 2 ∧ mi 148 2 ≤ 12 := hv.2.2.1
  have hN : 0 ≤ mi 148 6 ∧ mi 148 6 ≤ 24 := hv.2.2.2.1
  intro f
  induction f with
  | zero => intros; omega
  | succ f ih =>
    intro q m hm hG q0 q1 q2
    have e2 : m 148 2 = mi 148 2 := hm.1.2.1 148 2 (by decide) (by decide) (by decide) (by decide) (by decide)
    have e6 : m 148 6 = mi 148 6 := hm.1.2.1 148 6 (by decide) (by decide) (by decide) (by decide) (by decide)
    have e20 : m 148 20 = z := hm.2.1
    have hR := hm.1.1
    have hb := pQ_bs hv hz hmem hinj hm
    refine Go.run hsz hn1 3 (pc' := 156) (lv' := [some (gr 148), some (gi x), some (gi W), some (gi q), none, none, none, none, none, none, none]) (st' := [gi (m 148 2), gi q]) (M' := gw m ml) rfl ?_
    refine Go.icmp_ge (by rfl) ⟨by omega, by omega⟩ (hR _ _) (fun kq1 => ?_) (fun kq1 => ?_)
    · refine Go.run hsz hn1 10 (pc' := 190) (lv' := [some (gr 148), some (gi x), some (gi W), some (gi (-1)), some (gi 0), some (gi 0), some (gi 0), some (gi 0), none, none, none]) (st' := []) (M' := gw m ml) rfl ?_
      have hq9 : q = m 148 2 := (by omega)
      have h9 := lM_pl hsz (n := n) (by omega) ml m x mem z hb (fun p hp => hG p (by omega)) W (by omega) (by rw [e2]; omega) (W.toNat + 1) 0 (-1) 0 0 0 (fun i => m 152 (12 * mem i + 6)) m (Or.inl ⟨rfl, rfl, rfl, rfl, fun d _ hs => absurd hs (Nat.not_lt_zero _)⟩) ⟨hR, fun _ _ _ _ => rfl, fun _ _ => rfl, fun _ _ => rfl⟩ (by omega) (by omega) (by omega) (by omega) (by omega) (by omega)
      refine Go.imp ?_ h9
      rintro _ _ ⟨m1, o, rfl, rfl, hE⟩
      exact ⟨m, m1, o, rfl, rfl, hb, hm.1, hE⟩
    · refine Go.run hsz hn1 5 (pc' := 166) (lv' := [some (gr 148), some (gi x), some (gi W), some (gi q), none, none, none, none, none, none, none]) (st' := [gi q, gr 148, gi q, gr 162]) (M' := gw m ml) rfl ?_
      have hgo := gap_on m q
      have hgb := oG_b m (pOn m) (m 148 6).toNat q
      refine Go.callV (As := [gi q]) (b := 148) (st := [gi q, gr 162]) (mc1 := 0) (mc := 0) (ms1 := 0) (ms := 0) (by rfl) rfl (c := 11) (N := 46) (by rfl) (by decide) (by rfl) (gcn 179 (by decide)).1 (gcn 179 (by decide)).2 rfl (Nat.le_of_ble_eq_true rfl) (by omega) (cM_gapsOf hsz (n := n - 1) (by omega) m ml q ⟨by omega, by omega⟩ hb.1) ?_
      rintro _ _ ⟨rfl, rfl⟩
      refine Go.run hsz hn1 0 (pc' := 169) (lv' := [some (gr 148), some (gi x), some (gi W), some (gi q), none, none, none, none, none, none, none]) (st' := [gi (mGapOf m q), gi q, gr 162]) (M' := gw (mTkA m q (m 148 6).toNat) ml) rfl ?_
      refine Go.iast (by rfl) (N := 12) (by rfl) (by omega) (by omega) (by decide) ?_
      refine Go.run hsz hn1 2 (pc' := 151) (lv' := [some (gr 148), some (gi x), some (gi W), some (gi (q + 1)), none, none, none, none, none, none, none]) (st' := []) (M' := gw (gu (mTkA m q (m 148 6).toNat) 162 q.toNat (mGapOf m q)) ml) rfl ?_
      refine ih (q + 1) _ (pQ_162 hm (mTkA_o m q _) (mTkA_R hR q _) ⟨by omega, by omega⟩) (by rw [show (q + 1).toNat = q.toNat + 1 by omega]; exact pGq_s hG (mTkA_o m q _) (by rw [hgo, show ((q.toNat : Nat) : Int) = q by omega])) (by omega) (by omega) (by omega)
set_option maxRecDepth 100000 in
set_option maxHeartbeats 4000000 in
theorem lM_p108 {G : gG} (hsz : G.2.2.2.2.2.2 = true) {n : Nat} (hn : 8 ≤ n) (ml : Nat → Nat → Int64) (mi : Nat → Nat → Int) (hv : SV mi) (x : Int) (mem : Nat → Nat) (z : Nat) (hz : z ≤ 4) (hmem : ∀ i, i < z → (mem i : Int) < mi 148 6) (hinj : ∀ i j, i < z → j < z → mem i = mem j → i = j) : ∀ (f : Nat) (q : Int) (W : Int) (m : Nat → Nat → Int) (hm : pQ mi m mem z q.toNat) (hW0 : 1 ≤ W ∧ W ≤ 28561) (hW : W = plN (mi 148 2).toNat q.toNat), 0 ≤ q → q ≤ z → z - q < f → Go G mX12_plan n 0 0 108 [some (gr 148), some (gi x), some (gi W), some (gi q), none, none, none, none, none, none, none] [] (gw m ml) (plFin mi mem z ml) := by
  have hn1 : 1 ≤ n := by omega
  have hP : 0 ≤ mi 148 2 ∧ mi 148 2 ≤ 12 := hv.2.2.1
  have hN : 0 ≤ mi 148 6 ∧ mi 148 6 ≤ 24 := hv.2.2.2.1
  intro f
  induction f with
  | zero => intros; omega
  | succ f ih =>
    intro q W m hm hW0 hW q0 q1 q2
    have e2 : m 148 2 = mi 148 2 := hm.1.2.1 148 2 (by decide) (by decide) (by decide) (by decide) (by decide)
    have e6 : m 148 6 = mi 148 6 := hm.1.2.1 148 6 (by decide) (by decide) (by decide) (by decide) (by decide)
    have e20 : m 148 20 = z := hm.2.1
    have hR := hm.1.1
    have hmq : q < z → m 161 q.toNat = mem q.toNat ∧ ((mem q.toNat : Nat) : Int) < mi 148 6 := fun w9 => ⟨hm.2.2 q.toNat (by omega), hmem q.toNat (by omega)⟩
    refine Go.run hsz hn1 3 (pc' := 113) (lv' := [some (gr 148), some (gi x), some (gi W), some (gi q), none, none, none, none, none, none, none]) (st' := [gi (m 148 20), gi q]) (M' := gw m ml) rfl ?_
    refine Go.icmp_ge (by rfl) ⟨by omega, by omega⟩ (hR _ _) (fun kq1 => ?_) (fun kq1 => ?_)
    · refine Go.run hsz hn1 2 (pc' := 151) (lv' := [some (gr 148), some (gi x), some (gi W), some (gi 0), none, none, none, none, none, none, none]) (st' := []) (M' := gw m ml) rfl ?_
      have hq9 : q.toNat = z := (by omega)
      rw [hq9] at hm hW
      exact lM_p151 hsz (n := n) (by omega) ml mi hv x mem z hz hmem hinj W hW0 (by omega) ((mi 148 2).toNat + 1) 0 m hm (fun p hp => absurd hp (by show ¬ p < 0; omega)) (by omega) (by omega) (by omega)
    · refine Go.run hsz hn1 6 (pc' := 127) (lv' := [some (gr 148), some (gi x), some (gi W), some (gi q), none, none, none, none, none, none, none]) (st' := [gi q, gr 161, gi 12, gr 152]) (M' := gw m ml) rfl ?_
      refine Go.iald (by rfl) (N := 4) (by rfl) (by omega) (by omega) (by decide) ?_
      refine Go.run hsz hn1 4 (pc' := 133) (lv' := [some (gr 148), some (gi x), some (gi W), some (gi q), none, none, none, none, none, none, none]) (st' := [gi (-1), gi ((12 * (m 161 q.toNat)) + 6), gr 152]) (M' := gw m ml) rfl ?_
      refine Go.iast (by rfl) (N := 288) (by rfl) (by omega) (by omega) (by decide) ?_
      refine Go.run hsz hn1 3 (pc' := 139) (lv' := [some (gr 148), some (gi x), some (gi W), some (gi q), none, none, none, none, none, none, none]) (st' := [gi ((gu m 152 (((12 * (m 161 q.toNat)) + 6).toNat) (-1)) 148 2), gi W]) (M' := gw (gu m 152 (((12 * (m 161 q.toNat)) + 6).toNat) (-1)) ml) rfl ?_
      refine Go.run hsz hn1 0 (pc' := 139) (lv' := [some (gr 148), some (gi x), some (gi W), some (gi q), none, none, none, none, none, none, none]) (st' := [gi ((gu m 152 (((12 * (m 161 q.toNat)) + 6).toNat) (-1)) 148 2), gi W]) (M' := gw (gu m 152 (((12 * (m 161 q.toNat)) + 6).toNat) (-1)) ml) rfl ?_
      rw [show (gu m 152 (((12 * (m 161 q.toNat)) + 6).toNat) (-1)) 148 2 = m 148 2 from gu_ne (Or.inl (by decide))]
      refine Go.run hsz hn1 6 (pc' := 108) (lv' := [some (gr 148), some (gi x), some (gi (W * ((m 148 2) + 1))), some (gi (q + 1)), none, none, none, none, none, none, none]) (st' := []) (M' := gw (gu m 152 (((12 * (m 161 q.toNat)) + 6).toNat) (-1)) ml) rfl ?_
      have h161 := hm.2.2 q.toNat (by omega)
      have hW9 := plN_i hP.1 hW
      have hWb := plN_b (P := (mi 148 2).toNat) (k := q.toNat + 1) (by omega) (by omega)
      rw [show W * ((m 148 2) + 1) = ((plN (mi 148 2).toNat (q.toNat + 1) : Nat) : Int) from (by rw [e2]; exact hW9)]
      exact ih (q + 1) _ _ (by rw [show (q + 1).toNat = q.toNat + 1 by omega]; exact pQ_s hm (by omega) (by omega)) (by omega) (by rw [show (q + 1).toNat = q.toNat + 1 by omega]) (by omega) (by omega) (by omega)
set_option maxRecDepth 100000 in
set_option maxHeartbeats 4000000 in
theorem lM_p35 {G : gG} (hsz : G.2.2.2.2.2.2 = true) {n : Nat} (hn : 9 ≤ n) (ml : Nat → Nat → Int64) (mi : Nat → Nat → Int) (hv : SV mi) (X : Nat) (hX : X < 16777216) (hX4 : popN X (mi 148 6).toNat ≤ 4) : ∀ (f : Nat) (q : Int) (m : Nat → Nat → Int) (hm : pgM mi m (mBn X (mi 148 6).toNat) X q.toNat) (hok : ∀ b : Nat, b < q.toNat → X.testBit b = true → plOk mi b), 0 ≤ q → q ≤ mi 148 6 → mi 148 6 - q < f → Go G mX12_plan n 0 0 35 [some (gr 148), some (gi ((X : Nat) : Int)), some (gi q), none, none, none, none, none, none, none, none] [] (gw m ml) (fun r M => ((∃ b : Nat, b < (mi 148 6).toNat ∧ X.testBit b = true ∧ ¬ plOk mi b) ∧ ∃ m : Nat → Nat → Int, pF mi m (mBn X (mi 148 6).toNat) 0 (fun _ => -1) ∧ r = some (gi (-1000005)) ∧ M = gw (mFd m 4) ml) ∨ ((∀ b : Nat, b < (mi 148 6).toNat → X.testBit b = true → plOk mi b) ∧ plFin mi (mBn X (mi 148 6).toNat) (popN X (mi 148 6).toNat) ml r M)) := by
  have hn1 : 1 ≤ n := by omega
  have hP : 0 ≤ mi 148 2 ∧ mi 148 2 ≤ 12 := hv.2.2.1
  have hN : 0 ≤ mi 148 6 ∧ mi 148 6 ≤ 24 := hv.2.2.2.1
  intro f
  induction f with
  | zero => intros; omega
  | succ f ih =>
    intro q m hm hok q0 q1 q2
    have e2 : m 148 2 = mi 148 2 := hm.1.2.1 148 2 (by decide) (by decide) (by decide) (by decide) (by decide)
    have e6 : m 148 6 = mi 148 6 := hm.1.2.1 148 6 (by decide) (by decide) (by decide) (by decide) (by decide)
    have e20 : m 148 20 = popN X q.toNat := hm.2.1
    have hR := hm.1.1
    have e66 : mOf m q 6 = mOf mi q 6 := hm.1.2.2.1 _ (fun i hi => by omega)
    have e64 : mOf m q 4 = mOf mi q 4 := hm.1.2.2.1 _ (fun i hi => by omega)
    have e00 : m 148 0 = mi 148 0 := hm.1.2.1 148 0 (by decide) (by decide) (by decide) (by decide) (by decide)
    have hbt : q < mi 148 6 → (X.testBit q.toNat = true ∧ andI (shrI ((X : Nat) : Int) q) 1 = 1) ∨ (X.testBit q.toNat = false ∧ andI (shrI ((X : Nat) : Int) q) 1 = 0) := fun w9 => (by rw [bit_nat hX (k := q) (by omega) (by omega)]; cases X.testBit q.toNat <;> simp)
    have hpu : q < mi 148 6 → andI (shrI ((X : Nat) : Int) q) 1 = 1 → popN X q.toNat < popN X (mi 148 6).toNat := fun w9 w8 => (by rcases hbt w9 with w7 | w7; (· exact popN_up (by omega) w7.1); (· exfalso; omega))
    have hpq := popN_mono X (show q.toNat ≤ (mi 148 6).toNat by omega)
    refine Go.run hsz hn1 3 (pc' := 40) (lv' := [some (gr 148), some (gi ((X : Nat) : Int)), some (gi q), none, none, none, none, none, none, none, none]) (st' := [gi (m 148 6), gi q]) (M' := gw m ml) rfl ?_
    refine Go.icmp_ge (by rfl) ⟨by omega, by omega⟩ (hR _ _) (fun kq1 => ?_) (fun kq1 => ?_)
    · refine Go.run hsz hn1 4 (pc' := 108) (lv' := [some (gr 148), some (gi ((X : Nat) : Int)), some (gi 1), some (gi 0), none, none, none, none, none, none, none]) (st' := []) (M' := gw m ml) rfl ?_
      have hq9 : q.toNat = (mi 148 6).toNat := (by omega)
      rw [hq9] at hm hok
      have h9 := lM_p108 hsz (n := n) (by omega) ml mi hv ((X : Nat) : Int) (mBn X (mi 148 6).toNat) (popN X (mi 148 6).toNat) hX4 (fun i hi => (by have := (mBn_in hi).1; omega)) (fun i j hi hj he => mBn_inj hi hj he) 5 0 1 m (pgM_Q hm) (by omega) (by rfl) (by omega) (by omega) (by omega)
      refine Go.imp ?_ h9
      exact fun r M hr => Or.inr ⟨hok, hr⟩
    · refine Go.run hsz hn1 6 (pc' := 49) (lv' := [some (gr 148), some (gi ((X : Nat) : Int)), some (gi q), none, none, none, none, none, none, none, none]) (st' := [gi 1, gi (andI (shrI ((X : Nat) : Int) q) 1)]) (M' := gw m ml) rfl ?_
      refine Go.icmp_ne (by rfl) (rng_of _) ⟨by decide, by decide⟩ (fun kq2 => ?_) (fun kq2 => ?_)
      · refine Go.run hsz hn1 2 (pc' := 35) (lv' := [some (gr 148), some (gi ((X : Nat) : Int)), some (gi (q + 1)), none, none, none, none, none, none, none, none]) (st' := []) (M' := gw m ml) rfl ?_
        have hbf : X.testBit q.toNat = false := (by rcases hbt (by omega) with w9 | w9; (· exfalso; omega); (· exact w9.1))
        refine ih (q + 1) m (by rw [show (q + 1).toNat = q.toNat + 1 by omega]; exact pgM_no hm hbf) (fun b w1 w2 => (by by_cases w3 : b = q.toNat; (· rw [w3, hbf] at w2; exact absurd w2 (by decide)); (· exact hok b (by omega) w2))) (by omega) (by omega) (by omega)
      · refine Go.run hsz hn1 3 (pc' := 56) (lv' := [some (gr 148), some (gi ((X : Nat) : Int)), some (gi q), none, none, none, none, none, none, none, none]) (st' := [gi 6, gi q, gr 148]) (M' := gw m ml) rfl ?_
        refine Go.callV (As := [gi q, gi 6]) (b := 148) (st := []) (mc1 := 0) (mc := 0) (ms1 := 0) (ms := 0) (by rfl) rfl (c := 11) (N := 46) (by rfl) (by decide) (by rfl) (gcn 165 (by decide)).1 (gcn 165 (by decide)).2 rfl (Nat.le_of_ble_eq_true rfl) (by omega) (cM_of hsz (n := n - 1) (by omega) m ml q 6 (by omega) (by omega) (by omega) (by omega)) ?_
        rintro _ _ ⟨rfl, rfl⟩
        rw [e66]
        refine Go.run hsz hn1 1 (pc' := 61) (lv' := [some (gr 148), some (gi ((X : Nat) : Int)), some (gi q), none, none, none, none, none, none, none, none]) (st' := [gi (-2), gi (mOf mi q 6)]) (M' := gw m ml) rfl ?_
        refine Go.icmp_eq (by rfl) (hv.1 _ _) ⟨by decide, by decide⟩ (fun kq3 => ?_) (fun kq3 => ?_)
        · refine Go.run hsz hn1 2 (pc' := 74) (lv' := [some (gr 148), some (gi ((X : Nat) : Int)), some (gi q), none, none, none, none, none, none, none, none]) (st' := [gi 4, gr 148]) (M' := gw m ml) rfl ?_
          refine Go.callV (As := [gi 4]) (b := 148) (st := []) (mc1 := 0) (mc := 0) (ms1 := 0) (ms := 0) (by rfl) rfl (c := 11) (N := 46) (by rfl) (by decide) (by rfl) (gcn 154 (by decide)).1 (gcn 154 (by decide)).2 rfl (Nat.le_of_ble_eq_true rfl) (by omega) (cM_finds hsz (n := n - 1) (by omega) m ml 4 (by decide) (by decide)) ?_
          rintro _ _ ⟨rfl, rfl⟩
          refine Go.run hsz hn1 0 (pc' := 77) (lv' := [some (gr 148), some (gi ((X : Nat) : Int)), some (gi q), none, none, none, none, none, none, none, none]) (st' := [gi (-1000005)]) (M' := gw (mFd m 4) ml) rfl ?_
          have hbf : X.testBit q.toNat = true := (by rcases hbt (by omega) with w9 | w9; (· exact w9.1); (· exfalso; omega))
          exact Go.iret (by rfl) (Or.inl ⟨⟨q.toNat, by omega, hbf, (fun w9 => (by unfold plOk at w9; rw [show ((q.toNat : Nat) : Int) = q by omega] at w9; first | exact w9.1 (by assumption) | exact w9.2 (by assumption)))⟩, m, hm.1, rfl, rfl⟩)
        · refine Go.run hsz hn1 2 (pc' := 66) (lv' := [some (gr 148), some (gi ((X : Nat) : Int)), some (gi q), none, none, none, none, none, none, none, none]) (st' := [gi q, gr 148]) (M' := gw m ml) rfl ?_
          refine Go.callV (As := [gi q]) (b := 148) (st := []) (mc1 := 0) (mc := 0) (ms1 := 0) (ms := 0) (by rfl) rfl (c := 11) (N := 46) (by rfl) (by decide) (by rfl) (gcn 166 (by decide)).1 (gcn 166 (by decide)).2 rfl (Nat.le_of_ble_eq_true rfl) (by omega) (cM_hasCome hsz (n := n - 1) (by omega) m ml q (by omega) (by omega) hR) ?_
          rintro _ _ ⟨rfl, rfl⟩
          rw [e64, e00]
          refine Go.run hsz hn1 0 (pc' := 69) (lv' := [some (gr 148), some (gi ((X : Nat) : Int)), some (gi q), none, none, none, none, none, none, none, none]) (st' := [gi (b2 (mOf mi q 4 ≤ mi 148 0))]) (M' := gw m ml) rfl ?_
          refine Go.if_eq (by rfl) (b2_rng _) (fun kq4 => ?_) (fun kq4 => ?_)
          · replace kq4 := b2_neg kq4
            refine Go.run hsz hn1 5 (pc' := 87) (lv' := [some (gr 148), some (gi ((X : Nat) : Int)), some (gi q), none, none, none, none, none, none, none, none]) (st' := [gi q, gi (m 148 20), gr 161]) (M' := gw m ml) rfl ?_
            refine Go.iast (by rfl) (N := 4) (by rfl) (by omega) (by omega) (by decide) ?_
            refine Go.run hsz hn1 3 (pc' := 93) (lv' := [some (gr 148), some (gi ((X : Nat) : Int)), some (gi q), none, none, none, none, none, none, none, none]) (st' := [gi ((gu m 161 ((m 148 20).toNat) q) 148 20), gr 148]) (M' := gw (gu m 161 ((m 148 20).toNat) q) ml) rfl ?_
            refine Go.run hsz hn1 0 (pc' := 93) (lv' := [some (gr 148), some (gi ((X : Nat) : Int)), some (gi q), none, none, none, none, none, none, none, none]) (st' := [gi ((gu m 161 ((m 148 20).toNat) q) 148 20), gr 148]) (M' := gw (gu m 161 ((m 148 20).toNat) q) ml) rfl ?_
            rw [show (gu m 161 ((m 148 20).toNat) q) 148 20 = m 148 20 from gu_ne (Or.inl (by decide))]
            refine Go.run hsz hn1 5 (pc' := 35) (lv' := [some (gr 148), some (gi ((X : Nat) : Int)), some (gi (q + 1)), none, none, none, none, none, none, none, none]) (st' := []) (M' := gw (gu (gu m 161 ((m 148 20).toNat) q) 148 20 ((m 148 20) + 1)) ml) rfl ?_
            have hbf : X.testBit q.toNat = true := (by rcases hbt (by omega) with w9 | w9; (· exact w9.1); (· exfalso; omega))
            refine ih (q + 1) _ (by rw [show (q + 1).toNat = q.toNat + 1 by omega]; exact pgM_add hm hbf (by omega) (by omega) (by omega) (by omega) (by omega)) (fun b w1 w2 => (by by_cases w3 : b = q.toNat; (· rw [w3]; unfold plOk; rw [show ((q.toNat : Nat) : Int) = q by omega]; exact ⟨by omega, by assumption⟩); (· exact hok b (by omega) w2))) (by omega) (by omega) (by omega)
          · replace kq4 := b2_pos kq4
            refine Go.run hsz hn1 2 (pc' := 74) (lv' := [some (gr 148), some (gi ((X : Nat) : Int)), some (gi q), none, none, none, none, none, none, none, none]) (st' := [gi 4, gr 148]) (M' := gw m ml) rfl ?_
            refine Go.callV (As := [gi 4]) (b := 148) (st := []) (mc1 := 0) (mc := 0) (ms1 := 0) (ms := 0) (by rfl) rfl (c := 11) (N := 46) (by rfl) (by decide) (by rfl) (gcn 154 (by decide)).1 (gcn 154 (by decide)).2 rfl (Nat.le_of_ble_eq_true rfl) (by omega) (cM_finds hsz (n := n - 1) (by omega) m ml 4 (by decide) (by decide)) ?_
            rintro _ _ ⟨rfl, rfl⟩
            refine Go.run hsz hn1 0 (pc' := 77) (lv' := [some (gr 148), some (gi ((X : Nat) : Int)), some (gi q), none, none, none, none, none, none, none, none]) (st' := [gi (-1000005)]) (M' := gw (mFd m 4) ml) rfl ?_
            have hbf : X.testBit q.toNat = true := (by rcases hbt (by omega) with w9 | w9; (· exact w9.1); (· exfalso; omega))
            exact Go.iret (by rfl) (Or.inl ⟨⟨q.toNat, by omega, hbf, (fun w9 => (by unfold plOk at w9; rw [show ((q.toNat : Nat) : Int) = q by omega] at w9; first | exact w9.1 (by assumption) | exact w9.2 (by assumption)))⟩, m, hm.1, rfl, rfl⟩)

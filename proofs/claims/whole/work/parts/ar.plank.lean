/-! ===== plan: the class makes a plan, whole ===== -/
def mkP (mi u : Nat → Nat → Int) (mem : Nat → Nat) (z : Nat) (ml1 : Nat → Nat → Int64) (r : Option gV) (M : gMe) : Prop := ∃ (mF : Nat → Nat → Int) (e : Nat → Int), M = gw mF ml1 ∧ r = some (gi (wO e z)) ∧ pB (u 148 2).toNat z (wW u mem (pOn u) z) (fun _ => True) e ∧ mkM mi mF mem z e
set_option maxRecDepth 100000 in
set_option maxHeartbeats 4000000 in
theorem lP_mk58 {G : gG} (hsz : G.2.2.2.2.2.2 = true) {n : Nat} (hn : 1 ≤ n) (mi u : Nat → Nat → Int) (mlb : Nat → Nat → Int64) (mem : Nat → Nat) (z X : Nat) (hU : cUb mi u mlb mem z X) (hX : X < 16777216) (ml1 : Nat → Nat → Int64) (hml : ∀ a k : Nat, a ≠ 108 → a ≠ 109 → ml1 a k = mlb a k) (hcal : calR u (pOn u) ml1) (e : Nat → Int) (hpb : pB (u 148 2).toNat z (wW u mem (pOn u) z) (fun _ => True) e) : ∀ (f : Nat) (q : Int) (m : Nat → Nat → Int) (h : mkM mi m mem q.toNat e) (hr : mkR m mem z e (wO e z)), 0 ≤ q → q ≤ z → z - q < f → Go G mX5_make n 0 0 58 [some (gr 110), some (gi ((X : Nat) : Int)), some (gi q)] [] (gw m ml1) (mkP mi u mem z ml1) := by
  have hn1 : 1 ≤ n := by omega
  have hz4 : z ≤ 4 := hU.1.2.2.1
  have hv : SV u := hU.1.2.1
  have hM := hU.1.2.2.2
  have hN : 0 ≤ u 148 6 ∧ u 148 6 ≤ 24 := hv.2.2.2.1
  have hP : 0 ≤ u 148 2 ∧ u 148 2 ≤ 12 := hv.2.2.1
  intro f
  induction f with
  | zero => intros; omega
  | succ f ih =>
    intro q m h hr q0 q1 q2
    have e2 := hr.1
    have e111 : q < z → m 111 q.toNat = mem q.toNat ∧ ((mem q.toNat : Nat) : Int) < u 148 6 := fun w9 => ⟨hr.2.1 q.toNat (by omega), (by have := (hM.1 q.toNat (by omega)).1; omega)⟩
    refine Go.run hsz hn1 3 (pc' := 63) (lv' := [some (gr 110), some (gi ((X : Nat) : Int)), some (gi q)]) (st' := [gi (m 110 2), gi q]) (M' := gw m ml1) rfl ?_
    refine Go.icmp_ge (by rfl) ⟨by omega, by omega⟩ (h.1 _ _) (fun kq1 => ?_) (fun kq1 => ?_)
    · refine Go.run hsz hn1 2 (pc' := 99) (lv' := [some (gr 110), some (gi ((X : Nat) : Int)), some (gi q)]) (st' := [gi (m 110 11)]) (M' := gw m ml1) rfl ?_
      have hq9 : q.toNat = z := (by omega)
      rw [hq9] at h
      exact Go.iret (by rfl) ⟨m, e, rfl, congrArg (fun z => some (gi z)) hr.2.2.2, hpb, h⟩
    · refine Go.run hsz hn1 6 (pc' := 78) (lv' := [some (gr 110), some (gi ((X : Nat) : Int)), some (gi q)]) (st' := [gi q, gr 111, gr 3]) (M' := gw m ml1) rfl ?_
      refine Go.iald (by rfl) (N := 4) (by rfl) (by omega) (by omega) (by decide) ?_
      refine Go.run hsz hn1 0 (pc' := 79) (lv' := [some (gr 110), some (gi ((X : Nat) : Int)), some (gi q)]) (st' := [gi (m 111 q.toNat), gr 3]) (M' := gw m ml1) rfl ?_
      refine Go.aaldR 4 (by rfl) (N := 24) (by rfl) ⟨by decide, by decide⟩ (by omega) (by omega) (by decide) (gMR_3 (by omega) (by omega)) ?_
      refine Go.run hsz hn1 3 (pc' := 85) (lv' := [some (gr 110), some (gi ((X : Nat) : Int)), some (gi q)]) (st' := [gi q, gr 126, gr (24 + (m 111 q.toNat).toNat)]) (M' := gw m ml1) rfl ?_
      refine Go.iald (by rfl) (N := 4) (by rfl) (by omega) (by omega) (by decide) ?_
      refine Go.run hsz hn1 0 (pc' := 86) (lv' := [some (gr 110), some (gi ((X : Nat) : Int)), some (gi q)]) (st' := [gi (m 126 q.toNat), gr (24 + (m 111 q.toNat).toNat)]) (M' := gw m ml1) rfl ?_
      refine Go.putI (by rfl) (c := 2) (N := 14) (shA (i := m 111 q.toNat) (by omega)) (by rfl) ?_
      refine Go.run hsz hn1 2 (pc' := 58) (lv' := [some (gr 110), some (gi ((X : Nat) : Int)), some (gi (q + 1))]) (st' := []) (M' := gw (gu m (24 + (m 111 q.toNat).toNat) 8 (m 126 q.toNat)) ml1) rfl ?_
      have hs := mkM_s h hr (q := q.toNat) (by omega) (fun k hk => (by have := (hM.1 k hk).1; omega)) hM.2.1 (c := 24 + (m 111 q.toNat).toNat) (v := m 126 q.toNat) (by rw [hr.2.1 q.toNat (by omega)]; omega) (hr.2.2.1 q.toNat (by omega)) (h.1 _ _)
      exact ih (q + 1) _ (by rw [show (q + 1).toNat = q.toNat + 1 by omega]; exact hs.1) hs.2 (by omega) (by omega) (by omega)
set_option maxRecDepth 100000 in
set_option maxHeartbeats 4000000 in
theorem lP_mk19 {G : gG} (hsz : G.2.2.2.2.2.2 = true) {n : Nat} (hn : 14 ≤ n) (mi u : Nat → Nat → Int) (mlb : Nat → Nat → Int64) (mem : Nat → Nat) (z X : Nat) (hU : cUb mi u mlb mem z X) (hX : X < 16777216) (ml1 : Nat → Nat → Int64) (hml : ∀ a k : Nat, a ≠ 108 → a ≠ 109 → ml1 a k = mlb a k) (hcal : calR u (pOn u) ml1) : ∀ (f : Nat) (q : Int) (m : Nat → Nat → Int) (h : lkA mi u m mem z q.toNat), 0 ≤ q → q ≤ z → z - q < f → Go G mX5_make n 0 0 19 [some (gr 110), some (gi ((X : Nat) : Int)), some (gi q)] [] (gw m ml1) (mkP mi u mem z ml1) := by
  have hn1 : 1 ≤ n := by omega
  have hz4 : z ≤ 4 := hU.1.2.2.1
  have hv : SV u := hU.1.2.1
  have hM := hU.1.2.2.2
  have hN : 0 ≤ u 148 6 ∧ u 148 6 ≤ 24 := hv.2.2.2.1
  have hP : 0 ≤ u 148 2 ∧ u 148 2 ≤ 12 := hv.2.2.1
  intro f
  induction f with
  | zero => intros; omega
  | succ f ih =>
    intro q m h q0 q1 q2
    have e2 : m 110 2 = z := h.2.1.1
    refine Go.run hsz hn1 3 (pc' := 24) (lv' := [some (gr 110), some (gi ((X : Nat) : Int)), some (gi q)]) (st' := [gi (m 110 2), gi q]) (M' := gw m ml1) rfl ?_
    refine Go.icmp_ge (by rfl) ⟨by omega, by omega⟩ (h.1.1 _ _) (fun kq1 => ?_) (fun kq1 => ?_)
    · refine Go.run hsz hn1 1 (pc' := 40) (lv' := [some (gr 110), some (gi ((X : Nat) : Int)), some (gi q)]) (st' := [gr 110]) (M' := gw m ml1) rfl ?_
      have hq9 : q.toNat = z := (by omega)
      rw [hq9] at h
      refine Go.callV (As := []) (b := 110) (st := []) (mc1 := 0) (mc := 0) (ms1 := 0) (ms := 0) (by rfl) rfl (c := 4) (N := 14) (by rfl) (by decide) (by rfl) (gcn 38 (by decide)).1 (gcn 38 (by decide)).2 rfl (Nat.le_of_ble_eq_true rfl) (by omega) (cP_bd hsz (n := n - 1) (by omega) ml1 mi u mlb mem z X hU m h) ?_
      rintro _ _ ⟨rfl, mp, rfl, hbd⟩
      have hpr := cPr_of hU hml h hbd
      refine Go.run hsz hn1 8 (pc' := 53) (lv' := [some (gr 110), some (gi ((X : Nat) : Int)), some (gi q)]) (st' := [gi 0, gi 0, gi 0, gi 0, gr 110]) (M' := gw (gu mp 110 11 (-1)) ml1) rfl ?_
      have hts : tM mp (gu mp 110 11 (-1)) := ⟨gR32_gu hbd.1.1 ⟨by decide, by decide⟩, fun a k w1 w2 w3 => gu_ne (by omega)⟩
      refine Go.callV (As := [gi 0, gi 0, gi 0, gi 0]) (b := 110) (st := []) (mc1 := 0) (mc := 0) (ms1 := 0) (ms := 0) (by rfl) rfl (c := 4) (N := 14) (by rfl) (by decide) (by rfl) (gcn 40 (by decide)).1 (gcn 40 (by decide)).2 rfl (Nat.le_of_ble_eq_true rfl) (by omega) (cP_tryA hsz u mp ml1 mem z hpr z 0 (by omega) (n - 1) (by omega) 0 _ _ (fun _ => -1) 0 0 0 rfl (tAll_start hts (gu_self _ _ _ _) hcal)) ?_
      rintro _ _ ⟨rfl, m2, rfl, ht2, _, hbj⟩
      obtain ⟨e, he1, he2, he3⟩ := bJ_fin hbj
      refine Go.run hsz hn1 2 (pc' := 58) (lv' := [some (gr 110), some (gi ((X : Nat) : Int)), some (gi 0)]) (st' := []) (M' := gw m2 ml1) rfl ?_
      have he : ∀ a k : Nat, a ≠ 113 → a ≠ 114 → mp a k = m a k := hbd.1.2
      exact lP_mk58 hsz (n := n) (by omega) mi u mlb mem z X hU hX ml1 hml hcal e he1 (z + 1) 0 m2 ⟨ht2.1, fun a k w1 _ => (by rw [ht2.2 a k (by omega) (by omega) (by omega), he a k (by omega) (by omega)]; exact h.1.2 a k w1), fun i hi => absurd hi (Nat.not_lt_zero _)⟩ ⟨(ht2.2 110 2 (by decide) (by decide) (by decide)).trans ((he 110 2 (by decide) (by decide)).trans h.2.1.1), fun k hk => (ht2.2 111 k (by decide) (by decide) (Or.inl (by decide))).trans ((he 111 k (by decide) (by decide)).trans (h.2.1.2 k hk)), he2, he3⟩ (by omega) (by omega) (by omega)
    · refine Go.run hsz hn1 3 (pc' := 30) (lv' := [some (gr 110), some (gi ((X : Nat) : Int)), some (gi q)]) (st' := [gi ((X : Nat) : Int), gi q, gr 110]) (M' := gw m ml1) rfl ?_
      refine Go.callV (As := [gi q, gi ((X : Nat) : Int)]) (b := 110) (st := []) (mc1 := 0) (mc := 0) (ms1 := 0) (ms := 0) (by rfl) rfl (c := 4) (N := 14) (by rfl) (by decide) (by rfl) (gcn 35 (by decide)).1 (gcn 35 (by decide)).2 rfl (Nat.le_of_ble_eq_true rfl) (by omega) (cP_look hsz (n := n - 1) (by omega) mi u mlb mem z X hU hX ml1 hml hcal m h.2.1.1 h.2.1.2 q q.toNat (by omega) (by omega) h.1) ?_
      rintro _ _ ⟨rfl, m1, rfl, hk0, hkB, hkW, hkD⟩
      refine Go.run hsz hn1 2 (pc' := 19) (lv' := [some (gr 110), some (gi ((X : Nat) : Int)), some (gi (q + 1))]) (st' := []) (M' := gw m1 ml1) rfl ?_
      exact ih (q + 1) m1 (by rw [show (q + 1).toNat = q.toNat + 1 by omega]; exact lkA_s h (by omega) hk0 hkB hkW hkD) (by omega) (by omega) (by omega)
set_option maxRecDepth 100000 in
set_option maxHeartbeats 4000000 in
theorem cP_make {G : gG} (hsz : G.2.2.2.2.2.2 = true) {n : Nat} (hn : 15 ≤ n) (mi u : Nat → Nat → Int) (mlb : Nat → Nat → Int64) (mem : Nat → Nat) (z X : Nat) (hU : cUb mi u mlb mem z X) (hX : X < 16777216) (ml1 : Nat → Nat → Int64) (hml : ∀ a k : Nat, a ≠ 108 → a ≠ 109 → ml1 a k = mlb a k) (hcal : calR u (pOn u) ml1) (hzz : z = popN X (mi 1 3).toNat) (hmm : ∀ k, k < z → mem k = mBn X (mi 1 3).toNat k) (hlm : ∀ m1 : Nat → Nat → Int, cKp mi m1 → lMark m1 mlb ((X : Nat) : Int) (m1 1 3).toNat = ml1) : gM G 33 n 0 0 [gr 110, gi ((X : Nat) : Int)] (gw mi mlb) (mkP mi u mem z ml1) := by
  have hn1 : 1 ≤ n := by omega
  have hz4 : z ≤ 4 := hU.1.2.2.1
  have hv : SV u := hU.1.2.1
  have hM := hU.1.2.2.2
  have hN : 0 ≤ u 148 6 ∧ u 148 6 ≤ 24 := hv.2.2.2.1
  have hP : 0 ≤ u 148 2 ∧ u 148 2 ≤ 12 := hv.2.2.1
  have hN3 : 0 ≤ mi 1 3 ∧ mi 1 3 ≤ 24 := (by rw [hU.2.1.2]; exact hN)
  refine gM.of mX5_make okX5_make (gcp 33 (by decide)).1 (gcp 33 (by decide)).2 (Nat.le_of_ble_eq_true rfl) ?_
  refine Go.run hsz hn1 2 (pc' := 2) (lv' := [some (gr 110), some (gi ((X : Nat) : Int)), none]) (st' := [gi ((X : Nat) : Int), gr 110]) (M' := gw mi mlb) rfl ?_
  refine Go.callV (As := [gi ((X : Nat) : Int)]) (b := 110) (st := []) (mc1 := 0) (mc := 0) (ms1 := 0) (ms := 0) (by rfl) rfl (c := 4) (N := 14) (by rfl) (by decide) (by rfl) (gcn 34 (by decide)).1 (gcn 34 (by decide)).2 rfl (Nat.le_of_ble_eq_true rfl) (by omega) (cP_gat hsz (n := n - 1) (by omega) mlb mi hN3 X hX (by omega) hU.1.1.1) ?_
  rintro _ _ ⟨rfl, m1, rfl, hg⟩
  have hk1 : cKp mi m1 := ⟨hg.1.1, fun a k w => hg.1.2 a k (by omega) (by omega)⟩
  have e13 : m1 1 3 = mi 1 3 := hk1.2 1 3 (by decide)
  refine Go.run hsz hn1 5 (pc' := 14) (lv' := [some (gr 110), some (gi ((X : Nat) : Int)), none]) (st' := [gi ((X : Nat) : Int), gr 107, gr 1]) (M' := gw m1 mlb) rfl ?_
  refine Go.callV (As := [gr 107, gi ((X : Nat) : Int)]) (b := 1) (st := []) (mc1 := 0) (mc := 0) (ms1 := 0) (ms := 0) (by rfl) rfl (c := 7) (N := 11) (by rfl) (by decide) (by rfl) (gcn 71 (by decide)).1 (gcn 71 (by decide)).2 rfl (Nat.le_of_ble_eq_true rfl) (by omega) (cS_mark hsz (n := n - 1) (by omega) m1 mlb ((X : Nat) : Int) (hk1.CV hU.1.1)) ?_
  rintro _ _ ⟨rfl, rfl⟩
  rw [hlm m1 hk1]
  refine Go.run hsz hn1 2 (pc' := 19) (lv' := [some (gr 110), some (gi ((X : Nat) : Int)), some (gi 0)]) (st' := []) (M' := gw m1 ml1) rfl ?_
  refine lP_mk19 hsz (n := n) (by omega) mi u mlb mem z X hU hX ml1 hml hcal (z + 1) 0 m1 ⟨hk1, ⟨?_, fun k hk => ?_⟩, fun k hk => absurd hk (Nat.not_lt_zero _)⟩ (by omega) (by omega) (by omega)
  · rw [hg.2.1, ← hzz]
  · rw [hmm k hk]; rw [hzz] at hk; have w9 := mBn_in hk; have w8 := hg.2.2 _ w9.1 w9.2.1; rw [w9.2.2] at w8; exact w8

def wSh (mi : Nat → Nat → Int) (sz i : Nat) : Nat → Nat → Int := fun c j => if (c = 8 ∨ c = 9) ∧ i < j ∧ j ≤ sz then mi c (j - 1) else mi c j
theorem wSh_0 (mi : Nat → Nat → Int) (sz : Nat) : wSh mi sz sz = mi := by
  funext c j
  unfold wSh
  rw [if_neg (by omega)]
theorem wSh_lo {mi : Nat → Nat → Int} {sz i c j : Nat} (h : j ≤ i) : wSh mi sz i c j = mi c j := if_neg (by omega)
theorem wSh_off {mi : Nat → Nat → Int} {sz i c j : Nat} (h : c ≠ 8) (h2 : c ≠ 9) : wSh mi sz i c j = mi c j := if_neg (by omega)
theorem wSh_s {mi : Nat → Nat → Int} {sz i : Nat} (h : 1 ≤ i) (h2 : i ≤ sz) : gu (gu (wSh mi sz i) 8 i (wSh mi sz i 8 (i - 1))) 9 i (wSh mi sz i 9 (i - 1)) = wSh mi sz (i - 1) := by
  rw [wSh_lo (by omega), wSh_lo (by omega)]
  funext c j
  rw [gu_eq, gu_eq]
  unfold wSh
  by_cases h9 : c = 9 ∧ j = i
  · rw [if_pos h9, if_pos (by omega), h9.1, h9.2]
  · rw [if_neg h9]
    by_cases h8 : c = 8 ∧ j = i
    · rw [if_pos h8, if_pos (by omega), h8.1, h8.2]
    · rw [if_neg h8]
      by_cases hh : (c = 8 ∨ c = 9) ∧ i < j ∧ j ≤ sz
      · rw [if_pos hh, if_pos (by omega)]
      · rw [if_neg hh, if_neg (by omega)]
def wIns (mi : Nat → Nat → Int) (sz i : Nat) (x y : Int) : Nat → Nat → Int := gu (gu (gu (wSh mi sz i) 8 i x) 9 i y) 7 0 (mi 7 0 + 1)
def wPos (mi : Nat → Nat → Int) (sz i : Nat) (x : Int) : Prop := i ≤ sz ∧ (i = 0 ∨ mi 8 (i - 1) ≤ x) ∧ ∀ j : Nat, i ≤ j → j < sz → x < mi 8 j
set_option maxRecDepth 100000 in
set_option maxHeartbeats 4000000 in
theorem lW_ins {G : gG} (hsz : G.2.2.2.2.2.2 = true) {n : Nat} (hn : 1 ≤ n) (mi : Nat → Nat → Int) (ml : Nat → Nat → Int64) (x y : Int) (rx : rng x) (hR : gR32 mi) (hz : 0 ≤ mi 7 0 ∧ mi 7 0 < 20) : ∀ (f : Nat) (k : Int) (hgt : ∀ j : Nat, k ≤ j → j < (mi 7 0).toNat → x < mi 8 j), 0 ≤ k → k ≤ mi 7 0 → k < f → Go G mX10_insert n 0 0 15 [some (gr 7), some (gi x), some (gi y), some (gi k)] [] (gw (wSh mi (mi 7 0).toNat k.toNat) ml) (fun r M => ∃ i : Nat, wPos mi (mi 7 0).toNat i x ∧ r = none ∧ M = gw (wIns mi (mi 7 0).toNat i x y) ml) := by
  have hn1 : 1 ≤ n := by omega
  have hRw : ∀ i, gR32 (wSh mi (mi 7 0).toNat i) := fun i c j => by unfold wSh; split <;> exact hR _ _
  intro f
  induction f with
  | zero => intros; omega
  | succ f ih =>
    intro k hgt k0 k1 k2
    refine Go.run hsz hn1 1 (pc' := 16) (lv' := [some (gr 7), some (gi x), some (gi y), some (gi k)]) (st' := [gi k]) (M' := gw (wSh mi (mi 7 0).toNat k.toNat) ml) rfl ?_
    refine Go.if_le (by rfl) ⟨by omega, by omega⟩ (fun kq1 => ?_) (fun kq1 => ?_)
    · refine Go.run hsz hn1 4 (pc' := 71) (lv' := [some (gr 7), some (gi x), some (gi y), some (gi k)]) (st' := [gi x, gi k, gr 8]) (M' := gw (wSh mi (mi 7 0).toNat k.toNat) ml) rfl ?_
      refine Go.iast (by rfl) (N := 20) (by rfl) (by omega) (by omega) (by decide) ?_
      refine Go.run hsz hn1 4 (pc' := 78) (lv' := [some (gr 7), some (gi x), some (gi y), some (gi k)]) (st' := [gi y, gi k, gr 9]) (M' := gw (gu (wSh mi (mi 7 0).toNat k.toNat) 8 k.toNat x) ml) rfl ?_
      refine Go.iast (by rfl) (N := 20) (by rfl) (by omega) (by omega) (by decide) ?_
      refine Go.run hsz hn1 3 (pc' := 84) (lv' := [some (gr 7), some (gi x), some (gi y), some (gi k)]) (st' := [gi ((gu (gu (wSh mi (mi 7 0).toNat k.toNat) 8 k.toNat x) 9 k.toNat y) 7 0), gr 7]) (M' := gw (gu (gu (wSh mi (mi 7 0).toNat k.toNat) 8 k.toNat x) 9 k.toNat y) ml) rfl ?_
      refine Go.run hsz hn1 0 (pc' := 84) (lv' := [some (gr 7), some (gi x), some (gi y), some (gi k)]) (st' := [gi ((gu (gu (wSh mi (mi 7 0).toNat k.toNat) 8 k.toNat x) 9 k.toNat y) 7 0), gr 7]) (M' := gw (gu (gu (wSh mi (mi 7 0).toNat k.toNat) 8 k.toNat x) 9 k.toNat y) ml) rfl ?_
      rw [show (gu (gu (wSh mi (mi 7 0).toNat k.toNat) 8 k.toNat x) 9 k.toNat y) 7 0 = (wSh mi (mi 7 0).toNat k.toNat) 7 0 from (gu_ne (Or.inl (by decide))).trans (gu_ne (Or.inl (by decide)))]
      refine Go.run hsz hn1 3 (pc' := 89) (lv' := [some (gr 7), some (gi x), some (gi y), some (gi k)]) (st' := []) (M' := gw (gu (gu (gu (wSh mi (mi 7 0).toNat k.toNat) 8 k.toNat x) 9 k.toNat y) 7 0 ((mi 7 0) + 1)) ml) rfl ?_
      refine Go.vret (by rfl) ⟨k.toNat, ⟨by omega, ?_, fun j j0 j1 => hgt j (by omega) j1⟩, rfl, rfl⟩
      first | (left; omega) | (right; rw [wSh_lo (by omega)] at kq2; rw [show k.toNat - 1 = (k - 1).toNat by omega]; omega)
    · refine Go.run hsz hn1 5 (pc' := 26) (lv' := [some (gr 7), some (gi x), some (gi y), some (gi k)]) (st' := [gi (k - 1), gr 8]) (M' := gw (wSh mi (mi 7 0).toNat k.toNat) ml) rfl ?_
      refine Go.iald (by rfl) (N := 20) (by rfl) (by omega) (by omega) (by decide) ?_
      refine Go.run hsz hn1 1 (pc' := 28) (lv' := [some (gr 7), some (gi x), some (gi y), some (gi k)]) (st' := [gi x, gi ((wSh mi (mi 7 0).toNat k.toNat) 8 ((k - 1).toNat))]) (M' := gw (wSh mi (mi 7 0).toNat k.toNat) ml) rfl ?_
      refine Go.icmp_le (by rfl) (hRw _ _ _) rx (fun kq2 => ?_) (fun kq2 => ?_)
      · refine Go.run hsz hn1 4 (pc' := 71) (lv' := [some (gr 7), some (gi x), some (gi y), some (gi k)]) (st' := [gi x, gi k, gr 8]) (M' := gw (wSh mi (mi 7 0).toNat k.toNat) ml) rfl ?_
        refine Go.iast (by rfl) (N := 20) (by rfl) (by omega) (by omega) (by decide) ?_
        refine Go.run hsz hn1 4 (pc' := 78) (lv' := [some (gr 7), some (gi x), some (gi y), some (gi k)]) (st' := [gi y, gi k, gr 9]) (M' := gw (gu (wSh mi (mi 7 0).toNat k.toNat) 8 k.toNat x) ml) rfl ?_
        refine Go.iast (by rfl) (N := 20) (by rfl) (by omega) (by omega) (by decide) ?_
        refine Go.run hsz hn1 3 (pc' := 84) (lv' := [some (gr 7), some (gi x), some (gi y), some (gi k)]) (st' := [gi ((gu (gu (wSh mi (mi 7 0).toNat k.toNat) 8 k.toNat x) 9 k.toNat y) 7 0), gr 7]) (M' := gw (gu (gu (wSh mi (mi 7 0).toNat k.toNat) 8 k.toNat x) 9 k.toNat y) ml) rfl ?_
        refine Go.run hsz hn1 0 (pc' := 84) (lv' := [some (gr 7), some (gi x), some (gi y), some (gi k)]) (st' := [gi ((gu (gu (wSh mi (mi 7 0).toNat k.toNat) 8 k.toNat x) 9 k.toNat y) 7 0), gr 7]) (M' := gw (gu (gu (wSh mi (mi 7 0).toNat k.toNat) 8 k.toNat x) 9 k.toNat y) ml) rfl ?_
        rw [show (gu (gu (wSh mi (mi 7 0).toNat k.toNat) 8 k.toNat x) 9 k.toNat y) 7 0 = (wSh mi (mi 7 0).toNat k.toNat) 7 0 from (gu_ne (Or.inl (by decide))).trans (gu_ne (Or.inl (by decide)))]
        refine Go.run hsz hn1 3 (pc' := 89) (lv' := [some (gr 7), some (gi x), some (gi y), some (gi k)]) (st' := []) (M' := gw (gu (gu (gu (wSh mi (mi 7 0).toNat k.toNat) 8 k.toNat x) 9 k.toNat y) 7 0 ((mi 7 0) + 1)) ml) rfl ?_
        refine Go.vret (by rfl) ⟨k.toNat, ⟨by omega, ?_, fun j j0 j1 => hgt j (by omega) j1⟩, rfl, rfl⟩
        first | (left; omega) | (right; rw [wSh_lo (by omega)] at kq2; rw [show k.toNat - 1 = (k - 1).toNat by omega]; omega)
      · refine Go.run hsz hn1 8 (pc' := 43) (lv' := [some (gr 7), some (gi x), some (gi y), some (gi k)]) (st' := [gi (k - 1), gr 8, gi k, gr 8]) (M' := gw (wSh mi (mi 7 0).toNat k.toNat) ml) rfl ?_
        refine Go.iald (by rfl) (N := 20) (by rfl) (by omega) (by omega) (by decide) ?_
        refine Go.run hsz hn1 0 (pc' := 44) (lv' := [some (gr 7), some (gi x), some (gi y), some (gi k)]) (st' := [gi ((wSh mi (mi 7 0).toNat k.toNat) 8 ((k - 1).toNat)), gi k, gr 8]) (M' := gw (wSh mi (mi 7 0).toNat k.toNat) ml) rfl ?_
        refine Go.iast (by rfl) (N := 20) (by rfl) (by omega) (by omega) (by decide) ?_
        refine Go.run hsz hn1 8 (pc' := 57) (lv' := [some (gr 7), some (gi x), some (gi y), some (gi k)]) (st' := [gi (k - 1), gr 9, gi k, gr 9]) (M' := gw (gu (wSh mi (mi 7 0).toNat k.toNat) 8 k.toNat ((wSh mi (mi 7 0).toNat k.toNat) 8 ((k - 1).toNat))) ml) rfl ?_
        refine Go.iald (by rfl) (N := 20) (by rfl) (by omega) (by omega) (by decide) ?_
        refine Go.run hsz hn1 0 (pc' := 58) (lv' := [some (gr 7), some (gi x), some (gi y), some (gi k)]) (st' := [gi ((gu (wSh mi (mi 7 0).toNat k.toNat) 8 k.toNat ((wSh mi (mi 7 0).toNat k.toNat) 8 ((k - 1).toNat))) 9 ((k - 1).toNat)), gi k, gr 9]) (M' := gw (gu (wSh mi (mi 7 0).toNat k.toNat) 8 k.toNat ((wSh mi (mi 7 0).toNat k.toNat) 8 ((k - 1).toNat))) ml) rfl ?_
        rw [show (gu (wSh mi (mi 7 0).toNat k.toNat) 8 k.toNat ((wSh mi (mi 7 0).toNat k.toNat) 8 ((k - 1).toNat))) 9 ((k - 1).toNat) = (wSh mi (mi 7 0).toNat k.toNat) 9 ((k - 1).toNat) from gu_ne (Or.inl (by decide))]
        refine Go.run hsz hn1 0 (pc' := 58) (lv' := [some (gr 7), some (gi x), some (gi y), some (gi k)]) (st' := [gi ((wSh mi (mi 7 0).toNat k.toNat) 9 ((k - 1).toNat)), gi k, gr 9]) (M' := gw (gu (wSh mi (mi 7 0).toNat k.toNat) 8 k.toNat ((wSh mi (mi 7 0).toNat k.toNat) 8 ((k - 1).toNat))) ml) rfl ?_
        refine Go.iast (by rfl) (N := 20) (by rfl) (by omega) (by omega) (by decide) ?_
        refine Go.run hsz hn1 2 (pc' := 15) (lv' := [some (gr 7), some (gi x), some (gi y), some (gi (k + (-1)))]) (st' := []) (M' := gw (gu (gu (wSh mi (mi 7 0).toNat k.toNat) 8 k.toNat ((wSh mi (mi 7 0).toNat k.toNat) 8 ((k - 1).toNat))) 9 k.toNat ((wSh mi (mi 7 0).toNat k.toNat) 9 ((k - 1).toNat))) ml) rfl ?_
        have h9 := ih (k - 1) (fun j j0 j1 => (by
          by_cases e : j = (k - 1).toNat
          · rw [wSh_lo (by omega)] at kq2; rw [e]; omega
          · exact hgt j (by omega) j1)) (by omega) (by omega) (by omega)
        rw [show (k - 1).toNat = k.toNat - 1 by omega, ← wSh_s (by omega) (by omega)] at h9
        rw [show (k - 1).toNat = k.toNat - 1 by omega]
        exact h9
set_option maxRecDepth 100000 in
set_option maxHeartbeats 4000000 in
theorem cW_ins {G : gG} (hsz : G.2.2.2.2.2.2 = true) {n : Nat} (hn : 1 ≤ n) (mi : Nat → Nat → Int) (ml : Nat → Nat → Int64) (x y : Int) (rx : rng x) (hR : gR32 mi) (hz : 0 ≤ mi 7 0 ∧ mi 7 0 < 20) : gM G 98 n 0 0 [gr 7, gi x, gi y] (gw mi ml) (fun r M => ∃ i : Nat, wPos mi (mi 7 0).toNat i x ∧ r = none ∧ M = gw (wIns mi (mi 7 0).toNat i x y) ml) := by
  refine gM.of mX10_insert okX10_insert (gcp 98 (by decide)).1 (gcp 98 (by decide)).2 (Nat.le_of_ble_eq_true rfl) ?_
  refine Go.run hsz hn 3 (pc' := 6) (lv' := [some (gr 7), some (gi x), some (gi y), none]) (st' := [gi 20, gi (mi 7 0)]) (M' := gw mi ml) rfl ?_
  refine Go.icmp_lt (by rfl) (hR _ _) ⟨by decide, by decide⟩ (fun kq1 => ?_) (fun kq1 => ?_)
  · refine Go.run hsz hn 3 (pc' := 15) (lv' := [some (gr 7), some (gi x), some (gi y), some (gi (mi 7 0))]) (st' := []) (M' := gw mi ml) rfl ?_
    have h9 := lW_ins hsz hn mi ml x y rx hR hz ((mi 7 0).toNat + 1) (mi 7 0) (fun j j0 j1 => by omega) (by omega) (by omega) (by omega)
    rw [wSh_0] at h9
    exact h9
  · exfalso; omega
set_option maxRecDepth 100000 in
set_option maxHeartbeats 4000000 in
theorem pC_wash {G : gG} (hsz : G.2.2.2.2.2.2 = true) {n : Nat} (hn : 3 ≤ n) (mi : Nat → Nat → Int) (ml : Nat → Nat → Int64) (x y : Int) (r_x : rng x) (r_y : rng y) (hv : CV mi) (hz : 0 ≤ mi 7 0 ∧ mi 7 0 ≤ 20) : gM G 133 n 0 0 [gr 0, gi x, gi y] (gw mi ml) (fun r M => gE (¬ ((0 ≤ x ∧ x ≤ 999) ∧ (1 ≤ y ∧ y ≤ 60))) (-1000001) (cFd mi 0) ml r M ∨ gE (((0 ≤ x ∧ x ≤ 999) ∧ (1 ≤ y ∧ y ≤ 60)) ∧ 20 ≤ mi 7 0) (-1000002) (cFd mi 1) ml r M ∨ ((((0 ≤ x ∧ x ≤ 999) ∧ (1 ≤ y ∧ y ≤ 60)) ∧ mi 7 0 < 20) ∧ ∃ i : Nat, wPos mi (mi 7 0).toNat i x ∧ r = some (gi (mi 7 0 + 1)) ∧ M = gw (wIns mi (mi 7 0).toNat i x y) ml)) := by
  have hn1 : 1 ≤ n := by omega
  obtain ⟨hR, ht, hp, hq, hP, hQ⟩ := id hv
  refine gM.of mX11_wash okX11_wash (gcp 133 (by decide)).1 (gcp 133 (by decide)).2 (Nat.le_of_ble_eq_true rfl) ?_
  refine Go.run hsz hn1 3 (pc' := 5) (lv' := [some (gr 0), some (gi x), some (gi y)]) (st' := [gi 999, gi 0, gi x]) (M' := gw mi ml) rfl ?_
  refine Go.callS (As := [gi x, gi 0, gi 999]) (st := []) (mc1 := 0) (mc := 0) (ms1 := 0) (ms := 0) (by rfl) rfl (gcn 150 (by decide)).1 (gcn 150 (by decide)).2 (Nat.le_of_ble_eq_true rfl) (by omega) (cC_isIn hsz (n := n - 1) (by omega) mi ml x 0 999 r_x ⟨by decide, by decide⟩ ⟨by decide, by decide⟩) ?_
  rintro _ _ ⟨rfl, rfl⟩
  refine Go.run hsz hn1 0 (pc' := 8) (lv' := [some (gr 0), some (gi x), some (gi y)]) (st' := [gi (b2 (0 ≤ x ∧ x ≤ 999))]) (M' := gw mi ml) rfl ?_
  refine Go.if_eq (by rfl) (b2_rng _) (fun kq1 => ?_) (fun kq1 => ?_)
  · replace kq1 := b2_neg kq1
    refine Go.run hsz hn1 2 (pc' := 24) (lv' := [some (gr 0), some (gi x), some (gi y)]) (st' := [gi (-1000001), gr 0]) (M' := gw mi ml) rfl ?_
    refine Go.callV (As := [gi (-1000001)]) (b := 0) (st := []) (mc1 := 0) (mc := 0) (ms1 := 0) (ms := 0) (by rfl) rfl (c := 10) (N := 9) (by rfl) (by decide) (by rfl) (gcn 147 (by decide)).1 (gcn 147 (by decide)).2 rfl (Nat.le_of_ble_eq_true rfl) (by omega) (cC_finding hsz (n := n - 1) (by omega) mi ml (-1000001) (by decide) (by decide)) ?_
    rintro _ _ ⟨rfl, rfl⟩
    refine Go.run hsz hn1 0 (pc' := 27) (lv' := [some (gr 0), some (gi x), some (gi y)]) (st' := [gi (-1000001)]) (M' := gw (cFd mi 0) ml) rfl ?_
    first | exact Go.iret (by rfl) (Or.inl ⟨by omega, rfl, rfl⟩) | exact Go.iret (by rfl) (Or.inr (Or.inl ⟨by omega, rfl, rfl⟩)) | exact Go.iret (by rfl) (Or.inr (Or.inr ⟨by omega, i, hi, rfl, rfl⟩))
  · replace kq1 := b2_pos kq1
    refine Go.run hsz hn1 3 (pc' := 15) (lv' := [some (gr 0), some (gi x), some (gi y)]) (st' := [gi 60, gi 1, gi y]) (M' := gw mi ml) rfl ?_
    refine Go.callS (As := [gi y, gi 1, gi 60]) (st := []) (mc1 := 0) (mc := 0) (ms1 := 0) (ms := 0) (by rfl) rfl (gcn 150 (by decide)).1 (gcn 150 (by decide)).2 (Nat.le_of_ble_eq_true rfl) (by omega) (cC_isIn hsz (n := n - 1) (by omega) mi ml y 1 60 r_y ⟨by decide, by decide⟩ ⟨by decide, by decide⟩) ?_
    rintro _ _ ⟨rfl, rfl⟩
    refine Go.run hsz hn1 0 (pc' := 18) (lv' := [some (gr 0), some (gi x), some (gi y)]) (st' := [gi (b2 (1 ≤ y ∧ y ≤ 60))]) (M' := gw mi ml) rfl ?_
    refine Go.if_ne (by rfl) (b2_rng _) (fun kq2 => ?_) (fun kq2 => ?_)
    · replace kq2 := b2_pos kq2
      refine Go.run hsz hn1 5 (pc' := 40) (lv' := [some (gr 0), some (gi x), some (gi y)]) (st' := [gi 20, gi (mi 7 0)]) (M' := gw mi ml) rfl ?_
      refine Go.icmp_lt (by rfl) (hR _ _) ⟨by decide, by decide⟩ (fun kq3 => ?_) (fun kq3 => ?_)
      · refine Go.run hsz hn1 5 (pc' := 59) (lv' := [some (gr 0), some (gi x), some (gi y)]) (st' := [gi y, gi x, gr 7]) (M' := gw mi ml) rfl ?_
        refine Go.callV (As := [gi x, gi y]) (b := 7) (st := []) (mc1 := 0) (mc := 0) (ms1 := 0) (ms := 0) (by rfl) rfl (c := 9) (N := 7) (by rfl) (by decide) (by rfl) (gcn 98 (by decide)).1 (gcn 98 (by decide)).2 rfl (Nat.le_of_ble_eq_true rfl) (by omega) (cW_ins hsz (n := n - 1) (by omega) mi ml x y r_x hR ⟨by omega, by omega⟩) ?_
        rintro _ _ ⟨i, hi, rfl, rfl⟩
        refine Go.run hsz hn1 4 (pc' := 72) (lv' := [some (gr 0), some (gi x), some (gi y)]) (st' := [gi (mi 7 0 + 1)]) (M' := gw (wIns mi (mi 7 0).toNat i x y) ml) rfl ?_
        first | exact Go.iret (by rfl) (Or.inl ⟨by omega, rfl, rfl⟩) | exact Go.iret (by rfl) (Or.inr (Or.inl ⟨by omega, rfl, rfl⟩)) | exact Go.iret (by rfl) (Or.inr (Or.inr ⟨by omega, i, hi, rfl, rfl⟩))
      · refine Go.run hsz hn1 2 (pc' := 46) (lv' := [some (gr 0), some (gi x), some (gi y)]) (st' := [gi (-1000002), gr 0]) (M' := gw mi ml) rfl ?_
        refine Go.callV (As := [gi (-1000002)]) (b := 0) (st := []) (mc1 := 0) (mc := 0) (ms1 := 0) (ms := 0) (by rfl) rfl (c := 10) (N := 9) (by rfl) (by decide) (by rfl) (gcn 147 (by decide)).1 (gcn 147 (by decide)).2 rfl (Nat.le_of_ble_eq_true rfl) (by omega) (cC_finding hsz (n := n - 1) (by omega) mi ml (-1000002) (by decide) (by decide)) ?_
        rintro _ _ ⟨rfl, rfl⟩
        refine Go.run hsz hn1 0 (pc' := 49) (lv' := [some (gr 0), some (gi x), some (gi y)]) (st' := [gi (-1000002)]) (M' := gw (cFd mi 1) ml) rfl ?_
        first | exact Go.iret (by rfl) (Or.inl ⟨by omega, rfl, rfl⟩) | exact Go.iret (by rfl) (Or.inr (Or.inl ⟨by omega, rfl, rfl⟩)) | exact Go.iret (by rfl) (Or.inr (Or.inr ⟨by omega, i, hi, rfl, rfl⟩))
    · replace kq2 := b2_neg kq2
      refine Go.run hsz hn1 2 (pc' := 24) (lv' := [some (gr 0), some (gi x), some (gi y)]) (st' := [gi (-1000001), gr 0]) (M' := gw mi ml) rfl ?_
      refine Go.callV (As := [gi (-1000001)]) (b := 0) (st := []) (mc1 := 0) (mc := 0) (ms1 := 0) (ms := 0) (by rfl) rfl (c := 10) (N := 9) (by rfl) (by decide) (by rfl) (gcn 147 (by decide)).1 (gcn 147 (by decide)).2 rfl (Nat.le_of_ble_eq_true rfl) (by omega) (cC_finding hsz (n := n - 1) (by omega) mi ml (-1000001) (by decide) (by decide)) ?_
      rintro _ _ ⟨rfl, rfl⟩
      refine Go.run hsz hn1 0 (pc' := 27) (lv' := [some (gr 0), some (gi x), some (gi y)]) (st' := [gi (-1000001)]) (M' := gw (cFd mi 0) ml) rfl ?_
      first | exact Go.iret (by rfl) (Or.inl ⟨by omega, rfl, rfl⟩) | exact Go.iret (by rfl) (Or.inr (Or.inl ⟨by omega, rfl, rfl⟩)) | exact Go.iret (by rfl) (Or.inr (Or.inr ⟨by omega, i, hi, rfl, rfl⟩))
set_option maxRecDepth 100000 in
set_option maxHeartbeats 4000000 in
theorem pM_wash {G : gG} (hsz : G.2.2.2.2.2.2 = true) {n : Nat} (hn : 3 ≤ n) (mi : Nat → Nat → Int) (ml : Nat → Nat → Int64) (x y : Int) (r_x : rng x) (r_y : rng y) (hv : SV mi) (hz : 0 ≤ mi 148 9 ∧ mi 148 9 ≤ 20) : gM G 231 n 0 0 [gr 148, gi x, gi y] (gw mi ml) (fun r M => gE (¬ ((0 ≤ x ∧ x ≤ 999) ∧ (1 ≤ y ∧ y ≤ 60))) (-1000001) (mFd mi 0) (ml) r M ∨ gE (((0 ≤ x ∧ x ≤ 999) ∧ (1 ≤ y ∧ y ≤ 60)) ∧ mi 148 9 = 20) (-1000002) (mFd mi 1) (ml) r M ∨ gE (((0 ≤ x ∧ x ≤ 999) ∧ (1 ≤ y ∧ y ≤ 60)) ∧ ¬ mi 148 9 = 20) (mi 148 9 + 1) (gu (gu (gu mi 154 (mi 148 9).toNat x) 155 (mi 148 9).toNat y) 148 9 (mi 148 9 + 1)) (ml) r M) := by
  have hn1 : 1 ≤ n := by omega
  obtain ⟨hR, ht, hp, hq, hP, hQ⟩ := id hv
  refine gM.of mX12_wash okX12_wash (gcp 231 (by decide)).1 (gcp 231 (by decide)).2 (Nat.le_of_ble_eq_true rfl) ?_
  refine Go.run hsz hn1 3 (pc' := 5) (lv' := [some (gr 148), some (gi x), some (gi y)]) (st' := [gi 999, gi 0, gi x]) (M' := gw mi ml) rfl ?_
  refine Go.callS (As := [gi x, gi 0, gi 999]) (st := []) (mc1 := 0) (mc := 0) (ms1 := 0) (ms := 0) (by rfl) rfl (gcn 153 (by decide)).1 (gcn 153 (by decide)).2 (Nat.le_of_ble_eq_true rfl) (by omega) (cM_in hsz (n := n - 1) (by omega) mi ml x 0 999 r_x ⟨by decide, by decide⟩ ⟨by decide, by decide⟩) ?_
  rintro _ _ ⟨rfl, rfl⟩
  refine Go.run hsz hn1 0 (pc' := 8) (lv' := [some (gr 148), some (gi x), some (gi y)]) (st' := [gi (b2 (0 ≤ x ∧ x ≤ 999))]) (M' := gw mi ml) rfl ?_
  refine Go.if_eq (by rfl) (b2_rng _) (fun kq1 => ?_) (fun kq1 => ?_)
  · replace kq1 := b2_neg kq1
    refine Go.run hsz hn1 2 (pc' := 23) (lv' := [some (gr 148), some (gi x), some (gi y)]) (st' := [gi 0, gr 148]) (M' := gw mi ml) rfl ?_
    refine Go.callV (As := [gi 0]) (b := 148) (st := []) (mc1 := 0) (mc := 0) (ms1 := 0) (ms := 0) (by rfl) rfl (c := 11) (N := 46) (by rfl) (by decide) (by rfl) (gcn 154 (by decide)).1 (gcn 154 (by decide)).2 rfl (Nat.le_of_ble_eq_true rfl) (by omega) (cM_finds hsz (n := n - 1) (by omega) mi ml 0 (by decide) (by decide)) ?_
    rintro _ _ ⟨rfl, rfl⟩
    refine Go.run hsz hn1 0 (pc' := 26) (lv' := [some (gr 148), some (gi x), some (gi y)]) (st' := [gi (-1000001)]) (M' := gw (mFd mi 0) ml) rfl ?_
    refine Go.iret (by rfl) ?_
    first | (exact Or.inl ⟨by omega, rfl, rfl⟩) | (exact Or.inr (Or.inl ⟨by omega, rfl, rfl⟩)) | (exact Or.inr (Or.inr (⟨by omega, rfl, rfl⟩)))
  · replace kq1 := b2_pos kq1
    refine Go.run hsz hn1 3 (pc' := 15) (lv' := [some (gr 148), some (gi x), some (gi y)]) (st' := [gi 60, gi 1, gi y]) (M' := gw mi ml) rfl ?_
    refine Go.callS (As := [gi y, gi 1, gi 60]) (st := []) (mc1 := 0) (mc := 0) (ms1 := 0) (ms := 0) (by rfl) rfl (gcn 153 (by decide)).1 (gcn 153 (by decide)).2 (Nat.le_of_ble_eq_true rfl) (by omega) (cM_in hsz (n := n - 1) (by omega) mi ml y 1 60 r_y ⟨by decide, by decide⟩ ⟨by decide, by decide⟩) ?_
    rintro _ _ ⟨rfl, rfl⟩
    refine Go.run hsz hn1 0 (pc' := 18) (lv' := [some (gr 148), some (gi x), some (gi y)]) (st' := [gi (b2 (1 ≤ y ∧ y ≤ 60))]) (M' := gw mi ml) rfl ?_
    refine Go.if_ne (by rfl) (b2_rng _) (fun kq2 => ?_) (fun kq2 => ?_)
    · replace kq2 := b2_pos kq2
      refine Go.run hsz hn1 3 (pc' := 33) (lv' := [some (gr 148), some (gi x), some (gi y)]) (st' := [gi 20, gi (mi 148 9)]) (M' := gw mi ml) rfl ?_
      refine Go.icmp_ne (by rfl) (hR _ _) ⟨by decide, by decide⟩ (fun kq3 => ?_) (fun kq3 => ?_)
      · refine Go.run hsz hn1 5 (pc' := 51) (lv' := [some (gr 148), some (gi x), some (gi y)]) (st' := [gi x, gi (mi 148 9), gr 154]) (M' := gw mi ml) rfl ?_
        refine Go.iast (by rfl) (N := 20) (by rfl) (by omega) (by omega) (by decide) ?_
        refine Go.run hsz hn1 4 (pc' := 60) (lv' := [some (gr 148), some (gi x), some (gi y)]) (st' := [gi ((gu mi 154 ((mi 148 9).toNat) x) 148 9), gr 155]) (M' := gw (gu mi 154 ((mi 148 9).toNat) x) ml) rfl ?_
        refine Go.run hsz hn1 0 (pc' := 60) (lv' := [some (gr 148), some (gi x), some (gi y)]) (st' := [gi ((gu mi 154 ((mi 148 9).toNat) x) 148 9), gr 155]) (M' := gw (gu mi 154 ((mi 148 9).toNat) x) ml) rfl ?_
        rw [show (gu mi 154 ((mi 148 9).toNat) x) 148 9 = mi 148 9 from gu_ne (Or.inl (by decide))]
        refine Go.run hsz hn1 1 (pc' := 61) (lv' := [some (gr 148), some (gi x), some (gi y)]) (st' := [gi y, gi (mi 148 9), gr 155]) (M' := gw (gu mi 154 ((mi 148 9).toNat) x) ml) rfl ?_
        refine Go.iast (by rfl) (N := 20) (by rfl) (by omega) (by omega) (by decide) ?_
        refine Go.run hsz hn1 3 (pc' := 67) (lv' := [some (gr 148), some (gi x), some (gi y)]) (st' := [gi ((gu (gu mi 154 ((mi 148 9).toNat) x) 155 ((mi 148 9).toNat) y) 148 9), gr 148]) (M' := gw (gu (gu mi 154 ((mi 148 9).toNat) x) 155 ((mi 148 9).toNat) y) ml) rfl ?_
        refine Go.run hsz hn1 0 (pc' := 67) (lv' := [some (gr 148), some (gi x), some (gi y)]) (st' := [gi ((gu (gu mi 154 ((mi 148 9).toNat) x) 155 ((mi 148 9).toNat) y) 148 9), gr 148]) (M' := gw (gu (gu mi 154 ((mi 148 9).toNat) x) 155 ((mi 148 9).toNat) y) ml) rfl ?_
        rw [show (gu (gu mi 154 ((mi 148 9).toNat) x) 155 ((mi 148 9).toNat) y) 148 9 = mi 148 9 from (gu_ne (Or.inl (by decide))).trans (gu_ne (Or.inl (by decide)))]
        refine Go.run hsz hn1 5 (pc' := 76) (lv' := [some (gr 148), some (gi x), some (gi y)]) (st' := [gi ((mi 148 9) + 1)]) (M' := gw (gu (gu (gu mi 154 ((mi 148 9).toNat) x) 155 ((mi 148 9).toNat) y) 148 9 ((mi 148 9) + 1)) ml) rfl ?_
        refine Go.iret (by rfl) ?_
        first | (exact Or.inl ⟨by omega, rfl, rfl⟩) | (exact Or.inr (Or.inl ⟨by omega, rfl, rfl⟩)) | (exact Or.inr (Or.inr (⟨by omega, rfl, rfl⟩)))
      · refine Go.run hsz hn1 2 (pc' := 38) (lv' := [some (gr 148), some (gi x), some (gi y)]) (st' := [gi 1, gr 148]) (M' := gw mi ml) rfl ?_
        refine Go.callV (As := [gi 1]) (b := 148) (st := []) (mc1 := 0) (mc := 0) (ms1 := 0) (ms := 0) (by rfl) rfl (c := 11) (N := 46) (by rfl) (by decide) (by rfl) (gcn 154 (by decide)).1 (gcn 154 (by decide)).2 rfl (Nat.le_of_ble_eq_true rfl) (by omega) (cM_finds hsz (n := n - 1) (by omega) mi ml 1 (by decide) (by decide)) ?_
        rintro _ _ ⟨rfl, rfl⟩
        refine Go.run hsz hn1 0 (pc' := 41) (lv' := [some (gr 148), some (gi x), some (gi y)]) (st' := [gi (-1000002)]) (M' := gw (mFd mi 1) ml) rfl ?_
        refine Go.iret (by rfl) ?_
        first | (exact Or.inl ⟨by omega, rfl, rfl⟩) | (exact Or.inr (Or.inl ⟨by omega, rfl, rfl⟩)) | (exact Or.inr (Or.inr (⟨by omega, rfl, rfl⟩)))
    · replace kq2 := b2_neg kq2
      refine Go.run hsz hn1 2 (pc' := 23) (lv' := [some (gr 148), some (gi x), some (gi y)]) (st' := [gi 0, gr 148]) (M' := gw mi ml) rfl ?_
      refine Go.callV (As := [gi 0]) (b := 148) (st := []) (mc1 := 0) (mc := 0) (ms1 := 0) (ms := 0) (by rfl) rfl (c := 11) (N := 46) (by rfl) (by decide) (by rfl) (gcn 154 (by decide)).1 (gcn 154 (by decide)).2 rfl (Nat.le_of_ble_eq_true rfl) (by omega) (cM_finds hsz (n := n - 1) (by omega) mi ml 0 (by decide) (by decide)) ?_
      rintro _ _ ⟨rfl, rfl⟩
      refine Go.run hsz hn1 0 (pc' := 26) (lv' := [some (gr 148), some (gi x), some (gi y)]) (st' := [gi (-1000001)]) (M' := gw (mFd mi 0) ml) rfl ?_
      refine Go.iret (by rfl) ?_
      first | (exact Or.inl ⟨by omega, rfl, rfl⟩) | (exact Or.inr (Or.inl ⟨by omega, rfl, rfl⟩)) | (exact Or.inr (Or.inr (⟨by omega, rfl, rfl⟩)))
/-- a washer comes -/
theorem inv_wash {t : Nat} {mi : Nat → Nat → Int} {ml : Nat → Nat → Int64} {x y : Int} {i : Nat} (h : Inv t mi ml) (hx : 0 ≤ x ∧ x ≤ 999) (hy : 1 ≤ y ∧ y ≤ 60) (hz : mi 7 0 < 20) (hi : wPos mi (mi 7 0).toNat i x) : Inv (t + 1) (gu (gu (gu (wIns mi (mi 7 0).toNat i x y) 154 (mi 148 9).toNat x) 155 (mi 148 9).toNat y) 148 9 (mi 148 9 + 1)) ml := by
  obtain ⟨rsc, rpi, rpa, rdj, rli, rsp, rlw, rwa⟩ := h.2.1
  have rwa' := rwa
  obtain ⟨w1, w2, w3, f, w4, w5⟩ := rwa'
  have w1 : mi 7 0 = mi 148 9 := w1
  have w2 : 0 ≤ mi 148 9 ∧ mi 148 9 ≤ 20 := w2
  have hRw : gR32 (wIns mi (mi 7 0).toNat i x y) := gR32_gu (gR32_gu (gR32_gu (fun c j => by unfold wSh; split <;> exact h.1 _ _) ⟨by omega, by omega⟩) ⟨by omega, by omega⟩) ⟨by omega, by omega⟩
  have off : ∀ a j : Nat, a ≠ 7 → a ≠ 8 → a ≠ 9 → a ≠ 154 → a ≠ 155 → (a ≠ 148 ∨ j ≠ 9) → (gu (gu (gu (wIns mi (mi 7 0).toNat i x y) 154 (mi 148 9).toNat x) 155 (mi 148 9).toNat y) 148 9 (mi 148 9 + 1)) a j = mi a j := fun a j h1 h2 h3 h4 h5 h6 => by
    rw [gu_ne h6, gu_other h5, gu_other h4]
    unfold wIns
    rw [gu_other h1, gu_other h3, gu_other h2, wSh_off h2 h3]
  have low : ∀ a j : Nat, a < 100 → (gu (gu (gu (wIns mi (mi 7 0).toNat i x y) 154 (mi 148 9).toNat x) 155 (mi 148 9).toNat y) 148 9 (mi 148 9 + 1)) a j = wIns mi (mi 7 0).toNat i x y a j := fun a j ha => by
    rw [gu_other (by omega), gu_other (by omega), gu_other (by omega)]
  have s6 : ∀ j, (gu (gu (gu (wIns mi (mi 7 0).toNat i x y) 154 (mi 148 9).toNat x) 155 (mi 148 9).toNat y) 148 9 (mi 148 9 + 1)) 154 j = if j = (mi 148 9).toNat then x else mi 154 j := fun j => by
    rw [gu_other (by omega), gu_other (by omega), gu_eq]
    by_cases e : j = (mi 148 9).toNat
    · rw [if_pos ⟨rfl, e⟩, if_pos e]
    · rw [if_neg (fun q => e q.2), if_neg e]
      unfold wIns
      rw [gu_other (by omega), gu_other (by omega), gu_other (by omega), wSh_off (by omega) (by omega)]
  have s7 : ∀ j, (gu (gu (gu (wIns mi (mi 7 0).toNat i x y) 154 (mi 148 9).toNat x) 155 (mi 148 9).toNat y) 148 9 (mi 148 9 + 1)) 155 j = if j = (mi 148 9).toNat then y else mi 155 j := fun j => by
    rw [gu_other (by omega), gu_eq]
    by_cases e : j = (mi 148 9).toNat
    · rw [if_pos ⟨rfl, e⟩, if_pos e]
    · rw [if_neg (fun q => e q.2), if_neg e, gu_other (by omega)]
      unfold wIns
      rw [gu_other (by omega), gu_other (by omega), gu_other (by omega), wSh_off (by omega) (by omega)]
  have s0 : (gu (gu (gu (wIns mi (mi 7 0).toNat i x y) 154 (mi 148 9).toNat x) 155 (mi 148 9).toNat y) 148 9 (mi 148 9 + 1)) 148 9 = mi 148 9 + 1 := gu_self _ _ _ _
  generalize (gu (gu (gu (wIns mi (mi 7 0).toNat i x y) 154 (mi 148 9).toNat x) 155 (mi 148 9).toNat y) 148 9 (mi 148 9 + 1)) = m' at *
  have hR' : gR32 m' := fun a j => by
    by_cases e1 : a = 154
    · subst e1; rw [s6]; split
      · exact ⟨by omega, by omega⟩
      · exact h.1 _ _
    · by_cases e2 : a = 155
      · subst e2; rw [s7]; split
        · exact ⟨by omega, by omega⟩
        · exact h.1 _ _
      · by_cases e3 : a = 148 ∧ j = 9
        · rw [e3.1, e3.2, s0]; exact ⟨by omega, by omega⟩
        · by_cases e4 : a < 100
          · rw [low a j e4]; exact hRw _ _
          · rw [off a j (by omega) (by omega) (by omega) e1 e2 (by omega)]; exact h.1 _ _
  refine h.live (by omega) hR' (fun c k hk => off c k (by omega) (by omega) (by omega) (by omega) (by omega) (by omega)) (fun _ _ _ _ => rfl) ?_
  have e2 : sg m' 0 2 = sg mi 0 2 := off 148 2 (by omega) (by omega) (by omega) (by omega) (by omega) (by omega)
  have e3 : sg m' 0 3 = sg mi 0 3 := off 148 6 (by omega) (by omega) (by omega) (by omega) (by omega) (by omega)
  refine ⟨?_, rpi.fr (by omega) e2 rsc.2.2.2.2.2.1.2 (fun d k hd => off _ _ (by omega) (by omega) (by omega) (by omega) (by omega) (by omega)) (fun k => off 149 k (by omega) (by omega) (by omega) (by omega) (by omega) (by omega)) (fun k => off 150 k (by omega) (by omega) (by omega) (by omega) (by omega) (by omega)) (fun k => off 151 k (by omega) (by omega) (by omega) (by omega) (by omega) (by omega)), rpa.fr e3 e2 rsc.2.2.2.2.2.2.1.2 (fun d k hd => off _ _ (by omega) (by omega) (by omega) (by omega) (by omega) (by omega)) (fun _ _ _ => rfl) (fun k => off 152 k (by omega) (by omega) (by omega) (by omega) (by omega) (by omega)), rdj.fr e3 (fun k => off 152 k (by omega) (by omega) (by omega) (by omega) (by omega) (by omega)), rli.fr (fun k => off 4 k (by omega) (by omega) (by omega) (by omega) (by omega) (by omega)) (fun k => off 153 k (by omega) (by omega) (by omega) (by omega) (by omega) (by omega)), rsp.fr (by rw [e3]; exact Int.le_refl _) (fun k => off 5 k (by omega) (by omega) (by omega) (by omega) (by omega) (by omega)) (fun k => off 156 k (by omega) (by omega) (by omega) (by omega) (by omega) (by omega)), rlw.fr (fun l k hl => ⟨off _ _ (by omega) (by omega) (by omega) (by omega) (by omega) (by omega), off _ _ (by omega) (by omega) (by omega) (by omega) (by omega) (by omega)⟩) (fun k => off 157 k (by omega) (by omega) (by omega) (by omega) (by omega) (by omega)) (fun k => off 158 k (by omega) (by omega) (by omega) (by omega) (by omega) (by omega)), ?_⟩
  · obtain ⟨c0, c1, c2, c3, c4, c5, c6, c7⟩ := rsc
    have a0 : sg m' 0 0 = sg mi 0 0 := off 148 0 (by omega) (by omega) (by omega) (by omega) (by omega) (by omega)
    have a1 : sg m' 0 1 = sg mi 0 1 := off 148 1 (by omega) (by omega) (by omega) (by omega) (by omega) (by omega)
    unfold Rsc
    rw [a0, a1, e2, e3, off 1 0 (by omega) (by omega) (by omega) (by omega) (by omega) (by omega), off 1 1 (by omega) (by omega) (by omega) (by omega) (by omega) (by omega), off 1 2 (by omega) (by omega) (by omega) (by omega) (by omega) (by omega), off 1 3 (by omega) (by omega) (by omega) (by omega) (by omega) (by omega)]
    exact ⟨c0, c1, c2, c3, c4, c5, c6, by omega, by omega⟩
  · have p0 : m' 7 0 = mi 148 9 + 1 := by
      rw [low 7 0 (by omega)]
      unfold wIns
      rw [gu_self, w1]
    have p8 : ∀ j : Nat, j ≤ (mi 7 0).toNat → m' 8 j = if j < i then mi 8 j else if j = i then x else mi 8 (j - 1) := fun j hj => by
      rw [low 8 j (by omega)]
      unfold wIns
      rw [gu_other (by omega), gu_other (by omega), gu_eq]
      by_cases c1 : j = i
      · rw [if_pos ⟨rfl, c1⟩, if_neg (by omega), if_pos c1]
      · rw [if_neg (fun q => c1 q.2)]
        unfold wSh
        by_cases c2 : j < i
        · rw [if_neg (by omega), if_pos c2]
        · rw [if_pos (by omega), if_neg c2, if_neg c1]
    have p9 : ∀ j : Nat, j ≤ (mi 7 0).toNat → m' 9 j = if j < i then mi 9 j else if j = i then y else mi 9 (j - 1) := fun j hj => by
      rw [low 9 j (by omega)]
      unfold wIns
      rw [gu_other (by omega), gu_eq]
      by_cases c1 : j = i
      · rw [if_pos ⟨rfl, c1⟩, if_neg (by omega), if_pos c1]
      · rw [if_neg (fun q => c1 q.2), gu_other (by omega)]
        unfold wSh
        by_cases c2 : j < i
        · rw [if_neg (by omega), if_pos c2]
        · rw [if_pos (by omega), if_neg c2, if_neg c1]
    obtain ⟨i1, i2, i3⟩ := hi
    have w4 : ∀ j : Nat, (j : Int) < mi 148 9 → ((f j : Nat) : Int) < mi 148 9 ∧ mi 8 j = mi 154 (f j) ∧ mi 9 j = mi 155 (f j) := w4
    have w5 : ∀ j k : Nat, j < k → (k : Int) < mi 148 9 → mi 154 (f j) < mi 154 (f k) ∨ (mi 154 (f j) = mi 154 (f k) ∧ f j < f k) := w5
    have w3 : ∀ j : Nat, (j : Int) < mi 148 9 → (0 ≤ mi 154 j ∧ mi 154 j ≤ 999) ∧ (1 ≤ mi 155 j ∧ mi 155 j ≤ 60) := w3
    -- those ahead of the place come no later
    have lo : ∀ j : Nat, j < i → mi 154 (f j) ≤ x := fun j hj => by
      rcases i2 with e | e
      · omega
      · have e' := (w4 (i - 1) (by omega)).2.1
        by_cases c : j = i - 1
        · rw [c]; omega
        · rcases w5 j (i - 1) (by omega) (by omega) with q | q <;> omega
    have hi' : ∀ j : Nat, i ≤ j → (j : Int) < mi 148 9 → x < mi 154 (f j) := fun j h1 h2 => by
      have := i3 j h1 (by omega)
      have := (w4 j h2).2.1
      omega
    show m' 7 0 = m' 148 9 ∧ (0 ≤ m' 148 9 ∧ m' 148 9 ≤ 20) ∧ (∀ j : Nat, (j : Int) < m' 148 9 → (0 ≤ m' 154 j ∧ m' 154 j ≤ 999) ∧ (1 ≤ m' 155 j ∧ m' 155 j ≤ 60)) ∧ ∃ f : Nat → Nat, (∀ j : Nat, (j : Int) < m' 148 9 → ((f j : Nat) : Int) < m' 148 9 ∧ m' 8 j = m' 154 (f j) ∧ m' 9 j = m' 155 (f j)) ∧ ∀ j k : Nat, j < k → (k : Int) < m' 148 9 → m' 154 (f j) < m' 154 (f k) ∨ (m' 154 (f j) = m' 154 (f k) ∧ f j < f k)
    rw [p0, s0]
    refine ⟨rfl, by omega, fun j hj => ?_, fun j => if j < i then f j else if j = i then (mi 148 9).toNat else f (j - 1), fun j hj => ?_, fun j k hjk hk => ?_⟩
    · rw [s6, s7]
      by_cases e : j = (mi 148 9).toNat
      · rw [if_pos e, if_pos e]; exact ⟨hx, hy⟩
      · rw [if_neg e, if_neg e]; exact w3 j (by omega)
    · rw [p8 j (by omega), p9 j (by omega), s6, s7]
      dsimp only
      by_cases c1 : j < i
      · have := w4 j (by omega)
        simp only [if_pos c1]
        rw [if_neg (by omega), if_neg (by omega)]
        exact ⟨by omega, this.2⟩
      · by_cases c2 : j = i
        · simp only [if_neg c1, if_pos c2, if_true]
          exact ⟨by omega, trivial, trivial⟩
        · have := w4 (j - 1) (by omega)
          simp only [if_neg c1, if_neg c2]
          rw [if_neg (by omega), if_neg (by omega)]
          exact ⟨by omega, this.2⟩
    · rw [s6, s6]
      dsimp only
      have fb : ∀ q : Nat, (q : Int) < mi 148 9 → f q ≠ (mi 148 9).toNat := fun q hq e => by have := (w4 q hq).1; omega
      by_cases c1 : k < i
      · simp only [if_pos c1, if_pos (show j < i by omega)]
        rw [if_neg (fb j (by omega)), if_neg (fb k (by omega))]
        exact w5 j k hjk (by omega)
      · by_cases c2 : k = i
        · simp only [if_neg c1, if_pos c2, if_pos (show j < i by omega), if_true]
          rw [if_neg (fb j (by omega))]
          have := lo j (by omega)
          have := (w4 j (by omega)).1
          omega
        · simp only [if_neg c1, if_neg c2]
          rw [if_neg (fb (k - 1) (by omega))]
          have hk1 := hi' (k - 1) (by omega) (by omega)
          by_cases c3 : j < i
          · simp only [if_pos c3]
            rw [if_neg (fb j (by omega))]
            have := lo j c3
            omega
          · by_cases c4 : j = i
            · simp only [if_neg c3, if_pos c4, if_true]
              omega
            · simp only [if_neg c3, if_neg c4]
              rw [if_neg (fb (j - 1) (by omega))]
              exact w5 (j - 1) (k - 1) (by omega) (by omega)
set_option maxHeartbeats 4000000 in
theorem op_wash {G : gG} (hsz : G.2.2.2.2.2.2 = true) : gOp G Inv 133 231 2 := by
  intro t mi ml xs hlen hr ht hI
  match xs, hlen, hr with
  | [x, y], _, hr =>
    have r_x := hr x (by simp)
    have r_y := hr y (by simp)
    have hrep := hI.2.1
    have w1 : mi 7 0 = mi 148 9 := hrep.2.2.2.2.2.2.2.1
    have w2 : 0 ≤ mi 148 9 ∧ mi 148 9 ≤ 20 := hrep.2.2.2.2.2.2.2.2.1
    refine ⟨_, pC_wash hsz (n := 399) (by decide) mi ml x y r_x r_y hI.CV (by omega), ?_⟩
    rintro r M1 (⟨c, rfl, rfl⟩ | ⟨c, rfl, rfl⟩ | ⟨c, i, hi, rfl, rfl⟩)
    · have f9 : (cFd mi 0) 148 9 = mi 148 9 := rfl
      refine ⟨_, rfl, (rB _ (by decide) (by decide)), _, _, rfl, _, pM_wash hsz (n := 399) (by decide) (cFd mi 0) ml x y r_x r_y (SV.cFd hI ht (by decide)) (by rw [f9]; exact w2), ?_⟩
      rintro r2 M2 (⟨c2, rfl, rfl⟩ | ⟨c2, rfl, rfl⟩ | ⟨c2, rfl, rfl⟩)
      · exact ⟨rfl, _, _, rfl, hI.find ht (by decide)⟩
      · exfalso; omega
      · exfalso; omega
    · have f9 : (cFd mi 1) 148 9 = mi 148 9 := rfl
      refine ⟨_, rfl, (rB _ (by decide) (by decide)), _, _, rfl, _, pM_wash hsz (n := 399) (by decide) (cFd mi 1) ml x y r_x r_y (SV.cFd hI ht (by decide)) (by rw [f9]; exact w2), ?_⟩
      rintro r2 M2 (⟨c2, rfl, rfl⟩ | ⟨c2, rfl, rfl⟩ | ⟨c2, rfl, rfl⟩)
      · exfalso; omega
      · exact ⟨rfl, _, _, rfl, hI.find ht (by decide)⟩
      · exfalso; omega
    · have lowW : ∀ a k : Nat, 148 ≤ a → wIns mi (mi 7 0).toNat i x y a k = mi a k := fun a k ha => by
        unfold wIns
        rw [gu_other (by omega), gu_other (by omega), gu_other (by omega), wSh_off (by omega) (by omega)]
      have hRw : gR32 (wIns mi (mi 7 0).toNat i x y) := gR32_gu (gR32_gu (gR32_gu (fun c j => by unfold wSh; split <;> exact hI.1 _ _) r_x) r_y) ⟨by omega, by omega⟩
      have f9 := lowW 148 9 (by decide)
      refine ⟨_, rfl, ⟨by omega, by omega⟩, _, _, rfl, _, pM_wash hsz (n := 399) (by decide) (wIns mi (mi 7 0).toNat i x y) ml x y r_x r_y (hI.SV.low hRw (fun a k h => lowW a k h)) (by rw [f9]; exact w2), ?_⟩
      rintro r2 M2 (⟨c2, rfl, rfl⟩ | ⟨c2, rfl, rfl⟩ | ⟨c2, rfl, rfl⟩)
      · exfalso; omega
      · exfalso; omega
      · refine ⟨congrArg (fun z => some (gi z)) (by rw [f9]; omega), _, _, rfl, ?_⟩
        rw [f9]
        exact inv_wash hI (by omega) (by omega) (by omega) hi

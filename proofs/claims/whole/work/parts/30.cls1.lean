/-- the class's cells: of a party, of a pitch -/
def cA (mi : Nat → Nat → Int) (a : Int) (k : Nat) : Int := mi (24 + a.toNat) k
def cP (mi : Nat → Nat → Int) (p : Int) (k : Nat) : Int := mi (12 + p.toNat) k
def cStays (mi : Nat → Nat → Int) (a x : Int) : Int := b2 (cA mi a 4 ≤ x ∧ x ≤ cA mi a 4 + cA mi a 5 - 1)
def cHere (mi : Nat → Nat → Int) (a : Int) : Int := b2 (0 ≤ cA mi a 8 ∧ ¬ cStays mi a (mi 1 0) = 0)
def CPV (mi : Nat → Nat → Int) (a : Int) : Prop := (0 ≤ cA mi a 0 ∧ cA mi a 0 ≤ 4) ∧ (1 ≤ cA mi a 1 ∧ cA mi a 1 ≤ 30) ∧ (0 ≤ cA mi a 2 ∧ cA mi a 2 ≤ 32) ∧ (0 ≤ cA mi a 3 ∧ cA mi a 3 ≤ 7) ∧ (0 ≤ cA mi a 4 ∧ cA mi a 4 ≤ 99) ∧ (1 ≤ cA mi a 5 ∧ cA mi a 5 ≤ 30) ∧ cA mi a 4 + cA mi a 5 ≤ 100 ∧ (-2 ≤ cA mi a 8 ∧ cA mi a 8 < mi 1 2) ∧ (-1 ≤ cA mi a 9 ∧ cA mi a 9 < mi 1 3) ∧ (-1 ≤ cA mi a 10 ∧ cA mi a 10 ≤ 299970) ∧ (0 ≤ cA mi a 11 ∧ cA mi a 11 ≤ 16777215) ∧ (0 ≤ cA mi a 12 ∧ cA mi a 12 ≤ 40) ∧ (cA mi a 13 = 0 ∨ cA mi a 13 = 1)
def CQV (mi : Nat → Nat → Int) (p : Int) : Prop := (0 ≤ cP mi p 0 ∧ cP mi p 0 ≤ 99) ∧ (0 ≤ cP mi p 1 ∧ cP mi p 1 ≤ 99) ∧ (1 ≤ cP mi p 2 ∧ cP mi p 2 ≤ 30) ∧ (0 ≤ cP mi p 3 ∧ cP mi p 3 ≤ 99) ∧ (0 ≤ cP mi p 4 ∧ cP mi p 4 ≤ 9) ∧ (0 ≤ cP mi p 5 ∧ cP mi p 5 ≤ 32) ∧ (0 ≤ cP mi p 6 ∧ cP mi p 6 ≤ 7) ∧ (0 ≤ cP mi p 7 ∧ cP mi p 7 ≤ 3)
def CV (mi : Nat → Nat → Int) : Prop := gR32 mi ∧ (0 ≤ mi 1 0 ∧ mi 1 0 ≤ 99) ∧ (0 ≤ mi 1 2 ∧ mi 1 2 ≤ 12) ∧ (0 ≤ mi 1 3 ∧ mi 1 3 ≤ 24) ∧ (∀ a : Int, 0 ≤ a → a < mi 1 3 → CPV mi a) ∧ ∀ p : Int, 0 ≤ p → p < mi 1 2 → CQV mi p
/-- a finding of the class -/
def cFd (mi : Nat → Nat → Int) (w : Nat) : Nat → Nat → Int := gu mi 147 w (mi 147 w + 1)
def cReason (mi : Nat → Nat → Int) (a p : Int) : Int := if cP mi p 2 < cA mi a 1 then 1 else if ¬ andI (cA mi a 3) 1 = 0 ∧ andI (cP mi p 6) 1 = 0 then 2 else if ¬ andI (cA mi a 3) 2 = 0 ∧ andI (cP mi p 6) 2 = 0 then 3 else if 2 ≤ cA mi a 0 then (if cP mi p 5 < cA mi a 2 then 5 else if (¬ andI (cA mi a 3) 4 = 0 ∨ cA mi a 0 = 4) ∧ andI (cP mi p 6) 4 = 0 then 6 else if cA mi a 0 = 3 ∧ cP mi p 2 < cA mi a 1 + 3 then 7 else 0) else if cA mi a 0 = 1 ∧ 6 < cP mi p 4 then 4 else 0
theorem cReason_b (mi : Nat → Nat → Int) (a p : Int) : 0 ≤ cReason mi a p ∧ cReason mi a p ≤ 7 := by
  unfold cReason
  (repeat' split) <;> omega
def cR1 (mi : Nat → Nat → Int) (a p : Int) : Int := if cP mi p 2 < cA mi a 1 then 1 else if ¬ andI (cA mi a 3) 1 = 0 ∧ andI (cP mi p 6) 1 = 0 then 2 else if ¬ andI (cA mi a 3) 2 = 0 ∧ andI (cP mi p 6) 2 = 0 then 3 else 0
def cR2 (mi : Nat → Nat → Int) (a p : Int) : Int := if cP mi p 5 < cA mi a 2 then 5 else if (¬ andI (cA mi a 3) 4 = 0 ∨ cA mi a 0 = 4) ∧ andI (cP mi p 6) 4 = 0 then 6 else if cA mi a 0 = 3 ∧ cP mi p 2 < cA mi a 1 + 3 then 7 else 0
theorem cR1_b (mi : Nat → Nat → Int) (a p : Int) : 0 ≤ cR1 mi a p ∧ cR1 mi a p ≤ 3 := by
  unfold cR1
  (repeat' split) <;> omega
set_option maxRecDepth 100000 in
set_option maxHeartbeats 4000000 in
theorem cC_isIn {G : gG} (hsz : G.2.2.2.2.2.2 = true) {n : Nat} (hn : 1 ≤ n) (mi : Nat → Nat → Int) (ml : Nat → Nat → Int64) (v lo hi : Int) (hv : rng v) (hl : rng lo) (hm : rng hi) : gM G 150 n 0 0 [gi v, gi lo, gi hi] (gw mi ml) (gret (b2 (lo ≤ v ∧ v ≤ hi)) (gw mi ml)) := by
  refine gM.of mX11_isIn okX11_isIn (gcp 150 (by decide)).1 (gcp 150 (by decide)).2 (Nat.le_of_ble_eq_true rfl) ?_
  refine Go.run hsz hn 2 (pc' := 2) (lv' := [some (gi v), some (gi lo), some (gi hi)]) (st' := [gi lo, gi v]) (M' := gw mi ml) rfl ?_
  refine Go.icmp_lt (by rfl) hv hl (fun kq1 => ?_) (fun kq1 => ?_)
  · refine Go.run hsz hn 1 (pc' := 15) (lv' := [some (gi v), some (gi lo), some (gi hi)]) (st' := [gi 0]) (M' := gw mi ml) rfl ?_
    exact Go.zret (by rfl) (Or.inl rfl) ⟨congrArg (fun z => some (gi z)) (by unfold b2; split <;> omega), rfl⟩
  · refine Go.run hsz hn 2 (pc' := 7) (lv' := [some (gi v), some (gi lo), some (gi hi)]) (st' := [gi hi, gi v]) (M' := gw mi ml) rfl ?_
    refine Go.icmp_gt (by rfl) hv hm (fun kq2 => ?_) (fun kq2 => ?_)
    · refine Go.run hsz hn 1 (pc' := 15) (lv' := [some (gi v), some (gi lo), some (gi hi)]) (st' := [gi 0]) (M' := gw mi ml) rfl ?_
      exact Go.zret (by rfl) (Or.inl rfl) ⟨congrArg (fun z => some (gi z)) (by unfold b2; split <;> omega), rfl⟩
    · refine Go.run hsz hn 2 (pc' := 15) (lv' := [some (gi v), some (gi lo), some (gi hi)]) (st' := [gi 1]) (M' := gw mi ml) rfl ?_
      exact Go.zret (by rfl) (Or.inr rfl) ⟨congrArg (fun z => some (gi z)) (by unfold b2; split <;> omega), rfl⟩
set_option maxRecDepth 100000 in
set_option maxHeartbeats 4000000 in
theorem cC_finding {G : gG} (hsz : G.2.2.2.2.2.2 = true) {n : Nat} (hn : 1 ≤ n) (mi : Nat → Nat → Int) (ml : Nat → Nat → Int64) (w : Int) (h0 : w ≤ -1000001) (h1 : -1000008 < w) : gM G 147 n 0 0 [gr 0, gi w] (gw mi ml) (gret w (gw (cFd mi (-1000001 - w).toNat) ml)) := by
  refine gM.of mX11_finding okX11_finding (gcp 147 (by decide)).1 (gcp 147 (by decide)).2 (Nat.le_of_ble_eq_true rfl) ?_
  refine Go.run hsz hn 5 (pc' := 6) (lv' := [some (gr 0), some (gi w), some (gi ((-1000001) - w))]) (st' := [gi ((-1000001) - w)]) (M' := gw mi ml) rfl ?_
  refine Go.if_lt (by rfl) ⟨by omega, by omega⟩ (fun kq1 => ?_) (fun kq1 => ?_)
  · refine Go.run hsz hn 1 (pc' := 26) (lv' := [some (gr 0), some (gi w), some (gi ((-1000001) - w))]) (st' := [gi w]) (M' := gw mi ml) rfl ?_
    first | exact Go.iret (by rfl) ⟨congrArg (fun z => some (gi z)) (rfl), rfl⟩ | (exfalso; omega)
  · refine Go.run hsz hn 2 (pc' := 12) (lv' := [some (gr 0), some (gi w), some (gi ((-1000001) - w))]) (st' := [gi 7, gi ((-1000001) - w)]) (M' := gw mi ml) rfl ?_
    refine Go.icmp_ge (by rfl) ⟨by omega, by omega⟩ ⟨by omega, by omega⟩ (fun kq2 => ?_) (fun kq2 => ?_)
    · refine Go.run hsz hn 1 (pc' := 26) (lv' := [some (gr 0), some (gi w), some (gi ((-1000001) - w))]) (st' := [gi w]) (M' := gw mi ml) rfl ?_
      first | exact Go.iret (by rfl) ⟨congrArg (fun z => some (gi z)) (rfl), rfl⟩ | (exfalso; omega)
    · refine Go.run hsz hn 4 (pc' := 21) (lv' := [some (gr 0), some (gi w), some (gi ((-1000001) - w))]) (st' := [gi ((-1000001) - w), gr 147, gi ((-1000001) - w), gr 147]) (M' := gw mi ml) rfl ?_
      refine Go.iald (by rfl) (N := 7) (by rfl) (by omega) (by omega) (by decide) ?_
      refine Go.run hsz hn 2 (pc' := 24) (lv' := [some (gr 0), some (gi w), some (gi ((-1000001) - w))]) (st' := [gi ((mi 147 (((-1000001) - w).toNat)) + 1), gi ((-1000001) - w), gr 147]) (M' := gw mi ml) rfl ?_
      refine Go.iast (by rfl) (N := 7) (by rfl) (by omega) (by omega) (by decide) ?_
      refine Go.run hsz hn 1 (pc' := 26) (lv' := [some (gr 0), some (gi w), some (gi ((-1000001) - w))]) (st' := [gi w]) (M' := gw (gu mi 147 (((-1000001) - w).toNat) ((mi 147 (((-1000001) - w).toNat)) + 1)) ml) rfl ?_
      first | exact Go.iret (by rfl) ⟨congrArg (fun z => some (gi z)) (rfl), rfl⟩ | (exfalso; omega)
set_option maxRecDepth 100000 in
set_option maxHeartbeats 4000000 in
theorem cS_isPitch {G : gG} (hsz : G.2.2.2.2.2.2 = true) {n : Nat} (hn : 1 ≤ n) (mi : Nat → Nat → Int) (ml : Nat → Nat → Int64) (p : Int) (hr : rng p) (hR : gR32 mi) : gM G 59 n 0 0 [gr 1, gi p] (gw mi ml) (gret (b2 (0 ≤ p ∧ p < mi 1 2)) (gw mi ml)) := by
  refine gM.of mX8_isPitch okX8_isPitch (gcp 59 (by decide)).1 (gcp 59 (by decide)).2 (Nat.le_of_ble_eq_true rfl) ?_
  refine Go.run hsz hn 1 (pc' := 1) (lv' := [some (gr 1), some (gi p)]) (st' := [gi p]) (M' := gw mi ml) rfl ?_
  refine Go.if_lt (by rfl) hr (fun kq1 => ?_) (fun kq1 => ?_)
  · refine Go.run hsz hn 1 (pc' := 17) (lv' := [some (gr 1), some (gi p)]) (st' := [gi 0]) (M' := gw mi ml) rfl ?_
    exact Go.zret (by rfl) (Or.inl rfl) ⟨congrArg (fun z => some (gi z)) (by unfold b2; split <;> omega), rfl⟩
  · refine Go.run hsz hn 3 (pc' := 9) (lv' := [some (gr 1), some (gi p)]) (st' := [gi (mi 1 2), gi p]) (M' := gw mi ml) rfl ?_
    refine Go.icmp_ge (by rfl) hr (hR _ _) (fun kq2 => ?_) (fun kq2 => ?_)
    · refine Go.run hsz hn 1 (pc' := 17) (lv' := [some (gr 1), some (gi p)]) (st' := [gi 0]) (M' := gw mi ml) rfl ?_
      exact Go.zret (by rfl) (Or.inl rfl) ⟨congrArg (fun z => some (gi z)) (by unfold b2; split <;> omega), rfl⟩
    · refine Go.run hsz hn 2 (pc' := 17) (lv' := [some (gr 1), some (gi p)]) (st' := [gi 1]) (M' := gw mi ml) rfl ?_
      exact Go.zret (by rfl) (Or.inr rfl) ⟨congrArg (fun z => some (gi z)) (by unfold b2; split <;> omega), rfl⟩
set_option maxRecDepth 100000 in
set_option maxHeartbeats 4000000 in
theorem cS_isParty {G : gG} (hsz : G.2.2.2.2.2.2 = true) {n : Nat} (hn : 1 ≤ n) (mi : Nat → Nat → Int) (ml : Nat → Nat → Int64) (a : Int) (hr : rng a) (hR : gR32 mi) : gM G 60 n 0 0 [gr 1, gi a] (gw mi ml) (gret (b2 (0 ≤ a ∧ a < mi 1 3)) (gw mi ml)) := by
  refine gM.of mX8_isParty okX8_isParty (gcp 60 (by decide)).1 (gcp 60 (by decide)).2 (Nat.le_of_ble_eq_true rfl) ?_
  refine Go.run hsz hn 1 (pc' := 1) (lv' := [some (gr 1), some (gi a)]) (st' := [gi a]) (M' := gw mi ml) rfl ?_
  refine Go.if_lt (by rfl) hr (fun kq1 => ?_) (fun kq1 => ?_)
  · refine Go.run hsz hn 1 (pc' := 17) (lv' := [some (gr 1), some (gi a)]) (st' := [gi 0]) (M' := gw mi ml) rfl ?_
    exact Go.zret (by rfl) (Or.inl rfl) ⟨congrArg (fun z => some (gi z)) (by unfold b2; split <;> omega), rfl⟩
  · refine Go.run hsz hn 3 (pc' := 9) (lv' := [some (gr 1), some (gi a)]) (st' := [gi (mi 1 3), gi a]) (M' := gw mi ml) rfl ?_
    refine Go.icmp_ge (by rfl) hr (hR _ _) (fun kq2 => ?_) (fun kq2 => ?_)
    · refine Go.run hsz hn 1 (pc' := 17) (lv' := [some (gr 1), some (gi a)]) (st' := [gi 0]) (M' := gw mi ml) rfl ?_
      exact Go.zret (by rfl) (Or.inl rfl) ⟨congrArg (fun z => some (gi z)) (by unfold b2; split <;> omega), rfl⟩
    · refine Go.run hsz hn 2 (pc' := 17) (lv' := [some (gr 1), some (gi a)]) (st' := [gi 1]) (M' := gw mi ml) rfl ?_
      exact Go.zret (by rfl) (Or.inr rfl) ⟨congrArg (fun z => some (gi z)) (by unfold b2; split <;> omega), rfl⟩
set_option maxRecDepth 100000 in
set_option maxHeartbeats 4000000 in
theorem cS_isPON {G : gG} (hsz : G.2.2.2.2.2.2 = true) {n : Nat} (hn : 2 ≤ n) (mi : Nat → Nat → Int) (ml : Nat → Nat → Int64) (a : Int) (hr : rng a) (hR : gR32 mi) : gM G 61 n 0 0 [gr 1, gi a] (gw mi ml) (gret (b2 (a = -1 ∨ (0 ≤ a ∧ a < mi 1 3))) (gw mi ml)) := by
  have hn1 : 1 ≤ n := by omega
  refine gM.of mX8_isPartyOrNobody okX8_isPartyOrNobody (gcp 61 (by decide)).1 (gcp 61 (by decide)).2 (Nat.le_of_ble_eq_true rfl) ?_
  refine Go.run hsz hn1 2 (pc' := 2) (lv' := [some (gr 1), some (gi a)]) (st' := [gi (-1), gi a]) (M' := gw mi ml) rfl ?_
  refine Go.icmp_eq (by rfl) hr ⟨by decide, by decide⟩ (fun kq1 => ?_) (fun kq1 => ?_)
  · refine Go.run hsz hn1 2 (pc' := 18) (lv' := [some (gr 1), some (gi a)]) (st' := [gi 1]) (M' := gw mi ml) rfl ?_
    exact Go.zret (by rfl) (Or.inr rfl) ⟨congrArg (fun z => some (gi z)) (by unfold b2; split <;> omega), rfl⟩
  · refine Go.run hsz hn1 2 (pc' := 7) (lv' := [some (gr 1), some (gi a)]) (st' := [gi a, gr 1]) (M' := gw mi ml) rfl ?_
    refine Go.callV (As := [gi a]) (b := 1) (st := []) (mc1 := 0) (mc := 0) (ms1 := 0) (ms := 0) (by rfl) rfl (c := 7) (N := 11) (by rfl) (by decide) (by rfl) (gcn 60 (by decide)).1 (gcn 60 (by decide)).2 rfl (Nat.le_of_ble_eq_true rfl) (by omega) (cS_isParty hsz (n := n - 1) (by omega) mi ml a hr hR) ?_
    rintro _ _ ⟨rfl, rfl⟩
    refine Go.run hsz hn1 0 (pc' := 10) (lv' := [some (gr 1), some (gi a)]) (st' := [gi (b2 (0 ≤ a ∧ a < mi 1 3))]) (M' := gw mi ml) rfl ?_
    refine Go.if_eq (by rfl) (b2_rng _) (fun kq2 => ?_) (fun kq2 => ?_)
    · replace kq2 := b2_neg kq2
      refine Go.run hsz hn1 1 (pc' := 18) (lv' := [some (gr 1), some (gi a)]) (st' := [gi 0]) (M' := gw mi ml) rfl ?_
      exact Go.zret (by rfl) (Or.inl rfl) ⟨congrArg (fun z => some (gi z)) (by unfold b2; split <;> omega), rfl⟩
    · replace kq2 := b2_pos kq2
      refine Go.run hsz hn1 2 (pc' := 18) (lv' := [some (gr 1), some (gi a)]) (st' := [gi 1]) (M' := gw mi ml) rfl ?_
      exact Go.zret (by rfl) (Or.inr rfl) ⟨congrArg (fun z => some (gi z)) (by unfold b2; split <;> omega), rfl⟩
set_option maxRecDepth 100000 in
set_option maxHeartbeats 4000000 in
theorem cS_isOn {G : gG} (hsz : G.2.2.2.2.2.2 = true) {n : Nat} (hn : 1 ≤ n) (mi : Nat → Nat → Int) (ml : Nat → Nat → Int64) (a : Int) (h0 : 0 ≤ a) (h1 : a < 24) (hR : gR32 mi) : gM G 62 n 0 0 [gr 1, gi a] (gw mi ml) (gret (b2 (0 ≤ cA mi a 8)) (gw mi ml)) := by
  refine gM.of mX8_isOn okX8_isOn (gcp 62 (by decide)).1 (gcp 62 (by decide)).2 (Nat.le_of_ble_eq_true rfl) ?_
  refine Go.run hsz hn 3 (pc' := 5) (lv' := [some (gr 1), some (gi a)]) (st' := [gi a, gr 3]) (M' := gw mi ml) rfl ?_
  refine Go.aaldR 4 (by rfl) (N := 24) (by rfl) ⟨by decide, by decide⟩ (by omega) (by omega) (by decide) (gMR_3 (by omega) (by omega)) ?_
  refine Go.getf (by rfl) (c := 2) (N := 14) (shA (i := a) (by omega)) ?_
  refine Go.run hsz hn 0 (pc' := 9) (lv' := [some (gr 1), some (gi a)]) (st' := [gi (cA mi a 8)]) (M' := gw mi ml) rfl ?_
  refine Go.if_lt (by rfl) (hR _ _) (fun kq1 => ?_) (fun kq1 => ?_)
  · refine Go.run hsz hn 1 (pc' := 17) (lv' := [some (gr 1), some (gi a)]) (st' := [gi 0]) (M' := gw mi ml) rfl ?_
    exact Go.zret (by rfl) (Or.inl rfl) ⟨congrArg (fun z => some (gi z)) (by unfold b2; split <;> omega), rfl⟩
  · refine Go.run hsz hn 2 (pc' := 17) (lv' := [some (gr 1), some (gi a)]) (st' := [gi 1]) (M' := gw mi ml) rfl ?_
    exact Go.zret (by rfl) (Or.inr rfl) ⟨congrArg (fun z => some (gi z)) (by unfold b2; split <;> omega), rfl⟩
set_option maxRecDepth 100000 in
set_option maxHeartbeats 4000000 in
theorem cS_hasCome {G : gG} (hsz : G.2.2.2.2.2.2 = true) {n : Nat} (hn : 1 ≤ n) (mi : Nat → Nat → Int) (ml : Nat → Nat → Int64) (a : Int) (h0 : 0 ≤ a) (h1 : a < 24) (hR : gR32 mi) : gM G 63 n 0 0 [gr 1, gi a] (gw mi ml) (gret (b2 (cA mi a 4 ≤ mi 1 0)) (gw mi ml)) := by
  refine gM.of mX8_hasCome okX8_hasCome (gcp 63 (by decide)).1 (gcp 63 (by decide)).2 (Nat.le_of_ble_eq_true rfl) ?_
  refine Go.run hsz hn 3 (pc' := 5) (lv' := [some (gr 1), some (gi a)]) (st' := [gi a, gr 3]) (M' := gw mi ml) rfl ?_
  refine Go.aaldR 4 (by rfl) (N := 24) (by rfl) ⟨by decide, by decide⟩ (by omega) (by omega) (by decide) (gMR_3 (by omega) (by omega)) ?_
  refine Go.getf (by rfl) (c := 2) (N := 14) (shA (i := a) (by omega)) ?_
  refine Go.run hsz hn 2 (pc' := 13) (lv' := [some (gr 1), some (gi a)]) (st' := [gi (mi 1 0), gi (cA mi a 4)]) (M' := gw mi ml) rfl ?_
  refine Go.icmp_gt (by rfl) (hR _ _) (hR _ _) (fun kq1 => ?_) (fun kq1 => ?_)
  · refine Go.run hsz hn 1 (pc' := 21) (lv' := [some (gr 1), some (gi a)]) (st' := [gi 0]) (M' := gw mi ml) rfl ?_
    exact Go.zret (by rfl) (Or.inl rfl) ⟨congrArg (fun z => some (gi z)) (by unfold b2; split <;> omega), rfl⟩
  · refine Go.run hsz hn 2 (pc' := 21) (lv' := [some (gr 1), some (gi a)]) (st' := [gi 1]) (M' := gw mi ml) rfl ?_
    exact Go.zret (by rfl) (Or.inr rfl) ⟨congrArg (fun z => some (gi z)) (by unfold b2; split <;> omega), rfl⟩
set_option maxRecDepth 100000 in
set_option maxHeartbeats 4000000 in
theorem cS_isSettled {G : gG} (hsz : G.2.2.2.2.2.2 = true) {n : Nat} (hn : 2 ≤ n) (mi : Nat → Nat → Int) (ml : Nat → Nat → Int64) (a : Int) (h0 : 0 ≤ a) (h1 : a < 24) (hR : gR32 mi) : gM G 64 n 0 0 [gr 1, gi a] (gw mi ml) (gret (b2 (0 ≤ cA mi a 8 ∧ cA mi a 4 ≤ mi 1 0)) (gw mi ml)) := by
  have hn1 : 1 ≤ n := by omega
  refine gM.of mX8_isSettled okX8_isSettled (gcp 64 (by decide)).1 (gcp 64 (by decide)).2 (Nat.le_of_ble_eq_true rfl) ?_
  refine Go.run hsz hn1 2 (pc' := 2) (lv' := [some (gr 1), some (gi a)]) (st' := [gi a, gr 1]) (M' := gw mi ml) rfl ?_
  refine Go.callV (As := [gi a]) (b := 1) (st := []) (mc1 := 0) (mc := 0) (ms1 := 0) (ms := 0) (by rfl) rfl (c := 7) (N := 11) (by rfl) (by decide) (by rfl) (gcn 62 (by decide)).1 (gcn 62 (by decide)).2 rfl (Nat.le_of_ble_eq_true rfl) (by omega) (cS_isOn hsz (n := n - 1) (by omega) mi ml a (by omega) (by omega) hR) ?_
  rintro _ _ ⟨rfl, rfl⟩
  refine Go.run hsz hn1 0 (pc' := 5) (lv' := [some (gr 1), some (gi a)]) (st' := [gi (b2 (0 ≤ cA mi a 8))]) (M' := gw mi ml) rfl ?_
  refine Go.if_eq (by rfl) (b2_rng _) (fun kq1 => ?_) (fun kq1 => ?_)
  · replace kq1 := b2_neg kq1
    refine Go.run hsz hn1 1 (pc' := 21) (lv' := [some (gr 1), some (gi a)]) (st' := [gi 0]) (M' := gw mi ml) rfl ?_
    exact Go.zret (by rfl) (Or.inl rfl) ⟨congrArg (fun z => some (gi z)) (by unfold b2; split <;> omega), rfl⟩
  · replace kq1 := b2_pos kq1
    refine Go.run hsz hn1 2 (pc' := 10) (lv' := [some (gr 1), some (gi a)]) (st' := [gi a, gr 1]) (M' := gw mi ml) rfl ?_
    refine Go.callV (As := [gi a]) (b := 1) (st := []) (mc1 := 0) (mc := 0) (ms1 := 0) (ms := 0) (by rfl) rfl (c := 7) (N := 11) (by rfl) (by decide) (by rfl) (gcn 63 (by decide)).1 (gcn 63 (by decide)).2 rfl (Nat.le_of_ble_eq_true rfl) (by omega) (cS_hasCome hsz (n := n - 1) (by omega) mi ml a (by omega) (by omega) hR) ?_
    rintro _ _ ⟨rfl, rfl⟩
    refine Go.run hsz hn1 0 (pc' := 13) (lv' := [some (gr 1), some (gi a)]) (st' := [gi (b2 (cA mi a 4 ≤ mi 1 0))]) (M' := gw mi ml) rfl ?_
    refine Go.if_eq (by rfl) (b2_rng _) (fun kq2 => ?_) (fun kq2 => ?_)
    · replace kq2 := b2_neg kq2
      refine Go.run hsz hn1 1 (pc' := 21) (lv' := [some (gr 1), some (gi a)]) (st' := [gi 0]) (M' := gw mi ml) rfl ?_
      exact Go.zret (by rfl) (Or.inl rfl) ⟨congrArg (fun z => some (gi z)) (by unfold b2; split <;> omega), rfl⟩
    · replace kq2 := b2_pos kq2
      refine Go.run hsz hn1 2 (pc' := 21) (lv' := [some (gr 1), some (gi a)]) (st' := [gi 1]) (M' := gw mi ml) rfl ?_
      exact Go.zret (by rfl) (Or.inr rfl) ⟨congrArg (fun z => some (gi z)) (by unfold b2; split <;> omega), rfl⟩
set_option maxRecDepth 100000 in
set_option maxHeartbeats 4000000 in
theorem cPa_last {G : gG} (hsz : G.2.2.2.2.2.2 = true) {n : Nat} (hn : 1 ≤ n) (mi : Nat → Nat → Int) (ml : Nat → Nat → Int64) (a : Int) (h0 : 0 ≤ a) (h1 : a < 24) : gM G 24 n 0 0 [gr (24 + a.toNat)] (gw mi ml) (gret (cA mi a 4 + cA mi a 5 - 1) (gw mi ml)) := by
  refine gM.of mX3_lastNight okX3_lastNight (gcp 24 (by decide)).1 (gcp 24 (by decide)).2 (Nat.le_of_ble_eq_true rfl) ?_
  refine Go.run hsz hn 1 (pc' := 1) (lv' := [some (gr (24 + a.toNat))]) (st' := [gr (24 + a.toNat)]) (M' := gw mi ml) rfl ?_
  refine Go.getf (by rfl) (c := 2) (N := 14) (shA (i := a) (by omega)) ?_
  refine Go.run hsz hn 1 (pc' := 5) (lv' := [some (gr (24 + a.toNat))]) (st' := [gr (24 + a.toNat), gi (cA mi a 4)]) (M' := gw mi ml) rfl ?_
  refine Go.getf (by rfl) (c := 2) (N := 14) (shA (i := a) (by omega)) ?_
  refine Go.run hsz hn 3 (pc' := 11) (lv' := [some (gr (24 + a.toNat))]) (st' := [gi (((cA mi a 4) + (cA mi a 5)) - 1)]) (M' := gw mi ml) rfl ?_
  first | exact Go.iret (by rfl) ⟨congrArg (fun z => some (gi z)) (rfl), rfl⟩ | (exfalso; omega)
set_option maxRecDepth 100000 in
set_option maxHeartbeats 4000000 in
theorem cPa_stays {G : gG} (hsz : G.2.2.2.2.2.2 = true) {n : Nat} (hn : 2 ≤ n) (mi : Nat → Nat → Int) (ml : Nat → Nat → Int64) (a x : Int) (h0 : 0 ≤ a) (h1 : a < 24) (hx : rng x) (hb : CPV mi a) (hR : gR32 mi) : gM G 25 n 0 0 [gr (24 + a.toNat), gi x] (gw mi ml) (gret (cStays mi a x) (gw mi ml)) := by
  have hn1 : 1 ≤ n := by omega
  obtain ⟨b0, b1, b2x, b3, b4, b5, b6, -⟩ := id hb
  refine gM.of mX3_stays okX3_stays (gcp 25 (by decide)).1 (gcp 25 (by decide)).2 (Nat.le_of_ble_eq_true rfl) ?_
  refine Go.run hsz hn1 2 (pc' := 2) (lv' := [some (gr (24 + a.toNat)), some (gi x)]) (st' := [gr (24 + a.toNat), gi x]) (M' := gw mi ml) rfl ?_
  refine Go.getf (by rfl) (c := 2) (N := 14) (shA (i := a) (by omega)) ?_
  refine Go.run hsz hn1 0 (pc' := 5) (lv' := [some (gr (24 + a.toNat)), some (gi x)]) (st' := [gi (cA mi a 4), gi x]) (M' := gw mi ml) rfl ?_
  refine Go.icmp_lt (by rfl) hx (hR _ _) (fun kq1 => ?_) (fun kq1 => ?_)
  · refine Go.run hsz hn1 1 (pc' := 21) (lv' := [some (gr (24 + a.toNat)), some (gi x)]) (st' := [gi 0]) (M' := gw mi ml) rfl ?_
    exact Go.zret (by rfl) (Or.inl rfl) ⟨congrArg (fun z => some (gi z)) (by unfold cStays b2; split <;> omega), rfl⟩
  · refine Go.run hsz hn1 2 (pc' := 10) (lv' := [some (gr (24 + a.toNat)), some (gi x)]) (st' := [gr (24 + a.toNat), gi x]) (M' := gw mi ml) rfl ?_
    refine Go.callV (As := []) (b := 24 + a.toNat) (st := [gi x]) (mc1 := 0) (mc := 0) (ms1 := 0) (ms := 0) (by rfl) rfl (c := 2) (N := 14) (shA (i := a) (by omega)) (by decide) (by rfl) (gcn 24 (by decide)).1 (gcn 24 (by decide)).2 rfl (Nat.le_of_ble_eq_true rfl) (by omega) (cPa_last hsz (n := n - 1) (by omega) mi ml a (by omega) (by omega)) ?_
    rintro _ _ ⟨rfl, rfl⟩
    refine Go.run hsz hn1 0 (pc' := 13) (lv' := [some (gr (24 + a.toNat)), some (gi x)]) (st' := [gi (cA mi a 4 + cA mi a 5 - 1), gi x]) (M' := gw mi ml) rfl ?_
    refine Go.icmp_gt (by rfl) hx ⟨by omega, by omega⟩ (fun kq2 => ?_) (fun kq2 => ?_)
    · refine Go.run hsz hn1 1 (pc' := 21) (lv' := [some (gr (24 + a.toNat)), some (gi x)]) (st' := [gi 0]) (M' := gw mi ml) rfl ?_
      exact Go.zret (by rfl) (Or.inl rfl) ⟨congrArg (fun z => some (gi z)) (by unfold cStays b2; split <;> omega), rfl⟩
    · refine Go.run hsz hn1 2 (pc' := 21) (lv' := [some (gr (24 + a.toNat)), some (gi x)]) (st' := [gi 1]) (M' := gw mi ml) rfl ?_
      exact Go.zret (by rfl) (Or.inr rfl) ⟨congrArg (fun z => some (gi z)) (by unfold cStays b2; split <;> omega), rfl⟩
set_option maxRecDepth 100000 in
set_option maxHeartbeats 4000000 in
theorem cPa_wishes {G : gG} (hsz : G.2.2.2.2.2.2 = true) {n : Nat} (hn : 1 ≤ n) (mi : Nat → Nat → Int) (ml : Nat → Nat → Int64) (a f : Int) (h0 : 0 ≤ a) (h1 : a < 24) (hR : gR32 mi) : gM G 26 n 0 0 [gr (24 + a.toNat), gi f] (gw mi ml) (gret (b2 (¬ andI (cA mi a 3) f = 0)) (gw mi ml)) := by
  refine gM.of mX3_wishesFor okX3_wishesFor (gcp 26 (by decide)).1 (gcp 26 (by decide)).2 (Nat.le_of_ble_eq_true rfl) ?_
  refine Go.run hsz hn 1 (pc' := 1) (lv' := [some (gr (24 + a.toNat)), some (gi f)]) (st' := [gr (24 + a.toNat)]) (M' := gw mi ml) rfl ?_
  refine Go.getf (by rfl) (c := 2) (N := 14) (shA (i := a) (by omega)) ?_
  refine Go.run hsz hn 2 (pc' := 6) (lv' := [some (gr (24 + a.toNat)), some (gi f)]) (st' := [gi (andI (cA mi a 3) f)]) (M' := gw mi ml) rfl ?_
  refine Go.if_eq (by rfl) (rng_of _) (fun kq1 => ?_) (fun kq1 => ?_)
  · refine Go.run hsz hn 1 (pc' := 14) (lv' := [some (gr (24 + a.toNat)), some (gi f)]) (st' := [gi 0]) (M' := gw mi ml) rfl ?_
    exact Go.zret (by rfl) (Or.inl rfl) ⟨congrArg (fun z => some (gi z)) (by unfold b2; split <;> omega), rfl⟩
  · refine Go.run hsz hn 2 (pc' := 14) (lv' := [some (gr (24 + a.toNat)), some (gi f)]) (st' := [gi 1]) (M' := gw mi ml) rfl ?_
    exact Go.zret (by rfl) (Or.inr rfl) ⟨congrArg (fun z => some (gi z)) (by unfold b2; split <;> omega), rfl⟩
set_option maxRecDepth 100000 in
set_option maxHeartbeats 4000000 in
theorem cPi_offers {G : gG} (hsz : G.2.2.2.2.2.2 = true) {n : Nat} (hn : 1 ≤ n) (mi : Nat → Nat → Int) (ml : Nat → Nat → Int64) (p f : Int) (p0 : 0 ≤ p) (p1 : p < 12) (hR : gR32 mi) : gM G 31 n 0 0 [gr (12 + p.toNat), gi f] (gw mi ml) (gret (b2 (¬ andI (cP mi p 6) f = 0)) (gw mi ml)) := by
  refine gM.of mX4_offers okX4_offers (gcp 31 (by decide)).1 (gcp 31 (by decide)).2 (Nat.le_of_ble_eq_true rfl) ?_
  refine Go.run hsz hn 1 (pc' := 1) (lv' := [some (gr (12 + p.toNat)), some (gi f)]) (st' := [gr (12 + p.toNat)]) (M' := gw mi ml) rfl ?_
  refine Go.getf (by rfl) (c := 3) (N := 10) (shP (i := p) (by omega)) ?_
  refine Go.run hsz hn 2 (pc' := 6) (lv' := [some (gr (12 + p.toNat)), some (gi f)]) (st' := [gi (andI (cP mi p 6) f)]) (M' := gw mi ml) rfl ?_
  refine Go.if_eq (by rfl) (rng_of _) (fun kq1 => ?_) (fun kq1 => ?_)
  · refine Go.run hsz hn 1 (pc' := 14) (lv' := [some (gr (12 + p.toNat)), some (gi f)]) (st' := [gi 0]) (M' := gw mi ml) rfl ?_
    exact Go.zret (by rfl) (Or.inl rfl) ⟨congrArg (fun z => some (gi z)) (by unfold b2; split <;> omega), rfl⟩
  · refine Go.run hsz hn 2 (pc' := 14) (lv' := [some (gr (12 + p.toNat)), some (gi f)]) (st' := [gi 1]) (M' := gw mi ml) rfl ?_
    exact Go.zret (by rfl) (Or.inr rfl) ⟨congrArg (fun z => some (gi z)) (by unfold b2; split <;> omega), rfl⟩
set_option maxRecDepth 100000 in
set_option maxHeartbeats 4000000 in
theorem cS_isHere {G : gG} (hsz : G.2.2.2.2.2.2 = true) {n : Nat} (hn : 3 ≤ n) (mi : Nat → Nat → Int) (ml : Nat → Nat → Int64) (a : Int) (h0 : 0 ≤ a) (h1 : a < 24) (hb : CPV mi a) (hR : gR32 mi) : gM G 65 n 0 0 [gr 1, gi a] (gw mi ml) (gret (cHere mi a) (gw mi ml)) := by
  have hn1 : 1 ≤ n := by omega
  refine gM.of mX8_isHere okX8_isHere (gcp 65 (by decide)).1 (gcp 65 (by decide)).2 (Nat.le_of_ble_eq_true rfl) ?_
  refine Go.run hsz hn1 2 (pc' := 2) (lv' := [some (gr 1), some (gi a)]) (st' := [gi a, gr 1]) (M' := gw mi ml) rfl ?_
  refine Go.callV (As := [gi a]) (b := 1) (st := []) (mc1 := 0) (mc := 0) (ms1 := 0) (ms := 0) (by rfl) rfl (c := 7) (N := 11) (by rfl) (by decide) (by rfl) (gcn 62 (by decide)).1 (gcn 62 (by decide)).2 rfl (Nat.le_of_ble_eq_true rfl) (by omega) (cS_isOn hsz (n := n - 1) (by omega) mi ml a (by omega) (by omega) hR) ?_
  rintro _ _ ⟨rfl, rfl⟩
  refine Go.run hsz hn1 0 (pc' := 5) (lv' := [some (gr 1), some (gi a)]) (st' := [gi (b2 (0 ≤ cA mi a 8))]) (M' := gw mi ml) rfl ?_
  refine Go.if_eq (by rfl) (b2_rng _) (fun kq1 => ?_) (fun kq1 => ?_)
  · replace kq1 := b2_neg kq1
    refine Go.run hsz hn1 1 (pc' := 29) (lv' := [some (gr 1), some (gi a)]) (st' := [gi 0]) (M' := gw mi ml) rfl ?_
    exact Go.zret (by rfl) (Or.inl rfl) ⟨congrArg (fun z => some (gi z)) (by unfold cHere; unfold b2; split <;> omega), rfl⟩
  · replace kq1 := b2_pos kq1
    refine Go.run hsz hn1 3 (pc' := 13) (lv' := [some (gr 1), some (gi a)]) (st' := [gi a, gr 3]) (M' := gw mi ml) rfl ?_
    refine Go.aaldR 4 (by rfl) (N := 24) (by rfl) ⟨by decide, by decide⟩ (by omega) (by omega) (by decide) (gMR_3 (by omega) (by omega)) ?_
    refine Go.run hsz hn1 2 (pc' := 18) (lv' := [some (gr 1), some (gi a)]) (st' := [gi (mi 1 0), gr (24 + a.toNat)]) (M' := gw mi ml) rfl ?_
    refine Go.callV (As := [gi (mi 1 0)]) (b := 24 + a.toNat) (st := []) (mc1 := 0) (mc := 0) (ms1 := 0) (ms := 0) (by rfl) rfl (c := 2) (N := 14) (shA (i := a) (by omega)) (by decide) (by rfl) (gcn 25 (by decide)).1 (gcn 25 (by decide)).2 rfl (Nat.le_of_ble_eq_true rfl) (by omega) (cPa_stays hsz (n := n - 1) (by omega) mi ml a (mi 1 0) (by omega) (by omega) (hR _ _) hb hR) ?_
    rintro _ _ ⟨rfl, rfl⟩
    refine Go.run hsz hn1 0 (pc' := 21) (lv' := [some (gr 1), some (gi a)]) (st' := [gi (cStays mi a (mi 1 0))]) (M' := gw mi ml) rfl ?_
    refine Go.if_eq (by rfl) (b2_rng _) (fun kq2 => ?_) (fun kq2 => ?_)
    · refine Go.run hsz hn1 1 (pc' := 29) (lv' := [some (gr 1), some (gi a)]) (st' := [gi 0]) (M' := gw mi ml) rfl ?_
      exact Go.zret (by rfl) (Or.inl rfl) ⟨congrArg (fun z => some (gi z)) (by unfold cHere; unfold b2; split <;> omega), rfl⟩
    · refine Go.run hsz hn1 2 (pc' := 29) (lv' := [some (gr 1), some (gi a)]) (st' := [gi 1]) (M' := gw mi ml) rfl ?_
      exact Go.zret (by rfl) (Or.inr rfl) ⟨congrArg (fun z => some (gi z)) (by unfold cHere; unfold b2; split <;> omega), rfl⟩
set_option maxRecDepth 100000 in
set_option maxHeartbeats 4000000 in
theorem cK_all {G : gG} (hsz : G.2.2.2.2.2.2 = true) {n : Nat} (hn : 2 ≤ n) (mi : Nat → Nat → Int) (ml : Nat → Nat → Int64) (a p : Int) (h0 : 0 ≤ a) (h1 : a < 24) (p0 : 0 ≤ p) (p1 : p < 12) (hb : CPV mi a) (hR : gR32 mi) : gM G 11 n 0 0 [gr (24 + a.toNat), gr (12 + p.toNat)] (gw mi ml) (gret (cR1 mi a p) (gw mi ml)) := by
  have hn1 : 1 ≤ n := by omega
  obtain ⟨b0, b1, -⟩ := id hb
  refine gM.of mX1_reasonOfAll okX1_reasonOfAll (gcp 11 (by decide)).1 (gcp 11 (by decide)).2 (Nat.le_of_ble_eq_true rfl) ?_
  refine Go.run hsz hn1 1 (pc' := 1) (lv' := [some (gr (24 + a.toNat)), some (gr (12 + p.toNat))]) (st' := [gr (24 + a.toNat)]) (M' := gw mi ml) rfl ?_
  refine Go.getf (by rfl) (c := 2) (N := 14) (shA (i := a) (by omega)) ?_
  refine Go.run hsz hn1 1 (pc' := 5) (lv' := [some (gr (24 + a.toNat)), some (gr (12 + p.toNat))]) (st' := [gr (12 + p.toNat), gi (cA mi a 1)]) (M' := gw mi ml) rfl ?_
  refine Go.getf (by rfl) (c := 3) (N := 10) (shP (i := p) (by omega)) ?_
  refine Go.run hsz hn1 0 (pc' := 8) (lv' := [some (gr (24 + a.toNat)), some (gr (12 + p.toNat))]) (st' := [gi (cP mi p 2), gi (cA mi a 1)]) (M' := gw mi ml) rfl ?_
  refine Go.icmp_le (by rfl) (hR _ _) (hR _ _) (fun kq1 => ?_) (fun kq1 => ?_)
  · refine Go.run hsz hn1 2 (pc' := 15) (lv' := [some (gr (24 + a.toNat)), some (gr (12 + p.toNat))]) (st' := [gi 1, gr (24 + a.toNat)]) (M' := gw mi ml) rfl ?_
    refine Go.callV (As := [gi 1]) (b := 24 + a.toNat) (st := []) (mc1 := 0) (mc := 0) (ms1 := 0) (ms := 0) (by rfl) rfl (c := 2) (N := 14) (shA (i := a) (by omega)) (by decide) (by rfl) (gcn 26 (by decide)).1 (gcn 26 (by decide)).2 rfl (Nat.le_of_ble_eq_true rfl) (by omega) (cPa_wishes hsz (n := n - 1) (by omega) mi ml a 1 h0 h1 hR) ?_
    rintro _ _ ⟨rfl, rfl⟩
    refine Go.run hsz hn1 0 (pc' := 18) (lv' := [some (gr (24 + a.toNat)), some (gr (12 + p.toNat))]) (st' := [gi (b2 (¬ andI (cA mi a 3) 1 = 0))]) (M' := gw mi ml) rfl ?_
    refine Go.if_eq (by rfl) (b2_rng _) (fun kq2 => ?_) (fun kq2 => ?_)
    · replace kq2 := b2_neg kq2
      refine Go.run hsz hn1 2 (pc' := 33) (lv' := [some (gr (24 + a.toNat)), some (gr (12 + p.toNat))]) (st' := [gi 2, gr (24 + a.toNat)]) (M' := gw mi ml) rfl ?_
      refine Go.callV (As := [gi 2]) (b := 24 + a.toNat) (st := []) (mc1 := 0) (mc := 0) (ms1 := 0) (ms := 0) (by rfl) rfl (c := 2) (N := 14) (shA (i := a) (by omega)) (by decide) (by rfl) (gcn 26 (by decide)).1 (gcn 26 (by decide)).2 rfl (Nat.le_of_ble_eq_true rfl) (by omega) (cPa_wishes hsz (n := n - 1) (by omega) mi ml a 2 h0 h1 hR) ?_
      rintro _ _ ⟨rfl, rfl⟩
      refine Go.run hsz hn1 0 (pc' := 36) (lv' := [some (gr (24 + a.toNat)), some (gr (12 + p.toNat))]) (st' := [gi (b2 (¬ andI (cA mi a 3) 2 = 0))]) (M' := gw mi ml) rfl ?_
      refine Go.if_eq (by rfl) (b2_rng _) (fun kq3 => ?_) (fun kq3 => ?_)
      · replace kq3 := b2_neg kq3
        refine Go.run hsz hn1 1 (pc' := 52) (lv' := [some (gr (24 + a.toNat)), some (gr (12 + p.toNat))]) (st' := [gi 0]) (M' := gw mi ml) rfl ?_
        first | exact Go.iret (by rfl) ⟨congrArg (fun z => some (gi z)) (by unfold cR1; (repeat' split) <;> omega), rfl⟩ | (exfalso; omega)
      · replace kq3 := b2_pos kq3
        refine Go.run hsz hn1 2 (pc' := 41) (lv' := [some (gr (24 + a.toNat)), some (gr (12 + p.toNat))]) (st' := [gi 2, gr (12 + p.toNat)]) (M' := gw mi ml) rfl ?_
        refine Go.callV (As := [gi 2]) (b := 12 + p.toNat) (st := []) (mc1 := 0) (mc := 0) (ms1 := 0) (ms := 0) (by rfl) rfl (c := 3) (N := 10) (shP (i := p) (by omega)) (by decide) (by rfl) (gcn 31 (by decide)).1 (gcn 31 (by decide)).2 rfl (Nat.le_of_ble_eq_true rfl) (by omega) (cPi_offers hsz (n := n - 1) (by omega) mi ml p 2 p0 p1 hR) ?_
        rintro _ _ ⟨rfl, rfl⟩
        refine Go.run hsz hn1 0 (pc' := 44) (lv' := [some (gr (24 + a.toNat)), some (gr (12 + p.toNat))]) (st' := [gi (b2 (¬ andI (cP mi p 6) 2 = 0))]) (M' := gw mi ml) rfl ?_
        refine Go.if_ne (by rfl) (b2_rng _) (fun kq4 => ?_) (fun kq4 => ?_)
        · replace kq4 := b2_pos kq4
          refine Go.run hsz hn1 1 (pc' := 52) (lv' := [some (gr (24 + a.toNat)), some (gr (12 + p.toNat))]) (st' := [gi 0]) (M' := gw mi ml) rfl ?_
          first | exact Go.iret (by rfl) ⟨congrArg (fun z => some (gi z)) (by unfold cR1; (repeat' split) <;> omega), rfl⟩ | (exfalso; omega)
        · replace kq4 := b2_neg kq4
          refine Go.run hsz hn1 2 (pc' := 52) (lv' := [some (gr (24 + a.toNat)), some (gr (12 + p.toNat))]) (st' := [gi 3]) (M' := gw mi ml) rfl ?_
          first | exact Go.iret (by rfl) ⟨congrArg (fun z => some (gi z)) (by unfold cR1; (repeat' split) <;> omega), rfl⟩ | (exfalso; omega)
    · replace kq2 := b2_pos kq2
      refine Go.run hsz hn1 2 (pc' := 23) (lv' := [some (gr (24 + a.toNat)), some (gr (12 + p.toNat))]) (st' := [gi 1, gr (12 + p.toNat)]) (M' := gw mi ml) rfl ?_
      refine Go.callV (As := [gi 1]) (b := 12 + p.toNat) (st := []) (mc1 := 0) (mc := 0) (ms1 := 0) (ms := 0) (by rfl) rfl (c := 3) (N := 10) (shP (i := p) (by omega)) (by decide) (by rfl) (gcn 31 (by decide)).1 (gcn 31 (by decide)).2 rfl (Nat.le_of_ble_eq_true rfl) (by omega) (cPi_offers hsz (n := n - 1) (by omega) mi ml p 1 p0 p1 hR) ?_
      rintro _ _ ⟨rfl, rfl⟩
      refine Go.run hsz hn1 0 (pc' := 26) (lv' := [some (gr (24 + a.toNat)), some (gr (12 + p.toNat))]) (st' := [gi (b2 (¬ andI (cP mi p 6) 1 = 0))]) (M' := gw mi ml) rfl ?_
      refine Go.if_ne (by rfl) (b2_rng _) (fun kq5 => ?_) (fun kq5 => ?_)
      · replace kq5 := b2_pos kq5
        refine Go.run hsz hn1 2 (pc' := 33) (lv' := [some (gr (24 + a.toNat)), some (gr (12 + p.toNat))]) (st' := [gi 2, gr (24 + a.toNat)]) (M' := gw mi ml) rfl ?_
        refine Go.callV (As := [gi 2]) (b := 24 + a.toNat) (st := []) (mc1 := 0) (mc := 0) (ms1 := 0) (ms := 0) (by rfl) rfl (c := 2) (N := 14) (shA (i := a) (by omega)) (by decide) (by rfl) (gcn 26 (by decide)).1 (gcn 26 (by decide)).2 rfl (Nat.le_of_ble_eq_true rfl) (by omega) (cPa_wishes hsz (n := n - 1) (by omega) mi ml a 2 h0 h1 hR) ?_
        rintro _ _ ⟨rfl, rfl⟩
        refine Go.run hsz hn1 0 (pc' := 36) (lv' := [some (gr (24 + a.toNat)), some (gr (12 + p.toNat))]) (st' := [gi (b2 (¬ andI (cA mi a 3) 2 = 0))]) (M' := gw mi ml) rfl ?_
        refine Go.if_eq (by rfl) (b2_rng _) (fun kq6 => ?_) (fun kq6 => ?_)
        · replace kq6 := b2_neg kq6
          refine Go.run hsz hn1 1 (pc' := 52) (lv' := [some (gr (24 + a.toNat)), some (gr (12 + p.toNat))]) (st' := [gi 0]) (M' := gw mi ml) rfl ?_
          first | exact Go.iret (by rfl) ⟨congrArg (fun z => some (gi z)) (by unfold cR1; (repeat' split) <;> omega), rfl⟩ | (exfalso; omega)
        · replace kq6 := b2_pos kq6
          refine Go.run hsz hn1 2 (pc' := 41) (lv' := [some (gr (24 + a.toNat)), some (gr (12 + p.toNat))]) (st' := [gi 2, gr (12 + p.toNat)]) (M' := gw mi ml) rfl ?_
          refine Go.callV (As := [gi 2]) (b := 12 + p.toNat) (st := []) (mc1 := 0) (mc := 0) (ms1 := 0) (ms := 0) (by rfl) rfl (c := 3) (N := 10) (shP (i := p) (by omega)) (by decide) (by rfl) (gcn 31 (by decide)).1 (gcn 31 (by decide)).2 rfl (Nat.le_of_ble_eq_true rfl) (by omega) (cPi_offers hsz (n := n - 1) (by omega) mi ml p 2 p0 p1 hR) ?_
          rintro _ _ ⟨rfl, rfl⟩
          refine Go.run hsz hn1 0 (pc' := 44) (lv' := [some (gr (24 + a.toNat)), some (gr (12 + p.toNat))]) (st' := [gi (b2 (¬ andI (cP mi p 6) 2 = 0))]) (M' := gw mi ml) rfl ?_
          refine Go.if_ne (by rfl) (b2_rng _) (fun kq7 => ?_) (fun kq7 => ?_)
          · replace kq7 := b2_pos kq7
            refine Go.run hsz hn1 1 (pc' := 52) (lv' := [some (gr (24 + a.toNat)), some (gr (12 + p.toNat))]) (st' := [gi 0]) (M' := gw mi ml) rfl ?_
            first | exact Go.iret (by rfl) ⟨congrArg (fun z => some (gi z)) (by unfold cR1; (repeat' split) <;> omega), rfl⟩ | (exfalso; omega)
          · replace kq7 := b2_neg kq7
            refine Go.run hsz hn1 2 (pc' := 52) (lv' := [some (gr (24 + a.toNat)), some (gr (12 + p.toNat))]) (st' := [gi 3]) (M' := gw mi ml) rfl ?_
            first | exact Go.iret (by rfl) ⟨congrArg (fun z => some (gi z)) (by unfold cR1; (repeat' split) <;> omega), rfl⟩ | (exfalso; omega)
      · replace kq5 := b2_neg kq5
        refine Go.run hsz hn1 1 (pc' := 30) (lv' := [some (gr (24 + a.toNat)), some (gr (12 + p.toNat))]) (st' := [gi 2]) (M' := gw mi ml) rfl ?_
        first | exact Go.iret (by rfl) ⟨congrArg (fun z => some (gi z)) (by unfold cR1; (repeat' split) <;> omega), rfl⟩ | (exfalso; omega)
  · refine Go.run hsz hn1 1 (pc' := 12) (lv' := [some (gr (24 + a.toNat)), some (gr (12 + p.toNat))]) (st' := [gi 1]) (M' := gw mi ml) rfl ?_
    first | exact Go.iret (by rfl) ⟨congrArg (fun z => some (gi z)) (by unfold cR1; (repeat' split) <;> omega), rfl⟩ | (exfalso; omega)
set_option maxRecDepth 100000 in
set_option maxHeartbeats 4000000 in
theorem cK_vans {G : gG} (hsz : G.2.2.2.2.2.2 = true) {n : Nat} (hn : 2 ≤ n) (mi : Nat → Nat → Int) (ml : Nat → Nat → Int64) (a p : Int) (h0 : 0 ≤ a) (h1 : a < 24) (p0 : 0 ≤ p) (p1 : p < 12) (hb : CPV mi a) (hR : gR32 mi) : gM G 12 n 0 0 [gr (24 + a.toNat), gr (12 + p.toNat)] (gw mi ml) (gret (cR2 mi a p) (gw mi ml)) := by
  have hn1 : 1 ≤ n := by omega
  obtain ⟨b0, b1, -⟩ := id hb
  refine gM.of mX1_reasonOfVans okX1_reasonOfVans (gcp 12 (by decide)).1 (gcp 12 (by decide)).2 (Nat.le_of_ble_eq_true rfl) ?_
  refine Go.run hsz hn1 1 (pc' := 1) (lv' := [some (gr (24 + a.toNat)), some (gr (12 + p.toNat)), none]) (st' := [gr (24 + a.toNat)]) (M' := gw mi ml) rfl ?_
  refine Go.getf (by rfl) (c := 2) (N := 14) (shA (i := a) (by omega)) ?_
  refine Go.run hsz hn1 1 (pc' := 5) (lv' := [some (gr (24 + a.toNat)), some (gr (12 + p.toNat)), none]) (st' := [gr (12 + p.toNat), gi (cA mi a 2)]) (M' := gw mi ml) rfl ?_
  refine Go.getf (by rfl) (c := 3) (N := 10) (shP (i := p) (by omega)) ?_
  refine Go.run hsz hn1 0 (pc' := 8) (lv' := [some (gr (24 + a.toNat)), some (gr (12 + p.toNat)), none]) (st' := [gi (cP mi p 5), gi (cA mi a 2)]) (M' := gw mi ml) rfl ?_
  refine Go.icmp_le (by rfl) (hR _ _) (hR _ _) (fun kq1 => ?_) (fun kq1 => ?_)
  · refine Go.run hsz hn1 2 (pc' := 15) (lv' := [some (gr (24 + a.toNat)), some (gr (12 + p.toNat)), none]) (st' := [gi 4, gr (24 + a.toNat)]) (M' := gw mi ml) rfl ?_
    refine Go.callV (As := [gi 4]) (b := 24 + a.toNat) (st := []) (mc1 := 0) (mc := 0) (ms1 := 0) (ms := 0) (by rfl) rfl (c := 2) (N := 14) (shA (i := a) (by omega)) (by decide) (by rfl) (gcn 26 (by decide)).1 (gcn 26 (by decide)).2 rfl (Nat.le_of_ble_eq_true rfl) (by omega) (cPa_wishes hsz (n := n - 1) (by omega) mi ml a 4 h0 h1 hR) ?_
    rintro _ _ ⟨rfl, rfl⟩
    refine Go.run hsz hn1 0 (pc' := 18) (lv' := [some (gr (24 + a.toNat)), some (gr (12 + p.toNat)), none]) (st' := [gi (b2 (¬ andI (cA mi a 3) 4 = 0))]) (M' := gw mi ml) rfl ?_
    refine Go.if_ne (by rfl) (b2_rng _) (fun kq2 => ?_) (fun kq2 => ?_)
    · replace kq2 := b2_pos kq2
      refine Go.run hsz hn1 4 (pc' := 36) (lv' := [some (gr (24 + a.toNat)), some (gr (12 + p.toNat)), some (gi 1)]) (st' := [gi 1]) (M' := gw mi ml) rfl ?_
      refine Go.if_eq (by rfl) ⟨by decide, by decide⟩ (fun kq3 => ?_) (fun kq3 => ?_)
      · exact absurd kq3 (by decide)
      · refine Go.run hsz hn1 2 (pc' := 41) (lv' := [some (gr (24 + a.toNat)), some (gr (12 + p.toNat)), some (gi 1)]) (st' := [gi 4, gr (12 + p.toNat)]) (M' := gw mi ml) rfl ?_
        refine Go.callV (As := [gi 4]) (b := 12 + p.toNat) (st := []) (mc1 := 0) (mc := 0) (ms1 := 0) (ms := 0) (by rfl) rfl (c := 3) (N := 10) (shP (i := p) (by omega)) (by decide) (by rfl) (gcn 31 (by decide)).1 (gcn 31 (by decide)).2 rfl (Nat.le_of_ble_eq_true rfl) (by omega) (cPi_offers hsz (n := n - 1) (by omega) mi ml p 4 p0 p1 hR) ?_
        rintro _ _ ⟨rfl, rfl⟩
        refine Go.run hsz hn1 0 (pc' := 44) (lv' := [some (gr (24 + a.toNat)), some (gr (12 + p.toNat)), some (gi 1)]) (st' := [gi (b2 (¬ andI (cP mi p 6) 4 = 0))]) (M' := gw mi ml) rfl ?_
        refine Go.if_ne (by rfl) (b2_rng _) (fun kq4 => ?_) (fun kq4 => ?_)
        · replace kq4 := b2_pos kq4
          refine Go.run hsz hn1 1 (pc' := 51) (lv' := [some (gr (24 + a.toNat)), some (gr (12 + p.toNat)), some (gi 1)]) (st' := [gr (24 + a.toNat)]) (M' := gw mi ml) rfl ?_
          refine Go.getf (by rfl) (c := 2) (N := 14) (shA (i := a) (by omega)) ?_
          refine Go.run hsz hn1 1 (pc' := 55) (lv' := [some (gr (24 + a.toNat)), some (gr (12 + p.toNat)), some (gi 1)]) (st' := [gi 3, gi (cA mi a 0)]) (M' := gw mi ml) rfl ?_
          refine Go.icmp_ne (by rfl) (hR _ _) ⟨by decide, by decide⟩ (fun kq5 => ?_) (fun kq5 => ?_)
          · refine Go.run hsz hn1 1 (pc' := 77) (lv' := [some (gr (24 + a.toNat)), some (gr (12 + p.toNat)), some (gi 1)]) (st' := [gi 0]) (M' := gw mi ml) rfl ?_
            first | exact Go.iret (by rfl) ⟨congrArg (fun z => some (gi z)) (by unfold cR2; (repeat' split) <;> omega), rfl⟩ | (exfalso; omega)
          · refine Go.run hsz hn1 1 (pc' := 59) (lv' := [some (gr (24 + a.toNat)), some (gr (12 + p.toNat)), some (gi 1)]) (st' := [gr (24 + a.toNat)]) (M' := gw mi ml) rfl ?_
            refine Go.getf (by rfl) (c := 2) (N := 14) (shA (i := a) (by omega)) ?_
            refine Go.run hsz hn1 3 (pc' := 65) (lv' := [some (gr (24 + a.toNat)), some (gr (12 + p.toNat)), some (gi 1)]) (st' := [gr (12 + p.toNat), gi ((cA mi a 1) + 3)]) (M' := gw mi ml) rfl ?_
            refine Go.getf (by rfl) (c := 3) (N := 10) (shP (i := p) (by omega)) ?_
            refine Go.run hsz hn1 0 (pc' := 68) (lv' := [some (gr (24 + a.toNat)), some (gr (12 + p.toNat)), some (gi 1)]) (st' := [gi (cP mi p 2), gi ((cA mi a 1) + 3)]) (M' := gw mi ml) rfl ?_
            refine Go.icmp_le (by rfl) ⟨by omega, by omega⟩ (hR _ _) (fun kq6 => ?_) (fun kq6 => ?_)
            · refine Go.run hsz hn1 1 (pc' := 77) (lv' := [some (gr (24 + a.toNat)), some (gr (12 + p.toNat)), some (gi 1)]) (st' := [gi 0]) (M' := gw mi ml) rfl ?_
              first | exact Go.iret (by rfl) ⟨congrArg (fun z => some (gi z)) (by unfold cR2; (repeat' split) <;> omega), rfl⟩ | (exfalso; omega)
            · refine Go.run hsz hn1 2 (pc' := 77) (lv' := [some (gr (24 + a.toNat)), some (gr (12 + p.toNat)), some (gi 1)]) (st' := [gi 7]) (M' := gw mi ml) rfl ?_
              first | exact Go.iret (by rfl) ⟨congrArg (fun z => some (gi z)) (by unfold cR2; (repeat' split) <;> omega), rfl⟩ | (exfalso; omega)
        · replace kq4 := b2_neg kq4
          refine Go.run hsz hn1 1 (pc' := 49) (lv' := [some (gr (24 + a.toNat)), some (gr (12 + p.toNat)), some (gi 1)]) (st' := [gi 6]) (M' := gw mi ml) rfl ?_
          first | exact Go.iret (by rfl) ⟨congrArg (fun z => some (gi z)) (by unfold cR2; (repeat' split) <;> omega), rfl⟩ | (exfalso; omega)
    · replace kq2 := b2_neg kq2
      refine Go.run hsz hn1 1 (pc' := 22) (lv' := [some (gr (24 + a.toNat)), some (gr (12 + p.toNat)), none]) (st' := [gr (24 + a.toNat)]) (M' := gw mi ml) rfl ?_
      refine Go.getf (by rfl) (c := 2) (N := 14) (shA (i := a) (by omega)) ?_
      refine Go.run hsz hn1 1 (pc' := 26) (lv' := [some (gr (24 + a.toNat)), some (gr (12 + p.toNat)), none]) (st' := [gi 4, gi (cA mi a 0)]) (M' := gw mi ml) rfl ?_
      refine Go.icmp_ne (by rfl) (hR _ _) ⟨by decide, by decide⟩ (fun kq7 => ?_) (fun kq7 => ?_)
      · refine Go.run hsz hn1 3 (pc' := 36) (lv' := [some (gr (24 + a.toNat)), some (gr (12 + p.toNat)), some (gi 0)]) (st' := [gi 0]) (M' := gw mi ml) rfl ?_
        refine Go.if_eq (by rfl) ⟨by decide, by decide⟩ (fun kq8 => ?_) (fun kq8 => ?_)
        · refine Go.run hsz hn1 1 (pc' := 51) (lv' := [some (gr (24 + a.toNat)), some (gr (12 + p.toNat)), some (gi 0)]) (st' := [gr (24 + a.toNat)]) (M' := gw mi ml) rfl ?_
          refine Go.getf (by rfl) (c := 2) (N := 14) (shA (i := a) (by omega)) ?_
          refine Go.run hsz hn1 1 (pc' := 55) (lv' := [some (gr (24 + a.toNat)), some (gr (12 + p.toNat)), some (gi 0)]) (st' := [gi 3, gi (cA mi a 0)]) (M' := gw mi ml) rfl ?_
          refine Go.icmp_ne (by rfl) (hR _ _) ⟨by decide, by decide⟩ (fun kq9 => ?_) (fun kq9 => ?_)
          · refine Go.run hsz hn1 1 (pc' := 77) (lv' := [some (gr (24 + a.toNat)), some (gr (12 + p.toNat)), some (gi 0)]) (st' := [gi 0]) (M' := gw mi ml) rfl ?_
            first | exact Go.iret (by rfl) ⟨congrArg (fun z => some (gi z)) (by unfold cR2; (repeat' split) <;> omega), rfl⟩ | (exfalso; omega)
          · refine Go.run hsz hn1 1 (pc' := 59) (lv' := [some (gr (24 + a.toNat)), some (gr (12 + p.toNat)), some (gi 0)]) (st' := [gr (24 + a.toNat)]) (M' := gw mi ml) rfl ?_
            refine Go.getf (by rfl) (c := 2) (N := 14) (shA (i := a) (by omega)) ?_
            refine Go.run hsz hn1 3 (pc' := 65) (lv' := [some (gr (24 + a.toNat)), some (gr (12 + p.toNat)), some (gi 0)]) (st' := [gr (12 + p.toNat), gi ((cA mi a 1) + 3)]) (M' := gw mi ml) rfl ?_
            refine Go.getf (by rfl) (c := 3) (N := 10) (shP (i := p) (by omega)) ?_
            refine Go.run hsz hn1 0 (pc' := 68) (lv' := [some (gr (24 + a.toNat)), some (gr (12 + p.toNat)), some (gi 0)]) (st' := [gi (cP mi p 2), gi ((cA mi a 1) + 3)]) (M' := gw mi ml) rfl ?_
            refine Go.icmp_le (by rfl) ⟨by omega, by omega⟩ (hR _ _) (fun kq10 => ?_) (fun kq10 => ?_)
            · refine Go.run hsz hn1 1 (pc' := 77) (lv' := [some (gr (24 + a.toNat)), some (gr (12 + p.toNat)), some (gi 0)]) (st' := [gi 0]) (M' := gw mi ml) rfl ?_
              first | exact Go.iret (by rfl) ⟨congrArg (fun z => some (gi z)) (by unfold cR2; (repeat' split) <;> omega), rfl⟩ | (exfalso; omega)
            · refine Go.run hsz hn1 2 (pc' := 77) (lv' := [some (gr (24 + a.toNat)), some (gr (12 + p.toNat)), some (gi 0)]) (st' := [gi 7]) (M' := gw mi ml) rfl ?_
              first | exact Go.iret (by rfl) ⟨congrArg (fun z => some (gi z)) (by unfold cR2; (repeat' split) <;> omega), rfl⟩ | (exfalso; omega)
        · exact absurd kq8 (by decide)
      · refine Go.run hsz hn1 4 (pc' := 36) (lv' := [some (gr (24 + a.toNat)), some (gr (12 + p.toNat)), some (gi 1)]) (st' := [gi 1]) (M' := gw mi ml) rfl ?_
        refine Go.if_eq (by rfl) ⟨by decide, by decide⟩ (fun kq11 => ?_) (fun kq11 => ?_)
        · exact absurd kq11 (by decide)
        · refine Go.run hsz hn1 2 (pc' := 41) (lv' := [some (gr (24 + a.toNat)), some (gr (12 + p.toNat)), some (gi 1)]) (st' := [gi 4, gr (12 + p.toNat)]) (M' := gw mi ml) rfl ?_
          refine Go.callV (As := [gi 4]) (b := 12 + p.toNat) (st := []) (mc1 := 0) (mc := 0) (ms1 := 0) (ms := 0) (by rfl) rfl (c := 3) (N := 10) (shP (i := p) (by omega)) (by decide) (by rfl) (gcn 31 (by decide)).1 (gcn 31 (by decide)).2 rfl (Nat.le_of_ble_eq_true rfl) (by omega) (cPi_offers hsz (n := n - 1) (by omega) mi ml p 4 p0 p1 hR) ?_
          rintro _ _ ⟨rfl, rfl⟩
          refine Go.run hsz hn1 0 (pc' := 44) (lv' := [some (gr (24 + a.toNat)), some (gr (12 + p.toNat)), some (gi 1)]) (st' := [gi (b2 (¬ andI (cP mi p 6) 4 = 0))]) (M' := gw mi ml) rfl ?_
          refine Go.if_ne (by rfl) (b2_rng _) (fun kq12 => ?_) (fun kq12 => ?_)
          · replace kq12 := b2_pos kq12
            refine Go.run hsz hn1 1 (pc' := 51) (lv' := [some (gr (24 + a.toNat)), some (gr (12 + p.toNat)), some (gi 1)]) (st' := [gr (24 + a.toNat)]) (M' := gw mi ml) rfl ?_
            refine Go.getf (by rfl) (c := 2) (N := 14) (shA (i := a) (by omega)) ?_
            refine Go.run hsz hn1 1 (pc' := 55) (lv' := [some (gr (24 + a.toNat)), some (gr (12 + p.toNat)), some (gi 1)]) (st' := [gi 3, gi (cA mi a 0)]) (M' := gw mi ml) rfl ?_
            refine Go.icmp_ne (by rfl) (hR _ _) ⟨by decide, by decide⟩ (fun kq13 => ?_) (fun kq13 => ?_)
            · refine Go.run hsz hn1 1 (pc' := 77) (lv' := [some (gr (24 + a.toNat)), some (gr (12 + p.toNat)), some (gi 1)]) (st' := [gi 0]) (M' := gw mi ml) rfl ?_
              first | exact Go.iret (by rfl) ⟨congrArg (fun z => some (gi z)) (by unfold cR2; (repeat' split) <;> omega), rfl⟩ | (exfalso; omega)
            · refine Go.run hsz hn1 1 (pc' := 59) (lv' := [some (gr (24 + a.toNat)), some (gr (12 + p.toNat)), some (gi 1)]) (st' := [gr (24 + a.toNat)]) (M' := gw mi ml) rfl ?_
              refine Go.getf (by rfl) (c := 2) (N := 14) (shA (i := a) (by omega)) ?_
              refine Go.run hsz hn1 3 (pc' := 65) (lv' := [some (gr (24 + a.toNat)), some (gr (12 + p.toNat)), some (gi 1)]) (st' := [gr (12 + p.toNat), gi ((cA mi a 1) + 3)]) (M' := gw mi ml) rfl ?_
              refine Go.getf (by rfl) (c := 3) (N := 10) (shP (i := p) (by omega)) ?_
              refine Go.run hsz hn1 0 (pc' := 68) (lv' := [some (gr (24 + a.toNat)), some (gr (12 + p.toNat)), some (gi 1)]) (st' := [gi (cP mi p 2), gi ((cA mi a 1) + 3)]) (M' := gw mi ml) rfl ?_
              refine Go.icmp_le (by rfl) ⟨by omega, by omega⟩ (hR _ _) (fun kq14 => ?_) (fun kq14 => ?_)
              · refine Go.run hsz hn1 1 (pc' := 77) (lv' := [some (gr (24 + a.toNat)), some (gr (12 + p.toNat)), some (gi 1)]) (st' := [gi 0]) (M' := gw mi ml) rfl ?_
                first | exact Go.iret (by rfl) ⟨congrArg (fun z => some (gi z)) (by unfold cR2; (repeat' split) <;> omega), rfl⟩ | (exfalso; omega)
              · refine Go.run hsz hn1 2 (pc' := 77) (lv' := [some (gr (24 + a.toNat)), some (gr (12 + p.toNat)), some (gi 1)]) (st' := [gi 7]) (M' := gw mi ml) rfl ?_
                first | exact Go.iret (by rfl) ⟨congrArg (fun z => some (gi z)) (by unfold cR2; (repeat' split) <;> omega), rfl⟩ | (exfalso; omega)
          · replace kq12 := b2_neg kq12
            refine Go.run hsz hn1 1 (pc' := 49) (lv' := [some (gr (24 + a.toNat)), some (gr (12 + p.toNat)), some (gi 1)]) (st' := [gi 6]) (M' := gw mi ml) rfl ?_
            first | exact Go.iret (by rfl) ⟨congrArg (fun z => some (gi z)) (by unfold cR2; (repeat' split) <;> omega), rfl⟩ | (exfalso; omega)
  · refine Go.run hsz hn1 1 (pc' := 12) (lv' := [some (gr (24 + a.toNat)), some (gr (12 + p.toNat)), none]) (st' := [gi 5]) (M' := gw mi ml) rfl ?_
    first | exact Go.iret (by rfl) ⟨congrArg (fun z => some (gi z)) (by unfold cR2; (repeat' split) <;> omega), rfl⟩ | (exfalso; omega)

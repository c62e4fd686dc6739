set_option maxRecDepth 100000 in
set_option maxHeartbeats 4000000 in
theorem cM_in {G : gG} (hsz : G.2.2.2.2.2.2 = true) {n : Nat} (hn : 1 ≤ n) (mi : Nat → Nat → Int) (ml : Nat → Nat → Int64) (v lo hi : Int) (hv : rng v) (hl : rng lo) (hm : rng hi) : gM G 153 n 0 0 [gi v, gi lo, gi hi] (gw mi ml) (gret (b2 (lo ≤ v ∧ v ≤ hi)) (gw mi ml)) := by
  refine gM.of mX12_in okX12_in (gcp 153 (by decide)).1 (gcp 153 (by decide)).2 (Nat.le_of_ble_eq_true rfl) ?_
  refine Go.run hsz hn 2 (pc' := 2) (lv' := [some (gi v), some (gi lo), some (gi hi)]) (st' := [gi lo, gi v]) (M' := gw mi ml) rfl ?_
  refine Go.icmp_lt (by rfl) hv hl (fun kq1 => ?_) (fun kq1 => ?_)
  · refine Go.run hsz hn 1 (pc' := 15) (lv' := [some (gi v), some (gi lo), some (gi hi)]) (st' := [gi 0]) (M' := gw mi ml) rfl ?_
    exact Go.zret (by rfl) (Or.inl rfl) ⟨congrArg (fun z => some (gi z)) (by unfold b2; split <;> omega), rfl⟩
  · refine Go.run hsz hn 2 (pc' := 7) (lv' := [some (gi v), some (gi lo), some (gi hi)]) (st' := [gi hi, gi v]) (M' := gw mi ml) rfl ?_
    refine Go.icmp_gt (by rfl) hv hm (fun kq2 => ?_) (fun kq2 => ?_)
    · refine Go.run hsz hn 1 (pc' := 15) (lv' := [some (gi v), some (gi lo), some (gi hi)]) (st' := [gi 0]) (M' := gw mi ml) rfl ?_
      exact Go.zret (by rfl) (Or.inl rfl) ⟨congrArg (fun z => some (gi z)) (by unfold b2; split <;> omega), rfl⟩
    · refine Go.run hsz hn 2 (pc' := 15) (lv' := [some (gi v), some (gi lo), some (gi hi)]) (st' := [gi 1]) (M' := gw mi ml) rfl ?_
      exact Go.zret (by rfl) (Or.inr rfl) ⟨congrArg (fun z => some (gi z)) (by unfold b2; split <;> omega), rfl⟩
set_option maxRecDepth 100000 in
set_option maxHeartbeats 4000000 in
theorem cM_finds {G : gG} (hsz : G.2.2.2.2.2.2 = true) {n : Nat} (hn : 1 ≤ n) (mi : Nat → Nat → Int) (ml : Nat → Nat → Int64) (w : Int) (h0 : 0 ≤ w) (h1 : w < 7) : gM G 154 n 0 0 [gr 148, gi w] (gw mi ml) (gret (-1000001 - w) (gw (gu mi 159 w.toNat (mi 159 w.toNat + 1)) ml)) := by
  refine gM.of mX12_finds okX12_finds (gcp 154 (by decide)).1 (gcp 154 (by decide)).2 (Nat.le_of_ble_eq_true rfl) ?_
  refine Go.run hsz hn 4 (pc' := 6) (lv' := [some (gr 148), some (gi w)]) (st' := [gi w, gr 159, gi w, gr 159]) (M' := gw mi ml) rfl ?_
  refine Go.iald (by rfl) (N := 7) (by rfl) (by omega) (by omega) (by decide) ?_
  refine Go.run hsz hn 2 (pc' := 9) (lv' := [some (gr 148), some (gi w)]) (st' := [gi ((mi 159 w.toNat) + 1), gi w, gr 159]) (M' := gw mi ml) rfl ?_
  refine Go.iast (by rfl) (N := 7) (by rfl) (by omega) (by omega) (by decide) ?_
  refine Go.run hsz hn 3 (pc' := 14) (lv' := [some (gr 148), some (gi w)]) (st' := [gi ((-1000001) - w)]) (M' := gw (gu mi 159 w.toNat ((mi 159 w.toNat) + 1)) ml) rfl ?_
  first | exact Go.iret (by rfl) ⟨congrArg (fun z => some (gi z)) (rfl), rfl⟩ | (exfalso; omega)
set_option maxRecDepth 100000 in
set_option maxHeartbeats 4000000 in
theorem cM_of {G : gG} (hsz : G.2.2.2.2.2.2 = true) {n : Nat} (hn : 1 ≤ n) (mi : Nat → Nat → Int) (ml : Nat → Nat → Int64) (a w : Int) (h0 : 0 ≤ a) (h1 : a < 24) (h2 : 0 ≤ w) (h3 : w < 12) : gM G 165 n 0 0 [gr 148, gi a, gi w] (gw mi ml) (gret (mOf mi a w) (gw mi ml)) := by
  refine gM.of mX12_of okX12_of (gcp 165 (by decide)).1 (gcp 165 (by decide)).2 (Nat.le_of_ble_eq_true rfl) ?_
  refine Go.run hsz hn 7 (pc' := 10) (lv' := [some (gr 148), some (gi a), some (gi w)]) (st' := [gi ((12 * a) + w), gr 152]) (M' := gw mi ml) rfl ?_
  refine Go.iald (by rfl) (N := 288) (by rfl) (by omega) (by omega) (by decide) ?_
  refine Go.run hsz hn 0 (pc' := 11) (lv' := [some (gr 148), some (gi a), some (gi w)]) (st' := [gi (mi 152 (((12 * a) + w).toNat))]) (M' := gw mi ml) rfl ?_
  first | exact Go.iret (by rfl) ⟨congrArg (fun z => some (gi z)) (rfl), rfl⟩ | (exfalso; omega)
set_option maxRecDepth 100000 in
set_option maxHeartbeats 4000000 in
theorem cM_isPitch {G : gG} (hsz : G.2.2.2.2.2.2 = true) {n : Nat} (hn : 2 ≤ n) (mi : Nat → Nat → Int) (ml : Nat → Nat → Int64) (p : Int) (hv : rng p) (h0 : 0 ≤ mi 148 2) (h1 : mi 148 2 ≤ 12) : gM G 155 n 0 0 [gr 148, gi p] (gw mi ml) (gret (b2 (0 ≤ p ∧ p ≤ mi 148 2 - 1)) (gw mi ml)) := by
  have hn1 : 1 ≤ n := by omega
  refine gM.of mX12_isPitch okX12_isPitch (gcp 155 (by decide)).1 (gcp 155 (by decide)).2 (Nat.le_of_ble_eq_true rfl) ?_
  refine Go.run hsz hn1 6 (pc' := 8) (lv' := [some (gr 148), some (gi p)]) (st' := [gi ((mi 148 2) - 1), gi 0, gi p]) (M' := gw mi ml) rfl ?_
  refine Go.callS (As := [gi p, gi 0, gi ((mi 148 2) - 1)]) (st := []) (mc1 := 0) (mc := 0) (ms1 := 0) (ms := 0) (by rfl) rfl (gcn 153 (by decide)).1 (gcn 153 (by decide)).2 (Nat.le_of_ble_eq_true rfl) (by omega) (cM_in hsz (n := n - 1) (by omega) mi ml p 0 ((mi 148 2) - 1) hv ⟨by decide, by decide⟩ ⟨by omega, by omega⟩) ?_
  rintro _ _ ⟨rfl, rfl⟩
  refine Go.run hsz hn1 0 (pc' := 11) (lv' := [some (gr 148), some (gi p)]) (st' := [gi (b2 (0 ≤ p ∧ p ≤ (mi 148 2) - 1))]) (M' := gw mi ml) rfl ?_
  exact Go.zret (by rfl) (b2_01 _) ⟨congrArg (fun z => some (gi z)) (rfl), rfl⟩
set_option maxRecDepth 100000 in
set_option maxHeartbeats 4000000 in
theorem cM_isParty {G : gG} (hsz : G.2.2.2.2.2.2 = true) {n : Nat} (hn : 2 ≤ n) (mi : Nat → Nat → Int) (ml : Nat → Nat → Int64) (p : Int) (hv : rng p) (h0 : 0 ≤ mi 148 6) (h1 : mi 148 6 ≤ 24) : gM G 156 n 0 0 [gr 148, gi p] (gw mi ml) (gret (b2 (0 ≤ p ∧ p ≤ mi 148 6 - 1)) (gw mi ml)) := by
  have hn1 : 1 ≤ n := by omega
  refine gM.of mX12_isParty okX12_isParty (gcp 156 (by decide)).1 (gcp 156 (by decide)).2 (Nat.le_of_ble_eq_true rfl) ?_
  refine Go.run hsz hn1 6 (pc' := 8) (lv' := [some (gr 148), some (gi p)]) (st' := [gi ((mi 148 6) - 1), gi 0, gi p]) (M' := gw mi ml) rfl ?_
  refine Go.callS (As := [gi p, gi 0, gi ((mi 148 6) - 1)]) (st := []) (mc1 := 0) (mc := 0) (ms1 := 0) (ms := 0) (by rfl) rfl (gcn 153 (by decide)).1 (gcn 153 (by decide)).2 (Nat.le_of_ble_eq_true rfl) (by omega) (cM_in hsz (n := n - 1) (by omega) mi ml p 0 ((mi 148 6) - 1) hv ⟨by decide, by decide⟩ ⟨by omega, by omega⟩) ?_
  rintro _ _ ⟨rfl, rfl⟩
  refine Go.run hsz hn1 0 (pc' := 11) (lv' := [some (gr 148), some (gi p)]) (st' := [gi (b2 (0 ≤ p ∧ p ≤ (mi 148 6) - 1))]) (M' := gw mi ml) rfl ?_
  exact Go.zret (by rfl) (b2_01 _) ⟨congrArg (fun z => some (gi z)) (rfl), rfl⟩
set_option maxRecDepth 100000 in
set_option maxHeartbeats 4000000 in
theorem cM_isNight {G : gG} (hsz : G.2.2.2.2.2.2 = true) {n : Nat} (hn : 2 ≤ n) (mi : Nat → Nat → Int) (ml : Nat → Nat → Int64) (p : Int) (hv : rng p) : gM G 157 n 0 0 [gi p] (gw mi ml) (gret (b2 (0 ≤ p ∧ p ≤ 99)) (gw mi ml)) := by
  have hn1 : 1 ≤ n := by omega
  refine gM.of mX12_isNight okX12_isNight (gcp 157 (by decide)).1 (gcp 157 (by decide)).2 (Nat.le_of_ble_eq_true rfl) ?_
  refine Go.run hsz hn1 3 (pc' := 4) (lv' := [some (gi p)]) (st' := [gi 99, gi 0, gi p]) (M' := gw mi ml) rfl ?_
  refine Go.callS (As := [gi p, gi 0, gi 99]) (st := []) (mc1 := 0) (mc := 0) (ms1 := 0) (ms := 0) (by rfl) rfl (gcn 153 (by decide)).1 (gcn 153 (by decide)).2 (Nat.le_of_ble_eq_true rfl) (by omega) (cM_in hsz (n := n - 1) (by omega) mi ml p 0 99 hv ⟨by decide, by decide⟩ ⟨by decide, by decide⟩) ?_
  rintro _ _ ⟨rfl, rfl⟩
  refine Go.run hsz hn1 0 (pc' := 7) (lv' := [some (gi p)]) (st' := [gi (b2 (0 ≤ p ∧ p ≤ 99))]) (M' := gw mi ml) rfl ?_
  exact Go.zret (by rfl) (b2_01 _) ⟨congrArg (fun z => some (gi z)) (rfl), rfl⟩
set_option maxRecDepth 100000 in
set_option maxHeartbeats 4000000 in
theorem cM_isLetter {G : gG} (hsz : G.2.2.2.2.2.2 = true) {n : Nat} (hn : 2 ≤ n) (mi : Nat → Nat → Int) (ml : Nat → Nat → Int64) (p : Int) (hv : rng p) : gM G 190 n 0 0 [gi p] (gw mi ml) (gret (b2 (97 ≤ p ∧ p ≤ 122)) (gw mi ml)) := by
  have hn1 : 1 ≤ n := by omega
  refine gM.of mX12_isLetter okX12_isLetter (gcp 190 (by decide)).1 (gcp 190 (by decide)).2 (Nat.le_of_ble_eq_true rfl) ?_
  refine Go.run hsz hn1 3 (pc' := 5) (lv' := [some (gi p)]) (st' := [gi 122, gi 97, gi p]) (M' := gw mi ml) rfl ?_
  refine Go.callS (As := [gi p, gi 97, gi 122]) (st := []) (mc1 := 0) (mc := 0) (ms1 := 0) (ms := 0) (by rfl) rfl (gcn 153 (by decide)).1 (gcn 153 (by decide)).2 (Nat.le_of_ble_eq_true rfl) (by omega) (cM_in hsz (n := n - 1) (by omega) mi ml p 97 122 hv ⟨by decide, by decide⟩ ⟨by decide, by decide⟩) ?_
  rintro _ _ ⟨rfl, rfl⟩
  refine Go.run hsz hn1 0 (pc' := 8) (lv' := [some (gi p)]) (st' := [gi (b2 (97 ≤ p ∧ p ≤ 122))]) (M' := gw mi ml) rfl ?_
  exact Go.zret (by rfl) (b2_01 _) ⟨congrArg (fun z => some (gi z)) (rfl), rfl⟩
set_option maxRecDepth 100000 in
set_option maxHeartbeats 4000000 in
theorem cM_isDigit {G : gG} (hsz : G.2.2.2.2.2.2 = true) {n : Nat} (hn : 2 ≤ n) (mi : Nat → Nat → Int) (ml : Nat → Nat → Int64) (p : Int) (hv : rng p) : gM G 191 n 0 0 [gi p] (gw mi ml) (gret (b2 (48 ≤ p ∧ p ≤ 57)) (gw mi ml)) := by
  have hn1 : 1 ≤ n := by omega
  refine gM.of mX12_isDigit okX12_isDigit (gcp 191 (by decide)).1 (gcp 191 (by decide)).2 (Nat.le_of_ble_eq_true rfl) ?_
  refine Go.run hsz hn1 3 (pc' := 5) (lv' := [some (gi p)]) (st' := [gi 57, gi 48, gi p]) (M' := gw mi ml) rfl ?_
  refine Go.callS (As := [gi p, gi 48, gi 57]) (st := []) (mc1 := 0) (mc := 0) (ms1 := 0) (ms := 0) (by rfl) rfl (gcn 153 (by decide)).1 (gcn 153 (by decide)).2 (Nat.le_of_ble_eq_true rfl) (by omega) (cM_in hsz (n := n - 1) (by omega) mi ml p 48 57 hv ⟨by decide, by decide⟩ ⟨by decide, by decide⟩) ?_
  rintro _ _ ⟨rfl, rfl⟩
  refine Go.run hsz hn1 0 (pc' := 8) (lv' := [some (gi p)]) (st' := [gi (b2 (48 ≤ p ∧ p ≤ 57))]) (M' := gw mi ml) rfl ?_
  exact Go.zret (by rfl) (b2_01 _) ⟨congrArg (fun z => some (gi z)) (rfl), rfl⟩
set_option maxRecDepth 100000 in
set_option maxHeartbeats 4000000 in
theorem cM_isPost {G : gG} (hsz : G.2.2.2.2.2.2 = true) {n : Nat} (hn : 2 ≤ n) (mi : Nat → Nat → Int) (ml : Nat → Nat → Int64) (p : Int) (hv : rng p) : gM G 219 n 0 0 [gi p] (gw mi ml) (gret (b2 (0 ≤ p ∧ p ≤ 3)) (gw mi ml)) := by
  have hn1 : 1 ≤ n := by omega
  refine gM.of mX12_isPost okX12_isPost (gcp 219 (by decide)).1 (gcp 219 (by decide)).2 (Nat.le_of_ble_eq_true rfl) ?_
  refine Go.run hsz hn1 3 (pc' := 3) (lv' := [some (gi p)]) (st' := [gi 3, gi 0, gi p]) (M' := gw mi ml) rfl ?_
  refine Go.callS (As := [gi p, gi 0, gi 3]) (st := []) (mc1 := 0) (mc := 0) (ms1 := 0) (ms := 0) (by rfl) rfl (gcn 153 (by decide)).1 (gcn 153 (by decide)).2 (Nat.le_of_ble_eq_true rfl) (by omega) (cM_in hsz (n := n - 1) (by omega) mi ml p 0 3 hv ⟨by decide, by decide⟩ ⟨by decide, by decide⟩) ?_
  rintro _ _ ⟨rfl, rfl⟩
  refine Go.run hsz hn1 0 (pc' := 6) (lv' := [some (gi p)]) (st' := [gi (b2 (0 ≤ p ∧ p ≤ 3))]) (M' := gw mi ml) rfl ?_
  exact Go.zret (by rfl) (b2_01 _) ⟨congrArg (fun z => some (gi z)) (rfl), rfl⟩
set_option maxRecDepth 100000 in
set_option maxHeartbeats 4000000 in
theorem cM_isSheet {G : gG} (hsz : G.2.2.2.2.2.2 = true) {n : Nat} (hn : 2 ≤ n) (mi : Nat → Nat → Int) (ml : Nat → Nat → Int64) (p : Int) (hv : rng p) : gM G 237 n 0 0 [gi p] (gw mi ml) (gret (b2 (0 ≤ p ∧ p ≤ 3)) (gw mi ml)) := by
  have hn1 : 1 ≤ n := by omega
  refine gM.of mX12_isSheet okX12_isSheet (gcp 237 (by decide)).1 (gcp 237 (by decide)).2 (Nat.le_of_ble_eq_true rfl) ?_
  refine Go.run hsz hn1 3 (pc' := 3) (lv' := [some (gi p)]) (st' := [gi 3, gi 0, gi p]) (M' := gw mi ml) rfl ?_
  refine Go.callS (As := [gi p, gi 0, gi 3]) (st := []) (mc1 := 0) (mc := 0) (ms1 := 0) (ms := 0) (by rfl) rfl (gcn 153 (by decide)).1 (gcn 153 (by decide)).2 (Nat.le_of_ble_eq_true rfl) (by omega) (cM_in hsz (n := n - 1) (by omega) mi ml p 0 3 hv ⟨by decide, by decide⟩ ⟨by decide, by decide⟩) ?_
  rintro _ _ ⟨rfl, rfl⟩
  refine Go.run hsz hn1 0 (pc' := 6) (lv' := [some (gi p)]) (st' := [gi (b2 (0 ≤ p ∧ p ≤ 3))]) (M' := gw mi ml) rfl ?_
  exact Go.zret (by rfl) (b2_01 _) ⟨congrArg (fun z => some (gi z)) (rfl), rfl⟩
set_option maxRecDepth 100000 in
set_option maxHeartbeats 4000000 in
theorem cM_size {G : gG} (hsz : G.2.2.2.2.2.2 = true) {n : Nat} (hn : 1 ≤ n) (mi : Nat → Nat → Int) (ml : Nat → Nat → Int64) (v : Int) (hv : rng v) : gM G 161 n 0 0 [gi v] (gw mi ml) (gret (if v < 0 then -v else v) (gw mi ml)) := by
  refine gM.of mX12_size okX12_size (gcp 161 (by decide)).1 (gcp 161 (by decide)).2 (Nat.le_of_ble_eq_true rfl) ?_
  refine Go.run hsz hn 1 (pc' := 1) (lv' := [some (gi v)]) (st' := [gi v]) (M' := gw mi ml) rfl ?_
  refine Go.if_ge (by rfl) hv (fun kq1 => ?_) (fun kq1 => ?_)
  · refine Go.run hsz hn 1 (pc' := 10) (lv' := [some (gi v)]) (st' := [gi v]) (M' := gw mi ml) rfl ?_
    first | exact Go.iret (by rfl) ⟨congrArg (fun z => some (gi z)) (by split <;> omega), rfl⟩ | (exfalso; omega)
  · refine Go.run hsz hn 3 (pc' := 10) (lv' := [some (gi v)]) (st' := [gi (-v)]) (M' := gw mi ml) rfl ?_
    first | exact Go.iret (by rfl) ⟨congrArg (fun z => some (gi z)) (by split <;> omega), rfl⟩ | (exfalso; omega)
set_option maxRecDepth 100000 in
set_option maxHeartbeats 4000000 in
theorem cM_held {G : gG} (hsz : G.2.2.2.2.2.2 = true) {n : Nat} (hn : 1 ≤ n) (mi : Nat → Nat → Int) (ml : Nat → Nat → Int64) (v m : Int) (hv : rng v) (hm : rng m) : gM G 211 n 0 0 [gi v, gi m] (gw mi ml) (gret (if v < 0 then 0 else if m < v then m else v) (gw mi ml)) := by
  refine gM.of mX12_held okX12_held (gcp 211 (by decide)).1 (gcp 211 (by decide)).2 (Nat.le_of_ble_eq_true rfl) ?_
  refine Go.run hsz hn 1 (pc' := 1) (lv' := [some (gi v), some (gi m)]) (st' := [gi v]) (M' := gw mi ml) rfl ?_
  refine Go.if_ge (by rfl) hv (fun kq1 => ?_) (fun kq1 => ?_)
  · refine Go.run hsz hn 2 (pc' := 10) (lv' := [some (gi v), some (gi m)]) (st' := [gi m, gi v]) (M' := gw mi ml) rfl ?_
    refine Go.icmp_le (by rfl) hv hm (fun kq2 => ?_) (fun kq2 => ?_)
    · refine Go.run hsz hn 1 (pc' := 18) (lv' := [some (gi v), some (gi m)]) (st' := [gi v]) (M' := gw mi ml) rfl ?_
      first | exact Go.iret (by rfl) ⟨congrArg (fun z => some (gi z)) (by (repeat split) <;> omega), rfl⟩ | (exfalso; omega)
    · refine Go.run hsz hn 2 (pc' := 18) (lv' := [some (gi v), some (gi m)]) (st' := [gi m]) (M' := gw mi ml) rfl ?_
      first | exact Go.iret (by rfl) ⟨congrArg (fun z => some (gi z)) (by (repeat split) <;> omega), rfl⟩ | (exfalso; omega)
  · refine Go.run hsz hn 2 (pc' := 18) (lv' := [some (gi v), some (gi m)]) (st' := [gi 0]) (M' := gw mi ml) rfl ?_
    first | exact Go.iret (by rfl) ⟨congrArg (fun z => some (gi z)) (by (repeat split) <;> omega), rfl⟩ | (exfalso; omega)

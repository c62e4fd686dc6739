/-! ===== law: the reference: small things ===== -/
set_option maxRecDepth 100000 in
set_option maxHeartbeats 4000000 in
theorem cM_isD {G : gG} (hsz : G.2.2.2.2.2.2 = true) {n : Nat} (hn : 2 ≤ n) (mi : Nat → Nat → Int) (ml : Nat → Nat → Int64) (x : Int) (hx : rng x) : gM G 191 n 0 0 [gi x] (gw mi ml) (gret (b2 (lD x)) (gw mi ml)) := by
  have hn1 : 1 ≤ n := by omega
  refine gM.of mX12_isDigit okX12_isDigit (gcp 191 (by decide)).1 (gcp 191 (by decide)).2 (Nat.le_of_ble_eq_true rfl) ?_
  refine Go.run hsz hn1 3 (pc' := 5) (lv' := [some (gi x)]) (st' := [gi 57, gi 48, gi x]) (M' := gw mi ml) rfl ?_
  refine Go.callS (As := [gi x, gi 48, gi 57]) (st := []) (mc1 := 0) (mc := 0) (ms1 := 0) (ms := 0) (by rfl) rfl (gcn 153 (by decide)).1 (gcn 153 (by decide)).2 (Nat.le_of_ble_eq_true rfl) (by omega) (cM_in hsz (n := n - 1) (by omega) mi ml x 48 57 hx ⟨by decide, by decide⟩ ⟨by decide, by decide⟩) ?_
  rintro _ _ ⟨rfl, rfl⟩
  refine Go.run hsz hn1 0 (pc' := 8) (lv' := [some (gi x)]) (st' := [gi (b2 (48 ≤ x ∧ x ≤ 57))]) (M' := gw mi ml) rfl ?_
  exact Go.zret (by rfl) (b2_01 _) ⟨congrArg (fun z => some (gi z)) (rfl), rfl⟩
set_option maxRecDepth 100000 in
set_option maxHeartbeats 4000000 in
theorem cM_isA {G : gG} (hsz : G.2.2.2.2.2.2 = true) {n : Nat} (hn : 2 ≤ n) (mi : Nat → Nat → Int) (ml : Nat → Nat → Int64) (x : Int) (hx : rng x) : gM G 190 n 0 0 [gi x] (gw mi ml) (gret (b2 (lA x)) (gw mi ml)) := by
  have hn1 : 1 ≤ n := by omega
  refine gM.of mX12_isLetter okX12_isLetter (gcp 190 (by decide)).1 (gcp 190 (by decide)).2 (Nat.le_of_ble_eq_true rfl) ?_
  refine Go.run hsz hn1 3 (pc' := 5) (lv' := [some (gi x)]) (st' := [gi 122, gi 97, gi x]) (M' := gw mi ml) rfl ?_
  refine Go.callS (As := [gi x, gi 97, gi 122]) (st := []) (mc1 := 0) (mc := 0) (ms1 := 0) (ms := 0) (by rfl) rfl (gcn 153 (by decide)).1 (gcn 153 (by decide)).2 (Nat.le_of_ble_eq_true rfl) (by omega) (cM_in hsz (n := n - 1) (by omega) mi ml x 97 122 hx ⟨by decide, by decide⟩ ⟨by decide, by decide⟩) ?_
  rintro _ _ ⟨rfl, rfl⟩
  refine Go.run hsz hn1 0 (pc' := 8) (lv' := [some (gi x)]) (st' := [gi (b2 (97 ≤ x ∧ x ≤ 122))]) (M' := gw mi ml) rfl ?_
  exact Go.zret (by rfl) (b2_01 _) ⟨congrArg (fun z => some (gi z)) (rfl), rfl⟩
set_option maxRecDepth 100000 in
set_option maxHeartbeats 4000000 in
theorem cM_isN {G : gG} (hsz : G.2.2.2.2.2.2 = true) {n : Nat} (hn : 1 ≤ n) (mi : Nat → Nat → Int) (ml : Nat → Nat → Int64) (x : Int) (hx : rng x) : gM G 192 n 0 0 [gi x] (gw mi ml) (gret (b2 (isNm x)) (gw mi ml)) := by
  refine gM.of mX12_isName okX12_isName (gcp 192 (by decide)).1 (gcp 192 (by decide)).2 (Nat.le_of_ble_eq_true rfl) ?_
  refine Go.run hsz hn 2 (pc' := 3) (lv' := [some (gi x)]) (st' := [gi 108, gi x]) (M' := gw mi ml) rfl ?_
  refine Go.icmp_eq (by rfl) hx ⟨by decide, by decide⟩ (fun kq1 => ?_) (fun kq1 => ?_)
  · refine Go.run hsz hn 2 (pc' := 41) (lv' := [some (gi x)]) (st' := [gi 1]) (M' := gw mi ml) rfl ?_
    exact Go.zret (by rfl) (Or.inr rfl) ⟨congrArg (fun z => some (gi z)) (by unfold b2 isNm; split <;> omega), rfl⟩
  · refine Go.run hsz hn 2 (pc' := 9) (lv' := [some (gi x)]) (st' := [gi 97, gi x]) (M' := gw mi ml) rfl ?_
    refine Go.icmp_eq (by rfl) hx ⟨by decide, by decide⟩ (fun kq2 => ?_) (fun kq2 => ?_)
    · refine Go.run hsz hn 2 (pc' := 41) (lv' := [some (gi x)]) (st' := [gi 1]) (M' := gw mi ml) rfl ?_
      exact Go.zret (by rfl) (Or.inr rfl) ⟨congrArg (fun z => some (gi z)) (by unfold b2 isNm; split <;> omega), rfl⟩
    · refine Go.run hsz hn 2 (pc' := 15) (lv' := [some (gi x)]) (st' := [gi 110, gi x]) (M' := gw mi ml) rfl ?_
      refine Go.icmp_eq (by rfl) hx ⟨by decide, by decide⟩ (fun kq3 => ?_) (fun kq3 => ?_)
      · refine Go.run hsz hn 2 (pc' := 41) (lv' := [some (gi x)]) (st' := [gi 1]) (M' := gw mi ml) rfl ?_
        exact Go.zret (by rfl) (Or.inr rfl) ⟨congrArg (fun z => some (gi z)) (by unfold b2 isNm; split <;> omega), rfl⟩
      · refine Go.run hsz hn 2 (pc' := 21) (lv' := [some (gi x)]) (st' := [gi 107, gi x]) (M' := gw mi ml) rfl ?_
        refine Go.icmp_eq (by rfl) hx ⟨by decide, by decide⟩ (fun kq4 => ?_) (fun kq4 => ?_)
        · refine Go.run hsz hn 2 (pc' := 41) (lv' := [some (gi x)]) (st' := [gi 1]) (M' := gw mi ml) rfl ?_
          exact Go.zret (by rfl) (Or.inr rfl) ⟨congrArg (fun z => some (gi z)) (by unfold b2 isNm; split <;> omega), rfl⟩
        · refine Go.run hsz hn 2 (pc' := 27) (lv' := [some (gi x)]) (st' := [gi 100, gi x]) (M' := gw mi ml) rfl ?_
          refine Go.icmp_eq (by rfl) hx ⟨by decide, by decide⟩ (fun kq5 => ?_) (fun kq5 => ?_)
          · refine Go.run hsz hn 2 (pc' := 41) (lv' := [some (gi x)]) (st' := [gi 1]) (M' := gw mi ml) rfl ?_
            exact Go.zret (by rfl) (Or.inr rfl) ⟨congrArg (fun z => some (gi z)) (by unfold b2 isNm; split <;> omega), rfl⟩
          · refine Go.run hsz hn 2 (pc' := 33) (lv' := [some (gi x)]) (st' := [gi 111, gi x]) (M' := gw mi ml) rfl ?_
            refine Go.icmp_ne (by rfl) hx ⟨by decide, by decide⟩ (fun kq6 => ?_) (fun kq6 => ?_)
            · refine Go.run hsz hn 1 (pc' := 41) (lv' := [some (gi x)]) (st' := [gi 0]) (M' := gw mi ml) rfl ?_
              exact Go.zret (by rfl) (Or.inl rfl) ⟨congrArg (fun z => some (gi z)) (by unfold b2 isNm; split <;> omega), rfl⟩
            · refine Go.run hsz hn 2 (pc' := 41) (lv' := [some (gi x)]) (st' := [gi 1]) (M' := gw mi ml) rfl ?_
              exact Go.zret (by rfl) (Or.inr rfl) ⟨congrArg (fun z => some (gi z)) (by unfold b2 isNm; split <;> omega), rfl⟩
set_option maxRecDepth 100000 in
set_option maxHeartbeats 4000000 in
theorem cM_isM {G : gG} (hsz : G.2.2.2.2.2.2 = true) {n : Nat} (hn : 2 ≤ n) (mi : Nat → Nat → Int) (ml : Nat → Nat → Int64) (x : Int) (hx : rng x) : gM G 193 n 0 0 [gi x] (gw mi ml) (gret (b2 (isSg x)) (gw mi ml)) := by
  have hn1 : 1 ≤ n := by omega
  refine gM.of mX12_isMark okX12_isMark (gcp 193 (by decide)).1 (gcp 193 (by decide)).2 (Nat.le_of_ble_eq_true rfl) ?_
  refine Go.run hsz hn1 2 (pc' := 3) (lv' := [some (gi x)]) (st' := [gi 60, gi x]) (M' := gw mi ml) rfl ?_
  refine Go.icmp_eq (by rfl) hx ⟨by decide, by decide⟩ (fun kq1 => ?_) (fun kq1 => ?_)
  · refine Go.run hsz hn1 2 (pc' := 40) (lv' := [some (gi x)]) (st' := [gi 1]) (M' := gw mi ml) rfl ?_
    exact Go.zret (by rfl) (Or.inr rfl) ⟨congrArg (fun z => some (gi z)) (by unfold b2 isSg; split <;> omega), rfl⟩
  · refine Go.run hsz hn1 2 (pc' := 9) (lv' := [some (gi x)]) (st' := [gi 61, gi x]) (M' := gw mi ml) rfl ?_
    refine Go.icmp_eq (by rfl) hx ⟨by decide, by decide⟩ (fun kq2 => ?_) (fun kq2 => ?_)
    · refine Go.run hsz hn1 2 (pc' := 40) (lv' := [some (gi x)]) (st' := [gi 1]) (M' := gw mi ml) rfl ?_
      exact Go.zret (by rfl) (Or.inr rfl) ⟨congrArg (fun z => some (gi z)) (by unfold b2 isSg; split <;> omega), rfl⟩
    · refine Go.run hsz hn1 3 (pc' := 17) (lv' := [some (gi x)]) (st' := [gi 43, gi 40, gi x]) (M' := gw mi ml) rfl ?_
      refine Go.callS (As := [gi x, gi 40, gi 43]) (st := []) (mc1 := 0) (mc := 0) (ms1 := 0) (ms := 0) (by rfl) rfl (gcn 153 (by decide)).1 (gcn 153 (by decide)).2 (Nat.le_of_ble_eq_true rfl) (by omega) (cM_in hsz (n := n - 1) (by omega) mi ml x 40 43 hx ⟨by decide, by decide⟩ ⟨by decide, by decide⟩) ?_
      rintro _ _ ⟨rfl, rfl⟩
      refine Go.run hsz hn1 0 (pc' := 20) (lv' := [some (gi x)]) (st' := [gi (b2 (40 ≤ x ∧ x ≤ 43))]) (M' := gw mi ml) rfl ?_
      refine Go.if_ne (by rfl) (b2_rng _) (fun kq3 => ?_) (fun kq3 => ?_)
      · replace kq3 := b2_pos kq3
        refine Go.run hsz hn1 2 (pc' := 40) (lv' := [some (gi x)]) (st' := [gi 1]) (M' := gw mi ml) rfl ?_
        exact Go.zret (by rfl) (Or.inr rfl) ⟨congrArg (fun z => some (gi z)) (by unfold b2 isSg; split <;> omega), rfl⟩
      · replace kq3 := b2_neg kq3
        refine Go.run hsz hn1 2 (pc' := 26) (lv' := [some (gi x)]) (st' := [gi 45, gi x]) (M' := gw mi ml) rfl ?_
        refine Go.icmp_eq (by rfl) hx ⟨by decide, by decide⟩ (fun kq4 => ?_) (fun kq4 => ?_)
        · refine Go.run hsz hn1 2 (pc' := 40) (lv' := [some (gi x)]) (st' := [gi 1]) (M' := gw mi ml) rfl ?_
          exact Go.zret (by rfl) (Or.inr rfl) ⟨congrArg (fun z => some (gi z)) (by unfold b2 isSg; split <;> omega), rfl⟩
        · refine Go.run hsz hn1 2 (pc' := 32) (lv' := [some (gi x)]) (st' := [gi 47, gi x]) (M' := gw mi ml) rfl ?_
          refine Go.icmp_ne (by rfl) hx ⟨by decide, by decide⟩ (fun kq5 => ?_) (fun kq5 => ?_)
          · refine Go.run hsz hn1 1 (pc' := 40) (lv' := [some (gi x)]) (st' := [gi 0]) (M' := gw mi ml) rfl ?_
            exact Go.zret (by rfl) (Or.inl rfl) ⟨congrArg (fun z => some (gi z)) (by unfold b2 isSg; split <;> omega), rfl⟩
          · refine Go.run hsz hn1 2 (pc' := 40) (lv' := [some (gi x)]) (st' := [gi 1]) (M' := gw mi ml) rfl ?_
            exact Go.zret (by rfl) (Or.inr rfl) ⟨congrArg (fun z => some (gi z)) (by unfold b2 isSg; split <;> omega), rfl⟩
set_option maxRecDepth 100000 in
set_option maxHeartbeats 4000000 in
theorem cM_binds {G : gG} (hsz : G.2.2.2.2.2.2 = true) {n : Nat} (hn : 1 ≤ n) (mi : Nat → Nat → Int) (ml : Nat → Nat → Int64) (x : Int) (hx : rng x) (hx2 : rng (x - 20000)) : gM G 200 n 0 0 [gi x] (gw mi ml) (gret (bnd x) (gw mi ml)) := by
  refine gM.of mX12_binds okX12_binds (gcp 200 (by decide)).1 (gcp 200 (by decide)).2 (Nat.le_of_ble_eq_true rfl) ?_
  refine Go.run hsz hn 6 (pc' := 9) (lv' := [some (gi x), some (gi (x - 20000))]) (st' := [gi 42, gi (x - 20000)]) (M' := gw mi ml) rfl ?_
  refine Go.icmp_eq (by rfl) hx2 ⟨by decide, by decide⟩ (fun kq1 => ?_) (fun kq1 => ?_)
  · refine Go.run hsz hn 2 (pc' := 55) (lv' := [some (gi x), some (gi (x - 20000))]) (st' := [gi 3]) (M' := gw mi ml) rfl ?_
    first | exact Go.iret (by rfl) ⟨congrArg (fun z => some (gi z)) (by unfold bnd; (repeat (first | rw [if_pos (by omega)] | rw [if_neg (by omega)]))), rfl⟩ | (exfalso; omega)
  · refine Go.run hsz hn 2 (pc' := 15) (lv' := [some (gi x), some (gi (x - 20000))]) (st' := [gi 47, gi (x - 20000)]) (M' := gw mi ml) rfl ?_
    refine Go.icmp_ne (by rfl) hx2 ⟨by decide, by decide⟩ (fun kq2 => ?_) (fun kq2 => ?_)
    · refine Go.run hsz hn 2 (pc' := 25) (lv' := [some (gi x), some (gi (x - 20000))]) (st' := [gi 43, gi (x - 20000)]) (M' := gw mi ml) rfl ?_
      refine Go.icmp_eq (by rfl) hx2 ⟨by decide, by decide⟩ (fun kq3 => ?_) (fun kq3 => ?_)
      · refine Go.run hsz hn 2 (pc' := 55) (lv' := [some (gi x), some (gi (x - 20000))]) (st' := [gi 2]) (M' := gw mi ml) rfl ?_
        first | exact Go.iret (by rfl) ⟨congrArg (fun z => some (gi z)) (by unfold bnd; (repeat (first | rw [if_pos (by omega)] | rw [if_neg (by omega)]))), rfl⟩ | (exfalso; omega)
      · refine Go.run hsz hn 2 (pc' := 31) (lv' := [some (gi x), some (gi (x - 20000))]) (st' := [gi 45, gi (x - 20000)]) (M' := gw mi ml) rfl ?_
        refine Go.icmp_ne (by rfl) hx2 ⟨by decide, by decide⟩ (fun kq4 => ?_) (fun kq4 => ?_)
        · refine Go.run hsz hn 2 (pc' := 41) (lv' := [some (gi x), some (gi (x - 20000))]) (st' := [gi 60, gi (x - 20000)]) (M' := gw mi ml) rfl ?_
          refine Go.icmp_eq (by rfl) hx2 ⟨by decide, by decide⟩ (fun kq5 => ?_) (fun kq5 => ?_)
          · refine Go.run hsz hn 2 (pc' := 55) (lv' := [some (gi x), some (gi (x - 20000))]) (st' := [gi 1]) (M' := gw mi ml) rfl ?_
            first | exact Go.iret (by rfl) ⟨congrArg (fun z => some (gi z)) (by unfold bnd; (repeat (first | rw [if_pos (by omega)] | rw [if_neg (by omega)]))), rfl⟩ | (exfalso; omega)
          · refine Go.run hsz hn 2 (pc' := 47) (lv' := [some (gi x), some (gi (x - 20000))]) (st' := [gi 61, gi (x - 20000)]) (M' := gw mi ml) rfl ?_
            refine Go.icmp_ne (by rfl) hx2 ⟨by decide, by decide⟩ (fun kq6 => ?_) (fun kq6 => ?_)
            · refine Go.run hsz hn 1 (pc' := 55) (lv' := [some (gi x), some (gi (x - 20000))]) (st' := [gi 0]) (M' := gw mi ml) rfl ?_
              first | exact Go.iret (by rfl) ⟨congrArg (fun z => some (gi z)) (by unfold bnd; (repeat (first | rw [if_pos (by omega)] | rw [if_neg (by omega)]))), rfl⟩ | (exfalso; omega)
            · refine Go.run hsz hn 2 (pc' := 55) (lv' := [some (gi x), some (gi (x - 20000))]) (st' := [gi 1]) (M' := gw mi ml) rfl ?_
              first | exact Go.iret (by rfl) ⟨congrArg (fun z => some (gi z)) (by unfold bnd; (repeat (first | rw [if_pos (by omega)] | rw [if_neg (by omega)]))), rfl⟩ | (exfalso; omega)
        · refine Go.run hsz hn 2 (pc' := 55) (lv' := [some (gi x), some (gi (x - 20000))]) (st' := [gi 2]) (M' := gw mi ml) rfl ?_
          first | exact Go.iret (by rfl) ⟨congrArg (fun z => some (gi z)) (by unfold bnd; (repeat (first | rw [if_pos (by omega)] | rw [if_neg (by omega)]))), rfl⟩ | (exfalso; omega)
    · refine Go.run hsz hn 2 (pc' := 55) (lv' := [some (gi x), some (gi (x - 20000))]) (st' := [gi 3]) (M' := gw mi ml) rfl ?_
      first | exact Go.iret (by rfl) ⟨congrArg (fun z => some (gi z)) (by unfold bnd; (repeat (first | rw [if_pos (by omega)] | rw [if_neg (by omega)]))), rfl⟩ | (exfalso; omega)
set_option maxRecDepth 100000 in
set_option maxHeartbeats 4000000 in
theorem cM_byteAt {G : gG} (hsz : G.2.2.2.2.2.2 = true) {n : Nat} (hn : 1 ≤ n) (ml : Nat → Nat → Int64) (mi m : Nat → Nat → Int) (fr to so va : Int) (S out : List Int) (o sd : Int) (hm : rL mi m fr to so va S out o sd) (hn0 : 0 ≤ mi 148 22 ∧ mi 148 22 ≤ 120) (k : Int) (k0 : 0 ≤ k) (k1 : k ≤ 120) : gM G 189 n 0 0 [gr 148, gi k] (gw m ml) (gret (bAt (mi 164) (mi 148 22) k) (gw m ml)) := by
  have e23 : m 148 23 = fr := hm.2.2.1.1
  have e24 : m 148 24 = to := hm.2.2.1.2.1
  have e25 : m 148 25 = so := hm.2.2.1.2.2.1
  have e26 : m 148 26 = va := hm.2.2.1.2.2.2
  have e29 : m 148 29 = out.length := hm.2.2.2.1.1
  have e30 : m 148 30 = S.length := hm.2.2.2.1.2.1
  have e31 : m 148 31 = o := hm.2.2.2.1.2.2.1
  have e32 : m 148 32 = sd := hm.2.2.2.1.2.2.2
  have e22 : m 148 22 = mi 148 22 := hm.2.1.2 22 (by decide)
  have hR := hm.1
  have hk9 : rng k := ⟨by omega, by omega⟩
  have e164 : m 164 k.toNat = mi 164 k.toNat := hm.2.1.1 164 _ (by decide) (by decide) (by decide)
  refine gM.of mX12_byteAt okX12_byteAt (gcp 189 (by decide)).1 (gcp 189 (by decide)).2 (Nat.le_of_ble_eq_true rfl) ?_
  refine Go.run hsz hn 3 (pc' := 5) (lv' := [some (gr 148), some (gi k)]) (st' := [gi (m 148 22), gi k]) (M' := gw m ml) rfl ?_
  refine Go.icmp_ge (by rfl) hk9 (hR _ _) (fun kq1 => ?_) (fun kq1 => ?_)
  · refine Go.run hsz hn 1 (pc' := 18) (lv' := [some (gr 148), some (gi k)]) (st' := [gi (-1)]) (M' := gw m ml) rfl ?_
    first | exact Go.iret (by rfl) ⟨congrArg (fun z => some (gi z)) (by unfold bAt; first | rw [if_pos (by omega)]; exact e164 | rw [if_neg (by omega)]), rfl⟩ | (exfalso; omega)
  · refine Go.run hsz hn 3 (pc' := 13) (lv' := [some (gr 148), some (gi k)]) (st' := [gi k, gr 164]) (M' := gw m ml) rfl ?_
    refine Go.iald (by rfl) (N := 120) (by rfl) (by omega) (by omega) (by decide) ?_
    refine Go.run hsz hn 1 (pc' := 18) (lv' := [some (gr 148), some (gi k)]) (st' := [gi (m 164 k.toNat)]) (M' := gw m ml) rfl ?_
    first | exact Go.iret (by rfl) ⟨congrArg (fun z => some (gi z)) (by unfold bAt; first | rw [if_pos (by omega)]; exact e164 | rw [if_neg (by omega)]), rfl⟩ | (exfalso; omega)
set_option maxRecDepth 100000 in
set_option maxHeartbeats 4000000 in
theorem cM_emit {G : gG} (hsz : G.2.2.2.2.2.2 = true) {n : Nat} (hn : 1 ≤ n) (ml : Nat → Nat → Int64) (mi m : Nat → Nat → Int) (fr to so va : Int) (S out : List Int) (o sd : Int) (hm : rL mi m fr to so va S out o sd) (x : Int) (hx : rng x) (hl : out.length < 120) : gM G 195 n 0 0 [gr 148, gi x] (gw m ml) (fun r M => r = none ∧ ∃ m1 : Nat → Nat → Int, M = gw m1 ml ∧ rL mi m1 fr to so va S (out ++ [x]) o sd) := by
  have e23 : m 148 23 = fr := hm.2.2.1.1
  have e24 : m 148 24 = to := hm.2.2.1.2.1
  have e25 : m 148 25 = so := hm.2.2.1.2.2.1
  have e26 : m 148 26 = va := hm.2.2.1.2.2.2
  have e29 : m 148 29 = out.length := hm.2.2.2.1.1
  have e30 : m 148 30 = S.length := hm.2.2.2.1.2.1
  have e31 : m 148 31 = o := hm.2.2.2.1.2.2.1
  have e32 : m 148 32 = sd := hm.2.2.2.1.2.2.2
  have e22 : m 148 22 = mi 148 22 := hm.2.1.2 22 (by decide)
  have hR := hm.1
  refine gM.of mX12_emit okX12_emit (gcp 195 (by decide)).1 (gcp 195 (by decide)).2 (Nat.le_of_ble_eq_true rfl) ?_
  refine Go.run hsz hn 5 (pc' := 9) (lv' := [some (gr 148), some (gi x)]) (st' := [gi x, gi (m 148 29), gr 165]) (M' := gw m ml) rfl ?_
  refine Go.iast (by rfl) (N := 120) (by rfl) (by omega) (by omega) (by decide) ?_
  refine Go.run hsz hn 3 (pc' := 15) (lv' := [some (gr 148), some (gi x)]) (st' := [gi ((gu m 165 ((m 148 29).toNat) x) 148 29), gr 148]) (M' := gw (gu m 165 ((m 148 29).toNat) x) ml) rfl ?_
  refine Go.run hsz hn 0 (pc' := 15) (lv' := [some (gr 148), some (gi x)]) (st' := [gi ((gu m 165 ((m 148 29).toNat) x) 148 29), gr 148]) (M' := gw (gu m 165 ((m 148 29).toNat) x) ml) rfl ?_
  rw [show (gu m 165 ((m 148 29).toNat) x) 148 29 = m 148 29 from gu_ne (Or.inl (by decide))]
  refine Go.run hsz hn 3 (pc' := 20) (lv' := [some (gr 148), some (gi x)]) (st' := []) (M' := gw (gu (gu m 165 ((m 148 29).toNat) x) 148 29 ((m 148 29) + 1)) ml) rfl ?_
  have h9 := rL_emit hm hx (i := (m 148 29).toNat) (by omega) hl
  rw [show (((m 148 29).toNat : Nat) : Int) = m 148 29 by omega] at h9
  exact Go.vret (by rfl) ⟨rfl, _, rfl, h9⟩
set_option maxRecDepth 100000 in
set_option maxHeartbeats 4000000 in
theorem cM_pend {G : gG} (hsz : G.2.2.2.2.2.2 = true) {n : Nat} (hn : 1 ≤ n) (ml : Nat → Nat → Int64) (mi m : Nat → Nat → Int) (fr to so va : Int) (S out : List Int) (o sd : Int) (hm : rL mi m fr to so va S out o sd) (x : Int) (hx : rng x) (hl : S.length < 120) : gM G 197 n 0 0 [gr 148, gi x] (gw m ml) (fun r M => r = none ∧ ∃ m1 : Nat → Nat → Int, M = gw m1 ml ∧ rL mi m1 fr to so va (x :: S) out o sd) := by
  have e23 : m 148 23 = fr := hm.2.2.1.1
  have e24 : m 148 24 = to := hm.2.2.1.2.1
  have e25 : m 148 25 = so := hm.2.2.1.2.2.1
  have e26 : m 148 26 = va := hm.2.2.1.2.2.2
  have e29 : m 148 29 = out.length := hm.2.2.2.1.1
  have e30 : m 148 30 = S.length := hm.2.2.2.1.2.1
  have e31 : m 148 31 = o := hm.2.2.2.1.2.2.1
  have e32 : m 148 32 = sd := hm.2.2.2.1.2.2.2
  have e22 : m 148 22 = mi 148 22 := hm.2.1.2 22 (by decide)
  have hR := hm.1
  refine gM.of mX12_pend okX12_pend (gcp 197 (by decide)).1 (gcp 197 (by decide)).2 (Nat.le_of_ble_eq_true rfl) ?_
  refine Go.run hsz hn 5 (pc' := 9) (lv' := [some (gr 148), some (gi x)]) (st' := [gi x, gi (m 148 30), gr 166]) (M' := gw m ml) rfl ?_
  refine Go.iast (by rfl) (N := 120) (by rfl) (by omega) (by omega) (by decide) ?_
  refine Go.run hsz hn 3 (pc' := 15) (lv' := [some (gr 148), some (gi x)]) (st' := [gi ((gu m 166 ((m 148 30).toNat) x) 148 30), gr 148]) (M' := gw (gu m 166 ((m 148 30).toNat) x) ml) rfl ?_
  refine Go.run hsz hn 0 (pc' := 15) (lv' := [some (gr 148), some (gi x)]) (st' := [gi ((gu m 166 ((m 148 30).toNat) x) 148 30), gr 148]) (M' := gw (gu m 166 ((m 148 30).toNat) x) ml) rfl ?_
  rw [show (gu m 166 ((m 148 30).toNat) x) 148 30 = m 148 30 from gu_ne (Or.inl (by decide))]
  refine Go.run hsz hn 3 (pc' := 20) (lv' := [some (gr 148), some (gi x)]) (st' := []) (M' := gw (gu (gu m 166 ((m 148 30).toNat) x) 148 30 ((m 148 30) + 1)) ml) rfl ?_
  have h9 := rL_pend hm hx (i := (m 148 30).toNat) (by omega) hl
  rw [show (((m 148 30).toNat : Nat) : Int) = m 148 30 by omega] at h9
  exact Go.vret (by rfl) ⟨rfl, _, rfl, h9⟩
theorem tp_f {m : Nat → Int} {S : List Int} (h : stR m S) : (S.length = 0 → tp S = 0) ∧ (¬ S.length = 0 → m (S.length - 1) = tp S) := by
  cases S with
  | nil => exact ⟨fun _ => rfl, fun q => absurd rfl q⟩
  | cons s S => exact ⟨fun q => absurd q (by simp), fun _ => h.1⟩
set_option maxRecDepth 100000 in
set_option maxHeartbeats 4000000 in
theorem cM_top {G : gG} (hsz : G.2.2.2.2.2.2 = true) {n : Nat} (hn : 1 ≤ n) (ml : Nat → Nat → Int64) (mi m : Nat → Nat → Int) (fr to so va : Int) (S out : List Int) (o sd : Int) (hm : rL mi m fr to so va S out o sd) (hl : S.length ≤ 120) : gM G 196 n 0 0 [gr 148] (gw m ml) (gret (tp S) (gw m ml)) := by
  have e23 : m 148 23 = fr := hm.2.2.1.1
  have e24 : m 148 24 = to := hm.2.2.1.2.1
  have e25 : m 148 25 = so := hm.2.2.1.2.2.1
  have e26 : m 148 26 = va := hm.2.2.1.2.2.2
  have e29 : m 148 29 = out.length := hm.2.2.2.1.1
  have e30 : m 148 30 = S.length := hm.2.2.2.1.2.1
  have e31 : m 148 31 = o := hm.2.2.2.1.2.2.1
  have e32 : m 148 32 = sd := hm.2.2.2.1.2.2.2
  have e22 : m 148 22 = mi 148 22 := hm.2.1.2 22 (by decide)
  have hR := hm.1
  have hS := hm.2.2.2.2.2
  have htp := tp_f hS
  refine gM.of mX12_top okX12_top (gcp 196 (by decide)).1 (gcp 196 (by decide)).2 (Nat.le_of_ble_eq_true rfl) ?_
  refine Go.run hsz hn 2 (pc' := 4) (lv' := [some (gr 148)]) (st' := [gi (m 148 30)]) (M' := gw m ml) rfl ?_
  refine Go.if_ne (by rfl) (hR _ _) (fun kq1 => ?_) (fun kq1 => ?_)
  · refine Go.run hsz hn 6 (pc' := 21) (lv' := [some (gr 148)]) (st' := [gi ((m 148 30) - 1), gr 166]) (M' := gw m ml) rfl ?_
    refine Go.iald (by rfl) (N := 120) (by rfl) (by omega) (by omega) (by decide) ?_
    refine Go.run hsz hn 0 (pc' := 22) (lv' := [some (gr 148)]) (st' := [gi (m 166 (((m 148 30) - 1).toNat))]) (M' := gw m ml) rfl ?_
    first | exact Go.iret (by rfl) ⟨congrArg (fun z => some (gi z)) (by first | exact (htp.1 (by omega)).symm | (rw [show (m 148 30 - 1).toNat = S.length - 1 by omega]; exact htp.2 (by omega))), rfl⟩ | (exfalso; omega)
  · refine Go.run hsz hn 2 (pc' := 22) (lv' := [some (gr 148)]) (st' := [gi 0]) (M' := gw m ml) rfl ?_
    first | exact Go.iret (by rfl) ⟨congrArg (fun z => some (gi z)) (by first | exact (htp.1 (by omega)).symm | (rw [show (m 148 30 - 1).toNat = S.length - 1 by omega]; exact htp.2 (by omega))), rfl⟩ | (exfalso; omega)
set_option maxRecDepth 100000 in
set_option maxHeartbeats 4000000 in
theorem lM_ad70 {G : gG} (hsz : G.2.2.2.2.2.2 = true) {n : Nat} (hn : 3 ≤ n) (ml : Nat → Nat → Int64) (mi : Nat → Nat → Int) (hn0 : 0 ≤ mi 148 22 ∧ mi 148 22 ≤ 120) (hbs : ∀ i : Nat, (i : Int) < mi 148 22 → 0 ≤ mi 164 i ∧ mi 164 i ≤ 255) (S out : List Int) (o sd : Int) (t0 s : Nat) (hs : (s : Int) < mi 148 22) (hbl : lEnd lB (mi 164) (mi 148 22).toNat t0 s) (c : Int) (hc : c = mi 164 s) (hcl : lA c) : ∀ (f : Nat) (q : Int) (so va : Int) (m : Nat → Nat → Int) (hm : rL mi m s q so va S out o sd) (hd : ∀ j : Nat, s ≤ j → j < q.toNat → lA (mi 164 j)), (s : Int) ≤ q → q ≤ mi 148 22 → mi 148 22 - q < f → Go G mX12_advance n 0 0 70 [some (gr 148), some (gi c)] [] (gw m ml) (fun r M => r = none ∧ ∃ (m1 : Nat → Nat → Int) (fr1 to1 so1 va1 : Int), M = gw m1 ml ∧ rL mi m1 fr1 to1 so1 va1 S out o sd ∧ advR (mi 164) (mi 148 22).toNat t0 fr1 to1 so1 va1) := by
  have hn1 : 1 ≤ n := by omega
  have hcr : 0 ≤ c ∧ c ≤ 255 := (by rw [hc]; exact hbs s hs)
  intro f
  induction f with
  | zero => intros; omega
  | succ f ih =>
    intro q so va m hm hd q0 q1 q2
    have e23 : m 148 23 = ((s : Nat) : Int) := hm.2.2.1.1
    have e24 : m 148 24 = q := hm.2.2.1.2.1
    have e26 : m 148 26 = va := hm.2.2.1.2.2.2
    have hR := hm.1
    refine Go.run hsz hn1 3 (pc' := 75) (lv' := [some (gr 148), some (gi c)]) (st' := [gi (m 148 24), gr 148]) (M' := gw m ml) rfl ?_
    refine Go.callV (As := [gi (m 148 24)]) (b := 148) (st := []) (mc1 := 0) (mc := 0) (ms1 := 0) (ms := 0) (by rfl) rfl (c := 11) (N := 46) (by rfl) (by decide) (by rfl) (gcn 189 (by decide)).1 (gcn 189 (by decide)).2 rfl (Nat.le_of_ble_eq_true rfl) (by omega) (cM_byteAt hsz (n := n - 1) (by omega) ml mi m _ _ _ _ S out o sd hm hn0 (m 148 24) (by omega) (by omega)) ?_
    rintro _ _ ⟨rfl, rfl⟩
    obtain ⟨x1, hx1⟩ : ∃ x1 : Int, x1 = bAt (mi 164) (mi 148 22) q := ⟨_, rfl⟩
    rw [show bAt (mi 164) (mi 148 22) (m 148 24) = x1 from (by rw [hx1, show m 148 24 = q from by omega])]
    have hx1f := bAt_f (mi 164) (mi 148 22) q
    rw [← hx1] at hx1f
    have hx1r : -1 ≤ x1 ∧ x1 ≤ 255 := (by have := hbs q.toNat; by_cases w9 : q < mi 148 22; (· have w8 := hx1f.1 w9; omega); (· have w8 := hx1f.2 w9; omega))
    refine Go.run hsz hn1 0 (pc' := 78) (lv' := [some (gr 148), some (gi c)]) (st' := [gi x1]) (M' := gw m ml) rfl ?_
    refine Go.callS (As := [gi x1]) (st := []) (mc1 := 0) (mc := 0) (ms1 := 0) (ms := 0) (by rfl) rfl (gcn 190 (by decide)).1 (gcn 190 (by decide)).2 (Nat.le_of_ble_eq_true rfl) (by omega) (cM_isA hsz (n := n - 1) (by omega) m ml x1 ⟨by omega, by omega⟩) ?_
    rintro _ _ ⟨rfl, rfl⟩
    refine Go.run hsz hn1 0 (pc' := 81) (lv' := [some (gr 148), some (gi c)]) (st' := [gi (b2 (lA x1))]) (M' := gw m ml) rfl ?_
    refine Go.if_eq (by rfl) (b2_rng _) (fun kq1 => ?_) (fun kq1 => ?_)
    · replace kq1 := b2_neg kq1
      refine Go.run hsz hn1 10 (pc' := 113) (lv' := [some (gr 148), some (gi c)]) (st' := [gi 1, gi ((m 148 24) - (m 148 23)), gr 148]) (M' := gw (gu m 148 26 c) ml) rfl ?_
      refine Go.icmp_ne (by rfl) ⟨by omega, by omega⟩ ⟨by decide, by decide⟩ (fun kq2 => ?_) (fun kq2 => ?_)
      · refine Go.run hsz hn1 3 (pc' := 265) (lv' := [some (gr 148), some (gi c)]) (st' := []) (M' := gw (gu (gu m 148 26 c) 148 25 4) ml) rfl ?_
        have hna : q = mi 148 22 ∨ ¬ lA (mi 164 q.toNat) := (by by_cases w8 : q < mi 148 22; (· exact Or.inr (by rw [← hx1f.1 w8]; assumption)); (· exact Or.inl (by omega)))
        have hle := lEnd_i (n := (mi 148 22).toNat) (s := ((s : Nat) : Int)) (q := q) (p := lA) (b := mi 164) (fun j a1 a2 => hd j (by omega) a2) (by omega) (by omega) (by omega) (by rcases hna with w8 | w8; (· exact Or.inl (by omega)); (· exact Or.inr w8))
        rw [show ((s : Nat) : Int).toNat = s by omega] at hle
        exact Go.vret (by rfl) ⟨rfl, _, _, _, _, _, rfl, (rL_so (rL_va hm ⟨by omega, by omega⟩) ⟨by omega, by omega⟩), s, q.toNat, rfl, by omega, hbl, Or.inr ⟨by omega, Or.inr (Or.inl ⟨by rw [← hc]; exact hcl, hle, hc, (by rw [← hc]; first | rw [if_pos ⟨by omega, by assumption⟩] | rw [if_neg (fun w9 => by first | exact absurd w9.2 (by assumption) | (have := w9.1; omega))])⟩)⟩⟩
      · refine Go.run hsz hn1 1 (pc' := 117) (lv' := [some (gr 148), some (gi c)]) (st' := [gi c, gr 148]) (M' := gw (gu m 148 26 c) ml) rfl ?_
        refine Go.callS (As := [gi c]) (st := [gr 148]) (mc1 := 0) (mc := 0) (ms1 := 0) (ms := 0) (by rfl) rfl (gcn 192 (by decide)).1 (gcn 192 (by decide)).2 (Nat.le_of_ble_eq_true rfl) (by omega) (cM_isN hsz (n := n - 1) (by omega) (gu m 148 26 c) ml c ⟨by omega, by omega⟩) ?_
        rintro _ _ ⟨rfl, rfl⟩
        refine Go.run hsz hn1 0 (pc' := 120) (lv' := [some (gr 148), some (gi c)]) (st' := [gi (b2 (isNm c)), gr 148]) (M' := gw (gu m 148 26 c) ml) rfl ?_
        refine Go.if_eq (by rfl) (b2_rng _) (fun kq3 => ?_) (fun kq3 => ?_)
        · replace kq3 := b2_neg kq3
          refine Go.run hsz hn1 3 (pc' := 265) (lv' := [some (gr 148), some (gi c)]) (st' := []) (M' := gw (gu (gu m 148 26 c) 148 25 4) ml) rfl ?_
          have hna : q = mi 148 22 ∨ ¬ lA (mi 164 q.toNat) := (by by_cases w8 : q < mi 148 22; (· exact Or.inr (by rw [← hx1f.1 w8]; assumption)); (· exact Or.inl (by omega)))
          have hle := lEnd_i (n := (mi 148 22).toNat) (s := ((s : Nat) : Int)) (q := q) (p := lA) (b := mi 164) (fun j a1 a2 => hd j (by omega) a2) (by omega) (by omega) (by omega) (by rcases hna with w8 | w8; (· exact Or.inl (by omega)); (· exact Or.inr w8))
          rw [show ((s : Nat) : Int).toNat = s by omega] at hle
          exact Go.vret (by rfl) ⟨rfl, _, _, _, _, _, rfl, (rL_so (rL_va hm ⟨by omega, by omega⟩) ⟨by omega, by omega⟩), s, q.toNat, rfl, by omega, hbl, Or.inr ⟨by omega, Or.inr (Or.inl ⟨by rw [← hc]; exact hcl, hle, hc, (by rw [← hc]; first | rw [if_pos ⟨by omega, by assumption⟩] | rw [if_neg (fun w9 => by first | exact absurd w9.2 (by assumption) | (have := w9.1; omega))])⟩)⟩⟩
        · replace kq3 := b2_pos kq3
          refine Go.run hsz hn1 4 (pc' := 265) (lv' := [some (gr 148), some (gi c)]) (st' := []) (M' := gw (gu (gu m 148 26 c) 148 25 1) ml) rfl ?_
          have hna : q = mi 148 22 ∨ ¬ lA (mi 164 q.toNat) := (by by_cases w8 : q < mi 148 22; (· exact Or.inr (by rw [← hx1f.1 w8]; assumption)); (· exact Or.inl (by omega)))
          have hle := lEnd_i (n := (mi 148 22).toNat) (s := ((s : Nat) : Int)) (q := q) (p := lA) (b := mi 164) (fun j a1 a2 => hd j (by omega) a2) (by omega) (by omega) (by omega) (by rcases hna with w8 | w8; (· exact Or.inl (by omega)); (· exact Or.inr w8))
          rw [show ((s : Nat) : Int).toNat = s by omega] at hle
          exact Go.vret (by rfl) ⟨rfl, _, _, _, _, _, rfl, (rL_so (rL_va hm ⟨by omega, by omega⟩) ⟨by omega, by omega⟩), s, q.toNat, rfl, by omega, hbl, Or.inr ⟨by omega, Or.inr (Or.inl ⟨by rw [← hc]; exact hcl, hle, hc, (by rw [← hc]; first | rw [if_pos ⟨by omega, by assumption⟩] | rw [if_neg (fun w9 => by first | exact absurd w9.2 (by assumption) | (have := w9.1; omega))])⟩)⟩⟩
    · replace kq1 := b2_pos kq1
      refine Go.run hsz hn1 7 (pc' := 70) (lv' := [some (gr 148), some (gi c)]) (st' := []) (M' := gw (gu m 148 24 ((m 148 24) + 1)) ml) rfl ?_
      have hla : lA (mi 164 q.toNat) := (by have w9 : lA x1 := (by assumption); rw [← hx1f.1 (by unfold lA at w9; by_cases w8 : q < mi 148 22; (· exact w8); (· have := hx1f.2 w8; omega))]; exact w9)
      have hqn : q < mi 148 22 := (by have w9 : lA x1 := (by assumption); unfold lA at w9; by_cases w8 : q < mi 148 22; (· exact w8); (· have := hx1f.2 w8; omega))
      rw [e24]
      exact ih (q + 1) so va _ (rL_to hm ⟨by omega, by omega⟩) (fun j a1 a2 => (by by_cases e : j = q.toNat; (· rw [e]; exact hla); (· exact hd j a1 (by omega)))) (by omega) (by omega) (by omega)
set_option maxRecDepth 100000 in
set_option maxHeartbeats 4000000 in
theorem lM_ad146 {G : gG} (hsz : G.2.2.2.2.2.2 = true) {n : Nat} (hn : 3 ≤ n) (ml : Nat → Nat → Int64) (mi : Nat → Nat → Int) (hn0 : 0 ≤ mi 148 22 ∧ mi 148 22 ≤ 120) (hbs : ∀ i : Nat, (i : Int) < mi 148 22 → 0 ≤ mi 164 i ∧ mi 164 i ≤ 255) (S out : List Int) (o sd : Int) (t0 s : Nat) (hs : (s : Int) < mi 148 22) (hbl : lEnd lB (mi 164) (mi 148 22).toNat t0 s) (c : Int) (hcl : lD (mi 164 s)) : ∀ (f : Nat) (q : Int) (so : Int) (m : Nat → Nat → Int) (hm : rL mi m s q so (rV (mi 164) s (q - s).toNat) S out o sd) (hd : ∀ j : Nat, s ≤ j → j < q.toNat → lD (mi 164 j)), (s : Int) ≤ q → q ≤ mi 148 22 → mi 148 22 - q < f → Go G mX12_advance n 0 0 146 [some (gr 148), some (gi c)] [] (gw m ml) (fun r M => r = none ∧ ∃ (m1 : Nat → Nat → Int) (fr1 to1 so1 va1 : Int), M = gw m1 ml ∧ rL mi m1 fr1 to1 so1 va1 S out o sd ∧ advR (mi 164) (mi 148 22).toNat t0 fr1 to1 so1 va1) := by
  have hn1 : 1 ≤ n := by omega

  intro f
  induction f with
  | zero => intros; omega
  | succ f ih =>
    intro q so m hm hd q0 q1 q2
    have e23 : m 148 23 = ((s : Nat) : Int) := hm.2.2.1.1
    have e24 : m 148 24 = q := hm.2.2.1.2.1
    have e26 : m 148 26 = rV (mi 164) s (q - s).toNat := hm.2.2.1.2.2.2
    have hR := hm.1
    have hnv2 := (nV_rV (b := mi 164) (i := s) (q - s).toNat (fun j a1 a2 => hd j a1 (by omega))).1
    refine Go.run hsz hn1 3 (pc' := 151) (lv' := [some (gr 148), some (gi c)]) (st' := [gi (m 148 24), gr 148]) (M' := gw m ml) rfl ?_
    refine Go.callV (As := [gi (m 148 24)]) (b := 148) (st := []) (mc1 := 0) (mc := 0) (ms1 := 0) (ms := 0) (by rfl) rfl (c := 11) (N := 46) (by rfl) (by decide) (by rfl) (gcn 189 (by decide)).1 (gcn 189 (by decide)).2 rfl (Nat.le_of_ble_eq_true rfl) (by omega) (cM_byteAt hsz (n := n - 1) (by omega) ml mi m _ _ _ _ S out o sd hm hn0 (m 148 24) (by omega) (by omega)) ?_
    rintro _ _ ⟨rfl, rfl⟩
    obtain ⟨x2, hx2⟩ : ∃ x2 : Int, x2 = bAt (mi 164) (mi 148 22) q := ⟨_, rfl⟩
    rw [show bAt (mi 164) (mi 148 22) (m 148 24) = x2 from (by rw [hx2, show m 148 24 = q from by omega])]
    have hx2f := bAt_f (mi 164) (mi 148 22) q
    rw [← hx2] at hx2f
    have hx2r : -1 ≤ x2 ∧ x2 ≤ 255 := (by have := hbs q.toNat; by_cases w9 : q < mi 148 22; (· have w8 := hx2f.1 w9; omega); (· have w8 := hx2f.2 w9; omega))
    refine Go.run hsz hn1 0 (pc' := 154) (lv' := [some (gr 148), some (gi c)]) (st' := [gi x2]) (M' := gw m ml) rfl ?_
    refine Go.callS (As := [gi x2]) (st := []) (mc1 := 0) (mc := 0) (ms1 := 0) (ms := 0) (by rfl) rfl (gcn 191 (by decide)).1 (gcn 191 (by decide)).2 (Nat.le_of_ble_eq_true rfl) (by omega) (cM_isD hsz (n := n - 1) (by omega) m ml x2 ⟨by omega, by omega⟩) ?_
    rintro _ _ ⟨rfl, rfl⟩
    refine Go.run hsz hn1 0 (pc' := 157) (lv' := [some (gr 148), some (gi c)]) (st' := [gi (b2 (lD x2))]) (M' := gw m ml) rfl ?_
    refine Go.if_eq (by rfl) (b2_rng _) (fun kq1 => ?_) (fun kq1 => ?_)
    · replace kq1 := b2_neg kq1
      refine Go.run hsz hn1 4 (pc' := 220) (lv' := [some (gr 148), some (gi c)]) (st' := [gi 9999, gi (m 148 26), gr 148]) (M' := gw m ml) rfl ?_
      refine Go.icmp_le (by rfl) (hR _ _) ⟨by decide, by decide⟩ (fun kq2 => ?_) (fun kq2 => ?_)
      · refine Go.run hsz hn1 3 (pc' := 265) (lv' := [some (gr 148), some (gi c)]) (st' := []) (M' := gw (gu m 148 25 2) ml) rfl ?_
        have hna : q = mi 148 22 ∨ ¬ lD (mi 164 q.toNat) := (by by_cases w8 : q < mi 148 22; (· exact Or.inr (by rw [← hx2f.1 w8]; assumption)); (· exact Or.inl (by omega)))
        have hle := lEnd_i (n := (mi 148 22).toNat) (s := ((s : Nat) : Int)) (q := q) (p := lD) (b := mi 164) (fun j a1 a2 => hd j (by omega) a2) (by omega) (by omega) (by omega) (by rcases hna with w8 | w8; (· exact Or.inl (by omega)); (· exact Or.inr w8))
        rw [show ((s : Nat) : Int).toNat = s by omega] at hle
        exact Go.vret (by rfl) ⟨rfl, _, _, _, _, _, rfl, (rL_so hm ⟨by omega, by omega⟩), s, q.toNat, rfl, by omega, hbl, Or.inr ⟨by omega, Or.inl ⟨hcl, hle, (by rw [show q.toNat - s = (q - s).toNat by omega]), (by first | rw [if_pos (by omega)] | rw [if_neg (by omega)])⟩⟩⟩
      · refine Go.run hsz hn1 4 (pc' := 265) (lv' := [some (gr 148), some (gi c)]) (st' := []) (M' := gw (gu m 148 25 4) ml) rfl ?_
        have hna : q = mi 148 22 ∨ ¬ lD (mi 164 q.toNat) := (by by_cases w8 : q < mi 148 22; (· exact Or.inr (by rw [← hx2f.1 w8]; assumption)); (· exact Or.inl (by omega)))
        have hle := lEnd_i (n := (mi 148 22).toNat) (s := ((s : Nat) : Int)) (q := q) (p := lD) (b := mi 164) (fun j a1 a2 => hd j (by omega) a2) (by omega) (by omega) (by omega) (by rcases hna with w8 | w8; (· exact Or.inl (by omega)); (· exact Or.inr w8))
        rw [show ((s : Nat) : Int).toNat = s by omega] at hle
        exact Go.vret (by rfl) ⟨rfl, _, _, _, _, _, rfl, (rL_so hm ⟨by omega, by omega⟩), s, q.toNat, rfl, by omega, hbl, Or.inr ⟨by omega, Or.inl ⟨hcl, hle, (by rw [show q.toNat - s = (q - s).toNat by omega]), (by first | rw [if_pos (by omega)] | rw [if_neg (by omega)])⟩⟩⟩
    · replace kq1 := b2_pos kq1
      refine Go.run hsz hn1 4 (pc' := 168) (lv' := [some (gr 148), some (gi c)]) (st' := [gi 9999, gi (m 148 26), gr 148]) (M' := gw m ml) rfl ?_
      refine Go.icmp_le (by rfl) (hR _ _) ⟨by decide, by decide⟩ (fun kq3 => ?_) (fun kq3 => ?_)
      · refine Go.run hsz hn1 7 (pc' := 189) (lv' := [some (gr 148), some (gi c)]) (st' := [gi (m 148 24), gr 148, gi (10 * (m 148 26)), gr 148]) (M' := gw m ml) rfl ?_
        refine Go.callV (As := [gi (m 148 24)]) (b := 148) (st := [gi (10 * (m 148 26)), gr 148]) (mc1 := 0) (mc := 0) (ms1 := 0) (ms := 0) (by rfl) rfl (c := 11) (N := 46) (by rfl) (by decide) (by rfl) (gcn 189 (by decide)).1 (gcn 189 (by decide)).2 rfl (Nat.le_of_ble_eq_true rfl) (by omega) (cM_byteAt hsz (n := n - 1) (by omega) ml mi m _ _ _ _ S out o sd hm hn0 (m 148 24) (by omega) (by omega)) ?_
        rintro _ _ ⟨rfl, rfl⟩
        obtain ⟨x3, hx3⟩ : ∃ x3 : Int, x3 = bAt (mi 164) (mi 148 22) q := ⟨_, rfl⟩
        rw [show bAt (mi 164) (mi 148 22) (m 148 24) = x3 from (by rw [hx3, show m 148 24 = q from by omega])]
        have hx3f := bAt_f (mi 164) (mi 148 22) q
        rw [← hx3] at hx3f
        have hx3r : -1 ≤ x3 ∧ x3 ≤ 255 := (by have := hbs q.toNat; by_cases w9 : q < mi 148 22; (· have w8 := hx3f.1 w9; omega); (· have w8 := hx3f.2 w9; omega))
        refine Go.run hsz hn1 11 (pc' := 146) (lv' := [some (gr 148), some (gi c)]) (st' := []) (M' := gw (gu (gu m 148 26 (((10 * (m 148 26)) + x3) - 48)) 148 24 ((m 148 24) + 1)) ml) rfl ?_
        have hqn : q < mi 148 22 := (by have w9 : lD x2 := (by assumption); unfold lD at w9; by_cases w8 : q < mi 148 22; (· exact w8); (· have := hx2f.2 w8; omega))
        have hla : lD (mi 164 q.toNat) := (by rw [← hx2f.1 hqn]; assumption)
        have hxex2 := hx2f.1 hqn
        have hxex3 := hx3f.1 hqn
        have hrv : rV (mi 164) s (q + 1 - s).toNat = ((10 * (m 148 26)) + x3) - 48 := (by rw [show (q + 1 - (s : Int)).toNat = (q - s).toNat + 1 by omega]; show (if _ then _ else _) = _; rw [show s + (q - (s : Int)).toNat = q.toNat by omega]; first | (rw [if_pos (by omega)]) | (rw [if_neg (by omega)]; omega))
        have hrb := hnv2
        have h8 := rL_to (rL_va hm (v := ((10 * (m 148 26)) + x3) - 48) ⟨by omega, by omega⟩) (v := m 148 24 + 1) ⟨by omega, by omega⟩
        refine ih (q + 1) so _ (by rw [hrv, show q + 1 = m 148 24 + 1 by omega]; exact h8) (fun j a1 a2 => (by by_cases e : j = q.toNat; (· rw [e]; exact hla); (· exact hd j a1 (by omega)))) (by omega) (by omega) (by omega)
      · refine Go.run hsz hn1 10 (pc' := 146) (lv' := [some (gr 148), some (gi c)]) (st' := []) (M' := gw (gu (gu m 148 26 10000) 148 24 ((m 148 24) + 1)) ml) rfl ?_
        have hqn : q < mi 148 22 := (by have w9 : lD x2 := (by assumption); unfold lD at w9; by_cases w8 : q < mi 148 22; (· exact w8); (· have := hx2f.2 w8; omega))
        have hla : lD (mi 164 q.toNat) := (by rw [← hx2f.1 hqn]; assumption)
        have hxex2 := hx2f.1 hqn
        have hrv : rV (mi 164) s (q + 1 - s).toNat = 10000 := (by rw [show (q + 1 - (s : Int)).toNat = (q - s).toNat + 1 by omega]; show (if _ then _ else _) = _; rw [show s + (q - (s : Int)).toNat = q.toNat by omega]; first | (rw [if_pos (by omega)]) | (rw [if_neg (by omega)]; omega))
        have hrb := hnv2
        have h8 := rL_to (rL_va hm (v := 10000) ⟨by omega, by omega⟩) (v := m 148 24 + 1) ⟨by omega, by omega⟩
        refine ih (q + 1) so _ (by rw [hrv, show q + 1 = m 148 24 + 1 by omega]; exact h8) (fun j a1 a2 => (by by_cases e : j = q.toNat; (· rw [e]; exact hla); (· exact hd j a1 (by omega)))) (by omega) (by omega) (by omega)

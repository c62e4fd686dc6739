/-! ===== law: the class cuts the tape into tokens: 132 the tape, 134 its bytes, 135 tokens, 136 values, 137 starts ===== -/
set_option maxRecDepth 100000 in
set_option maxHeartbeats 4000000 in
theorem cT_isD {G : gG} (hsz : G.2.2.2.2.2.2 = true) {n : Nat} (hn : 1 ≤ n) (mi : Nat → Nat → Int) (ml : Nat → Nat → Int64) (x : Int) (hx : rng x) : gM G 85 n 0 0 [gi x] (gw mi ml) (gret (b2 (lD x)) (gw mi ml)) := by
  refine gM.of mX9_isDigit okX9_isDigit (gcp 85 (by decide)).1 (gcp 85 (by decide)).2 (Nat.le_of_ble_eq_true rfl) ?_
  refine Go.run hsz hn 2 (pc' := 3) (lv' := [some (gi x)]) (st' := [gi 48, gi x]) (M' := gw mi ml) rfl ?_
  refine Go.icmp_lt (by rfl) hx ⟨by decide, by decide⟩ (fun kq1 => ?_) (fun kq1 => ?_)
  · refine Go.run hsz hn 1 (pc' := 17) (lv' := [some (gi x)]) (st' := [gi 0]) (M' := gw mi ml) rfl ?_
    exact Go.zret (by rfl) (Or.inl rfl) ⟨congrArg (fun z => some (gi z)) (by unfold b2 lD; split <;> omega), rfl⟩
  · refine Go.run hsz hn 2 (pc' := 9) (lv' := [some (gi x)]) (st' := [gi 57, gi x]) (M' := gw mi ml) rfl ?_
    refine Go.icmp_gt (by rfl) hx ⟨by decide, by decide⟩ (fun kq2 => ?_) (fun kq2 => ?_)
    · refine Go.run hsz hn 1 (pc' := 17) (lv' := [some (gi x)]) (st' := [gi 0]) (M' := gw mi ml) rfl ?_
      exact Go.zret (by rfl) (Or.inl rfl) ⟨congrArg (fun z => some (gi z)) (by unfold b2 lD; split <;> omega), rfl⟩
    · refine Go.run hsz hn 2 (pc' := 17) (lv' := [some (gi x)]) (st' := [gi 1]) (M' := gw mi ml) rfl ?_
      exact Go.zret (by rfl) (Or.inr rfl) ⟨congrArg (fun z => some (gi z)) (by unfold b2 lD; split <;> omega), rfl⟩
set_option maxRecDepth 100000 in
set_option maxHeartbeats 4000000 in
theorem cT_isA {G : gG} (hsz : G.2.2.2.2.2.2 = true) {n : Nat} (hn : 1 ≤ n) (mi : Nat → Nat → Int) (ml : Nat → Nat → Int64) (x : Int) (hx : rng x) : gM G 86 n 0 0 [gi x] (gw mi ml) (gret (b2 (lA x)) (gw mi ml)) := by
  refine gM.of mX9_isLetter okX9_isLetter (gcp 86 (by decide)).1 (gcp 86 (by decide)).2 (Nat.le_of_ble_eq_true rfl) ?_
  refine Go.run hsz hn 2 (pc' := 3) (lv' := [some (gi x)]) (st' := [gi 97, gi x]) (M' := gw mi ml) rfl ?_
  refine Go.icmp_lt (by rfl) hx ⟨by decide, by decide⟩ (fun kq1 => ?_) (fun kq1 => ?_)
  · refine Go.run hsz hn 1 (pc' := 17) (lv' := [some (gi x)]) (st' := [gi 0]) (M' := gw mi ml) rfl ?_
    exact Go.zret (by rfl) (Or.inl rfl) ⟨congrArg (fun z => some (gi z)) (by unfold b2 lA; split <;> omega), rfl⟩
  · refine Go.run hsz hn 2 (pc' := 9) (lv' := [some (gi x)]) (st' := [gi 122, gi x]) (M' := gw mi ml) rfl ?_
    refine Go.icmp_gt (by rfl) hx ⟨by decide, by decide⟩ (fun kq2 => ?_) (fun kq2 => ?_)
    · refine Go.run hsz hn 1 (pc' := 17) (lv' := [some (gi x)]) (st' := [gi 0]) (M' := gw mi ml) rfl ?_
      exact Go.zret (by rfl) (Or.inl rfl) ⟨congrArg (fun z => some (gi z)) (by unfold b2 lA; split <;> omega), rfl⟩
    · refine Go.run hsz hn 2 (pc' := 17) (lv' := [some (gi x)]) (st' := [gi 1]) (M' := gw mi ml) rfl ?_
      exact Go.zret (by rfl) (Or.inr rfl) ⟨congrArg (fun z => some (gi z)) (by unfold b2 lA; split <;> omega), rfl⟩
set_option maxRecDepth 100000 in
set_option maxHeartbeats 4000000 in
theorem cT_isS {G : gG} (hsz : G.2.2.2.2.2.2 = true) {n : Nat} (hn : 1 ≤ n) (mi : Nat → Nat → Int) (ml : Nat → Nat → Int64) (x : Int) (hx : rng x) : gM G 87 n 0 0 [gi x] (gw mi ml) (gret (b2 (isSg x)) (gw mi ml)) := by
  refine gM.of mX9_isSign okX9_isSign (gcp 87 (by decide)).1 (gcp 87 (by decide)).2 (Nat.le_of_ble_eq_true rfl) ?_
  rcases (show x = 40 ∨ x = 41 ∨ x = 42 ∨ x = 43 ∨ x = 44 ∨ x = 45 ∨ x = 46 ∨ x = 47 ∨ x = 48 ∨ x = 49 ∨ x = 50 ∨ x = 51 ∨ x = 52 ∨ x = 53 ∨ x = 54 ∨ x = 55 ∨ x = 56 ∨ x = 57 ∨ x = 58 ∨ x = 59 ∨ x = 60 ∨ x = 61 ∨ (x < 40 ∨ 61 < x) by omega) with rfl | rfl | rfl | rfl | rfl | rfl | rfl | rfl | rfl | rfl | rfl | rfl | rfl | rfl | rfl | rfl | rfl | rfl | rfl | rfl | rfl | rfl | hd
  · refine Go.run hsz hn 1 (pc' := 1) (lv' := [some (gi 40)]) (st' := [gi 40]) (M' := gw mi ml) rfl ?_
    refine Go.tsw_in (l := _) (w' := 40) (t := 104) (by rfl) (by rfl) ⟨by decide, by decide⟩ (by decide) (by decide) (by rfl) ?_
    refine Go.run hsz hn 1 (pc' := 105) (lv' := [some (gi 40)]) (st' := [gi 1]) (M' := gw mi ml) rfl ?_
    exact Go.zret (by rfl) (Or.inr rfl) ⟨congrArg (fun z => some (gi z)) (by unfold b2 isSg; split <;> omega), rfl⟩
  · refine Go.run hsz hn 1 (pc' := 1) (lv' := [some (gi 41)]) (st' := [gi 41]) (M' := gw mi ml) rfl ?_
    refine Go.tsw_in (l := _) (w' := 41) (t := 104) (by rfl) (by rfl) ⟨by decide, by decide⟩ (by decide) (by decide) (by rfl) ?_
    refine Go.run hsz hn 1 (pc' := 105) (lv' := [some (gi 41)]) (st' := [gi 1]) (M' := gw mi ml) rfl ?_
    exact Go.zret (by rfl) (Or.inr rfl) ⟨congrArg (fun z => some (gi z)) (by unfold b2 isSg; split <;> omega), rfl⟩
  · refine Go.run hsz hn 1 (pc' := 1) (lv' := [some (gi 42)]) (st' := [gi 42]) (M' := gw mi ml) rfl ?_
    refine Go.tsw_in (l := _) (w' := 42) (t := 104) (by rfl) (by rfl) ⟨by decide, by decide⟩ (by decide) (by decide) (by rfl) ?_
    refine Go.run hsz hn 1 (pc' := 105) (lv' := [some (gi 42)]) (st' := [gi 1]) (M' := gw mi ml) rfl ?_
    exact Go.zret (by rfl) (Or.inr rfl) ⟨congrArg (fun z => some (gi z)) (by unfold b2 isSg; split <;> omega), rfl⟩
  · refine Go.run hsz hn 1 (pc' := 1) (lv' := [some (gi 43)]) (st' := [gi 43]) (M' := gw mi ml) rfl ?_
    refine Go.tsw_in (l := _) (w' := 43) (t := 104) (by rfl) (by rfl) ⟨by decide, by decide⟩ (by decide) (by decide) (by rfl) ?_
    refine Go.run hsz hn 1 (pc' := 105) (lv' := [some (gi 43)]) (st' := [gi 1]) (M' := gw mi ml) rfl ?_
    exact Go.zret (by rfl) (Or.inr rfl) ⟨congrArg (fun z => some (gi z)) (by unfold b2 isSg; split <;> omega), rfl⟩
  · refine Go.run hsz hn 1 (pc' := 1) (lv' := [some (gi 44)]) (st' := [gi 44]) (M' := gw mi ml) rfl ?_
    refine Go.tsw_in (l := _) (w' := 44) (t := 106) (by rfl) (by rfl) ⟨by decide, by decide⟩ (by decide) (by decide) (by rfl) ?_
    refine Go.run hsz hn 1 (pc' := 107) (lv' := [some (gi 44)]) (st' := [gi 0]) (M' := gw mi ml) rfl ?_
    exact Go.zret (by rfl) (Or.inl rfl) ⟨congrArg (fun z => some (gi z)) (by unfold b2 isSg; split <;> omega), rfl⟩
  · refine Go.run hsz hn 1 (pc' := 1) (lv' := [some (gi 45)]) (st' := [gi 45]) (M' := gw mi ml) rfl ?_
    refine Go.tsw_in (l := _) (w' := 45) (t := 104) (by rfl) (by rfl) ⟨by decide, by decide⟩ (by decide) (by decide) (by rfl) ?_
    refine Go.run hsz hn 1 (pc' := 105) (lv' := [some (gi 45)]) (st' := [gi 1]) (M' := gw mi ml) rfl ?_
    exact Go.zret (by rfl) (Or.inr rfl) ⟨congrArg (fun z => some (gi z)) (by unfold b2 isSg; split <;> omega), rfl⟩
  · refine Go.run hsz hn 1 (pc' := 1) (lv' := [some (gi 46)]) (st' := [gi 46]) (M' := gw mi ml) rfl ?_
    refine Go.tsw_in (l := _) (w' := 46) (t := 106) (by rfl) (by rfl) ⟨by decide, by decide⟩ (by decide) (by decide) (by rfl) ?_
    refine Go.run hsz hn 1 (pc' := 107) (lv' := [some (gi 46)]) (st' := [gi 0]) (M' := gw mi ml) rfl ?_
    exact Go.zret (by rfl) (Or.inl rfl) ⟨congrArg (fun z => some (gi z)) (by unfold b2 isSg; split <;> omega), rfl⟩
  · refine Go.run hsz hn 1 (pc' := 1) (lv' := [some (gi 47)]) (st' := [gi 47]) (M' := gw mi ml) rfl ?_
    refine Go.tsw_in (l := _) (w' := 47) (t := 104) (by rfl) (by rfl) ⟨by decide, by decide⟩ (by decide) (by decide) (by rfl) ?_
    refine Go.run hsz hn 1 (pc' := 105) (lv' := [some (gi 47)]) (st' := [gi 1]) (M' := gw mi ml) rfl ?_
    exact Go.zret (by rfl) (Or.inr rfl) ⟨congrArg (fun z => some (gi z)) (by unfold b2 isSg; split <;> omega), rfl⟩
  · refine Go.run hsz hn 1 (pc' := 1) (lv' := [some (gi 48)]) (st' := [gi 48]) (M' := gw mi ml) rfl ?_
    refine Go.tsw_in (l := _) (w' := 48) (t := 106) (by rfl) (by rfl) ⟨by decide, by decide⟩ (by decide) (by decide) (by rfl) ?_
    refine Go.run hsz hn 1 (pc' := 107) (lv' := [some (gi 48)]) (st' := [gi 0]) (M' := gw mi ml) rfl ?_
    exact Go.zret (by rfl) (Or.inl rfl) ⟨congrArg (fun z => some (gi z)) (by unfold b2 isSg; split <;> omega), rfl⟩
  · refine Go.run hsz hn 1 (pc' := 1) (lv' := [some (gi 49)]) (st' := [gi 49]) (M' := gw mi ml) rfl ?_
    refine Go.tsw_in (l := _) (w' := 49) (t := 106) (by rfl) (by rfl) ⟨by decide, by decide⟩ (by decide) (by decide) (by rfl) ?_
    refine Go.run hsz hn 1 (pc' := 107) (lv' := [some (gi 49)]) (st' := [gi 0]) (M' := gw mi ml) rfl ?_
    exact Go.zret (by rfl) (Or.inl rfl) ⟨congrArg (fun z => some (gi z)) (by unfold b2 isSg; split <;> omega), rfl⟩
  · refine Go.run hsz hn 1 (pc' := 1) (lv' := [some (gi 50)]) (st' := [gi 50]) (M' := gw mi ml) rfl ?_
    refine Go.tsw_in (l := _) (w' := 50) (t := 106) (by rfl) (by rfl) ⟨by decide, by decide⟩ (by decide) (by decide) (by rfl) ?_
    refine Go.run hsz hn 1 (pc' := 107) (lv' := [some (gi 50)]) (st' := [gi 0]) (M' := gw mi ml) rfl ?_
    exact Go.zret (by rfl) (Or.inl rfl) ⟨congrArg (fun z => some (gi z)) (by unfold b2 isSg; split <;> omega), rfl⟩
  · refine Go.run hsz hn 1 (pc' := 1) (lv' := [some (gi 51)]) (st' := [gi 51]) (M' := gw mi ml) rfl ?_
    refine Go.tsw_in (l := _) (w' := 51) (t := 106) (by rfl) (by rfl) ⟨by decide, by decide⟩ (by decide) (by decide) (by rfl) ?_
    refine Go.run hsz hn 1 (pc' := 107) (lv' := [some (gi 51)]) (st' := [gi 0]) (M' := gw mi ml) rfl ?_
    exact Go.zret (by rfl) (Or.inl rfl) ⟨congrArg (fun z => some (gi z)) (by unfold b2 isSg; split <;> omega), rfl⟩
  · refine Go.run hsz hn 1 (pc' := 1) (lv' := [some (gi 52)]) (st' := [gi 52]) (M' := gw mi ml) rfl ?_
    refine Go.tsw_in (l := _) (w' := 52) (t := 106) (by rfl) (by rfl) ⟨by decide, by decide⟩ (by decide) (by decide) (by rfl) ?_
    refine Go.run hsz hn 1 (pc' := 107) (lv' := [some (gi 52)]) (st' := [gi 0]) (M' := gw mi ml) rfl ?_
    exact Go.zret (by rfl) (Or.inl rfl) ⟨congrArg (fun z => some (gi z)) (by unfold b2 isSg; split <;> omega), rfl⟩
  · refine Go.run hsz hn 1 (pc' := 1) (lv' := [some (gi 53)]) (st' := [gi 53]) (M' := gw mi ml) rfl ?_
    refine Go.tsw_in (l := _) (w' := 53) (t := 106) (by rfl) (by rfl) ⟨by decide, by decide⟩ (by decide) (by decide) (by rfl) ?_
    refine Go.run hsz hn 1 (pc' := 107) (lv' := [some (gi 53)]) (st' := [gi 0]) (M' := gw mi ml) rfl ?_
    exact Go.zret (by rfl) (Or.inl rfl) ⟨congrArg (fun z => some (gi z)) (by unfold b2 isSg; split <;> omega), rfl⟩
  · refine Go.run hsz hn 1 (pc' := 1) (lv' := [some (gi 54)]) (st' := [gi 54]) (M' := gw mi ml) rfl ?_
    refine Go.tsw_in (l := _) (w' := 54) (t := 106) (by rfl) (by rfl) ⟨by decide, by decide⟩ (by decide) (by decide) (by rfl) ?_
    refine Go.run hsz hn 1 (pc' := 107) (lv' := [some (gi 54)]) (st' := [gi 0]) (M' := gw mi ml) rfl ?_
    exact Go.zret (by rfl) (Or.inl rfl) ⟨congrArg (fun z => some (gi z)) (by unfold b2 isSg; split <;> omega), rfl⟩
  · refine Go.run hsz hn 1 (pc' := 1) (lv' := [some (gi 55)]) (st' := [gi 55]) (M' := gw mi ml) rfl ?_
    refine Go.tsw_in (l := _) (w' := 55) (t := 106) (by rfl) (by rfl) ⟨by decide, by decide⟩ (by decide) (by decide) (by rfl) ?_
    refine Go.run hsz hn 1 (pc' := 107) (lv' := [some (gi 55)]) (st' := [gi 0]) (M' := gw mi ml) rfl ?_
    exact Go.zret (by rfl) (Or.inl rfl) ⟨congrArg (fun z => some (gi z)) (by unfold b2 isSg; split <;> omega), rfl⟩
  · refine Go.run hsz hn 1 (pc' := 1) (lv' := [some (gi 56)]) (st' := [gi 56]) (M' := gw mi ml) rfl ?_
    refine Go.tsw_in (l := _) (w' := 56) (t := 106) (by rfl) (by rfl) ⟨by decide, by decide⟩ (by decide) (by decide) (by rfl) ?_
    refine Go.run hsz hn 1 (pc' := 107) (lv' := [some (gi 56)]) (st' := [gi 0]) (M' := gw mi ml) rfl ?_
    exact Go.zret (by rfl) (Or.inl rfl) ⟨congrArg (fun z => some (gi z)) (by unfold b2 isSg; split <;> omega), rfl⟩
  · refine Go.run hsz hn 1 (pc' := 1) (lv' := [some (gi 57)]) (st' := [gi 57]) (M' := gw mi ml) rfl ?_
    refine Go.tsw_in (l := _) (w' := 57) (t := 106) (by rfl) (by rfl) ⟨by decide, by decide⟩ (by decide) (by decide) (by rfl) ?_
    refine Go.run hsz hn 1 (pc' := 107) (lv' := [some (gi 57)]) (st' := [gi 0]) (M' := gw mi ml) rfl ?_
    exact Go.zret (by rfl) (Or.inl rfl) ⟨congrArg (fun z => some (gi z)) (by unfold b2 isSg; split <;> omega), rfl⟩
  · refine Go.run hsz hn 1 (pc' := 1) (lv' := [some (gi 58)]) (st' := [gi 58]) (M' := gw mi ml) rfl ?_
    refine Go.tsw_in (l := _) (w' := 58) (t := 106) (by rfl) (by rfl) ⟨by decide, by decide⟩ (by decide) (by decide) (by rfl) ?_
    refine Go.run hsz hn 1 (pc' := 107) (lv' := [some (gi 58)]) (st' := [gi 0]) (M' := gw mi ml) rfl ?_
    exact Go.zret (by rfl) (Or.inl rfl) ⟨congrArg (fun z => some (gi z)) (by unfold b2 isSg; split <;> omega), rfl⟩
  · refine Go.run hsz hn 1 (pc' := 1) (lv' := [some (gi 59)]) (st' := [gi 59]) (M' := gw mi ml) rfl ?_
    refine Go.tsw_in (l := _) (w' := 59) (t := 106) (by rfl) (by rfl) ⟨by decide, by decide⟩ (by decide) (by decide) (by rfl) ?_
    refine Go.run hsz hn 1 (pc' := 107) (lv' := [some (gi 59)]) (st' := [gi 0]) (M' := gw mi ml) rfl ?_
    exact Go.zret (by rfl) (Or.inl rfl) ⟨congrArg (fun z => some (gi z)) (by unfold b2 isSg; split <;> omega), rfl⟩
  · refine Go.run hsz hn 1 (pc' := 1) (lv' := [some (gi 60)]) (st' := [gi 60]) (M' := gw mi ml) rfl ?_
    refine Go.tsw_in (l := _) (w' := 60) (t := 104) (by rfl) (by rfl) ⟨by decide, by decide⟩ (by decide) (by decide) (by rfl) ?_
    refine Go.run hsz hn 1 (pc' := 105) (lv' := [some (gi 60)]) (st' := [gi 1]) (M' := gw mi ml) rfl ?_
    exact Go.zret (by rfl) (Or.inr rfl) ⟨congrArg (fun z => some (gi z)) (by unfold b2 isSg; split <;> omega), rfl⟩
  · refine Go.run hsz hn 1 (pc' := 1) (lv' := [some (gi 61)]) (st' := [gi 61]) (M' := gw mi ml) rfl ?_
    refine Go.tsw_in (l := _) (w' := 61) (t := 104) (by rfl) (by rfl) ⟨by decide, by decide⟩ (by decide) (by decide) (by rfl) ?_
    refine Go.run hsz hn 1 (pc' := 105) (lv' := [some (gi 61)]) (st' := [gi 1]) (M' := gw mi ml) rfl ?_
    exact Go.zret (by rfl) (Or.inr rfl) ⟨congrArg (fun z => some (gi z)) (by unfold b2 isSg; split <;> omega), rfl⟩
  · refine Go.run hsz hn 1 (pc' := 1) (lv' := [some (gi x)]) (st' := [gi x]) (M' := gw mi ml) rfl ?_
    refine Go.tsw_out (l := _) (by rfl) (by rfl) hx (by omega) ?_
    refine Go.run hsz hn 1 (pc' := 107) (lv' := [some (gi x)]) (st' := [gi 0]) (M' := gw mi ml) rfl ?_
    exact Go.zret (by rfl) (Or.inl rfl) ⟨congrArg (fun z => some (gi z)) (by unfold b2 isSg; split <;> omega), rfl⟩
set_option maxRecDepth 100000 in
set_option maxHeartbeats 4000000 in
theorem cT_nm {G : gG} (hsz : G.2.2.2.2.2.2 = true) {n : Nat} (hn : 1 ≤ n) (mi : Nat → Nat → Int) (ml : Nat → Nat → Int64) (x : Int) (hx : rng x) : gM G 84 n 0 0 [gi x] (gw mi ml) (gret (nmI x) (gw mi ml)) := by
  refine gM.of mX9_nameOf okX9_nameOf (gcp 84 (by decide)).1 (gcp 84 (by decide)).2 (Nat.le_of_ble_eq_true rfl) ?_
  refine Go.run hsz hn 2 (pc' := 2) (lv' := [some (gi x), some (gi 0)]) (st' := []) (M' := gw mi ml) rfl ?_
  refine Go.run hsz hn 2 (pc' := 6) (lv' := [some (gi x), some (gi 0)]) (st' := [gs 1, gi 0]) (M' := gw mi ml) rfl ?_
  refine Go.salen (by rfl) (Or.inl rfl) ?_
  refine Go.run hsz hn 0 (pc' := 7) (lv' := [some (gi x), some (gi 0)]) (st' := [gi 6, gi 0]) (M' := gw mi ml) rfl ?_
  refine Go.icmp_ge (by rfl) ⟨by decide, by decide⟩ ⟨by decide, by decide⟩ (fun kq1 => ?_) (fun kq1 => ?_)
  · exact absurd kq1 (by decide)
  · refine Go.run hsz hn 2 (pc' := 14) (lv' := [some (gi x), some (gi 0)]) (st' := [gi 0, gs 1]) (M' := gw mi ml) rfl ?_
    refine Go.scald (by rfl) (by omega) (by omega) ?_
    refine Go.run hsz hn 1 (pc' := 16) (lv' := [some (gi x), some (gi 0)]) (st' := [gi x, gi 108]) (M' := gw mi ml) rfl ?_
    refine Go.icmp_ne (by rfl) ⟨by decide, by decide⟩ hx (fun kq2 => ?_) (fun kq2 => ?_)
    · refine Go.run hsz hn 2 (pc' := 2) (lv' := [some (gi x), some (gi 1)]) (st' := []) (M' := gw mi ml) rfl ?_
      refine Go.run hsz hn 2 (pc' := 6) (lv' := [some (gi x), some (gi 1)]) (st' := [gs 1, gi 1]) (M' := gw mi ml) rfl ?_
      refine Go.salen (by rfl) (Or.inl rfl) ?_
      refine Go.run hsz hn 0 (pc' := 7) (lv' := [some (gi x), some (gi 1)]) (st' := [gi 6, gi 1]) (M' := gw mi ml) rfl ?_
      refine Go.icmp_ge (by rfl) ⟨by decide, by decide⟩ ⟨by decide, by decide⟩ (fun kq3 => ?_) (fun kq3 => ?_)
      · exact absurd kq3 (by decide)
      · refine Go.run hsz hn 2 (pc' := 14) (lv' := [some (gi x), some (gi 1)]) (st' := [gi 1, gs 1]) (M' := gw mi ml) rfl ?_
        refine Go.scald (by rfl) (by omega) (by omega) ?_
        refine Go.run hsz hn 1 (pc' := 16) (lv' := [some (gi x), some (gi 1)]) (st' := [gi x, gi 97]) (M' := gw mi ml) rfl ?_
        refine Go.icmp_ne (by rfl) ⟨by decide, by decide⟩ hx (fun kq4 => ?_) (fun kq4 => ?_)
        · refine Go.run hsz hn 2 (pc' := 2) (lv' := [some (gi x), some (gi 2)]) (st' := []) (M' := gw mi ml) rfl ?_
          refine Go.run hsz hn 2 (pc' := 6) (lv' := [some (gi x), some (gi 2)]) (st' := [gs 1, gi 2]) (M' := gw mi ml) rfl ?_
          refine Go.salen (by rfl) (Or.inl rfl) ?_
          refine Go.run hsz hn 0 (pc' := 7) (lv' := [some (gi x), some (gi 2)]) (st' := [gi 6, gi 2]) (M' := gw mi ml) rfl ?_
          refine Go.icmp_ge (by rfl) ⟨by decide, by decide⟩ ⟨by decide, by decide⟩ (fun kq5 => ?_) (fun kq5 => ?_)
          · exact absurd kq5 (by decide)
          · refine Go.run hsz hn 2 (pc' := 14) (lv' := [some (gi x), some (gi 2)]) (st' := [gi 2, gs 1]) (M' := gw mi ml) rfl ?_
            refine Go.scald (by rfl) (by omega) (by omega) ?_
            refine Go.run hsz hn 1 (pc' := 16) (lv' := [some (gi x), some (gi 2)]) (st' := [gi x, gi 110]) (M' := gw mi ml) rfl ?_
            refine Go.icmp_ne (by rfl) ⟨by decide, by decide⟩ hx (fun kq6 => ?_) (fun kq6 => ?_)
            · refine Go.run hsz hn 2 (pc' := 2) (lv' := [some (gi x), some (gi 3)]) (st' := []) (M' := gw mi ml) rfl ?_
              refine Go.run hsz hn 2 (pc' := 6) (lv' := [some (gi x), some (gi 3)]) (st' := [gs 1, gi 3]) (M' := gw mi ml) rfl ?_
              refine Go.salen (by rfl) (Or.inl rfl) ?_
              refine Go.run hsz hn 0 (pc' := 7) (lv' := [some (gi x), some (gi 3)]) (st' := [gi 6, gi 3]) (M' := gw mi ml) rfl ?_
              refine Go.icmp_ge (by rfl) ⟨by decide, by decide⟩ ⟨by decide, by decide⟩ (fun kq7 => ?_) (fun kq7 => ?_)
              · exact absurd kq7 (by decide)
              · refine Go.run hsz hn 2 (pc' := 14) (lv' := [some (gi x), some (gi 3)]) (st' := [gi 3, gs 1]) (M' := gw mi ml) rfl ?_
                refine Go.scald (by rfl) (by omega) (by omega) ?_
                refine Go.run hsz hn 1 (pc' := 16) (lv' := [some (gi x), some (gi 3)]) (st' := [gi x, gi 107]) (M' := gw mi ml) rfl ?_
                refine Go.icmp_ne (by rfl) ⟨by decide, by decide⟩ hx (fun kq8 => ?_) (fun kq8 => ?_)
                · refine Go.run hsz hn 2 (pc' := 2) (lv' := [some (gi x), some (gi 4)]) (st' := []) (M' := gw mi ml) rfl ?_
                  refine Go.run hsz hn 2 (pc' := 6) (lv' := [some (gi x), some (gi 4)]) (st' := [gs 1, gi 4]) (M' := gw mi ml) rfl ?_
                  refine Go.salen (by rfl) (Or.inl rfl) ?_
                  refine Go.run hsz hn 0 (pc' := 7) (lv' := [some (gi x), some (gi 4)]) (st' := [gi 6, gi 4]) (M' := gw mi ml) rfl ?_
                  refine Go.icmp_ge (by rfl) ⟨by decide, by decide⟩ ⟨by decide, by decide⟩ (fun kq9 => ?_) (fun kq9 => ?_)
                  · exact absurd kq9 (by decide)
                  · refine Go.run hsz hn 2 (pc' := 14) (lv' := [some (gi x), some (gi 4)]) (st' := [gi 4, gs 1]) (M' := gw mi ml) rfl ?_
                    refine Go.scald (by rfl) (by omega) (by omega) ?_
                    refine Go.run hsz hn 1 (pc' := 16) (lv' := [some (gi x), some (gi 4)]) (st' := [gi x, gi 100]) (M' := gw mi ml) rfl ?_
                    refine Go.icmp_ne (by rfl) ⟨by decide, by decide⟩ hx (fun kq10 => ?_) (fun kq10 => ?_)
                    · refine Go.run hsz hn 2 (pc' := 2) (lv' := [some (gi x), some (gi 5)]) (st' := []) (M' := gw mi ml) rfl ?_
                      refine Go.run hsz hn 2 (pc' := 6) (lv' := [some (gi x), some (gi 5)]) (st' := [gs 1, gi 5]) (M' := gw mi ml) rfl ?_
                      refine Go.salen (by rfl) (Or.inl rfl) ?_
                      refine Go.run hsz hn 0 (pc' := 7) (lv' := [some (gi x), some (gi 5)]) (st' := [gi 6, gi 5]) (M' := gw mi ml) rfl ?_
                      refine Go.icmp_ge (by rfl) ⟨by decide, by decide⟩ ⟨by decide, by decide⟩ (fun kq11 => ?_) (fun kq11 => ?_)
                      · exact absurd kq11 (by decide)
                      · refine Go.run hsz hn 2 (pc' := 14) (lv' := [some (gi x), some (gi 5)]) (st' := [gi 5, gs 1]) (M' := gw mi ml) rfl ?_
                        refine Go.scald (by rfl) (by omega) (by omega) ?_
                        refine Go.run hsz hn 1 (pc' := 16) (lv' := [some (gi x), some (gi 5)]) (st' := [gi x, gi 111]) (M' := gw mi ml) rfl ?_
                        refine Go.icmp_ne (by rfl) ⟨by decide, by decide⟩ hx (fun kq12 => ?_) (fun kq12 => ?_)
                        · refine Go.run hsz hn 2 (pc' := 2) (lv' := [some (gi x), some (gi 6)]) (st' := []) (M' := gw mi ml) rfl ?_
                          refine Go.run hsz hn 2 (pc' := 6) (lv' := [some (gi x), some (gi 6)]) (st' := [gs 1, gi 6]) (M' := gw mi ml) rfl ?_
                          refine Go.salen (by rfl) (Or.inl rfl) ?_
                          refine Go.run hsz hn 0 (pc' := 7) (lv' := [some (gi x), some (gi 6)]) (st' := [gi 6, gi 6]) (M' := gw mi ml) rfl ?_
                          refine Go.icmp_ge (by rfl) ⟨by decide, by decide⟩ ⟨by decide, by decide⟩ (fun kq13 => ?_) (fun kq13 => ?_)
                          · refine Go.run hsz hn 1 (pc' := 28) (lv' := [some (gi x), some (gi 6)]) (st' := [gi (-1)]) (M' := gw mi ml) rfl ?_
                            first | exact Go.iret (by rfl) ⟨congrArg (fun z => some (gi z)) (by unfold nmI; (repeat (first | rw [if_pos (by omega)] | rw [if_neg (by omega)]))), rfl⟩ | (exfalso; omega)
                          · exact absurd kq13 (by decide)
                        · refine Go.run hsz hn 1 (pc' := 20) (lv' := [some (gi x), some (gi 5)]) (st' := [gi 5]) (M' := gw mi ml) rfl ?_
                          first | exact Go.iret (by rfl) ⟨congrArg (fun z => some (gi z)) (by unfold nmI; (repeat (first | rw [if_pos (by omega)] | rw [if_neg (by omega)]))), rfl⟩ | (exfalso; omega)
                    · refine Go.run hsz hn 1 (pc' := 20) (lv' := [some (gi x), some (gi 4)]) (st' := [gi 4]) (M' := gw mi ml) rfl ?_
                      first | exact Go.iret (by rfl) ⟨congrArg (fun z => some (gi z)) (by unfold nmI; (repeat (first | rw [if_pos (by omega)] | rw [if_neg (by omega)]))), rfl⟩ | (exfalso; omega)
                · refine Go.run hsz hn 1 (pc' := 20) (lv' := [some (gi x), some (gi 3)]) (st' := [gi 3]) (M' := gw mi ml) rfl ?_
                  first | exact Go.iret (by rfl) ⟨congrArg (fun z => some (gi z)) (by unfold nmI; (repeat (first | rw [if_pos (by omega)] | rw [if_neg (by omega)]))), rfl⟩ | (exfalso; omega)
            · refine Go.run hsz hn 1 (pc' := 20) (lv' := [some (gi x), some (gi 2)]) (st' := [gi 2]) (M' := gw mi ml) rfl ?_
              first | exact Go.iret (by rfl) ⟨congrArg (fun z => some (gi z)) (by unfold nmI; (repeat (first | rw [if_pos (by omega)] | rw [if_neg (by omega)]))), rfl⟩ | (exfalso; omega)
        · refine Go.run hsz hn 1 (pc' := 20) (lv' := [some (gi x), some (gi 1)]) (st' := [gi 1]) (M' := gw mi ml) rfl ?_
          first | exact Go.iret (by rfl) ⟨congrArg (fun z => some (gi z)) (by unfold nmI; (repeat (first | rw [if_pos (by omega)] | rw [if_neg (by omega)]))), rfl⟩ | (exfalso; omega)
    · refine Go.run hsz hn 1 (pc' := 20) (lv' := [some (gi x), some (gi 0)]) (st' := [gi 0]) (M' := gw mi ml) rfl ?_
      first | exact Go.iret (by rfl) ⟨congrArg (fun z => some (gi z)) (by unfold nmI; (repeat (first | rw [if_pos (by omega)] | rw [if_neg (by omega)]))), rfl⟩ | (exfalso; omega)
set_option maxRecDepth 100000 in
set_option maxHeartbeats 4000000 in
theorem cT_add {G : gG} (hsz : G.2.2.2.2.2.2 = true) {n : Nat} (hn : 1 ≤ n) (mi : Nat → Nat → Int) (ml : Nat → Nat → Int64) (t v s : Int) (h0 : 0 ≤ mi 132 9) (h1 : mi 132 9 ≤ 120) : gM G 81 n 0 0 [gr 132, gi t, gi v, gi s] (gw mi ml) (gvd (gw (mAdd mi t v s) ml)) := by
  refine gM.of mX9_addToken okX9_addToken (gcp 81 (by decide)).1 (gcp 81 (by decide)).2 (Nat.le_of_ble_eq_true rfl) ?_
  refine Go.run hsz hn 3 (pc' := 6) (lv' := [some (gr 132), some (gi t), some (gi v), some (gi s)]) (st' := [gi 120, gi (mi 132 9)]) (M' := gw mi ml) rfl ?_
  refine Go.icmp_gt (by rfl) ⟨by omega, by omega⟩ ⟨by decide, by decide⟩ (fun kq1 => ?_) (fun kq1 => ?_)
  · first | exact Go.vret (by rfl) ⟨rfl, rfl⟩ | (exfalso; omega)
  · refine Go.run hsz hn 5 (pc' := 18) (lv' := [some (gr 132), some (gi t), some (gi v), some (gi s)]) (st' := [gi t, gi (mi 132 9), gr 135]) (M' := gw mi ml) rfl ?_
    refine Go.iast (by rfl) (N := 121) (by rfl) (by omega) (by omega) (by decide) ?_
    refine Go.run hsz hn 4 (pc' := 27) (lv' := [some (gr 132), some (gi t), some (gi v), some (gi s)]) (st' := [gi ((gu mi 135 ((mi 132 9).toNat) t) 132 9), gr 136]) (M' := gw (gu mi 135 ((mi 132 9).toNat) t) ml) rfl ?_
    refine Go.run hsz hn 0 (pc' := 27) (lv' := [some (gr 132), some (gi t), some (gi v), some (gi s)]) (st' := [gi ((gu mi 135 ((mi 132 9).toNat) t) 132 9), gr 136]) (M' := gw (gu mi 135 ((mi 132 9).toNat) t) ml) rfl ?_
    rw [show (gu mi 135 ((mi 132 9).toNat) t) 132 9 = mi 132 9 from gu_ne (Or.inl (by decide))]
    refine Go.run hsz hn 1 (pc' := 28) (lv' := [some (gr 132), some (gi t), some (gi v), some (gi s)]) (st' := [gi v, gi (mi 132 9), gr 136]) (M' := gw (gu mi 135 ((mi 132 9).toNat) t) ml) rfl ?_
    refine Go.iast (by rfl) (N := 121) (by rfl) (by omega) (by omega) (by decide) ?_
    refine Go.run hsz hn 4 (pc' := 37) (lv' := [some (gr 132), some (gi t), some (gi v), some (gi s)]) (st' := [gi ((gu (gu mi 135 ((mi 132 9).toNat) t) 136 ((mi 132 9).toNat) v) 132 9), gr 137]) (M' := gw (gu (gu mi 135 ((mi 132 9).toNat) t) 136 ((mi 132 9).toNat) v) ml) rfl ?_
    refine Go.run hsz hn 0 (pc' := 37) (lv' := [some (gr 132), some (gi t), some (gi v), some (gi s)]) (st' := [gi ((gu (gu mi 135 ((mi 132 9).toNat) t) 136 ((mi 132 9).toNat) v) 132 9), gr 137]) (M' := gw (gu (gu mi 135 ((mi 132 9).toNat) t) 136 ((mi 132 9).toNat) v) ml) rfl ?_
    rw [show (gu (gu mi 135 ((mi 132 9).toNat) t) 136 ((mi 132 9).toNat) v) 132 9 = mi 132 9 from (gu_ne (Or.inl (by decide))).trans (gu_ne (Or.inl (by decide)))]
    refine Go.run hsz hn 1 (pc' := 38) (lv' := [some (gr 132), some (gi t), some (gi v), some (gi s)]) (st' := [gi s, gi (mi 132 9), gr 137]) (M' := gw (gu (gu mi 135 ((mi 132 9).toNat) t) 136 ((mi 132 9).toNat) v) ml) rfl ?_
    refine Go.iast (by rfl) (N := 121) (by rfl) (by omega) (by omega) (by decide) ?_
    refine Go.run hsz hn 3 (pc' := 44) (lv' := [some (gr 132), some (gi t), some (gi v), some (gi s)]) (st' := [gi ((gu (gu (gu mi 135 ((mi 132 9).toNat) t) 136 ((mi 132 9).toNat) v) 137 ((mi 132 9).toNat) s) 132 9), gr 132]) (M' := gw (gu (gu (gu mi 135 ((mi 132 9).toNat) t) 136 ((mi 132 9).toNat) v) 137 ((mi 132 9).toNat) s) ml) rfl ?_
    refine Go.run hsz hn 0 (pc' := 44) (lv' := [some (gr 132), some (gi t), some (gi v), some (gi s)]) (st' := [gi ((gu (gu (gu mi 135 ((mi 132 9).toNat) t) 136 ((mi 132 9).toNat) v) 137 ((mi 132 9).toNat) s) 132 9), gr 132]) (M' := gw (gu (gu (gu mi 135 ((mi 132 9).toNat) t) 136 ((mi 132 9).toNat) v) 137 ((mi 132 9).toNat) s) ml) rfl ?_
    rw [show (gu (gu (gu mi 135 ((mi 132 9).toNat) t) 136 ((mi 132 9).toNat) v) 137 ((mi 132 9).toNat) s) 132 9 = mi 132 9 from (gu_ne (Or.inl (by decide))).trans ((gu_ne (Or.inl (by decide))).trans (gu_ne (Or.inl (by decide))))]
    refine Go.run hsz hn 3 (pc' := 49) (lv' := [some (gr 132), some (gi t), some (gi v), some (gi s)]) (st' := []) (M' := gw (gu (gu (gu (gu mi 135 ((mi 132 9).toNat) t) 136 ((mi 132 9).toNat) v) 137 ((mi 132 9).toNat) s) 132 9 ((mi 132 9) + 1)) ml) rfl ?_
    first | exact Go.vret (by rfl) ⟨rfl, rfl⟩ | (exfalso; omega)
theorem nV_b {b : Nat → Int} {i m : Nat} (h : ∀ j, i ≤ j → j < i + m → lD (b j)) : 0 ≤ nV b i m ∧ nV b i m ≤ 10000 := by
  have := nV_rV m h
  rw [this.2]
  split <;> omega
theorem lEnd_i {p : Int → Prop} {b : Nat → Int} {n : Nat} {s q : Int} (h : ∀ j : Nat, s.toNat ≤ j → j < q.toNat → p (b j)) (hs : s ≤ q) (hq : q ≤ (n : Int)) (s0 : 0 ≤ s) (he : q = n ∨ ¬ p (b q.toNat)) : lEnd p b n s.toNat q.toNat := ⟨by omega, by omega, h, by rcases he with e | e; (· exact Or.inl (by omega)); (· exact Or.inr e)⟩
set_option maxRecDepth 100000 in
set_option maxHeartbeats 4000000 in
theorem lT_num {G : gG} (hsz : G.2.2.2.2.2.2 = true) {n : Nat} (hn : 2 ≤ n) (ml : Nat → Nat → Int64) (m : Nat → Nat → Int) (hR : gR32 m) (hz : 0 ≤ m 132 0 ∧ m 132 0 ≤ 120) (hb : ∀ i : Nat, (i : Int) < m 132 0 → 0 ≤ m 134 i ∧ m 134 i ≤ 255) (h0 : 0 ≤ m 132 9) (h1 : m 132 9 ≤ 120) (s : Int) (s0 : 0 ≤ s) (s1 : s < m 132 0) : ∀ (f : Nat) (q : Int) (hd : ∀ j : Nat, s.toNat ≤ j → j < q.toNat → lD (m 134 j)), s ≤ q → q ≤ m 132 0 → m 132 0 - q < f → Go G mX9_cutNumber n 0 0 4 [some (gr 132), some (gi s), some (gi (nV (m 134) s.toNat (q - s).toNat)), some (gi q)] [] (gw m ml) (fun r M => ∃ e : Nat, lEnd lD (m 134) (m 132 0).toNat s.toNat e ∧ r = some (gi (e : Int)) ∧ M = gw (mAdd m (if 9999 < nV (m 134) s.toNat (e - s.toNat) then 3 else 1) (nV (m 134) s.toNat (e - s.toNat)) s) ml) := by
  have hn1 : 1 ≤ n := by omega

  intro f
  induction f with
  | zero => intros; omega
  | succ f ih =>
    intro q hd q0 q1 q2
    have hnv := nV_b (b := m 134) (i := s.toNat) (m := (q - s).toNat) (fun j a1 a2 => hd j a1 (by omega))
    have hbq := hb q.toNat
    refine Go.run hsz hn1 3 (pc' := 9) (lv' := [some (gr 132), some (gi s), some (gi (nV (m 134) s.toNat (q - s).toNat)), some (gi q)]) (st' := [gi (m 132 0), gi q]) (M' := gw m ml) rfl ?_
    refine Go.icmp_ge (by rfl) ⟨by omega, by omega⟩ (hR _ _) (fun kq1 => ?_) (fun kq1 => ?_)
    · refine Go.run hsz hn1 3 (pc' := 56) (lv' := [some (gr 132), some (gi s), some (gi (nV (m 134) s.toNat (q - s).toNat)), some (gi q)]) (st' := [gi 9999, gi (nV (m 134) s.toNat (q - s).toNat), gr 132]) (M' := gw m ml) rfl ?_
      refine Go.icmp_le (by rfl) ⟨by omega, by omega⟩ ⟨by decide, by decide⟩ (fun kq2 => ?_) (fun kq2 => ?_)
      · refine Go.run hsz hn1 3 (pc' := 66) (lv' := [some (gr 132), some (gi s), some (gi (nV (m 134) s.toNat (q - s).toNat)), some (gi q)]) (st' := [gi s, gi (nV (m 134) s.toNat (q - s).toNat), gi 1, gr 132]) (M' := gw m ml) rfl ?_
        refine Go.callV (As := [gi 1, gi (nV (m 134) s.toNat (q - s).toNat), gi s]) (b := 132) (st := []) (mc1 := 0) (mc := 0) (ms1 := 0) (ms := 0) (by rfl) rfl (c := 8) (N := 11) (by rfl) (by decide) (by rfl) (gcn 81 (by decide)).1 (gcn 81 (by decide)).2 rfl (Nat.le_of_ble_eq_true rfl) (by omega) (cT_add hsz (n := n - 1) (by omega) m ml 1 (nV (m 134) s.toNat (q - s).toNat) s (by omega) (by omega)) ?_
        rintro _ _ ⟨rfl, rfl⟩
        refine Go.run hsz hn1 1 (pc' := 70) (lv' := [some (gr 132), some (gi s), some (gi (nV (m 134) s.toNat (q - s).toNat)), some (gi q)]) (st' := [gi q]) (M' := gw (mAdd m 1 (nV (m 134) s.toNat (q - s).toNat) s) ml) rfl ?_
        refine Go.iret (by rfl) ⟨q.toNat, lEnd_i hd (by omega) (by omega) s0 (by first | exact Or.inl (by omega) | exact Or.inr (by assumption)), (by rw [show ((q.toNat : Nat) : Int) = q by omega]), ?_⟩
        rw [show q.toNat - s.toNat = (q - s).toNat by omega]
        first | rw [if_pos (by omega)] | rw [if_neg (by omega)]
      · refine Go.run hsz hn1 4 (pc' := 66) (lv' := [some (gr 132), some (gi s), some (gi (nV (m 134) s.toNat (q - s).toNat)), some (gi q)]) (st' := [gi s, gi (nV (m 134) s.toNat (q - s).toNat), gi 3, gr 132]) (M' := gw m ml) rfl ?_
        refine Go.callV (As := [gi 3, gi (nV (m 134) s.toNat (q - s).toNat), gi s]) (b := 132) (st := []) (mc1 := 0) (mc := 0) (ms1 := 0) (ms := 0) (by rfl) rfl (c := 8) (N := 11) (by rfl) (by decide) (by rfl) (gcn 81 (by decide)).1 (gcn 81 (by decide)).2 rfl (Nat.le_of_ble_eq_true rfl) (by omega) (cT_add hsz (n := n - 1) (by omega) m ml 3 (nV (m 134) s.toNat (q - s).toNat) s (by omega) (by omega)) ?_
        rintro _ _ ⟨rfl, rfl⟩
        refine Go.run hsz hn1 1 (pc' := 70) (lv' := [some (gr 132), some (gi s), some (gi (nV (m 134) s.toNat (q - s).toNat)), some (gi q)]) (st' := [gi q]) (M' := gw (mAdd m 3 (nV (m 134) s.toNat (q - s).toNat) s) ml) rfl ?_
        refine Go.iret (by rfl) ⟨q.toNat, lEnd_i hd (by omega) (by omega) s0 (by first | exact Or.inl (by omega) | exact Or.inr (by assumption)), (by rw [show ((q.toNat : Nat) : Int) = q by omega]), ?_⟩
        rw [show q.toNat - s.toNat = (q - s).toNat by omega]
        first | rw [if_pos (by omega)] | rw [if_neg (by omega)]
    · refine Go.run hsz hn1 3 (pc' := 17) (lv' := [some (gr 132), some (gi s), some (gi (nV (m 134) s.toNat (q - s).toNat)), some (gi q)]) (st' := [gi q, gr 134]) (M' := gw m ml) rfl ?_
      refine Go.iald (by rfl) (N := 120) (by rfl) (by omega) (by omega) (by decide) ?_
      refine Go.run hsz hn1 0 (pc' := 18) (lv' := [some (gr 132), some (gi s), some (gi (nV (m 134) s.toNat (q - s).toNat)), some (gi q)]) (st' := [gi (m 134 q.toNat)]) (M' := gw m ml) rfl ?_
      refine Go.callS (As := [gi (m 134 q.toNat)]) (st := []) (mc1 := 0) (mc := 0) (ms1 := 0) (ms := 0) (by rfl) rfl (gcn 85 (by decide)).1 (gcn 85 (by decide)).2 (Nat.le_of_ble_eq_true rfl) (by omega) (cT_isD hsz (n := n - 1) (by omega) m ml (m 134 q.toNat) (hR _ _)) ?_
      rintro _ _ ⟨rfl, rfl⟩
      refine Go.run hsz hn1 0 (pc' := 21) (lv' := [some (gr 132), some (gi s), some (gi (nV (m 134) s.toNat (q - s).toNat)), some (gi q)]) (st' := [gi (b2 (lD (m 134 q.toNat)))]) (M' := gw m ml) rfl ?_
      refine Go.if_eq (by rfl) (b2_rng _) (fun kq3 => ?_) (fun kq3 => ?_)
      · replace kq3 := b2_neg kq3
        refine Go.run hsz hn1 3 (pc' := 56) (lv' := [some (gr 132), some (gi s), some (gi (nV (m 134) s.toNat (q - s).toNat)), some (gi q)]) (st' := [gi 9999, gi (nV (m 134) s.toNat (q - s).toNat), gr 132]) (M' := gw m ml) rfl ?_
        refine Go.icmp_le (by rfl) ⟨by omega, by omega⟩ ⟨by decide, by decide⟩ (fun kq4 => ?_) (fun kq4 => ?_)
        · refine Go.run hsz hn1 3 (pc' := 66) (lv' := [some (gr 132), some (gi s), some (gi (nV (m 134) s.toNat (q - s).toNat)), some (gi q)]) (st' := [gi s, gi (nV (m 134) s.toNat (q - s).toNat), gi 1, gr 132]) (M' := gw m ml) rfl ?_
          refine Go.callV (As := [gi 1, gi (nV (m 134) s.toNat (q - s).toNat), gi s]) (b := 132) (st := []) (mc1 := 0) (mc := 0) (ms1 := 0) (ms := 0) (by rfl) rfl (c := 8) (N := 11) (by rfl) (by decide) (by rfl) (gcn 81 (by decide)).1 (gcn 81 (by decide)).2 rfl (Nat.le_of_ble_eq_true rfl) (by omega) (cT_add hsz (n := n - 1) (by omega) m ml 1 (nV (m 134) s.toNat (q - s).toNat) s (by omega) (by omega)) ?_
          rintro _ _ ⟨rfl, rfl⟩
          refine Go.run hsz hn1 1 (pc' := 70) (lv' := [some (gr 132), some (gi s), some (gi (nV (m 134) s.toNat (q - s).toNat)), some (gi q)]) (st' := [gi q]) (M' := gw (mAdd m 1 (nV (m 134) s.toNat (q - s).toNat) s) ml) rfl ?_
          refine Go.iret (by rfl) ⟨q.toNat, lEnd_i hd (by omega) (by omega) s0 (by first | exact Or.inl (by omega) | exact Or.inr (by assumption)), (by rw [show ((q.toNat : Nat) : Int) = q by omega]), ?_⟩
          rw [show q.toNat - s.toNat = (q - s).toNat by omega]
          first | rw [if_pos (by omega)] | rw [if_neg (by omega)]
        · refine Go.run hsz hn1 4 (pc' := 66) (lv' := [some (gr 132), some (gi s), some (gi (nV (m 134) s.toNat (q - s).toNat)), some (gi q)]) (st' := [gi s, gi (nV (m 134) s.toNat (q - s).toNat), gi 3, gr 132]) (M' := gw m ml) rfl ?_
          refine Go.callV (As := [gi 3, gi (nV (m 134) s.toNat (q - s).toNat), gi s]) (b := 132) (st := []) (mc1 := 0) (mc := 0) (ms1 := 0) (ms := 0) (by rfl) rfl (c := 8) (N := 11) (by rfl) (by decide) (by rfl) (gcn 81 (by decide)).1 (gcn 81 (by decide)).2 rfl (Nat.le_of_ble_eq_true rfl) (by omega) (cT_add hsz (n := n - 1) (by omega) m ml 3 (nV (m 134) s.toNat (q - s).toNat) s (by omega) (by omega)) ?_
          rintro _ _ ⟨rfl, rfl⟩
          refine Go.run hsz hn1 1 (pc' := 70) (lv' := [some (gr 132), some (gi s), some (gi (nV (m 134) s.toNat (q - s).toNat)), some (gi q)]) (st' := [gi q]) (M' := gw (mAdd m 3 (nV (m 134) s.toNat (q - s).toNat) s) ml) rfl ?_
          refine Go.iret (by rfl) ⟨q.toNat, lEnd_i hd (by omega) (by omega) s0 (by first | exact Or.inl (by omega) | exact Or.inr (by assumption)), (by rw [show ((q.toNat : Nat) : Int) = q by omega]), ?_⟩
          rw [show q.toNat - s.toNat = (q - s).toNat by omega]
          first | rw [if_pos (by omega)] | rw [if_neg (by omega)]
      · replace kq3 := b2_pos kq3
        refine Go.run hsz hn1 7 (pc' := 36) (lv' := [some (gr 132), some (gi s), some (gi (nV (m 134) s.toNat (q - s).toNat)), some (gi q)]) (st' := [gi q, gr 134, gi (10 * (nV (m 134) s.toNat (q - s).toNat)), gi 10000]) (M' := gw m ml) rfl ?_
        refine Go.iald (by rfl) (N := 120) (by rfl) (by omega) (by omega) (by decide) ?_
        refine Go.run hsz hn1 3 (pc' := 41) (lv' := [some (gr 132), some (gi s), some (gi (nV (m 134) s.toNat (q - s).toNat)), some (gi q)]) (st' := [gi (((10 * (nV (m 134) s.toNat (q - s).toNat)) + (m 134 q.toNat)) - 48), gi 10000]) (M' := gw m ml) rfl ?_
        refine Go.mmin (by rfl) hn1 (Nat.le_of_ble_eq_true rfl) ⟨by decide, by decide⟩ ⟨by omega, by omega⟩ ?_
        refine Go.run hsz hn1 3 (pc' := 4) (lv' := [some (gr 132), some (gi s), some (gi (if ((10 * (nV (m 134) s.toNat (q - s).toNat)) + (m 134 q.toNat)) - 48 < 10000 then ((10 * (nV (m 134) s.toNat (q - s).toNat)) + (m 134 q.toNat)) - 48 else 10000)), some (gi (q + 1))]) (st' := []) (M' := gw m ml) rfl ?_
        have hdq : lD (m 134 q.toNat) := (by assumption)
        have h9 := ih (q + 1) (fun j a1 a2 => (by by_cases e : j = q.toNat; (· rw [e]; exact hdq); (· exact hd j a1 (by omega)))) (by omega) (by omega) (by omega)
        rw [show nV (m 134) s.toNat (q + 1 - s).toNat = if ((10 * (nV (m 134) s.toNat (q - s).toNat)) + (m 134 q.toNat)) - 48 < 10000 then ((10 * (nV (m 134) s.toNat (q - s).toNat)) + (m 134 q.toNat)) - 48 else 10000 from ?_] at h9
        · exact h9
        · rw [show (q + 1 - s).toNat = (q - s).toNat + 1 by omega]; show (if _ then _ else _) = _; rw [show s.toNat + (q - s).toNat = q.toNat by omega]
set_option maxRecDepth 100000 in
set_option maxHeartbeats 4000000 in
theorem cT_num {G : gG} (hsz : G.2.2.2.2.2.2 = true) {n : Nat} (hn : 3 ≤ n) (ml : Nat → Nat → Int64) (m : Nat → Nat → Int) (hR : gR32 m) (hz : 0 ≤ m 132 0 ∧ m 132 0 ≤ 120) (hb : ∀ i : Nat, (i : Int) < m 132 0 → 0 ≤ m 134 i ∧ m 134 i ≤ 255) (h0 : 0 ≤ m 132 9) (h1 : m 132 9 ≤ 120) (s : Int) (s0 : 0 ≤ s) (s1 : s < m 132 0) : gM G 82 n 0 0 [gr 132, gi s] (gw m ml) (fun r M => ∃ e : Nat, lEnd lD (m 134) (m 132 0).toNat s.toNat e ∧ r = some (gi (e : Int)) ∧ M = gw (mAdd m (if 9999 < nV (m 134) s.toNat (e - s.toNat) then 3 else 1) (nV (m 134) s.toNat (e - s.toNat)) s) ml) := by
  have hn1 : 1 ≤ n := by omega
  refine gM.of mX9_cutNumber okX9_cutNumber (gcp 82 (by decide)).1 (gcp 82 (by decide)).2 (Nat.le_of_ble_eq_true rfl) ?_
  refine Go.run hsz hn1 4 (pc' := 4) (lv' := [some (gr 132), some (gi s), some (gi 0), some (gi s)]) (st' := []) (M' := gw m ml) rfl ?_
  have h9 := lT_num hsz (n := n) (by omega) ml m hR hz hb h0 h1 s s0 s1 ((m 132 0 - s).toNat + 1) s (fun j a1 a2 => by omega) (by omega) (by omega) (by omega); rw [show (s - s).toNat = 0 by omega] at h9; exact h9
set_option maxRecDepth 100000 in
set_option maxHeartbeats 4000000 in
theorem lT_word {G : gG} (hsz : G.2.2.2.2.2.2 = true) {n : Nat} (hn : 2 ≤ n) (ml : Nat → Nat → Int64) (m : Nat → Nat → Int) (hR : gR32 m) (hz : 0 ≤ m 132 0 ∧ m 132 0 ≤ 120) (hb : ∀ i : Nat, (i : Int) < m 132 0 → 0 ≤ m 134 i ∧ m 134 i ≤ 255) (h0 : 0 ≤ m 132 9) (h1 : m 132 9 ≤ 120) (s : Int) (s0 : 0 ≤ s) (s1 : s < m 132 0) : ∀ (f : Nat) (q : Int) (hd : ∀ j : Nat, s.toNat ≤ j → j < q.toNat → lA (m 134 j)), s ≤ q → q ≤ m 132 0 → m 132 0 - q < f → Go G mX9_cutWord n 0 0 2 [some (gr 132), some (gi s), some (gi q), none] [] (gw m ml) (fun r M => ∃ e : Nat, lEnd lA (m 134) (m 132 0).toNat s.toNat e ∧ r = some (gi (e : Int)) ∧ M = gw (mAdd m (if e = s.toNat + 1 ∧ 0 ≤ nmI (m 134 s.toNat) then 2 else 3) (nmI (m 134 s.toNat)) s) ml) := by
  have hn1 : 1 ≤ n := by omega

  intro f
  induction f with
  | zero => intros; omega
  | succ f ih =>
    intro q hd q0 q1 q2
    have hbq := hb q.toNat
    have hnn := nmI_nm (m 134 s.toNat)
    refine Go.run hsz hn1 3 (pc' := 7) (lv' := [some (gr 132), some (gi s), some (gi q), none]) (st' := [gi (m 132 0), gi q]) (M' := gw m ml) rfl ?_
    refine Go.icmp_ge (by rfl) ⟨by omega, by omega⟩ (hR _ _) (fun kq1 => ?_) (fun kq1 => ?_)
    · refine Go.run hsz hn1 3 (pc' := 33) (lv' := [some (gr 132), some (gi s), some (gi q), none]) (st' := [gi s, gr 134]) (M' := gw m ml) rfl ?_
      refine Go.iald (by rfl) (N := 120) (by rfl) (by omega) (by omega) (by decide) ?_
      refine Go.run hsz hn1 0 (pc' := 34) (lv' := [some (gr 132), some (gi s), some (gi q), none]) (st' := [gi (m 134 s.toNat)]) (M' := gw m ml) rfl ?_
      refine Go.callS (As := [gi (m 134 s.toNat)]) (st := []) (mc1 := 0) (mc := 0) (ms1 := 0) (ms := 0) (by rfl) rfl (gcn 84 (by decide)).1 (gcn 84 (by decide)).2 (Nat.le_of_ble_eq_true rfl) (by omega) (cT_nm hsz (n := n - 1) (by omega) m ml (m 134 s.toNat) (hR _ _)) ?_
      rintro _ _ ⟨rfl, rfl⟩
      refine Go.run hsz hn1 6 (pc' := 43) (lv' := [some (gr 132), some (gi s), some (gi q), some (gi (nmI (m 134 s.toNat)))]) (st' := [gi (s + 1), gi q, gr 132]) (M' := gw m ml) rfl ?_
      refine Go.icmp_ne (by rfl) ⟨by omega, by omega⟩ ⟨by omega, by omega⟩ (fun kq2 => ?_) (fun kq2 => ?_)
      · refine Go.run hsz hn1 3 (pc' := 57) (lv' := [some (gr 132), some (gi s), some (gi q), some (gi (nmI (m 134 s.toNat)))]) (st' := [gi s, gi (nmI (m 134 s.toNat)), gi 3, gr 132]) (M' := gw m ml) rfl ?_
        refine Go.callV (As := [gi 3, gi (nmI (m 134 s.toNat)), gi s]) (b := 132) (st := []) (mc1 := 0) (mc := 0) (ms1 := 0) (ms := 0) (by rfl) rfl (c := 8) (N := 11) (by rfl) (by decide) (by rfl) (gcn 81 (by decide)).1 (gcn 81 (by decide)).2 rfl (Nat.le_of_ble_eq_true rfl) (by omega) (cT_add hsz (n := n - 1) (by omega) m ml 3 (nmI (m 134 s.toNat)) s (by omega) (by omega)) ?_
        rintro _ _ ⟨rfl, rfl⟩
        refine Go.run hsz hn1 1 (pc' := 61) (lv' := [some (gr 132), some (gi s), some (gi q), some (gi (nmI (m 134 s.toNat)))]) (st' := [gi q]) (M' := gw (mAdd m 3 (nmI (m 134 s.toNat)) s) ml) rfl ?_
        refine Go.iret (by rfl) ⟨q.toNat, lEnd_i hd (by omega) (by omega) s0 (by first | exact Or.inl (by omega) | exact Or.inr (by assumption)), (by rw [show ((q.toNat : Nat) : Int) = q by omega]), ?_⟩
        first | rw [if_pos (by omega)] | rw [if_neg (by omega)]
      · refine Go.run hsz hn1 1 (pc' := 47) (lv' := [some (gr 132), some (gi s), some (gi q), some (gi (nmI (m 134 s.toNat)))]) (st' := [gi (nmI (m 134 s.toNat)), gr 132]) (M' := gw m ml) rfl ?_
        refine Go.if_lt (by rfl) ⟨by omega, by omega⟩ (fun kq3 => ?_) (fun kq3 => ?_)
        · refine Go.run hsz hn1 3 (pc' := 57) (lv' := [some (gr 132), some (gi s), some (gi q), some (gi (nmI (m 134 s.toNat)))]) (st' := [gi s, gi (nmI (m 134 s.toNat)), gi 3, gr 132]) (M' := gw m ml) rfl ?_
          refine Go.callV (As := [gi 3, gi (nmI (m 134 s.toNat)), gi s]) (b := 132) (st := []) (mc1 := 0) (mc := 0) (ms1 := 0) (ms := 0) (by rfl) rfl (c := 8) (N := 11) (by rfl) (by decide) (by rfl) (gcn 81 (by decide)).1 (gcn 81 (by decide)).2 rfl (Nat.le_of_ble_eq_true rfl) (by omega) (cT_add hsz (n := n - 1) (by omega) m ml 3 (nmI (m 134 s.toNat)) s (by omega) (by omega)) ?_
          rintro _ _ ⟨rfl, rfl⟩
          refine Go.run hsz hn1 1 (pc' := 61) (lv' := [some (gr 132), some (gi s), some (gi q), some (gi (nmI (m 134 s.toNat)))]) (st' := [gi q]) (M' := gw (mAdd m 3 (nmI (m 134 s.toNat)) s) ml) rfl ?_
          refine Go.iret (by rfl) ⟨q.toNat, lEnd_i hd (by omega) (by omega) s0 (by first | exact Or.inl (by omega) | exact Or.inr (by assumption)), (by rw [show ((q.toNat : Nat) : Int) = q by omega]), ?_⟩
          first | rw [if_pos (by omega)] | rw [if_neg (by omega)]
        · refine Go.run hsz hn1 4 (pc' := 57) (lv' := [some (gr 132), some (gi s), some (gi q), some (gi (nmI (m 134 s.toNat)))]) (st' := [gi s, gi (nmI (m 134 s.toNat)), gi 2, gr 132]) (M' := gw m ml) rfl ?_
          refine Go.callV (As := [gi 2, gi (nmI (m 134 s.toNat)), gi s]) (b := 132) (st := []) (mc1 := 0) (mc := 0) (ms1 := 0) (ms := 0) (by rfl) rfl (c := 8) (N := 11) (by rfl) (by decide) (by rfl) (gcn 81 (by decide)).1 (gcn 81 (by decide)).2 rfl (Nat.le_of_ble_eq_true rfl) (by omega) (cT_add hsz (n := n - 1) (by omega) m ml 2 (nmI (m 134 s.toNat)) s (by omega) (by omega)) ?_
          rintro _ _ ⟨rfl, rfl⟩
          refine Go.run hsz hn1 1 (pc' := 61) (lv' := [some (gr 132), some (gi s), some (gi q), some (gi (nmI (m 134 s.toNat)))]) (st' := [gi q]) (M' := gw (mAdd m 2 (nmI (m 134 s.toNat)) s) ml) rfl ?_
          refine Go.iret (by rfl) ⟨q.toNat, lEnd_i hd (by omega) (by omega) s0 (by first | exact Or.inl (by omega) | exact Or.inr (by assumption)), (by rw [show ((q.toNat : Nat) : Int) = q by omega]), ?_⟩
          first | rw [if_pos (by omega)] | rw [if_neg (by omega)]
    · refine Go.run hsz hn1 3 (pc' := 15) (lv' := [some (gr 132), some (gi s), some (gi q), none]) (st' := [gi q, gr 134]) (M' := gw m ml) rfl ?_
      refine Go.iald (by rfl) (N := 120) (by rfl) (by omega) (by omega) (by decide) ?_
      refine Go.run hsz hn1 0 (pc' := 16) (lv' := [some (gr 132), some (gi s), some (gi q), none]) (st' := [gi (m 134 q.toNat)]) (M' := gw m ml) rfl ?_
      refine Go.callS (As := [gi (m 134 q.toNat)]) (st := []) (mc1 := 0) (mc := 0) (ms1 := 0) (ms := 0) (by rfl) rfl (gcn 86 (by decide)).1 (gcn 86 (by decide)).2 (Nat.le_of_ble_eq_true rfl) (by omega) (cT_isA hsz (n := n - 1) (by omega) m ml (m 134 q.toNat) (hR _ _)) ?_
      rintro _ _ ⟨rfl, rfl⟩
      refine Go.run hsz hn1 0 (pc' := 19) (lv' := [some (gr 132), some (gi s), some (gi q), none]) (st' := [gi (b2 (lA (m 134 q.toNat)))]) (M' := gw m ml) rfl ?_
      refine Go.if_eq (by rfl) (b2_rng _) (fun kq4 => ?_) (fun kq4 => ?_)
      · replace kq4 := b2_neg kq4
        refine Go.run hsz hn1 3 (pc' := 33) (lv' := [some (gr 132), some (gi s), some (gi q), none]) (st' := [gi s, gr 134]) (M' := gw m ml) rfl ?_
        refine Go.iald (by rfl) (N := 120) (by rfl) (by omega) (by omega) (by decide) ?_
        refine Go.run hsz hn1 0 (pc' := 34) (lv' := [some (gr 132), some (gi s), some (gi q), none]) (st' := [gi (m 134 s.toNat)]) (M' := gw m ml) rfl ?_
        refine Go.callS (As := [gi (m 134 s.toNat)]) (st := []) (mc1 := 0) (mc := 0) (ms1 := 0) (ms := 0) (by rfl) rfl (gcn 84 (by decide)).1 (gcn 84 (by decide)).2 (Nat.le_of_ble_eq_true rfl) (by omega) (cT_nm hsz (n := n - 1) (by omega) m ml (m 134 s.toNat) (hR _ _)) ?_
        rintro _ _ ⟨rfl, rfl⟩
        refine Go.run hsz hn1 6 (pc' := 43) (lv' := [some (gr 132), some (gi s), some (gi q), some (gi (nmI (m 134 s.toNat)))]) (st' := [gi (s + 1), gi q, gr 132]) (M' := gw m ml) rfl ?_
        refine Go.icmp_ne (by rfl) ⟨by omega, by omega⟩ ⟨by omega, by omega⟩ (fun kq5 => ?_) (fun kq5 => ?_)
        · refine Go.run hsz hn1 3 (pc' := 57) (lv' := [some (gr 132), some (gi s), some (gi q), some (gi (nmI (m 134 s.toNat)))]) (st' := [gi s, gi (nmI (m 134 s.toNat)), gi 3, gr 132]) (M' := gw m ml) rfl ?_
          refine Go.callV (As := [gi 3, gi (nmI (m 134 s.toNat)), gi s]) (b := 132) (st := []) (mc1 := 0) (mc := 0) (ms1 := 0) (ms := 0) (by rfl) rfl (c := 8) (N := 11) (by rfl) (by decide) (by rfl) (gcn 81 (by decide)).1 (gcn 81 (by decide)).2 rfl (Nat.le_of_ble_eq_true rfl) (by omega) (cT_add hsz (n := n - 1) (by omega) m ml 3 (nmI (m 134 s.toNat)) s (by omega) (by omega)) ?_
          rintro _ _ ⟨rfl, rfl⟩
          refine Go.run hsz hn1 1 (pc' := 61) (lv' := [some (gr 132), some (gi s), some (gi q), some (gi (nmI (m 134 s.toNat)))]) (st' := [gi q]) (M' := gw (mAdd m 3 (nmI (m 134 s.toNat)) s) ml) rfl ?_
          refine Go.iret (by rfl) ⟨q.toNat, lEnd_i hd (by omega) (by omega) s0 (by first | exact Or.inl (by omega) | exact Or.inr (by assumption)), (by rw [show ((q.toNat : Nat) : Int) = q by omega]), ?_⟩
          first | rw [if_pos (by omega)] | rw [if_neg (by omega)]
        · refine Go.run hsz hn1 1 (pc' := 47) (lv' := [some (gr 132), some (gi s), some (gi q), some (gi (nmI (m 134 s.toNat)))]) (st' := [gi (nmI (m 134 s.toNat)), gr 132]) (M' := gw m ml) rfl ?_
          refine Go.if_lt (by rfl) ⟨by omega, by omega⟩ (fun kq6 => ?_) (fun kq6 => ?_)
          · refine Go.run hsz hn1 3 (pc' := 57) (lv' := [some (gr 132), some (gi s), some (gi q), some (gi (nmI (m 134 s.toNat)))]) (st' := [gi s, gi (nmI (m 134 s.toNat)), gi 3, gr 132]) (M' := gw m ml) rfl ?_
            refine Go.callV (As := [gi 3, gi (nmI (m 134 s.toNat)), gi s]) (b := 132) (st := []) (mc1 := 0) (mc := 0) (ms1 := 0) (ms := 0) (by rfl) rfl (c := 8) (N := 11) (by rfl) (by decide) (by rfl) (gcn 81 (by decide)).1 (gcn 81 (by decide)).2 rfl (Nat.le_of_ble_eq_true rfl) (by omega) (cT_add hsz (n := n - 1) (by omega) m ml 3 (nmI (m 134 s.toNat)) s (by omega) (by omega)) ?_
            rintro _ _ ⟨rfl, rfl⟩
            refine Go.run hsz hn1 1 (pc' := 61) (lv' := [some (gr 132), some (gi s), some (gi q), some (gi (nmI (m 134 s.toNat)))]) (st' := [gi q]) (M' := gw (mAdd m 3 (nmI (m 134 s.toNat)) s) ml) rfl ?_
            refine Go.iret (by rfl) ⟨q.toNat, lEnd_i hd (by omega) (by omega) s0 (by first | exact Or.inl (by omega) | exact Or.inr (by assumption)), (by rw [show ((q.toNat : Nat) : Int) = q by omega]), ?_⟩
            first | rw [if_pos (by omega)] | rw [if_neg (by omega)]
          · refine Go.run hsz hn1 4 (pc' := 57) (lv' := [some (gr 132), some (gi s), some (gi q), some (gi (nmI (m 134 s.toNat)))]) (st' := [gi s, gi (nmI (m 134 s.toNat)), gi 2, gr 132]) (M' := gw m ml) rfl ?_
            refine Go.callV (As := [gi 2, gi (nmI (m 134 s.toNat)), gi s]) (b := 132) (st := []) (mc1 := 0) (mc := 0) (ms1 := 0) (ms := 0) (by rfl) rfl (c := 8) (N := 11) (by rfl) (by decide) (by rfl) (gcn 81 (by decide)).1 (gcn 81 (by decide)).2 rfl (Nat.le_of_ble_eq_true rfl) (by omega) (cT_add hsz (n := n - 1) (by omega) m ml 2 (nmI (m 134 s.toNat)) s (by omega) (by omega)) ?_
            rintro _ _ ⟨rfl, rfl⟩
            refine Go.run hsz hn1 1 (pc' := 61) (lv' := [some (gr 132), some (gi s), some (gi q), some (gi (nmI (m 134 s.toNat)))]) (st' := [gi q]) (M' := gw (mAdd m 2 (nmI (m 134 s.toNat)) s) ml) rfl ?_
            refine Go.iret (by rfl) ⟨q.toNat, lEnd_i hd (by omega) (by omega) s0 (by first | exact Or.inl (by omega) | exact Or.inr (by assumption)), (by rw [show ((q.toNat : Nat) : Int) = q by omega]), ?_⟩
            first | rw [if_pos (by omega)] | rw [if_neg (by omega)]
      · replace kq4 := b2_pos kq4
        refine Go.run hsz hn1 2 (pc' := 2) (lv' := [some (gr 132), some (gi s), some (gi (q + 1)), none]) (st' := []) (M' := gw m ml) rfl ?_
        have hdq : lA (m 134 q.toNat) := (by assumption)
        exact ih (q + 1) (fun j a1 a2 => (by by_cases e : j = q.toNat; (· rw [e]; exact hdq); (· exact hd j a1 (by omega)))) (by omega) (by omega) (by omega)
set_option maxRecDepth 100000 in
set_option maxHeartbeats 4000000 in
theorem cT_word {G : gG} (hsz : G.2.2.2.2.2.2 = true) {n : Nat} (hn : 3 ≤ n) (ml : Nat → Nat → Int64) (m : Nat → Nat → Int) (hR : gR32 m) (hz : 0 ≤ m 132 0 ∧ m 132 0 ≤ 120) (hb : ∀ i : Nat, (i : Int) < m 132 0 → 0 ≤ m 134 i ∧ m 134 i ≤ 255) (h0 : 0 ≤ m 132 9) (h1 : m 132 9 ≤ 120) (s : Int) (s0 : 0 ≤ s) (s1 : s < m 132 0) : gM G 83 n 0 0 [gr 132, gi s] (gw m ml) (fun r M => ∃ e : Nat, lEnd lA (m 134) (m 132 0).toNat s.toNat e ∧ r = some (gi (e : Int)) ∧ M = gw (mAdd m (if e = s.toNat + 1 ∧ 0 ≤ nmI (m 134 s.toNat) then 2 else 3) (nmI (m 134 s.toNat)) s) ml) := by
  have hn1 : 1 ≤ n := by omega
  refine gM.of mX9_cutWord okX9_cutWord (gcp 83 (by decide)).1 (gcp 83 (by decide)).2 (Nat.le_of_ble_eq_true rfl) ?_
  refine Go.run hsz hn1 2 (pc' := 2) (lv' := [some (gr 132), some (gi s), some (gi s), none]) (st' := []) (M' := gw m ml) rfl ?_
  exact lT_word hsz (n := n) (by omega) ml m hR hz hb h0 h1 s s0 s1 ((m 132 0 - s).toNat + 1) s (fun j a1 a2 => by omega) (by omega) (by omega) (by omega)

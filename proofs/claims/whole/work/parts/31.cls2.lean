def cU (kind top : Int) : Int := b2 (kind = top ∨ top = 0 ∨ (top = 2 ∧ 3 ≤ kind))
set_option maxRecDepth 100000 in
set_option maxHeartbeats 4000000 in
theorem cK_under {G : gG} (hsz : G.2.2.2.2.2.2 = true) {n : Nat} (hn : 1 ≤ n) (mi : Nat → Nat → Int) (ml : Nat → Nat → Int64) (kind top : Int) (h0 : 0 ≤ kind) (h1 : kind ≤ 4) (t0 : 0 ≤ top) (t1 : top ≤ 4) : gM G 9 n 0 0 [gi kind, gi top] (gw mi ml) (gret (cU kind top) (gw mi ml)) := by
  refine gM.of mX1_isUnder okX1_isUnder (gcp 9 (by decide)).1 (gcp 9 (by decide)).2 (Nat.le_of_ble_eq_true rfl) ?_
  rcases (show kind = 0 ∨ kind = 1 ∨ kind = 2 ∨ kind = 3 ∨ kind = 4 by omega) with rfl | rfl | rfl | rfl | rfl
  · refine Go.run hsz hn 6 (pc' := 6) (lv' := [some (gi 0), some (gi top), some (gi 0), some (gi 0)]) (st' := [gi 5, gi 0]) (M' := gw mi ml) rfl ?_
    refine Go.icmp_ge (by rfl) ⟨by decide, by decide⟩ ⟨by decide, by decide⟩ (fun kq1 => ?_) (fun kq1 => ?_)
    · exact absurd kq1 (by decide)
    · refine Go.run hsz hn 1 (pc' := 10) (lv' := [some (gi 0), some (gi top), some (gi 0), some (gi 0)]) (st' := [gi 0]) (M' := gw mi ml) rfl ?_
      refine Go.if_lt (by rfl) ⟨by decide, by decide⟩ (fun kq2 => ?_) (fun kq2 => ?_)
      · exact absurd kq2 (by decide)
      · refine Go.run hsz hn 2 (pc' := 15) (lv' := [some (gi 0), some (gi top), some (gi 0), some (gi 0)]) (st' := [gi 5, gi 0]) (M' := gw mi ml) rfl ?_
        refine Go.icmp_ge (by rfl) ⟨by decide, by decide⟩ ⟨by decide, by decide⟩ (fun kq3 => ?_) (fun kq3 => ?_)
        · exact absurd kq3 (by decide)
        · refine Go.run hsz hn 2 (pc' := 20) (lv' := [some (gi 0), some (gi top), some (gi 0), some (gi 0)]) (st' := [gi top, gi 0]) (M' := gw mi ml) rfl ?_
          refine Go.icmp_ne (by rfl) ⟨by decide, by decide⟩ ⟨by omega, by omega⟩ (fun kq4 => ?_) (fun kq4 => ?_)
          · refine Go.run hsz hn 2 (pc' := 29) (lv' := [some (gi 0), some (gi top), some (gi 0), some (gi 0)]) (st' := [gi 0, gs 0]) (M' := gw mi ml) rfl ?_
            refine Go.sald0 (by rfl) (by omega) (by omega) ?_
            refine Go.run hsz hn 5 (pc' := 6) (lv' := [some (gi 0), some (gi top), some (gi (-1)), some (gi 1)]) (st' := [gi 5, gi 1]) (M' := gw mi ml) rfl ?_
            refine Go.icmp_ge (by rfl) ⟨by decide, by decide⟩ ⟨by decide, by decide⟩ (fun kq5 => ?_) (fun kq5 => ?_)
            · exact absurd kq5 (by decide)
            · refine Go.run hsz hn 1 (pc' := 10) (lv' := [some (gi 0), some (gi top), some (gi (-1)), some (gi 1)]) (st' := [gi (-1)]) (M' := gw mi ml) rfl ?_
              refine Go.if_lt (by rfl) ⟨by decide, by decide⟩ (fun kq6 => ?_) (fun kq6 => ?_)
              · refine Go.run hsz hn 1 (pc' := 38) (lv' := [some (gi 0), some (gi top), some (gi (-1)), some (gi 1)]) (st' := [gi 0]) (M' := gw mi ml) rfl ?_
                exact Go.zret (by rfl) (Or.inl rfl) ⟨congrArg (fun z => some (gi z)) (by unfold cU b2; split <;> omega), rfl⟩
              · exact absurd kq6 (by decide)
          · refine Go.run hsz hn 1 (pc' := 24) (lv' := [some (gi 0), some (gi top), some (gi 0), some (gi 0)]) (st' := [gi 1]) (M' := gw mi ml) rfl ?_
            exact Go.zret (by rfl) (Or.inr rfl) ⟨congrArg (fun z => some (gi z)) (by unfold cU b2; split <;> omega), rfl⟩
  · refine Go.run hsz hn 6 (pc' := 6) (lv' := [some (gi 1), some (gi top), some (gi 1), some (gi 0)]) (st' := [gi 5, gi 0]) (M' := gw mi ml) rfl ?_
    refine Go.icmp_ge (by rfl) ⟨by decide, by decide⟩ ⟨by decide, by decide⟩ (fun kq7 => ?_) (fun kq7 => ?_)
    · exact absurd kq7 (by decide)
    · refine Go.run hsz hn 1 (pc' := 10) (lv' := [some (gi 1), some (gi top), some (gi 1), some (gi 0)]) (st' := [gi 1]) (M' := gw mi ml) rfl ?_
      refine Go.if_lt (by rfl) ⟨by decide, by decide⟩ (fun kq8 => ?_) (fun kq8 => ?_)
      · exact absurd kq8 (by decide)
      · refine Go.run hsz hn 2 (pc' := 15) (lv' := [some (gi 1), some (gi top), some (gi 1), some (gi 0)]) (st' := [gi 5, gi 1]) (M' := gw mi ml) rfl ?_
        refine Go.icmp_ge (by rfl) ⟨by decide, by decide⟩ ⟨by decide, by decide⟩ (fun kq9 => ?_) (fun kq9 => ?_)
        · exact absurd kq9 (by decide)
        · refine Go.run hsz hn 2 (pc' := 20) (lv' := [some (gi 1), some (gi top), some (gi 1), some (gi 0)]) (st' := [gi top, gi 1]) (M' := gw mi ml) rfl ?_
          refine Go.icmp_ne (by rfl) ⟨by decide, by decide⟩ ⟨by omega, by omega⟩ (fun kq10 => ?_) (fun kq10 => ?_)
          · refine Go.run hsz hn 2 (pc' := 29) (lv' := [some (gi 1), some (gi top), some (gi 1), some (gi 0)]) (st' := [gi 1, gs 0]) (M' := gw mi ml) rfl ?_
            refine Go.sald0 (by rfl) (by omega) (by omega) ?_
            refine Go.run hsz hn 5 (pc' := 6) (lv' := [some (gi 1), some (gi top), some (gi 0), some (gi 1)]) (st' := [gi 5, gi 1]) (M' := gw mi ml) rfl ?_
            refine Go.icmp_ge (by rfl) ⟨by decide, by decide⟩ ⟨by decide, by decide⟩ (fun kq11 => ?_) (fun kq11 => ?_)
            · exact absurd kq11 (by decide)
            · refine Go.run hsz hn 1 (pc' := 10) (lv' := [some (gi 1), some (gi top), some (gi 0), some (gi 1)]) (st' := [gi 0]) (M' := gw mi ml) rfl ?_
              refine Go.if_lt (by rfl) ⟨by decide, by decide⟩ (fun kq12 => ?_) (fun kq12 => ?_)
              · exact absurd kq12 (by decide)
              · refine Go.run hsz hn 2 (pc' := 15) (lv' := [some (gi 1), some (gi top), some (gi 0), some (gi 1)]) (st' := [gi 5, gi 0]) (M' := gw mi ml) rfl ?_
                refine Go.icmp_ge (by rfl) ⟨by decide, by decide⟩ ⟨by decide, by decide⟩ (fun kq13 => ?_) (fun kq13 => ?_)
                · exact absurd kq13 (by decide)
                · refine Go.run hsz hn 2 (pc' := 20) (lv' := [some (gi 1), some (gi top), some (gi 0), some (gi 1)]) (st' := [gi top, gi 0]) (M' := gw mi ml) rfl ?_
                  refine Go.icmp_ne (by rfl) ⟨by decide, by decide⟩ ⟨by omega, by omega⟩ (fun kq14 => ?_) (fun kq14 => ?_)
                  · refine Go.run hsz hn 2 (pc' := 29) (lv' := [some (gi 1), some (gi top), some (gi 0), some (gi 1)]) (st' := [gi 0, gs 0]) (M' := gw mi ml) rfl ?_
                    refine Go.sald0 (by rfl) (by omega) (by omega) ?_
                    refine Go.run hsz hn 5 (pc' := 6) (lv' := [some (gi 1), some (gi top), some (gi (-1)), some (gi 2)]) (st' := [gi 5, gi 2]) (M' := gw mi ml) rfl ?_
                    refine Go.icmp_ge (by rfl) ⟨by decide, by decide⟩ ⟨by decide, by decide⟩ (fun kq15 => ?_) (fun kq15 => ?_)
                    · exact absurd kq15 (by decide)
                    · refine Go.run hsz hn 1 (pc' := 10) (lv' := [some (gi 1), some (gi top), some (gi (-1)), some (gi 2)]) (st' := [gi (-1)]) (M' := gw mi ml) rfl ?_
                      refine Go.if_lt (by rfl) ⟨by decide, by decide⟩ (fun kq16 => ?_) (fun kq16 => ?_)
                      · refine Go.run hsz hn 1 (pc' := 38) (lv' := [some (gi 1), some (gi top), some (gi (-1)), some (gi 2)]) (st' := [gi 0]) (M' := gw mi ml) rfl ?_
                        exact Go.zret (by rfl) (Or.inl rfl) ⟨congrArg (fun z => some (gi z)) (by unfold cU b2; split <;> omega), rfl⟩
                      · exact absurd kq16 (by decide)
                  · refine Go.run hsz hn 1 (pc' := 24) (lv' := [some (gi 1), some (gi top), some (gi 0), some (gi 1)]) (st' := [gi 1]) (M' := gw mi ml) rfl ?_
                    exact Go.zret (by rfl) (Or.inr rfl) ⟨congrArg (fun z => some (gi z)) (by unfold cU b2; split <;> omega), rfl⟩
          · refine Go.run hsz hn 1 (pc' := 24) (lv' := [some (gi 1), some (gi top), some (gi 1), some (gi 0)]) (st' := [gi 1]) (M' := gw mi ml) rfl ?_
            exact Go.zret (by rfl) (Or.inr rfl) ⟨congrArg (fun z => some (gi z)) (by unfold cU b2; split <;> omega), rfl⟩
  · refine Go.run hsz hn 6 (pc' := 6) (lv' := [some (gi 2), some (gi top), some (gi 2), some (gi 0)]) (st' := [gi 5, gi 0]) (M' := gw mi ml) rfl ?_
    refine Go.icmp_ge (by rfl) ⟨by decide, by decide⟩ ⟨by decide, by decide⟩ (fun kq17 => ?_) (fun kq17 => ?_)
    · exact absurd kq17 (by decide)
    · refine Go.run hsz hn 1 (pc' := 10) (lv' := [some (gi 2), some (gi top), some (gi 2), some (gi 0)]) (st' := [gi 2]) (M' := gw mi ml) rfl ?_
      refine Go.if_lt (by rfl) ⟨by decide, by decide⟩ (fun kq18 => ?_) (fun kq18 => ?_)
      · exact absurd kq18 (by decide)
      · refine Go.run hsz hn 2 (pc' := 15) (lv' := [some (gi 2), some (gi top), some (gi 2), some (gi 0)]) (st' := [gi 5, gi 2]) (M' := gw mi ml) rfl ?_
        refine Go.icmp_ge (by rfl) ⟨by decide, by decide⟩ ⟨by decide, by decide⟩ (fun kq19 => ?_) (fun kq19 => ?_)
        · exact absurd kq19 (by decide)
        · refine Go.run hsz hn 2 (pc' := 20) (lv' := [some (gi 2), some (gi top), some (gi 2), some (gi 0)]) (st' := [gi top, gi 2]) (M' := gw mi ml) rfl ?_
          refine Go.icmp_ne (by rfl) ⟨by decide, by decide⟩ ⟨by omega, by omega⟩ (fun kq20 => ?_) (fun kq20 => ?_)
          · refine Go.run hsz hn 2 (pc' := 29) (lv' := [some (gi 2), some (gi top), some (gi 2), some (gi 0)]) (st' := [gi 2, gs 0]) (M' := gw mi ml) rfl ?_
            refine Go.sald0 (by rfl) (by omega) (by omega) ?_
            refine Go.run hsz hn 5 (pc' := 6) (lv' := [some (gi 2), some (gi top), some (gi 0), some (gi 1)]) (st' := [gi 5, gi 1]) (M' := gw mi ml) rfl ?_
            refine Go.icmp_ge (by rfl) ⟨by decide, by decide⟩ ⟨by decide, by decide⟩ (fun kq21 => ?_) (fun kq21 => ?_)
            · exact absurd kq21 (by decide)
            · refine Go.run hsz hn 1 (pc' := 10) (lv' := [some (gi 2), some (gi top), some (gi 0), some (gi 1)]) (st' := [gi 0]) (M' := gw mi ml) rfl ?_
              refine Go.if_lt (by rfl) ⟨by decide, by decide⟩ (fun kq22 => ?_) (fun kq22 => ?_)
              · exact absurd kq22 (by decide)
              · refine Go.run hsz hn 2 (pc' := 15) (lv' := [some (gi 2), some (gi top), some (gi 0), some (gi 1)]) (st' := [gi 5, gi 0]) (M' := gw mi ml) rfl ?_
                refine Go.icmp_ge (by rfl) ⟨by decide, by decide⟩ ⟨by decide, by decide⟩ (fun kq23 => ?_) (fun kq23 => ?_)
                · exact absurd kq23 (by decide)
                · refine Go.run hsz hn 2 (pc' := 20) (lv' := [some (gi 2), some (gi top), some (gi 0), some (gi 1)]) (st' := [gi top, gi 0]) (M' := gw mi ml) rfl ?_
                  refine Go.icmp_ne (by rfl) ⟨by decide, by decide⟩ ⟨by omega, by omega⟩ (fun kq24 => ?_) (fun kq24 => ?_)
                  · refine Go.run hsz hn 2 (pc' := 29) (lv' := [some (gi 2), some (gi top), some (gi 0), some (gi 1)]) (st' := [gi 0, gs 0]) (M' := gw mi ml) rfl ?_
                    refine Go.sald0 (by rfl) (by omega) (by omega) ?_
                    refine Go.run hsz hn 5 (pc' := 6) (lv' := [some (gi 2), some (gi top), some (gi (-1)), some (gi 2)]) (st' := [gi 5, gi 2]) (M' := gw mi ml) rfl ?_
                    refine Go.icmp_ge (by rfl) ⟨by decide, by decide⟩ ⟨by decide, by decide⟩ (fun kq25 => ?_) (fun kq25 => ?_)
                    · exact absurd kq25 (by decide)
                    · refine Go.run hsz hn 1 (pc' := 10) (lv' := [some (gi 2), some (gi top), some (gi (-1)), some (gi 2)]) (st' := [gi (-1)]) (M' := gw mi ml) rfl ?_
                      refine Go.if_lt (by rfl) ⟨by decide, by decide⟩ (fun kq26 => ?_) (fun kq26 => ?_)
                      · refine Go.run hsz hn 1 (pc' := 38) (lv' := [some (gi 2), some (gi top), some (gi (-1)), some (gi 2)]) (st' := [gi 0]) (M' := gw mi ml) rfl ?_
                        exact Go.zret (by rfl) (Or.inl rfl) ⟨congrArg (fun z => some (gi z)) (by unfold cU b2; split <;> omega), rfl⟩
                      · exact absurd kq26 (by decide)
                  · refine Go.run hsz hn 1 (pc' := 24) (lv' := [some (gi 2), some (gi top), some (gi 0), some (gi 1)]) (st' := [gi 1]) (M' := gw mi ml) rfl ?_
                    exact Go.zret (by rfl) (Or.inr rfl) ⟨congrArg (fun z => some (gi z)) (by unfold cU b2; split <;> omega), rfl⟩
          · refine Go.run hsz hn 1 (pc' := 24) (lv' := [some (gi 2), some (gi top), some (gi 2), some (gi 0)]) (st' := [gi 1]) (M' := gw mi ml) rfl ?_
            exact Go.zret (by rfl) (Or.inr rfl) ⟨congrArg (fun z => some (gi z)) (by unfold cU b2; split <;> omega), rfl⟩
  · refine Go.run hsz hn 6 (pc' := 6) (lv' := [some (gi 3), some (gi top), some (gi 3), some (gi 0)]) (st' := [gi 5, gi 0]) (M' := gw mi ml) rfl ?_
    refine Go.icmp_ge (by rfl) ⟨by decide, by decide⟩ ⟨by decide, by decide⟩ (fun kq27 => ?_) (fun kq27 => ?_)
    · exact absurd kq27 (by decide)
    · refine Go.run hsz hn 1 (pc' := 10) (lv' := [some (gi 3), some (gi top), some (gi 3), some (gi 0)]) (st' := [gi 3]) (M' := gw mi ml) rfl ?_
      refine Go.if_lt (by rfl) ⟨by decide, by decide⟩ (fun kq28 => ?_) (fun kq28 => ?_)
      · exact absurd kq28 (by decide)
      · refine Go.run hsz hn 2 (pc' := 15) (lv' := [some (gi 3), some (gi top), some (gi 3), some (gi 0)]) (st' := [gi 5, gi 3]) (M' := gw mi ml) rfl ?_
        refine Go.icmp_ge (by rfl) ⟨by decide, by decide⟩ ⟨by decide, by decide⟩ (fun kq29 => ?_) (fun kq29 => ?_)
        · exact absurd kq29 (by decide)
        · refine Go.run hsz hn 2 (pc' := 20) (lv' := [some (gi 3), some (gi top), some (gi 3), some (gi 0)]) (st' := [gi top, gi 3]) (M' := gw mi ml) rfl ?_
          refine Go.icmp_ne (by rfl) ⟨by decide, by decide⟩ ⟨by omega, by omega⟩ (fun kq30 => ?_) (fun kq30 => ?_)
          · refine Go.run hsz hn 2 (pc' := 29) (lv' := [some (gi 3), some (gi top), some (gi 3), some (gi 0)]) (st' := [gi 3, gs 0]) (M' := gw mi ml) rfl ?_
            refine Go.sald0 (by rfl) (by omega) (by omega) ?_
            refine Go.run hsz hn 5 (pc' := 6) (lv' := [some (gi 3), some (gi top), some (gi 2), some (gi 1)]) (st' := [gi 5, gi 1]) (M' := gw mi ml) rfl ?_
            refine Go.icmp_ge (by rfl) ⟨by decide, by decide⟩ ⟨by decide, by decide⟩ (fun kq31 => ?_) (fun kq31 => ?_)
            · exact absurd kq31 (by decide)
            · refine Go.run hsz hn 1 (pc' := 10) (lv' := [some (gi 3), some (gi top), some (gi 2), some (gi 1)]) (st' := [gi 2]) (M' := gw mi ml) rfl ?_
              refine Go.if_lt (by rfl) ⟨by decide, by decide⟩ (fun kq32 => ?_) (fun kq32 => ?_)
              · exact absurd kq32 (by decide)
              · refine Go.run hsz hn 2 (pc' := 15) (lv' := [some (gi 3), some (gi top), some (gi 2), some (gi 1)]) (st' := [gi 5, gi 2]) (M' := gw mi ml) rfl ?_
                refine Go.icmp_ge (by rfl) ⟨by decide, by decide⟩ ⟨by decide, by decide⟩ (fun kq33 => ?_) (fun kq33 => ?_)
                · exact absurd kq33 (by decide)
                · refine Go.run hsz hn 2 (pc' := 20) (lv' := [some (gi 3), some (gi top), some (gi 2), some (gi 1)]) (st' := [gi top, gi 2]) (M' := gw mi ml) rfl ?_
                  refine Go.icmp_ne (by rfl) ⟨by decide, by decide⟩ ⟨by omega, by omega⟩ (fun kq34 => ?_) (fun kq34 => ?_)
                  · refine Go.run hsz hn 2 (pc' := 29) (lv' := [some (gi 3), some (gi top), some (gi 2), some (gi 1)]) (st' := [gi 2, gs 0]) (M' := gw mi ml) rfl ?_
                    refine Go.sald0 (by rfl) (by omega) (by omega) ?_
                    refine Go.run hsz hn 5 (pc' := 6) (lv' := [some (gi 3), some (gi top), some (gi 0), some (gi 2)]) (st' := [gi 5, gi 2]) (M' := gw mi ml) rfl ?_
                    refine Go.icmp_ge (by rfl) ⟨by decide, by decide⟩ ⟨by decide, by decide⟩ (fun kq35 => ?_) (fun kq35 => ?_)
                    · exact absurd kq35 (by decide)
                    · refine Go.run hsz hn 1 (pc' := 10) (lv' := [some (gi 3), some (gi top), some (gi 0), some (gi 2)]) (st' := [gi 0]) (M' := gw mi ml) rfl ?_
                      refine Go.if_lt (by rfl) ⟨by decide, by decide⟩ (fun kq36 => ?_) (fun kq36 => ?_)
                      · exact absurd kq36 (by decide)
                      · refine Go.run hsz hn 2 (pc' := 15) (lv' := [some (gi 3), some (gi top), some (gi 0), some (gi 2)]) (st' := [gi 5, gi 0]) (M' := gw mi ml) rfl ?_
                        refine Go.icmp_ge (by rfl) ⟨by decide, by decide⟩ ⟨by decide, by decide⟩ (fun kq37 => ?_) (fun kq37 => ?_)
                        · exact absurd kq37 (by decide)
                        · refine Go.run hsz hn 2 (pc' := 20) (lv' := [some (gi 3), some (gi top), some (gi 0), some (gi 2)]) (st' := [gi top, gi 0]) (M' := gw mi ml) rfl ?_
                          refine Go.icmp_ne (by rfl) ⟨by decide, by decide⟩ ⟨by omega, by omega⟩ (fun kq38 => ?_) (fun kq38 => ?_)
                          · refine Go.run hsz hn 2 (pc' := 29) (lv' := [some (gi 3), some (gi top), some (gi 0), some (gi 2)]) (st' := [gi 0, gs 0]) (M' := gw mi ml) rfl ?_
                            refine Go.sald0 (by rfl) (by omega) (by omega) ?_
                            refine Go.run hsz hn 5 (pc' := 6) (lv' := [some (gi 3), some (gi top), some (gi (-1)), some (gi 3)]) (st' := [gi 5, gi 3]) (M' := gw mi ml) rfl ?_
                            refine Go.icmp_ge (by rfl) ⟨by decide, by decide⟩ ⟨by decide, by decide⟩ (fun kq39 => ?_) (fun kq39 => ?_)
                            · exact absurd kq39 (by decide)
                            · refine Go.run hsz hn 1 (pc' := 10) (lv' := [some (gi 3), some (gi top), some (gi (-1)), some (gi 3)]) (st' := [gi (-1)]) (M' := gw mi ml) rfl ?_
                              refine Go.if_lt (by rfl) ⟨by decide, by decide⟩ (fun kq40 => ?_) (fun kq40 => ?_)
                              · refine Go.run hsz hn 1 (pc' := 38) (lv' := [some (gi 3), some (gi top), some (gi (-1)), some (gi 3)]) (st' := [gi 0]) (M' := gw mi ml) rfl ?_
                                exact Go.zret (by rfl) (Or.inl rfl) ⟨congrArg (fun z => some (gi z)) (by unfold cU b2; split <;> omega), rfl⟩
                              · exact absurd kq40 (by decide)
                          · refine Go.run hsz hn 1 (pc' := 24) (lv' := [some (gi 3), some (gi top), some (gi 0), some (gi 2)]) (st' := [gi 1]) (M' := gw mi ml) rfl ?_
                            exact Go.zret (by rfl) (Or.inr rfl) ⟨congrArg (fun z => some (gi z)) (by unfold cU b2; split <;> omega), rfl⟩
                  · refine Go.run hsz hn 1 (pc' := 24) (lv' := [some (gi 3), some (gi top), some (gi 2), some (gi 1)]) (st' := [gi 1]) (M' := gw mi ml) rfl ?_
                    exact Go.zret (by rfl) (Or.inr rfl) ⟨congrArg (fun z => some (gi z)) (by unfold cU b2; split <;> omega), rfl⟩
          · refine Go.run hsz hn 1 (pc' := 24) (lv' := [some (gi 3), some (gi top), some (gi 3), some (gi 0)]) (st' := [gi 1]) (M' := gw mi ml) rfl ?_
            exact Go.zret (by rfl) (Or.inr rfl) ⟨congrArg (fun z => some (gi z)) (by unfold cU b2; split <;> omega), rfl⟩
  · refine Go.run hsz hn 6 (pc' := 6) (lv' := [some (gi 4), some (gi top), some (gi 4), some (gi 0)]) (st' := [gi 5, gi 0]) (M' := gw mi ml) rfl ?_
    refine Go.icmp_ge (by rfl) ⟨by decide, by decide⟩ ⟨by decide, by decide⟩ (fun kq41 => ?_) (fun kq41 => ?_)
    · exact absurd kq41 (by decide)
    · refine Go.run hsz hn 1 (pc' := 10) (lv' := [some (gi 4), some (gi top), some (gi 4), some (gi 0)]) (st' := [gi 4]) (M' := gw mi ml) rfl ?_
      refine Go.if_lt (by rfl) ⟨by decide, by decide⟩ (fun kq42 => ?_) (fun kq42 => ?_)
      · exact absurd kq42 (by decide)
      · refine Go.run hsz hn 2 (pc' := 15) (lv' := [some (gi 4), some (gi top), some (gi 4), some (gi 0)]) (st' := [gi 5, gi 4]) (M' := gw mi ml) rfl ?_
        refine Go.icmp_ge (by rfl) ⟨by decide, by decide⟩ ⟨by decide, by decide⟩ (fun kq43 => ?_) (fun kq43 => ?_)
        · exact absurd kq43 (by decide)
        · refine Go.run hsz hn 2 (pc' := 20) (lv' := [some (gi 4), some (gi top), some (gi 4), some (gi 0)]) (st' := [gi top, gi 4]) (M' := gw mi ml) rfl ?_
          refine Go.icmp_ne (by rfl) ⟨by decide, by decide⟩ ⟨by omega, by omega⟩ (fun kq44 => ?_) (fun kq44 => ?_)
          · refine Go.run hsz hn 2 (pc' := 29) (lv' := [some (gi 4), some (gi top), some (gi 4), some (gi 0)]) (st' := [gi 4, gs 0]) (M' := gw mi ml) rfl ?_
            refine Go.sald0 (by rfl) (by omega) (by omega) ?_
            refine Go.run hsz hn 5 (pc' := 6) (lv' := [some (gi 4), some (gi top), some (gi 2), some (gi 1)]) (st' := [gi 5, gi 1]) (M' := gw mi ml) rfl ?_
            refine Go.icmp_ge (by rfl) ⟨by decide, by decide⟩ ⟨by decide, by decide⟩ (fun kq45 => ?_) (fun kq45 => ?_)
            · exact absurd kq45 (by decide)
            · refine Go.run hsz hn 1 (pc' := 10) (lv' := [some (gi 4), some (gi top), some (gi 2), some (gi 1)]) (st' := [gi 2]) (M' := gw mi ml) rfl ?_
              refine Go.if_lt (by rfl) ⟨by decide, by decide⟩ (fun kq46 => ?_) (fun kq46 => ?_)
              · exact absurd kq46 (by decide)
              · refine Go.run hsz hn 2 (pc' := 15) (lv' := [some (gi 4), some (gi top), some (gi 2), some (gi 1)]) (st' := [gi 5, gi 2]) (M' := gw mi ml) rfl ?_
                refine Go.icmp_ge (by rfl) ⟨by decide, by decide⟩ ⟨by decide, by decide⟩ (fun kq47 => ?_) (fun kq47 => ?_)
                · exact absurd kq47 (by decide)
                · refine Go.run hsz hn 2 (pc' := 20) (lv' := [some (gi 4), some (gi top), some (gi 2), some (gi 1)]) (st' := [gi top, gi 2]) (M' := gw mi ml) rfl ?_
                  refine Go.icmp_ne (by rfl) ⟨by decide, by decide⟩ ⟨by omega, by omega⟩ (fun kq48 => ?_) (fun kq48 => ?_)
                  · refine Go.run hsz hn 2 (pc' := 29) (lv' := [some (gi 4), some (gi top), some (gi 2), some (gi 1)]) (st' := [gi 2, gs 0]) (M' := gw mi ml) rfl ?_
                    refine Go.sald0 (by rfl) (by omega) (by omega) ?_
                    refine Go.run hsz hn 5 (pc' := 6) (lv' := [some (gi 4), some (gi top), some (gi 0), some (gi 2)]) (st' := [gi 5, gi 2]) (M' := gw mi ml) rfl ?_
                    refine Go.icmp_ge (by rfl) ⟨by decide, by decide⟩ ⟨by decide, by decide⟩ (fun kq49 => ?_) (fun kq49 => ?_)
                    · exact absurd kq49 (by decide)
                    · refine Go.run hsz hn 1 (pc' := 10) (lv' := [some (gi 4), some (gi top), some (gi 0), some (gi 2)]) (st' := [gi 0]) (M' := gw mi ml) rfl ?_
                      refine Go.if_lt (by rfl) ⟨by decide, by decide⟩ (fun kq50 => ?_) (fun kq50 => ?_)
                      · exact absurd kq50 (by decide)
                      · refine Go.run hsz hn 2 (pc' := 15) (lv' := [some (gi 4), some (gi top), some (gi 0), some (gi 2)]) (st' := [gi 5, gi 0]) (M' := gw mi ml) rfl ?_
                        refine Go.icmp_ge (by rfl) ⟨by decide, by decide⟩ ⟨by decide, by decide⟩ (fun kq51 => ?_) (fun kq51 => ?_)
                        · exact absurd kq51 (by decide)
                        · refine Go.run hsz hn 2 (pc' := 20) (lv' := [some (gi 4), some (gi top), some (gi 0), some (gi 2)]) (st' := [gi top, gi 0]) (M' := gw mi ml) rfl ?_
                          refine Go.icmp_ne (by rfl) ⟨by decide, by decide⟩ ⟨by omega, by omega⟩ (fun kq52 => ?_) (fun kq52 => ?_)
                          · refine Go.run hsz hn 2 (pc' := 29) (lv' := [some (gi 4), some (gi top), some (gi 0), some (gi 2)]) (st' := [gi 0, gs 0]) (M' := gw mi ml) rfl ?_
                            refine Go.sald0 (by rfl) (by omega) (by omega) ?_
                            refine Go.run hsz hn 5 (pc' := 6) (lv' := [some (gi 4), some (gi top), some (gi (-1)), some (gi 3)]) (st' := [gi 5, gi 3]) (M' := gw mi ml) rfl ?_
                            refine Go.icmp_ge (by rfl) ⟨by decide, by decide⟩ ⟨by decide, by decide⟩ (fun kq53 => ?_) (fun kq53 => ?_)
                            · exact absurd kq53 (by decide)
                            · refine Go.run hsz hn 1 (pc' := 10) (lv' := [some (gi 4), some (gi top), some (gi (-1)), some (gi 3)]) (st' := [gi (-1)]) (M' := gw mi ml) rfl ?_
                              refine Go.if_lt (by rfl) ⟨by decide, by decide⟩ (fun kq54 => ?_) (fun kq54 => ?_)
                              · refine Go.run hsz hn 1 (pc' := 38) (lv' := [some (gi 4), some (gi top), some (gi (-1)), some (gi 3)]) (st' := [gi 0]) (M' := gw mi ml) rfl ?_
                                exact Go.zret (by rfl) (Or.inl rfl) ⟨congrArg (fun z => some (gi z)) (by unfold cU b2; split <;> omega), rfl⟩
                              · exact absurd kq54 (by decide)
                          · refine Go.run hsz hn 1 (pc' := 24) (lv' := [some (gi 4), some (gi top), some (gi 0), some (gi 2)]) (st' := [gi 1]) (M' := gw mi ml) rfl ?_
                            exact Go.zret (by rfl) (Or.inr rfl) ⟨congrArg (fun z => some (gi z)) (by unfold cU b2; split <;> omega), rfl⟩
                  · refine Go.run hsz hn 1 (pc' := 24) (lv' := [some (gi 4), some (gi top), some (gi 2), some (gi 1)]) (st' := [gi 1]) (M' := gw mi ml) rfl ?_
                    exact Go.zret (by rfl) (Or.inr rfl) ⟨congrArg (fun z => some (gi z)) (by unfold cU b2; split <;> omega), rfl⟩
          · refine Go.run hsz hn 1 (pc' := 24) (lv' := [some (gi 4), some (gi top), some (gi 4), some (gi 0)]) (st' := [gi 1]) (M' := gw mi ml) rfl ?_
            exact Go.zret (by rfl) (Or.inr rfl) ⟨congrArg (fun z => some (gi z)) (by unfold cU b2; split <;> omega), rfl⟩
set_option maxRecDepth 100000 in
set_option maxHeartbeats 4000000 in
theorem cK_reason {G : gG} (hsz : G.2.2.2.2.2.2 = true) {n : Nat} (hn : 3 ≤ n) (mi : Nat → Nat → Int) (ml : Nat → Nat → Int64) (a p : Int) (h0 : 0 ≤ a) (h1 : a < 24) (p0 : 0 ≤ p) (p1 : p < 12) (hb : CPV mi a) (hR : gR32 mi) : gM G 10 n 0 0 [gr (24 + a.toNat), gr (12 + p.toNat)] (gw mi ml) (gret (cReason mi a p) (gw mi ml)) := by
  have hn1 : 1 ≤ n := by omega
  obtain ⟨b0, b1, -⟩ := id hb
  have hr1 := cR1_b mi a p
  refine gM.of mX1_reason okX1_reason (gcp 10 (by decide)).1 (gcp 10 (by decide)).2 (Nat.le_of_ble_eq_true rfl) ?_
  refine Go.run hsz hn1 2 (pc' := 2) (lv' := [some (gr (24 + a.toNat)), some (gr (12 + p.toNat)), none]) (st' := [gr (12 + p.toNat), gr (24 + a.toNat)]) (M' := gw mi ml) rfl ?_
  refine Go.callS (As := [gr (24 + a.toNat), gr (12 + p.toNat)]) (st := []) (mc1 := 0) (mc := 0) (ms1 := 0) (ms := 0) (by rfl) rfl (gcn 11 (by decide)).1 (gcn 11 (by decide)).2 (Nat.le_of_ble_eq_true rfl) (by omega) (cK_all hsz (n := n - 1) (by omega) mi ml a p h0 h1 p0 p1 hb hR) ?_
  rintro _ _ ⟨rfl, rfl⟩
  refine Go.run hsz hn1 2 (pc' := 7) (lv' := [some (gr (24 + a.toNat)), some (gr (12 + p.toNat)), some (gi (cR1 mi a p))]) (st' := [gi (cR1 mi a p)]) (M' := gw mi ml) rfl ?_
  refine Go.if_eq (by rfl) ⟨by omega, by omega⟩ (fun kq1 => ?_) (fun kq1 => ?_)
  · refine Go.run hsz hn1 1 (pc' := 13) (lv' := [some (gr (24 + a.toNat)), some (gr (12 + p.toNat)), some (gi (cR1 mi a p))]) (st' := [gr (24 + a.toNat)]) (M' := gw mi ml) rfl ?_
    refine Go.getf (by rfl) (c := 2) (N := 14) (shA (i := a) (by omega)) ?_
    refine Go.run hsz hn1 1 (pc' := 17) (lv' := [some (gr (24 + a.toNat)), some (gr (12 + p.toNat)), some (gi (cR1 mi a p))]) (st' := [gi 2, gi (cA mi a 0)]) (M' := gw mi ml) rfl ?_
    refine Go.callS (As := [gi (cA mi a 0), gi 2]) (st := []) (mc1 := 0) (mc := 0) (ms1 := 0) (ms := 0) (by rfl) rfl (gcn 9 (by decide)).1 (gcn 9 (by decide)).2 (Nat.le_of_ble_eq_true rfl) (by omega) (cK_under hsz (n := n - 1) (by omega) mi ml (cA mi a 0) 2 (by omega) (by omega) (by omega) (by omega)) ?_
    rintro _ _ ⟨rfl, rfl⟩
    refine Go.run hsz hn1 0 (pc' := 20) (lv' := [some (gr (24 + a.toNat)), some (gr (12 + p.toNat)), some (gi (cR1 mi a p))]) (st' := [gi (b2 (cA mi a 0 = 2 ∨ 2 = 0 ∨ (2 = 2 ∧ 3 ≤ cA mi a 0)))]) (M' := gw mi ml) rfl ?_
    refine Go.if_eq (by rfl) (b2_rng _) (fun kq2 => ?_) (fun kq2 => ?_)
    · replace kq2 := b2_neg kq2
      refine Go.run hsz hn1 1 (pc' := 30) (lv' := [some (gr (24 + a.toNat)), some (gr (12 + p.toNat)), some (gi (cR1 mi a p))]) (st' := [gr (24 + a.toNat)]) (M' := gw mi ml) rfl ?_
      refine Go.getf (by rfl) (c := 2) (N := 14) (shA (i := a) (by omega)) ?_
      refine Go.run hsz hn1 1 (pc' := 34) (lv' := [some (gr (24 + a.toNat)), some (gr (12 + p.toNat)), some (gi (cR1 mi a p))]) (st' := [gi 1, gi (cA mi a 0)]) (M' := gw mi ml) rfl ?_
      refine Go.icmp_ne (by rfl) (hR _ _) ⟨by decide, by decide⟩ (fun kq3 => ?_) (fun kq3 => ?_)
      · refine Go.run hsz hn1 1 (pc' := 51) (lv' := [some (gr (24 + a.toNat)), some (gr (12 + p.toNat)), some (gi (cR1 mi a p))]) (st' := [gi 0]) (M' := gw mi ml) rfl ?_
        first | exact Go.iret (by rfl) ⟨congrArg (fun z => some (gi z)) (by unfold cReason; (try unfold cR1 at *); (try unfold cR2 at *); (repeat' split) <;> first | omega | (exfalso; (repeat' split at *) <;> omega)), rfl⟩ | (exfalso; omega)
      · refine Go.run hsz hn1 1 (pc' := 38) (lv' := [some (gr (24 + a.toNat)), some (gr (12 + p.toNat)), some (gi (cR1 mi a p))]) (st' := [gr (12 + p.toNat)]) (M' := gw mi ml) rfl ?_
        refine Go.getf (by rfl) (c := 3) (N := 10) (shP (i := p) (by omega)) ?_
        refine Go.run hsz hn1 1 (pc' := 43) (lv' := [some (gr (24 + a.toNat)), some (gr (12 + p.toNat)), some (gi (cR1 mi a p))]) (st' := [gi 6, gi (cP mi p 4)]) (M' := gw mi ml) rfl ?_
        refine Go.icmp_le (by rfl) (hR _ _) ⟨by decide, by decide⟩ (fun kq4 => ?_) (fun kq4 => ?_)
        · refine Go.run hsz hn1 1 (pc' := 51) (lv' := [some (gr (24 + a.toNat)), some (gr (12 + p.toNat)), some (gi (cR1 mi a p))]) (st' := [gi 0]) (M' := gw mi ml) rfl ?_
          first | exact Go.iret (by rfl) ⟨congrArg (fun z => some (gi z)) (by unfold cReason; (try unfold cR1 at *); (try unfold cR2 at *); (repeat' split) <;> first | omega | (exfalso; (repeat' split at *) <;> omega)), rfl⟩ | (exfalso; omega)
        · refine Go.run hsz hn1 2 (pc' := 51) (lv' := [some (gr (24 + a.toNat)), some (gr (12 + p.toNat)), some (gi (cR1 mi a p))]) (st' := [gi 4]) (M' := gw mi ml) rfl ?_
          first | exact Go.iret (by rfl) ⟨congrArg (fun z => some (gi z)) (by unfold cReason; (try unfold cR1 at *); (try unfold cR2 at *); (repeat' split) <;> first | omega | (exfalso; (repeat' split at *) <;> omega)), rfl⟩ | (exfalso; omega)
    · replace kq2 := b2_pos kq2
      refine Go.run hsz hn1 2 (pc' := 25) (lv' := [some (gr (24 + a.toNat)), some (gr (12 + p.toNat)), some (gi (cR1 mi a p))]) (st' := [gr (12 + p.toNat), gr (24 + a.toNat)]) (M' := gw mi ml) rfl ?_
      refine Go.callS (As := [gr (24 + a.toNat), gr (12 + p.toNat)]) (st := []) (mc1 := 0) (mc := 0) (ms1 := 0) (ms := 0) (by rfl) rfl (gcn 12 (by decide)).1 (gcn 12 (by decide)).2 (Nat.le_of_ble_eq_true rfl) (by omega) (cK_vans hsz (n := n - 1) (by omega) mi ml a p h0 h1 p0 p1 hb hR) ?_
      rintro _ _ ⟨rfl, rfl⟩
      refine Go.run hsz hn1 0 (pc' := 28) (lv' := [some (gr (24 + a.toNat)), some (gr (12 + p.toNat)), some (gi (cR1 mi a p))]) (st' := [gi (cR2 mi a p)]) (M' := gw mi ml) rfl ?_
      first | exact Go.iret (by rfl) ⟨congrArg (fun z => some (gi z)) (by unfold cReason; (try unfold cR1 at *); (try unfold cR2 at *); (repeat' split) <;> first | omega | (exfalso; (repeat' split at *) <;> omega)), rfl⟩ | (exfalso; omega)
  · refine Go.run hsz hn1 1 (pc' := 11) (lv' := [some (gr (24 + a.toNat)), some (gr (12 + p.toNat)), some (gi (cR1 mi a p))]) (st' := [gi (cR1 mi a p)]) (M' := gw mi ml) rfl ?_
    first | exact Go.iret (by rfl) ⟨congrArg (fun z => some (gi z)) (by unfold cReason; (try unfold cR1 at *); (try unfold cR2 at *); (repeat' split) <;> first | omega | (exfalso; (repeat' split at *) <;> omega)), rfl⟩ | (exfalso; omega)
def cHolder (mi : Nat → Nat → Int) (p x : Int) (k : Int) : Prop := 0 ≤ k ∧ k < mi 1 3 ∧ cA mi k 8 = p ∧ ¬ cStays mi k x = 0
def cLoad (mi : Nat → Nat → Int) (post hour : Int) (k : Nat) : Int := gfold (fun a acc => if ¬ andI (shrI (cA mi a 11) hour) 1 = 0 ∧ ¬ cHere mi a = 0 ∧ cP mi (cA mi a 8) 7 = post then acc + cA mi a 12 else acc) 0 k
def cHereN (mi : Nat → Nat → Int) (k : Nat) : Int := gfold (fun a acc => if ¬ cHere mi a = 0 then acc + 1 else acc) 0 k
def cWaitN (mi : Nat → Nat → Int) (k : Nat) : Int := gfold (fun a acc => if cA mi a 8 = -1 then acc + 1 else acc) 0 k
def cOthers (mi : Nat → Nat → Int) (a x : Int) (k : Nat) : Int := gfold (fun b acc => if ¬ b = a ∧ 0 ≤ cA mi b 8 ∧ ¬ cStays mi b x = 0 then acc + 1 else acc) 0 k
theorem cHere_on {mi : Nat → Nat → Int} {a : Int} (h : ¬ cHere mi a = 0) : 0 ≤ cA mi a 8 := (b2_pos h).1
set_option maxRecDepth 100000 in
set_option maxHeartbeats 4000000 in
theorem lS_hereN {G : gG} (hsz : G.2.2.2.2.2.2 = true) {n : Nat} (hn : 4 ≤ n) (mi : Nat → Nat → Int) (ml : Nat → Nat → Int64)  (hv : CV mi) : ∀ (f : Nat) (k : Int), 0 ≤ k → k ≤ mi 1 3 → mi 1 3 - k < f → Go G mX8_partiesHere n 0 0 4 [some (gr 1), some (gi (cHereN mi k.toNat)), some (gi k)] [] (gw mi ml) (gret (cHereN mi (mi 1 3).toNat) (gw mi ml)) := by
  have hn1 : 1 ≤ n := by omega
  obtain ⟨hR, ht, hp, hq, hP, hQ⟩ := id hv
  intro f
  induction f with
  | zero => intros; omega
  | succ f ih =>
    intro k k0 k1 k2
    refine Go.run hsz hn1 3 (pc' := 9) (lv' := [some (gr 1), some (gi (cHereN mi k.toNat)), some (gi k)]) (st' := [gi (mi 1 3), gi k]) (M' := gw mi ml) rfl ?_
    refine Go.icmp_ge (by rfl) ⟨by omega, by omega⟩ (hR _ _) (fun kq1 => ?_) (fun kq1 => ?_)
    · refine Go.run hsz hn1 1 (pc' := 30) (lv' := [some (gr 1), some (gi (cHereN mi k.toNat)), some (gi k)]) (st' := [gi (cHereN mi k.toNat)]) (M' := gw mi ml) rfl ?_
      exact Go.iret (by rfl) ⟨by rw [show mi 1 3 = k by omega], rfl⟩
    · refine Go.run hsz hn1 2 (pc' := 14) (lv' := [some (gr 1), some (gi (cHereN mi k.toNat)), some (gi k)]) (st' := [gi k, gr 1]) (M' := gw mi ml) rfl ?_
      refine Go.callV (As := [gi k]) (b := 1) (st := []) (mc1 := 0) (mc := 0) (ms1 := 0) (ms := 0) (by rfl) rfl (c := 7) (N := 11) (by rfl) (by decide) (by rfl) (gcn 65 (by decide)).1 (gcn 65 (by decide)).2 rfl (Nat.le_of_ble_eq_true rfl) (by omega) (cS_isHere hsz (n := n - 1) (by omega) mi ml k (by omega) (by omega) (hP k (by omega) (by omega)) hR) ?_
      rintro _ _ ⟨rfl, rfl⟩
      refine Go.run hsz hn1 0 (pc' := 17) (lv' := [some (gr 1), some (gi (cHereN mi k.toNat)), some (gi k)]) (st' := [gi (cHere mi k)]) (M' := gw mi ml) rfl ?_
      refine Go.if_eq (by rfl) (b2_rng _) (fun kq2 => ?_) (fun kq2 => ?_)
      · refine Go.run hsz hn1 2 (pc' := 4) (lv' := [some (gr 1), some (gi (cHereN mi k.toNat)), some (gi (k + 1))]) (st' := []) (M' := gw mi ml) rfl ?_
        have h9 := ih (k + 1) (by omega) (by omega) (by omega)
        rw [show cHereN mi (k + 1).toNat = _ from gfold_s k0] at h9
        (try dsimp only at h9)
        (repeat' split at h9) <;> first | exact h9 | (exfalso; omega)
      · refine Go.run hsz hn1 3 (pc' := 4) (lv' := [some (gr 1), some (gi ((cHereN mi k.toNat) + 1)), some (gi (k + 1))]) (st' := []) (M' := gw mi ml) rfl ?_
        have h9 := ih (k + 1) (by omega) (by omega) (by omega)
        rw [show cHereN mi (k + 1).toNat = _ from gfold_s k0] at h9
        (try dsimp only at h9)
        (repeat' split at h9) <;> first | exact h9 | (exfalso; omega)
set_option maxRecDepth 100000 in
set_option maxHeartbeats 4000000 in
theorem cS_hereN {G : gG} (hsz : G.2.2.2.2.2.2 = true) {n : Nat} (hn : 4 ≤ n) (mi : Nat → Nat → Int) (ml : Nat → Nat → Int64) (hv : CV mi) : gM G 67 n 0 0 [gr 1] (gw mi ml) (gret (cHereN mi (mi 1 3).toNat) (gw mi ml)) := by
  have hn1 : 1 ≤ n := by omega
  refine gM.of mX8_partiesHere okX8_partiesHere (gcp 67 (by decide)).1 (gcp 67 (by decide)).2 (Nat.le_of_ble_eq_true rfl) ?_
  refine Go.run hsz hn1 4 (pc' := 4) (lv' := [some (gr 1), some (gi 0), some (gi 0)]) (st' := []) (M' := gw mi ml) rfl ?_
  exact lS_hereN hsz hn mi ml  hv ((mi 1 3).toNat + 1) 0 (by omega) (by have := hv.2.2.2.1.1; omega) (by omega)
set_option maxRecDepth 100000 in
set_option maxHeartbeats 4000000 in
theorem lS_waitN {G : gG} (hsz : G.2.2.2.2.2.2 = true) {n : Nat} (hn : 2 ≤ n) (mi : Nat → Nat → Int) (ml : Nat → Nat → Int64)  (hv : CV mi) : ∀ (f : Nat) (k : Int), 0 ≤ k → k ≤ mi 1 3 → mi 1 3 - k < f → Go G mX8_partiesWaiting n 0 0 4 [some (gr 1), some (gi (cWaitN mi k.toNat)), some (gi k)] [] (gw mi ml) (gret (cWaitN mi (mi 1 3).toNat) (gw mi ml)) := by
  have hn1 : 1 ≤ n := by omega
  obtain ⟨hR, ht, hp, hq, hP, hQ⟩ := id hv
  intro f
  induction f with
  | zero => intros; omega
  | succ f ih =>
    intro k k0 k1 k2
    refine Go.run hsz hn1 3 (pc' := 9) (lv' := [some (gr 1), some (gi (cWaitN mi k.toNat)), some (gi k)]) (st' := [gi (mi 1 3), gi k]) (M' := gw mi ml) rfl ?_
    refine Go.icmp_ge (by rfl) ⟨by omega, by omega⟩ (hR _ _) (fun kq1 => ?_) (fun kq1 => ?_)
    · refine Go.run hsz hn1 1 (pc' := 35) (lv' := [some (gr 1), some (gi (cWaitN mi k.toNat)), some (gi k)]) (st' := [gi (cWaitN mi k.toNat)]) (M' := gw mi ml) rfl ?_
      exact Go.iret (by rfl) ⟨by rw [show mi 1 3 = k by omega], rfl⟩
    · refine Go.run hsz hn1 3 (pc' := 17) (lv' := [some (gr 1), some (gi (cWaitN mi k.toNat)), some (gi k)]) (st' := [gi k, gr 3]) (M' := gw mi ml) rfl ?_
      refine Go.aaldR 4 (by rfl) (N := 24) (by rfl) ⟨by decide, by decide⟩ (by omega) (by omega) (by decide) (gMR_3 (by omega) (by omega)) ?_
      refine Go.getf (by rfl) (c := 2) (N := 14) (shA (i := k) (by omega)) ?_
      refine Go.run hsz hn1 1 (pc' := 22) (lv' := [some (gr 1), some (gi (cWaitN mi k.toNat)), some (gi k)]) (st' := [gi (-1), gi (cA mi k 8)]) (M' := gw mi ml) rfl ?_
      refine Go.icmp_ne (by rfl) (hR _ _) ⟨by decide, by decide⟩ (fun kq2 => ?_) (fun kq2 => ?_)
      · refine Go.run hsz hn1 2 (pc' := 4) (lv' := [some (gr 1), some (gi (cWaitN mi k.toNat)), some (gi (k + 1))]) (st' := []) (M' := gw mi ml) rfl ?_
        have h9 := ih (k + 1) (by omega) (by omega) (by omega)
        rw [show cWaitN mi (k + 1).toNat = _ from gfold_s k0] at h9
        (try dsimp only at h9)
        (repeat' split at h9) <;> first | exact h9 | (exfalso; omega)
      · refine Go.run hsz hn1 3 (pc' := 4) (lv' := [some (gr 1), some (gi ((cWaitN mi k.toNat) + 1)), some (gi (k + 1))]) (st' := []) (M' := gw mi ml) rfl ?_
        have h9 := ih (k + 1) (by omega) (by omega) (by omega)
        rw [show cWaitN mi (k + 1).toNat = _ from gfold_s k0] at h9
        (try dsimp only at h9)
        (repeat' split at h9) <;> first | exact h9 | (exfalso; omega)
set_option maxRecDepth 100000 in
set_option maxHeartbeats 4000000 in
theorem cS_waitN {G : gG} (hsz : G.2.2.2.2.2.2 = true) {n : Nat} (hn : 2 ≤ n) (mi : Nat → Nat → Int) (ml : Nat → Nat → Int64) (hv : CV mi) : gM G 68 n 0 0 [gr 1] (gw mi ml) (gret (cWaitN mi (mi 1 3).toNat) (gw mi ml)) := by
  have hn1 : 1 ≤ n := by omega
  refine gM.of mX8_partiesWaiting okX8_partiesWaiting (gcp 68 (by decide)).1 (gcp 68 (by decide)).2 (Nat.le_of_ble_eq_true rfl) ?_
  refine Go.run hsz hn1 4 (pc' := 4) (lv' := [some (gr 1), some (gi 0), some (gi 0)]) (st' := []) (M' := gw mi ml) rfl ?_
  exact lS_waitN hsz hn mi ml  hv ((mi 1 3).toNat + 1) 0 (by omega) (by have := hv.2.2.2.1.1; omega) (by omega)
set_option maxRecDepth 100000 in
set_option maxHeartbeats 4000000 in
theorem lS_others {G : gG} (hsz : G.2.2.2.2.2.2 = true) {n : Nat} (hn : 4 ≤ n) (mi : Nat → Nat → Int) (ml : Nat → Nat → Int64) (a x : Int) (ra : rng a) (rx : rng x) (hv : CV mi) : ∀ (f : Nat) (k : Int), 0 ≤ k → k ≤ mi 1 3 → mi 1 3 - k < f → Go G mX8_othersOn n 0 0 5 [some (gr 1), some (gi a), some (gi x), some (gi (cOthers mi a x k.toNat)), some (gi k)] [] (gw mi ml) (gret (cOthers mi a x (mi 1 3).toNat) (gw mi ml)) := by
  have hn1 : 1 ≤ n := by omega
  obtain ⟨hR, ht, hp, hq, hP, hQ⟩ := id hv
  intro f
  induction f with
  | zero => intros; omega
  | succ f ih =>
    intro k k0 k1 k2
    refine Go.run hsz hn1 3 (pc' := 11) (lv' := [some (gr 1), some (gi a), some (gi x), some (gi (cOthers mi a x k.toNat)), some (gi k)]) (st' := [gi (mi 1 3), gi k]) (M' := gw mi ml) rfl ?_
    refine Go.icmp_ge (by rfl) ⟨by omega, by omega⟩ (hR _ _) (fun kq1 => ?_) (fun kq1 => ?_)
    · refine Go.run hsz hn1 1 (pc' := 53) (lv' := [some (gr 1), some (gi a), some (gi x), some (gi (cOthers mi a x k.toNat)), some (gi k)]) (st' := [gi (cOthers mi a x k.toNat)]) (M' := gw mi ml) rfl ?_
      exact Go.iret (by rfl) ⟨by rw [show mi 1 3 = k by omega], rfl⟩
    · refine Go.run hsz hn1 2 (pc' := 17) (lv' := [some (gr 1), some (gi a), some (gi x), some (gi (cOthers mi a x k.toNat)), some (gi k)]) (st' := [gi a, gi k]) (M' := gw mi ml) rfl ?_
      refine Go.icmp_eq (by rfl) ⟨by omega, by omega⟩ ra (fun kq2 => ?_) (fun kq2 => ?_)
      · refine Go.run hsz hn1 2 (pc' := 5) (lv' := [some (gr 1), some (gi a), some (gi x), some (gi (cOthers mi a x k.toNat)), some (gi (k + 1))]) (st' := []) (M' := gw mi ml) rfl ?_
        have h9 := ih (k + 1) (by omega) (by omega) (by omega)
        rw [show cOthers mi a x (k + 1).toNat = _ from gfold_s k0] at h9
        (try dsimp only at h9)
        (repeat' split at h9) <;> first | exact h9 | (exfalso; omega)
      · refine Go.run hsz hn1 2 (pc' := 23) (lv' := [some (gr 1), some (gi a), some (gi x), some (gi (cOthers mi a x k.toNat)), some (gi k)]) (st' := [gi k, gr 1]) (M' := gw mi ml) rfl ?_
        refine Go.callV (As := [gi k]) (b := 1) (st := []) (mc1 := 0) (mc := 0) (ms1 := 0) (ms := 0) (by rfl) rfl (c := 7) (N := 11) (by rfl) (by decide) (by rfl) (gcn 62 (by decide)).1 (gcn 62 (by decide)).2 rfl (Nat.le_of_ble_eq_true rfl) (by omega) (cS_isOn hsz (n := n - 1) (by omega) mi ml k (by omega) (by omega) hR) ?_
        rintro _ _ ⟨rfl, rfl⟩
        refine Go.run hsz hn1 0 (pc' := 26) (lv' := [some (gr 1), some (gi a), some (gi x), some (gi (cOthers mi a x k.toNat)), some (gi k)]) (st' := [gi (b2 (0 ≤ cA mi k 8))]) (M' := gw mi ml) rfl ?_
        refine Go.if_eq (by rfl) (b2_rng _) (fun kq3 => ?_) (fun kq3 => ?_)
        · replace kq3 := b2_neg kq3
          refine Go.run hsz hn1 2 (pc' := 5) (lv' := [some (gr 1), some (gi a), some (gi x), some (gi (cOthers mi a x k.toNat)), some (gi (k + 1))]) (st' := []) (M' := gw mi ml) rfl ?_
          have h9 := ih (k + 1) (by omega) (by omega) (by omega)
          rw [show cOthers mi a x (k + 1).toNat = _ from gfold_s k0] at h9
          (try dsimp only at h9)
          (repeat' split at h9) <;> first | exact h9 | (exfalso; omega)
        · replace kq3 := b2_pos kq3
          refine Go.run hsz hn1 3 (pc' := 35) (lv' := [some (gr 1), some (gi a), some (gi x), some (gi (cOthers mi a x k.toNat)), some (gi k)]) (st' := [gi k, gr 3]) (M' := gw mi ml) rfl ?_
          refine Go.aaldR 4 (by rfl) (N := 24) (by rfl) ⟨by decide, by decide⟩ (by omega) (by omega) (by decide) (gMR_3 (by omega) (by omega)) ?_
          refine Go.run hsz hn1 1 (pc' := 37) (lv' := [some (gr 1), some (gi a), some (gi x), some (gi (cOthers mi a x k.toNat)), some (gi k)]) (st' := [gi x, gr (24 + k.toNat)]) (M' := gw mi ml) rfl ?_
          refine Go.callV (As := [gi x]) (b := 24 + k.toNat) (st := []) (mc1 := 0) (mc := 0) (ms1 := 0) (ms := 0) (by rfl) rfl (c := 2) (N := 14) (shA (i := k) (by omega)) (by decide) (by rfl) (gcn 25 (by decide)).1 (gcn 25 (by decide)).2 rfl (Nat.le_of_ble_eq_true rfl) (by omega) (cPa_stays hsz (n := n - 1) (by omega) mi ml k x (by omega) (by omega) rx (hP k (by omega) (by omega)) hR) ?_
          rintro _ _ ⟨rfl, rfl⟩
          refine Go.run hsz hn1 0 (pc' := 40) (lv' := [some (gr 1), some (gi a), some (gi x), some (gi (cOthers mi a x k.toNat)), some (gi k)]) (st' := [gi (cStays mi k x)]) (M' := gw mi ml) rfl ?_
          refine Go.if_eq (by rfl) (b2_rng _) (fun kq4 => ?_) (fun kq4 => ?_)
          · refine Go.run hsz hn1 2 (pc' := 5) (lv' := [some (gr 1), some (gi a), some (gi x), some (gi (cOthers mi a x k.toNat)), some (gi (k + 1))]) (st' := []) (M' := gw mi ml) rfl ?_
            have h9 := ih (k + 1) (by omega) (by omega) (by omega)
            rw [show cOthers mi a x (k + 1).toNat = _ from gfold_s k0] at h9
            (try dsimp only at h9)
            (repeat' split at h9) <;> first | exact h9 | (exfalso; omega)
          · refine Go.run hsz hn1 3 (pc' := 5) (lv' := [some (gr 1), some (gi a), some (gi x), some (gi ((cOthers mi a x k.toNat) + 1)), some (gi (k + 1))]) (st' := []) (M' := gw mi ml) rfl ?_
            have h9 := ih (k + 1) (by omega) (by omega) (by omega)
            rw [show cOthers mi a x (k + 1).toNat = _ from gfold_s k0] at h9
            (try dsimp only at h9)
            (repeat' split at h9) <;> first | exact h9 | (exfalso; omega)
set_option maxRecDepth 100000 in
set_option maxHeartbeats 4000000 in
theorem cS_others {G : gG} (hsz : G.2.2.2.2.2.2 = true) {n : Nat} (hn : 4 ≤ n) (mi : Nat → Nat → Int) (ml : Nat → Nat → Int64) (a x : Int) (ra : rng a) (rx : rng x) (hv : CV mi) : gM G 76 n 0 0 [gr 1, gi a, gi x] (gw mi ml) (gret (cOthers mi a x (mi 1 3).toNat) (gw mi ml)) := by
  have hn1 : 1 ≤ n := by omega
  refine gM.of mX8_othersOn okX8_othersOn (gcp 76 (by decide)).1 (gcp 76 (by decide)).2 (Nat.le_of_ble_eq_true rfl) ?_
  refine Go.run hsz hn1 4 (pc' := 5) (lv' := [some (gr 1), some (gi a), some (gi x), some (gi 0), some (gi 0)]) (st' := []) (M' := gw mi ml) rfl ?_
  exact lS_others hsz hn mi ml a x ra rx hv ((mi 1 3).toNat + 1) 0 (by omega) (by have := hv.2.2.2.1.1; omega) (by omega)
set_option maxRecDepth 100000 in
set_option maxHeartbeats 4000000 in
theorem lS_load {G : gG} (hsz : G.2.2.2.2.2.2 = true) {n : Nat} (hn : 4 ≤ n) (mi : Nat → Nat → Int) (ml : Nat → Nat → Int64) (post hour : Int) (r1 : rng post) (hv : CV mi) : ∀ (f : Nat) (k : Int), 0 ≤ k → k ≤ mi 1 3 → mi 1 3 - k < f → Go G mX8_loadNow n 0 0 5 [some (gr 1), some (gi post), some (gi hour), some (gi (cLoad mi post hour k.toNat)), some (gi k), none, none] [] (gw mi ml) (gret (cLoad mi post hour (mi 1 3).toNat) (gw mi ml)) := by
  have hn1 : 1 ≤ n := by omega
  obtain ⟨hR, ht, hp, hq, hP, hQ⟩ := id hv
  intro f
  induction f with
  | zero => intros; omega
  | succ f ih =>
    intro k k0 k1 k2
    refine Go.run hsz hn1 3 (pc' := 11) (lv' := [some (gr 1), some (gi post), some (gi hour), some (gi (cLoad mi post hour k.toNat)), some (gi k), none, none]) (st' := [gi (mi 1 3), gi k]) (M' := gw mi ml) rfl ?_
    refine Go.icmp_ge (by rfl) ⟨by omega, by omega⟩ (hR _ _) (fun kq1 => ?_) (fun kq1 => ?_)
    · refine Go.run hsz hn1 1 (pc' := 88) (lv' := [some (gr 1), some (gi post), some (gi hour), some (gi (cLoad mi post hour k.toNat)), some (gi k), none, none]) (st' := [gi (cLoad mi post hour k.toNat)]) (M' := gw mi ml) rfl ?_
      exact Go.iret (by rfl) ⟨by rw [show mi 1 3 = k by omega], rfl⟩
    · refine Go.run hsz hn1 3 (pc' := 20) (lv' := [some (gr 1), some (gi post), some (gi hour), some (gi (cLoad mi post hour k.toNat)), some (gi k), none, none]) (st' := [gi k, gr 3]) (M' := gw mi ml) rfl ?_
      refine Go.aaldR 4 (by rfl) (N := 24) (by rfl) ⟨by decide, by decide⟩ (by omega) (by omega) (by decide) (gMR_3 (by omega) (by omega)) ?_
      refine Go.run hsz hn1 2 (pc' := 25) (lv' := [some (gr 1), some (gi post), some (gi hour), some (gi (cLoad mi post hour k.toNat)), some (gi k), some (gr (24 + k.toNat)), none]) (st' := [gr (24 + k.toNat)]) (M' := gw mi ml) rfl ?_
      refine Go.getf (by rfl) (c := 2) (N := 14) (shA (i := k) (by omega)) ?_
      refine Go.run hsz hn1 4 (pc' := 32) (lv' := [some (gr 1), some (gi post), some (gi hour), some (gi (cLoad mi post hour k.toNat)), some (gi k), some (gr (24 + k.toNat)), none]) (st' := [gi (andI (shrI (cA mi k 11) hour) 1)]) (M' := gw mi ml) rfl ?_
      refine Go.if_eq (by rfl) (rng_of _) (fun kq2 => ?_) (fun kq2 => ?_)
      · refine Go.run hsz hn1 3 (pc' := 44) (lv' := [some (gr 1), some (gi post), some (gi hour), some (gi (cLoad mi post hour k.toNat)), some (gi k), some (gr (24 + k.toNat)), some (gi 0)]) (st' := [gi 0]) (M' := gw mi ml) rfl ?_
        refine Go.if_eq (by rfl) ⟨by decide, by decide⟩ (fun kq3 => ?_) (fun kq3 => ?_)
        · refine Go.run hsz hn1 2 (pc' := 5) (lv' := [some (gr 1), some (gi post), some (gi hour), some (gi (cLoad mi post hour k.toNat)), some (gi (k + 1)), some (gr (24 + k.toNat)), some (gi 0)]) (st' := []) (M' := gw mi ml) rfl ?_
          refine Go.dropl 5 ?_
          refine Go.dropl 6 ?_
          refine Go.run hsz hn1 0 (pc' := 5) (lv' := [some (gr 1), some (gi post), some (gi hour), some (gi (cLoad mi post hour k.toNat)), some (gi (k + 1)), none, none]) (st' := []) (M' := gw mi ml) rfl ?_
          have h9 := ih (k + 1) (by omega) (by omega) (by omega)
          rw [show cLoad mi post hour (k + 1).toNat = _ from gfold_s k0] at h9
          (try dsimp only at h9)
          (repeat' split at h9) <;> first | exact h9 | (exfalso; omega)
        · exact absurd kq3 (by decide)
      · refine Go.run hsz hn1 4 (pc' := 44) (lv' := [some (gr 1), some (gi post), some (gi hour), some (gi (cLoad mi post hour k.toNat)), some (gi k), some (gr (24 + k.toNat)), some (gi 1)]) (st' := [gi 1]) (M' := gw mi ml) rfl ?_
        refine Go.if_eq (by rfl) ⟨by decide, by decide⟩ (fun kq4 => ?_) (fun kq4 => ?_)
        · exact absurd kq4 (by decide)
        · refine Go.run hsz hn1 2 (pc' := 50) (lv' := [some (gr 1), some (gi post), some (gi hour), some (gi (cLoad mi post hour k.toNat)), some (gi k), some (gr (24 + k.toNat)), some (gi 1)]) (st' := [gi k, gr 1]) (M' := gw mi ml) rfl ?_
          refine Go.callV (As := [gi k]) (b := 1) (st := []) (mc1 := 0) (mc := 0) (ms1 := 0) (ms := 0) (by rfl) rfl (c := 7) (N := 11) (by rfl) (by decide) (by rfl) (gcn 65 (by decide)).1 (gcn 65 (by decide)).2 rfl (Nat.le_of_ble_eq_true rfl) (by omega) (cS_isHere hsz (n := n - 1) (by omega) mi ml k (by omega) (by omega) (hP k (by omega) (by omega)) hR) ?_
          rintro _ _ ⟨rfl, rfl⟩
          refine Go.run hsz hn1 0 (pc' := 53) (lv' := [some (gr 1), some (gi post), some (gi hour), some (gi (cLoad mi post hour k.toNat)), some (gi k), some (gr (24 + k.toNat)), some (gi 1)]) (st' := [gi (cHere mi k)]) (M' := gw mi ml) rfl ?_
          refine Go.if_eq (by rfl) (b2_rng _) (fun kq5 => ?_) (fun kq5 => ?_)
          · refine Go.run hsz hn1 2 (pc' := 5) (lv' := [some (gr 1), some (gi post), some (gi hour), some (gi (cLoad mi post hour k.toNat)), some (gi (k + 1)), some (gr (24 + k.toNat)), some (gi 1)]) (st' := []) (M' := gw mi ml) rfl ?_
            refine Go.dropl 5 ?_
            refine Go.dropl 6 ?_
            refine Go.run hsz hn1 0 (pc' := 5) (lv' := [some (gr 1), some (gi post), some (gi hour), some (gi (cLoad mi post hour k.toNat)), some (gi (k + 1)), none, none]) (st' := []) (M' := gw mi ml) rfl ?_
            have h9 := ih (k + 1) (by omega) (by omega) (by omega)
            rw [show cLoad mi post hour (k + 1).toNat = _ from gfold_s k0] at h9
            (try dsimp only at h9)
            (repeat' split at h9) <;> first | exact h9 | (exfalso; omega)
          · refine Go.run hsz hn1 3 (pc' := 62) (lv' := [some (gr 1), some (gi post), some (gi hour), some (gi (cLoad mi post hour k.toNat)), some (gi k), some (gr (24 + k.toNat)), some (gi 1)]) (st' := [gr (24 + k.toNat), gr 2]) (M' := gw mi ml) rfl ?_
            refine Go.getf (by rfl) (c := 2) (N := 14) (shA (i := k) (by omega)) ?_
            refine Go.run hsz hn1 0 (pc' := 65) (lv' := [some (gr 1), some (gi post), some (gi hour), some (gi (cLoad mi post hour k.toNat)), some (gi k), some (gr (24 + k.toNat)), some (gi 1)]) (st' := [gi (cA mi k 8), gr 2]) (M' := gw mi ml) rfl ?_
            refine Go.aaldR 3 (by rfl) (N := 12) (by rfl) ⟨by decide, by decide⟩ (by have := cHere_on (mi := mi) (a := k) (by assumption); have := (hP k (by omega) (by omega)).2.2.2.2.2.2.2.1; omega) (by have := cHere_on (mi := mi) (a := k) (by assumption); have := (hP k (by omega) (by omega)).2.2.2.2.2.2.2.1; omega) (by decide) (gMR_2 (by have := cHere_on (mi := mi) (a := k) (by assumption); have := (hP k (by omega) (by omega)).2.2.2.2.2.2.2.1; omega) (by have := cHere_on (mi := mi) (a := k) (by assumption); have := (hP k (by omega) (by omega)).2.2.2.2.2.2.2.1; omega)) ?_
            refine Go.run hsz hn1 0 (pc' := 66) (lv' := [some (gr 1), some (gi post), some (gi hour), some (gi (cLoad mi post hour k.toNat)), some (gi k), some (gr (24 + k.toNat)), some (gi 1)]) (st' := [gr (12 + (cA mi k 8).toNat)]) (M' := gw mi ml) rfl ?_
            refine Go.getf (by rfl) (c := 3) (N := 10) (shP (i := cA mi k 8) (by have := cHere_on (mi := mi) (a := k) (by assumption); have := (hP k (by omega) (by omega)).2.2.2.2.2.2.2.1; omega)) ?_
            refine Go.run hsz hn1 1 (pc' := 70) (lv' := [some (gr 1), some (gi post), some (gi hour), some (gi (cLoad mi post hour k.toNat)), some (gi k), some (gr (24 + k.toNat)), some (gi 1)]) (st' := [gi post, gi (cP mi (cA mi k 8) 7)]) (M' := gw mi ml) rfl ?_
            refine Go.icmp_ne (by rfl) (hR _ _) r1 (fun kq6 => ?_) (fun kq6 => ?_)
            · refine Go.run hsz hn1 2 (pc' := 5) (lv' := [some (gr 1), some (gi post), some (gi hour), some (gi (cLoad mi post hour k.toNat)), some (gi (k + 1)), some (gr (24 + k.toNat)), some (gi 1)]) (st' := []) (M' := gw mi ml) rfl ?_
              refine Go.dropl 5 ?_
              refine Go.dropl 6 ?_
              refine Go.run hsz hn1 0 (pc' := 5) (lv' := [some (gr 1), some (gi post), some (gi hour), some (gi (cLoad mi post hour k.toNat)), some (gi (k + 1)), none, none]) (st' := []) (M' := gw mi ml) rfl ?_
              have h9 := ih (k + 1) (by omega) (by omega) (by omega)
              rw [show cLoad mi post hour (k + 1).toNat = _ from gfold_s k0] at h9
              (try dsimp only at h9)
              (repeat' split at h9) <;> first | exact h9 | (exfalso; omega)
            · refine Go.run hsz hn1 2 (pc' := 76) (lv' := [some (gr 1), some (gi post), some (gi hour), some (gi (cLoad mi post hour k.toNat)), some (gi k), some (gr (24 + k.toNat)), some (gi 1)]) (st' := [gr (24 + k.toNat), gi (cLoad mi post hour k.toNat)]) (M' := gw mi ml) rfl ?_
              refine Go.getf (by rfl) (c := 2) (N := 14) (shA (i := k) (by omega)) ?_
              refine Go.run hsz hn1 4 (pc' := 5) (lv' := [some (gr 1), some (gi post), some (gi hour), some (gi ((cLoad mi post hour k.toNat) + (cA mi k 12))), some (gi (k + 1)), some (gr (24 + k.toNat)), some (gi 1)]) (st' := []) (M' := gw mi ml) rfl ?_
              refine Go.dropl 5 ?_
              refine Go.dropl 6 ?_
              refine Go.run hsz hn1 0 (pc' := 5) (lv' := [some (gr 1), some (gi post), some (gi hour), some (gi ((cLoad mi post hour k.toNat) + (cA mi k 12))), some (gi (k + 1)), none, none]) (st' := []) (M' := gw mi ml) rfl ?_
              have h9 := ih (k + 1) (by omega) (by omega) (by omega)
              rw [show cLoad mi post hour (k + 1).toNat = _ from gfold_s k0] at h9
              (try dsimp only at h9)
              (repeat' split at h9) <;> first | exact h9 | (exfalso; omega)
set_option maxRecDepth 100000 in
set_option maxHeartbeats 4000000 in
theorem cS_load {G : gG} (hsz : G.2.2.2.2.2.2 = true) {n : Nat} (hn : 4 ≤ n) (mi : Nat → Nat → Int) (ml : Nat → Nat → Int64) (post hour : Int) (r1 : rng post) (hv : CV mi) : gM G 72 n 0 0 [gr 1, gi post, gi hour] (gw mi ml) (gret (cLoad mi post hour (mi 1 3).toNat) (gw mi ml)) := by
  have hn1 : 1 ≤ n := by omega
  refine gM.of mX8_loadNow okX8_loadNow (gcp 72 (by decide)).1 (gcp 72 (by decide)).2 (Nat.le_of_ble_eq_true rfl) ?_
  refine Go.run hsz hn1 4 (pc' := 5) (lv' := [some (gr 1), some (gi post), some (gi hour), some (gi 0), some (gi 0), none, none]) (st' := []) (M' := gw mi ml) rfl ?_
  exact lS_load hsz hn mi ml post hour r1 hv ((mi 1 3).toNat + 1) 0 (by omega) (by have := hv.2.2.2.1.1; omega) (by omega)

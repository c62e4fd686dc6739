def cTr (w : Int) : Nat := if w < 6 then w.toNat else (w + 2).toNat
set_option maxRecDepth 100000 in
set_option maxHeartbeats 4000000 in
theorem cPi_trait {G : gG} (hsz : G.2.2.2.2.2.2 = true) {n : Nat} (hn : 1 ≤ n) (mi : Nat → Nat → Int) (ml : Nat → Nat → Int64) (p : Int) (p0 : 0 ≤ p) (p1 : p < 12) (w : Int) (w0 : 0 ≤ w) (w1 : w ≤ 7) : gM G 30 n 0 0 [gr (12 + p.toNat), gi w] (gw mi ml) (gret (cP mi p w.toNat) (gw mi ml)) := by
  refine gM.of mX4_trait okX4_trait (gcp 30 (by decide)).1 (gcp 30 (by decide)).2 (Nat.le_of_ble_eq_true rfl) ?_
  rcases (show w = 0 ∨ w = 1 ∨ w = 2 ∨ w = 3 ∨ w = 4 ∨ w = 5 ∨ w = 6 ∨ w = 7 by omega) with rfl | rfl | rfl | rfl | rfl | rfl | rfl | rfl
  · refine Go.run hsz hn 1 (pc' := 1) (lv' := [some (gr (12 + p.toNat)), some (gi 0)]) (st' := [gi 0]) (M' := gw mi ml) rfl ?_
    refine Go.tsw_in (l := _) (w' := 0) (t := 44) (by rfl) (by rfl) ⟨by decide, by decide⟩ (by decide) (by decide) (by rfl) ?_
    refine Go.run hsz hn 1 (pc' := 45) (lv' := [some (gr (12 + p.toNat)), some (gi 0)]) (st' := [gr (12 + p.toNat)]) (M' := gw mi ml) rfl ?_
    refine Go.getf (by rfl) (c := 3) (N := 10) (shP (i := p) (by omega)) ?_
    refine Go.run hsz hn 0 (pc' := 48) (lv' := [some (gr (12 + p.toNat)), some (gi 0)]) (st' := [gi (cP mi p 0)]) (M' := gw mi ml) rfl ?_
    first | exact Go.iret (by rfl) ⟨congrArg (fun z => some (gi z)) (rfl), rfl⟩ | (exfalso; omega)
  · refine Go.run hsz hn 1 (pc' := 1) (lv' := [some (gr (12 + p.toNat)), some (gi 1)]) (st' := [gi 1]) (M' := gw mi ml) rfl ?_
    refine Go.tsw_in (l := _) (w' := 1) (t := 49) (by rfl) (by rfl) ⟨by decide, by decide⟩ (by decide) (by decide) (by rfl) ?_
    refine Go.run hsz hn 1 (pc' := 50) (lv' := [some (gr (12 + p.toNat)), some (gi 1)]) (st' := [gr (12 + p.toNat)]) (M' := gw mi ml) rfl ?_
    refine Go.getf (by rfl) (c := 3) (N := 10) (shP (i := p) (by omega)) ?_
    refine Go.run hsz hn 0 (pc' := 53) (lv' := [some (gr (12 + p.toNat)), some (gi 1)]) (st' := [gi (cP mi p 1)]) (M' := gw mi ml) rfl ?_
    first | exact Go.iret (by rfl) ⟨congrArg (fun z => some (gi z)) (rfl), rfl⟩ | (exfalso; omega)
  · refine Go.run hsz hn 1 (pc' := 1) (lv' := [some (gr (12 + p.toNat)), some (gi 2)]) (st' := [gi 2]) (M' := gw mi ml) rfl ?_
    refine Go.tsw_in (l := _) (w' := 2) (t := 54) (by rfl) (by rfl) ⟨by decide, by decide⟩ (by decide) (by decide) (by rfl) ?_
    refine Go.run hsz hn 1 (pc' := 55) (lv' := [some (gr (12 + p.toNat)), some (gi 2)]) (st' := [gr (12 + p.toNat)]) (M' := gw mi ml) rfl ?_
    refine Go.getf (by rfl) (c := 3) (N := 10) (shP (i := p) (by omega)) ?_
    refine Go.run hsz hn 0 (pc' := 58) (lv' := [some (gr (12 + p.toNat)), some (gi 2)]) (st' := [gi (cP mi p 2)]) (M' := gw mi ml) rfl ?_
    first | exact Go.iret (by rfl) ⟨congrArg (fun z => some (gi z)) (rfl), rfl⟩ | (exfalso; omega)
  · refine Go.run hsz hn 1 (pc' := 1) (lv' := [some (gr (12 + p.toNat)), some (gi 3)]) (st' := [gi 3]) (M' := gw mi ml) rfl ?_
    refine Go.tsw_in (l := _) (w' := 3) (t := 59) (by rfl) (by rfl) ⟨by decide, by decide⟩ (by decide) (by decide) (by rfl) ?_
    refine Go.run hsz hn 1 (pc' := 60) (lv' := [some (gr (12 + p.toNat)), some (gi 3)]) (st' := [gr (12 + p.toNat)]) (M' := gw mi ml) rfl ?_
    refine Go.getf (by rfl) (c := 3) (N := 10) (shP (i := p) (by omega)) ?_
    refine Go.run hsz hn 0 (pc' := 63) (lv' := [some (gr (12 + p.toNat)), some (gi 3)]) (st' := [gi (cP mi p 3)]) (M' := gw mi ml) rfl ?_
    first | exact Go.iret (by rfl) ⟨congrArg (fun z => some (gi z)) (rfl), rfl⟩ | (exfalso; omega)
  · refine Go.run hsz hn 1 (pc' := 1) (lv' := [some (gr (12 + p.toNat)), some (gi 4)]) (st' := [gi 4]) (M' := gw mi ml) rfl ?_
    refine Go.tsw_in (l := _) (w' := 4) (t := 64) (by rfl) (by rfl) ⟨by decide, by decide⟩ (by decide) (by decide) (by rfl) ?_
    refine Go.run hsz hn 1 (pc' := 65) (lv' := [some (gr (12 + p.toNat)), some (gi 4)]) (st' := [gr (12 + p.toNat)]) (M' := gw mi ml) rfl ?_
    refine Go.getf (by rfl) (c := 3) (N := 10) (shP (i := p) (by omega)) ?_
    refine Go.run hsz hn 0 (pc' := 68) (lv' := [some (gr (12 + p.toNat)), some (gi 4)]) (st' := [gi (cP mi p 4)]) (M' := gw mi ml) rfl ?_
    first | exact Go.iret (by rfl) ⟨congrArg (fun z => some (gi z)) (rfl), rfl⟩ | (exfalso; omega)
  · refine Go.run hsz hn 1 (pc' := 1) (lv' := [some (gr (12 + p.toNat)), some (gi 5)]) (st' := [gi 5]) (M' := gw mi ml) rfl ?_
    refine Go.tsw_in (l := _) (w' := 5) (t := 69) (by rfl) (by rfl) ⟨by decide, by decide⟩ (by decide) (by decide) (by rfl) ?_
    refine Go.run hsz hn 1 (pc' := 70) (lv' := [some (gr (12 + p.toNat)), some (gi 5)]) (st' := [gr (12 + p.toNat)]) (M' := gw mi ml) rfl ?_
    refine Go.getf (by rfl) (c := 3) (N := 10) (shP (i := p) (by omega)) ?_
    refine Go.run hsz hn 0 (pc' := 73) (lv' := [some (gr (12 + p.toNat)), some (gi 5)]) (st' := [gi (cP mi p 5)]) (M' := gw mi ml) rfl ?_
    first | exact Go.iret (by rfl) ⟨congrArg (fun z => some (gi z)) (rfl), rfl⟩ | (exfalso; omega)
  · refine Go.run hsz hn 1 (pc' := 1) (lv' := [some (gr (12 + p.toNat)), some (gi 6)]) (st' := [gi 6]) (M' := gw mi ml) rfl ?_
    refine Go.tsw_in (l := _) (w' := 6) (t := 74) (by rfl) (by rfl) ⟨by decide, by decide⟩ (by decide) (by decide) (by rfl) ?_
    refine Go.run hsz hn 1 (pc' := 75) (lv' := [some (gr (12 + p.toNat)), some (gi 6)]) (st' := [gr (12 + p.toNat)]) (M' := gw mi ml) rfl ?_
    refine Go.getf (by rfl) (c := 3) (N := 10) (shP (i := p) (by omega)) ?_
    refine Go.run hsz hn 0 (pc' := 78) (lv' := [some (gr (12 + p.toNat)), some (gi 6)]) (st' := [gi (cP mi p 6)]) (M' := gw mi ml) rfl ?_
    first | exact Go.iret (by rfl) ⟨congrArg (fun z => some (gi z)) (rfl), rfl⟩ | (exfalso; omega)
  · refine Go.run hsz hn 1 (pc' := 1) (lv' := [some (gr (12 + p.toNat)), some (gi 7)]) (st' := [gi 7]) (M' := gw mi ml) rfl ?_
    refine Go.tsw_out (l := _) (by rfl) (by rfl) ⟨by decide, by decide⟩ (by decide) ?_
    refine Go.run hsz hn 1 (pc' := 80) (lv' := [some (gr (12 + p.toNat)), some (gi 7)]) (st' := [gr (12 + p.toNat)]) (M' := gw mi ml) rfl ?_
    refine Go.getf (by rfl) (c := 3) (N := 10) (shP (i := p) (by omega)) ?_
    refine Go.run hsz hn 0 (pc' := 83) (lv' := [some (gr (12 + p.toNat)), some (gi 7)]) (st' := [gi (cP mi p 7)]) (M' := gw mi ml) rfl ?_
    first | exact Go.iret (by rfl) ⟨congrArg (fun z => some (gi z)) (rfl), rfl⟩ | (exfalso; omega)
set_option maxRecDepth 100000 in
set_option maxHeartbeats 4000000 in
theorem cPa_trait {G : gG} (hsz : G.2.2.2.2.2.2 = true) {n : Nat} (hn : 1 ≤ n) (mi : Nat → Nat → Int) (ml : Nat → Nat → Int64) (a : Int) (h0 : 0 ≤ a) (h1 : a < 24) (w : Int) (w0 : 0 ≤ w) (w1 : w ≤ 8) : gM G 23 n 0 0 [gr (24 + a.toNat), gi w] (gw mi ml) (gret (cA mi a (cTr w)) (gw mi ml)) := by
  refine gM.of mX3_trait okX3_trait (gcp 23 (by decide)).1 (gcp 23 (by decide)).2 (Nat.le_of_ble_eq_true rfl) ?_
  rcases (show w = 0 ∨ w = 1 ∨ w = 2 ∨ w = 3 ∨ w = 4 ∨ w = 5 ∨ w = 6 ∨ w = 7 ∨ w = 8 by omega) with rfl | rfl | rfl | rfl | rfl | rfl | rfl | rfl | rfl
  · refine Go.run hsz hn 1 (pc' := 1) (lv' := [some (gr (24 + a.toNat)), some (gi 0)]) (st' := [gi 0]) (M' := gw mi ml) rfl ?_
    refine Go.tsw_in (l := _) (w' := 0) (t := 48) (by rfl) (by rfl) ⟨by decide, by decide⟩ (by decide) (by decide) (by rfl) ?_
    refine Go.run hsz hn 1 (pc' := 49) (lv' := [some (gr (24 + a.toNat)), some (gi 0)]) (st' := [gr (24 + a.toNat)]) (M' := gw mi ml) rfl ?_
    refine Go.getf (by rfl) (c := 2) (N := 14) (shA (i := a) (by omega)) ?_
    refine Go.run hsz hn 0 (pc' := 52) (lv' := [some (gr (24 + a.toNat)), some (gi 0)]) (st' := [gi (cA mi a 0)]) (M' := gw mi ml) rfl ?_
    first | exact Go.iret (by rfl) ⟨congrArg (fun z => some (gi z)) (rfl), rfl⟩ | (exfalso; omega)
  · refine Go.run hsz hn 1 (pc' := 1) (lv' := [some (gr (24 + a.toNat)), some (gi 1)]) (st' := [gi 1]) (M' := gw mi ml) rfl ?_
    refine Go.tsw_in (l := _) (w' := 1) (t := 53) (by rfl) (by rfl) ⟨by decide, by decide⟩ (by decide) (by decide) (by rfl) ?_
    refine Go.run hsz hn 1 (pc' := 54) (lv' := [some (gr (24 + a.toNat)), some (gi 1)]) (st' := [gr (24 + a.toNat)]) (M' := gw mi ml) rfl ?_
    refine Go.getf (by rfl) (c := 2) (N := 14) (shA (i := a) (by omega)) ?_
    refine Go.run hsz hn 0 (pc' := 57) (lv' := [some (gr (24 + a.toNat)), some (gi 1)]) (st' := [gi (cA mi a 1)]) (M' := gw mi ml) rfl ?_
    first | exact Go.iret (by rfl) ⟨congrArg (fun z => some (gi z)) (rfl), rfl⟩ | (exfalso; omega)
  · refine Go.run hsz hn 1 (pc' := 1) (lv' := [some (gr (24 + a.toNat)), some (gi 2)]) (st' := [gi 2]) (M' := gw mi ml) rfl ?_
    refine Go.tsw_in (l := _) (w' := 2) (t := 58) (by rfl) (by rfl) ⟨by decide, by decide⟩ (by decide) (by decide) (by rfl) ?_
    refine Go.run hsz hn 1 (pc' := 59) (lv' := [some (gr (24 + a.toNat)), some (gi 2)]) (st' := [gr (24 + a.toNat)]) (M' := gw mi ml) rfl ?_
    refine Go.getf (by rfl) (c := 2) (N := 14) (shA (i := a) (by omega)) ?_
    refine Go.run hsz hn 0 (pc' := 62) (lv' := [some (gr (24 + a.toNat)), some (gi 2)]) (st' := [gi (cA mi a 2)]) (M' := gw mi ml) rfl ?_
    first | exact Go.iret (by rfl) ⟨congrArg (fun z => some (gi z)) (rfl), rfl⟩ | (exfalso; omega)
  · refine Go.run hsz hn 1 (pc' := 1) (lv' := [some (gr (24 + a.toNat)), some (gi 3)]) (st' := [gi 3]) (M' := gw mi ml) rfl ?_
    refine Go.tsw_in (l := _) (w' := 3) (t := 63) (by rfl) (by rfl) ⟨by decide, by decide⟩ (by decide) (by decide) (by rfl) ?_
    refine Go.run hsz hn 1 (pc' := 64) (lv' := [some (gr (24 + a.toNat)), some (gi 3)]) (st' := [gr (24 + a.toNat)]) (M' := gw mi ml) rfl ?_
    refine Go.getf (by rfl) (c := 2) (N := 14) (shA (i := a) (by omega)) ?_
    refine Go.run hsz hn 0 (pc' := 67) (lv' := [some (gr (24 + a.toNat)), some (gi 3)]) (st' := [gi (cA mi a 3)]) (M' := gw mi ml) rfl ?_
    first | exact Go.iret (by rfl) ⟨congrArg (fun z => some (gi z)) (rfl), rfl⟩ | (exfalso; omega)
  · refine Go.run hsz hn 1 (pc' := 1) (lv' := [some (gr (24 + a.toNat)), some (gi 4)]) (st' := [gi 4]) (M' := gw mi ml) rfl ?_
    refine Go.tsw_in (l := _) (w' := 4) (t := 68) (by rfl) (by rfl) ⟨by decide, by decide⟩ (by decide) (by decide) (by rfl) ?_
    refine Go.run hsz hn 1 (pc' := 69) (lv' := [some (gr (24 + a.toNat)), some (gi 4)]) (st' := [gr (24 + a.toNat)]) (M' := gw mi ml) rfl ?_
    refine Go.getf (by rfl) (c := 2) (N := 14) (shA (i := a) (by omega)) ?_
    refine Go.run hsz hn 0 (pc' := 72) (lv' := [some (gr (24 + a.toNat)), some (gi 4)]) (st' := [gi (cA mi a 4)]) (M' := gw mi ml) rfl ?_
    first | exact Go.iret (by rfl) ⟨congrArg (fun z => some (gi z)) (rfl), rfl⟩ | (exfalso; omega)
  · refine Go.run hsz hn 1 (pc' := 1) (lv' := [some (gr (24 + a.toNat)), some (gi 5)]) (st' := [gi 5]) (M' := gw mi ml) rfl ?_
    refine Go.tsw_in (l := _) (w' := 5) (t := 73) (by rfl) (by rfl) ⟨by decide, by decide⟩ (by decide) (by decide) (by rfl) ?_
    refine Go.run hsz hn 1 (pc' := 74) (lv' := [some (gr (24 + a.toNat)), some (gi 5)]) (st' := [gr (24 + a.toNat)]) (M' := gw mi ml) rfl ?_
    refine Go.getf (by rfl) (c := 2) (N := 14) (shA (i := a) (by omega)) ?_
    refine Go.run hsz hn 0 (pc' := 77) (lv' := [some (gr (24 + a.toNat)), some (gi 5)]) (st' := [gi (cA mi a 5)]) (M' := gw mi ml) rfl ?_
    first | exact Go.iret (by rfl) ⟨congrArg (fun z => some (gi z)) (rfl), rfl⟩ | (exfalso; omega)
  · refine Go.run hsz hn 1 (pc' := 1) (lv' := [some (gr (24 + a.toNat)), some (gi 6)]) (st' := [gi 6]) (M' := gw mi ml) rfl ?_
    refine Go.tsw_in (l := _) (w' := 6) (t := 78) (by rfl) (by rfl) ⟨by decide, by decide⟩ (by decide) (by decide) (by rfl) ?_
    refine Go.run hsz hn 1 (pc' := 79) (lv' := [some (gr (24 + a.toNat)), some (gi 6)]) (st' := [gr (24 + a.toNat)]) (M' := gw mi ml) rfl ?_
    refine Go.getf (by rfl) (c := 2) (N := 14) (shA (i := a) (by omega)) ?_
    refine Go.run hsz hn 0 (pc' := 82) (lv' := [some (gr (24 + a.toNat)), some (gi 6)]) (st' := [gi (cA mi a 8)]) (M' := gw mi ml) rfl ?_
    first | exact Go.iret (by rfl) ⟨congrArg (fun z => some (gi z)) (rfl), rfl⟩ | (exfalso; omega)
  · refine Go.run hsz hn 1 (pc' := 1) (lv' := [some (gr (24 + a.toNat)), some (gi 7)]) (st' := [gi 7]) (M' := gw mi ml) rfl ?_
    refine Go.tsw_in (l := _) (w' := 7) (t := 83) (by rfl) (by rfl) ⟨by decide, by decide⟩ (by decide) (by decide) (by rfl) ?_
    refine Go.run hsz hn 1 (pc' := 84) (lv' := [some (gr (24 + a.toNat)), some (gi 7)]) (st' := [gr (24 + a.toNat)]) (M' := gw mi ml) rfl ?_
    refine Go.getf (by rfl) (c := 2) (N := 14) (shA (i := a) (by omega)) ?_
    refine Go.run hsz hn 0 (pc' := 87) (lv' := [some (gr (24 + a.toNat)), some (gi 7)]) (st' := [gi (cA mi a 9)]) (M' := gw mi ml) rfl ?_
    first | exact Go.iret (by rfl) ⟨congrArg (fun z => some (gi z)) (rfl), rfl⟩ | (exfalso; omega)
  · refine Go.run hsz hn 1 (pc' := 1) (lv' := [some (gr (24 + a.toNat)), some (gi 8)]) (st' := [gi 8]) (M' := gw mi ml) rfl ?_
    refine Go.tsw_out (l := _) (by rfl) (by rfl) ⟨by decide, by decide⟩ (by decide) ?_
    refine Go.run hsz hn 1 (pc' := 89) (lv' := [some (gr (24 + a.toNat)), some (gi 8)]) (st' := [gr (24 + a.toNat)]) (M' := gw mi ml) rfl ?_
    refine Go.getf (by rfl) (c := 2) (N := 14) (shA (i := a) (by omega)) ?_
    refine Go.run hsz hn 0 (pc' := 92) (lv' := [some (gr (24 + a.toNat)), some (gi 8)]) (st' := [gi (cA mi a 10)]) (M' := gw mi ml) rfl ?_
    first | exact Go.iret (by rfl) ⟨congrArg (fun z => some (gi z)) (rfl), rfl⟩ | (exfalso; omega)
set_option maxRecDepth 100000 in
set_option maxHeartbeats 4000000 in
theorem pC_pitchOf {G : gG} (hsz : G.2.2.2.2.2.2 = true) {n : Nat} (hn : 3 ≤ n) (mi : Nat → Nat → Int) (ml : Nat → Nat → Int64) (p w : Int) (r_p : rng p) (r_w : rng w) (hv : CV mi)  : gM G 104 n 0 0 [gr 0, gi p, gi w] (gw mi ml) (fun r M => gE ((0 ≤ p ∧ p < mi 1 2) ∧ (0 ≤ w ∧ w ≤ 7)) (cP mi p w.toNat) (mi) ml r M ∨ gE (¬ ((0 ≤ p ∧ p < mi 1 2) ∧ (0 ≤ w ∧ w ≤ 7))) (-1000001) (cFd mi 0) ml r M) := by
  have hn1 : 1 ≤ n := by omega
  obtain ⟨hR, ht, hp, hq, hP, hQ⟩ := id hv
  refine gM.of mX11_pitchOf okX11_pitchOf (gcp 104 (by decide)).1 (gcp 104 (by decide)).2 (Nat.le_of_ble_eq_true rfl) ?_
  refine Go.run hsz hn1 3 (pc' := 5) (lv' := [some (gr 0), some (gi p), some (gi w)]) (st' := [gi p, gr 1]) (M' := gw mi ml) rfl ?_
  refine Go.callV (As := [gi p]) (b := 1) (st := []) (mc1 := 0) (mc := 0) (ms1 := 0) (ms := 0) (by rfl) rfl (c := 7) (N := 11) (by rfl) (by decide) (by rfl) (gcn 59 (by decide)).1 (gcn 59 (by decide)).2 rfl (Nat.le_of_ble_eq_true rfl) (by omega) (cS_isPitch hsz (n := n - 1) (by omega) mi ml p r_p hR) ?_
  rintro _ _ ⟨rfl, rfl⟩
  refine Go.run hsz hn1 0 (pc' := 8) (lv' := [some (gr 0), some (gi p), some (gi w)]) (st' := [gi (b2 (0 ≤ p ∧ p < mi 1 2))]) (M' := gw mi ml) rfl ?_
  refine Go.if_eq (by rfl) (b2_rng _) (fun kq1 => ?_) (fun kq1 => ?_)
  · replace kq1 := b2_neg kq1
    refine Go.run hsz hn1 2 (pc' := 24) (lv' := [some (gr 0), some (gi p), some (gi w)]) (st' := [gi (-1000001), gr 0]) (M' := gw mi ml) rfl ?_
    refine Go.callV (As := [gi (-1000001)]) (b := 0) (st := []) (mc1 := 0) (mc := 0) (ms1 := 0) (ms := 0) (by rfl) rfl (c := 10) (N := 9) (by rfl) (by decide) (by rfl) (gcn 147 (by decide)).1 (gcn 147 (by decide)).2 rfl (Nat.le_of_ble_eq_true rfl) (by omega) (cC_finding hsz (n := n - 1) (by omega) mi ml (-1000001) (by decide) (by decide)) ?_
    rintro _ _ ⟨rfl, rfl⟩
    refine Go.run hsz hn1 0 (pc' := 27) (lv' := [some (gr 0), some (gi p), some (gi w)]) (st' := [gi (-1000001)]) (M' := gw (cFd mi 0) ml) rfl ?_
    refine Go.iret (by rfl) ?_
    first | (exact Or.inl ⟨by omega, rfl, rfl⟩) | (exact Or.inr (⟨by omega, rfl, rfl⟩))
  · replace kq1 := b2_pos kq1
    refine Go.run hsz hn1 3 (pc' := 15) (lv' := [some (gr 0), some (gi p), some (gi w)]) (st' := [gi 7, gi 0, gi w]) (M' := gw mi ml) rfl ?_
    refine Go.callS (As := [gi w, gi 0, gi 7]) (st := []) (mc1 := 0) (mc := 0) (ms1 := 0) (ms := 0) (by rfl) rfl (gcn 150 (by decide)).1 (gcn 150 (by decide)).2 (Nat.le_of_ble_eq_true rfl) (by omega) (cC_isIn hsz (n := n - 1) (by omega) mi ml w 0 7 r_w ⟨by decide, by decide⟩ ⟨by decide, by decide⟩) ?_
    rintro _ _ ⟨rfl, rfl⟩
    refine Go.run hsz hn1 0 (pc' := 18) (lv' := [some (gr 0), some (gi p), some (gi w)]) (st' := [gi (b2 (0 ≤ w ∧ w ≤ 7))]) (M' := gw mi ml) rfl ?_
    refine Go.if_ne (by rfl) (b2_rng _) (fun kq2 => ?_) (fun kq2 => ?_)
    · replace kq2 := b2_pos kq2
      refine Go.run hsz hn1 4 (pc' := 36) (lv' := [some (gr 0), some (gi p), some (gi w)]) (st' := [gi p, gr 2]) (M' := gw mi ml) rfl ?_
      refine Go.aaldR 3 (by rfl) (N := 12) (by rfl) ⟨by decide, by decide⟩ (by omega) (by omega) (by decide) (gMR_2 (by omega) (by omega)) ?_
      refine Go.run hsz hn1 1 (pc' := 38) (lv' := [some (gr 0), some (gi p), some (gi w)]) (st' := [gi w, gr (12 + p.toNat)]) (M' := gw mi ml) rfl ?_
      refine Go.callV (As := [gi w]) (b := 12 + p.toNat) (st := []) (mc1 := 0) (mc := 0) (ms1 := 0) (ms := 0) (by rfl) rfl (c := 3) (N := 10) (shP (i := p) (by omega)) (by decide) (by rfl) (gcn 30 (by decide)).1 (gcn 30 (by decide)).2 rfl (Nat.le_of_ble_eq_true rfl) (by omega) (cPi_trait hsz (n := n - 1) (by omega) mi ml p (by omega) (by omega) w (by omega) (by omega)) ?_
      rintro _ _ ⟨rfl, rfl⟩
      refine Go.run hsz hn1 0 (pc' := 41) (lv' := [some (gr 0), some (gi p), some (gi w)]) (st' := [gi (cP mi p w.toNat)]) (M' := gw mi ml) rfl ?_
      refine Go.iret (by rfl) ?_
      first | (exact Or.inl ⟨by omega, rfl, rfl⟩) | (exact Or.inr (⟨by omega, rfl, rfl⟩))
    · replace kq2 := b2_neg kq2
      refine Go.run hsz hn1 2 (pc' := 24) (lv' := [some (gr 0), some (gi p), some (gi w)]) (st' := [gi (-1000001), gr 0]) (M' := gw mi ml) rfl ?_
      refine Go.callV (As := [gi (-1000001)]) (b := 0) (st := []) (mc1 := 0) (mc := 0) (ms1 := 0) (ms := 0) (by rfl) rfl (c := 10) (N := 9) (by rfl) (by decide) (by rfl) (gcn 147 (by decide)).1 (gcn 147 (by decide)).2 rfl (Nat.le_of_ble_eq_true rfl) (by omega) (cC_finding hsz (n := n - 1) (by omega) mi ml (-1000001) (by decide) (by decide)) ?_
      rintro _ _ ⟨rfl, rfl⟩
      refine Go.run hsz hn1 0 (pc' := 27) (lv' := [some (gr 0), some (gi p), some (gi w)]) (st' := [gi (-1000001)]) (M' := gw (cFd mi 0) ml) rfl ?_
      refine Go.iret (by rfl) ?_
      first | (exact Or.inl ⟨by omega, rfl, rfl⟩) | (exact Or.inr (⟨by omega, rfl, rfl⟩))
set_option maxRecDepth 100000 in
set_option maxHeartbeats 4000000 in
theorem pC_shade {G : gG} (hsz : G.2.2.2.2.2.2 = true) {n : Nat} (hn : 3 ≤ n) (mi : Nat → Nat → Int) (ml : Nat → Nat → Int64) (p v : Int) (r_p : rng p) (r_v : rng v) (hv : CV mi)  : gM G 105 n 0 0 [gr 0, gi p, gi v] (gw mi ml) (fun r M => gE ((0 ≤ p ∧ p < mi 1 2) ∧ (0 ≤ v ∧ v ≤ 9)) (cP mi p 4) (gu mi (12 + p.toNat) 4 v) ml r M ∨ gE (¬ ((0 ≤ p ∧ p < mi 1 2) ∧ (0 ≤ v ∧ v ≤ 9))) (-1000001) (cFd mi 0) ml r M) := by
  have hn1 : 1 ≤ n := by omega
  obtain ⟨hR, ht, hp, hq, hP, hQ⟩ := id hv
  refine gM.of mX11_shade okX11_shade (gcp 105 (by decide)).1 (gcp 105 (by decide)).2 (Nat.le_of_ble_eq_true rfl) ?_
  refine Go.run hsz hn1 3 (pc' := 5) (lv' := [some (gr 0), some (gi p), some (gi v), none]) (st' := [gi p, gr 1]) (M' := gw mi ml) rfl ?_
  refine Go.callV (As := [gi p]) (b := 1) (st := []) (mc1 := 0) (mc := 0) (ms1 := 0) (ms := 0) (by rfl) rfl (c := 7) (N := 11) (by rfl) (by decide) (by rfl) (gcn 59 (by decide)).1 (gcn 59 (by decide)).2 rfl (Nat.le_of_ble_eq_true rfl) (by omega) (cS_isPitch hsz (n := n - 1) (by omega) mi ml p r_p hR) ?_
  rintro _ _ ⟨rfl, rfl⟩
  refine Go.run hsz hn1 0 (pc' := 8) (lv' := [some (gr 0), some (gi p), some (gi v), none]) (st' := [gi (b2 (0 ≤ p ∧ p < mi 1 2))]) (M' := gw mi ml) rfl ?_
  refine Go.if_eq (by rfl) (b2_rng _) (fun kq1 => ?_) (fun kq1 => ?_)
  · replace kq1 := b2_neg kq1
    refine Go.run hsz hn1 2 (pc' := 24) (lv' := [some (gr 0), some (gi p), some (gi v), none]) (st' := [gi (-1000001), gr 0]) (M' := gw mi ml) rfl ?_
    refine Go.callV (As := [gi (-1000001)]) (b := 0) (st := []) (mc1 := 0) (mc := 0) (ms1 := 0) (ms := 0) (by rfl) rfl (c := 10) (N := 9) (by rfl) (by decide) (by rfl) (gcn 147 (by decide)).1 (gcn 147 (by decide)).2 rfl (Nat.le_of_ble_eq_true rfl) (by omega) (cC_finding hsz (n := n - 1) (by omega) mi ml (-1000001) (by decide) (by decide)) ?_
    rintro _ _ ⟨rfl, rfl⟩
    refine Go.run hsz hn1 0 (pc' := 27) (lv' := [some (gr 0), some (gi p), some (gi v), none]) (st' := [gi (-1000001)]) (M' := gw (cFd mi 0) ml) rfl ?_
    refine Go.iret (by rfl) ?_
    first | (exact Or.inl ⟨by omega, rfl, rfl⟩) | (exact Or.inr (⟨by omega, rfl, rfl⟩))
  · replace kq1 := b2_pos kq1
    refine Go.run hsz hn1 3 (pc' := 15) (lv' := [some (gr 0), some (gi p), some (gi v), none]) (st' := [gi 9, gi 0, gi v]) (M' := gw mi ml) rfl ?_
    refine Go.callS (As := [gi v, gi 0, gi 9]) (st := []) (mc1 := 0) (mc := 0) (ms1 := 0) (ms := 0) (by rfl) rfl (gcn 150 (by decide)).1 (gcn 150 (by decide)).2 (Nat.le_of_ble_eq_true rfl) (by omega) (cC_isIn hsz (n := n - 1) (by omega) mi ml v 0 9 r_v ⟨by decide, by decide⟩ ⟨by decide, by decide⟩) ?_
    rintro _ _ ⟨rfl, rfl⟩
    refine Go.run hsz hn1 0 (pc' := 18) (lv' := [some (gr 0), some (gi p), some (gi v), none]) (st' := [gi (b2 (0 ≤ v ∧ v ≤ 9))]) (M' := gw mi ml) rfl ?_
    refine Go.if_ne (by rfl) (b2_rng _) (fun kq2 => ?_) (fun kq2 => ?_)
    · replace kq2 := b2_pos kq2
      refine Go.run hsz hn1 4 (pc' := 36) (lv' := [some (gr 0), some (gi p), some (gi v), none]) (st' := [gi p, gr 2]) (M' := gw mi ml) rfl ?_
      refine Go.aaldR 3 (by rfl) (N := 12) (by rfl) ⟨by decide, by decide⟩ (by omega) (by omega) (by decide) (gMR_2 (by omega) (by omega)) ?_
      refine Go.run hsz hn1 0 (pc' := 37) (lv' := [some (gr 0), some (gi p), some (gi v), none]) (st' := [gr (12 + p.toNat)]) (M' := gw mi ml) rfl ?_
      refine Go.getf (by rfl) (c := 3) (N := 10) (shP (i := p) (by omega)) ?_
      refine Go.run hsz hn1 5 (pc' := 49) (lv' := [some (gr 0), some (gi p), some (gi v), some (gi (cP mi p 4))]) (st' := [gi p, gr 2]) (M' := gw mi ml) rfl ?_
      refine Go.aaldR 3 (by rfl) (N := 12) (by rfl) ⟨by decide, by decide⟩ (by omega) (by omega) (by decide) (gMR_2 (by omega) (by omega)) ?_
      refine Go.run hsz hn1 1 (pc' := 51) (lv' := [some (gr 0), some (gi p), some (gi v), some (gi (cP mi p 4))]) (st' := [gi v, gr (12 + p.toNat)]) (M' := gw mi ml) rfl ?_
      refine Go.putI (by rfl) (c := 3) (N := 10) (shP (i := p) (by omega)) (by rfl) ?_
      refine Go.run hsz hn1 1 (pc' := 55) (lv' := [some (gr 0), some (gi p), some (gi v), some (gi (cP mi p 4))]) (st' := [gi (cP mi p 4)]) (M' := gw (gu mi (12 + p.toNat) 4 v) ml) rfl ?_
      refine Go.iret (by rfl) ?_
      first | (exact Or.inl ⟨by omega, rfl, rfl⟩) | (exact Or.inr (⟨by omega, rfl, rfl⟩))
    · replace kq2 := b2_neg kq2
      refine Go.run hsz hn1 2 (pc' := 24) (lv' := [some (gr 0), some (gi p), some (gi v), none]) (st' := [gi (-1000001), gr 0]) (M' := gw mi ml) rfl ?_
      refine Go.callV (As := [gi (-1000001)]) (b := 0) (st := []) (mc1 := 0) (mc := 0) (ms1 := 0) (ms := 0) (by rfl) rfl (c := 10) (N := 9) (by rfl) (by decide) (by rfl) (gcn 147 (by decide)).1 (gcn 147 (by decide)).2 rfl (Nat.le_of_ble_eq_true rfl) (by omega) (cC_finding hsz (n := n - 1) (by omega) mi ml (-1000001) (by decide) (by decide)) ?_
      rintro _ _ ⟨rfl, rfl⟩
      refine Go.run hsz hn1 0 (pc' := 27) (lv' := [some (gr 0), some (gi p), some (gi v), none]) (st' := [gi (-1000001)]) (M' := gw (cFd mi 0) ml) rfl ?_
      refine Go.iret (by rfl) ?_
      first | (exact Or.inl ⟨by omega, rfl, rfl⟩) | (exact Or.inr (⟨by omega, rfl, rfl⟩))
set_option maxRecDepth 100000 in
set_option maxHeartbeats 4000000 in
theorem pC_partyOf {G : gG} (hsz : G.2.2.2.2.2.2 = true) {n : Nat} (hn : 3 ≤ n) (mi : Nat → Nat → Int) (ml : Nat → Nat → Int64) (a w : Int) (r_a : rng a) (r_w : rng w) (hv : CV mi)  : gM G 108 n 0 0 [gr 0, gi a, gi w] (gw mi ml) (fun r M => gE ((0 ≤ a ∧ a < mi 1 3) ∧ (0 ≤ w ∧ w ≤ 9) ∧ ¬ w = 9) (cA mi a (cTr w)) (mi) ml r M ∨ gE ((0 ≤ a ∧ a < mi 1 3) ∧ (0 ≤ w ∧ w ≤ 9) ∧ w = 9 ∧ cA mi a 4 ≤ mi 1 0) (1) (mi) ml r M ∨ gE ((0 ≤ a ∧ a < mi 1 3) ∧ (0 ≤ w ∧ w ≤ 9) ∧ w = 9 ∧ ¬ cA mi a 4 ≤ mi 1 0) (0) (mi) ml r M ∨ gE (¬ ((0 ≤ a ∧ a < mi 1 3) ∧ (0 ≤ w ∧ w ≤ 9))) (-1000001) (cFd mi 0) ml r M) := by
  have hn1 : 1 ≤ n := by omega
  obtain ⟨hR, ht, hp, hq, hP, hQ⟩ := id hv
  refine gM.of mX11_partyOf okX11_partyOf (gcp 108 (by decide)).1 (gcp 108 (by decide)).2 (Nat.le_of_ble_eq_true rfl) ?_
  refine Go.run hsz hn1 3 (pc' := 5) (lv' := [some (gr 0), some (gi a), some (gi w)]) (st' := [gi a, gr 1]) (M' := gw mi ml) rfl ?_
  refine Go.callV (As := [gi a]) (b := 1) (st := []) (mc1 := 0) (mc := 0) (ms1 := 0) (ms := 0) (by rfl) rfl (c := 7) (N := 11) (by rfl) (by decide) (by rfl) (gcn 60 (by decide)).1 (gcn 60 (by decide)).2 rfl (Nat.le_of_ble_eq_true rfl) (by omega) (cS_isParty hsz (n := n - 1) (by omega) mi ml a r_a hR) ?_
  rintro _ _ ⟨rfl, rfl⟩
  refine Go.run hsz hn1 0 (pc' := 8) (lv' := [some (gr 0), some (gi a), some (gi w)]) (st' := [gi (b2 (0 ≤ a ∧ a < mi 1 3))]) (M' := gw mi ml) rfl ?_
  refine Go.if_eq (by rfl) (b2_rng _) (fun kq1 => ?_) (fun kq1 => ?_)
  · replace kq1 := b2_neg kq1
    refine Go.run hsz hn1 2 (pc' := 24) (lv' := [some (gr 0), some (gi a), some (gi w)]) (st' := [gi (-1000001), gr 0]) (M' := gw mi ml) rfl ?_
    refine Go.callV (As := [gi (-1000001)]) (b := 0) (st := []) (mc1 := 0) (mc := 0) (ms1 := 0) (ms := 0) (by rfl) rfl (c := 10) (N := 9) (by rfl) (by decide) (by rfl) (gcn 147 (by decide)).1 (gcn 147 (by decide)).2 rfl (Nat.le_of_ble_eq_true rfl) (by omega) (cC_finding hsz (n := n - 1) (by omega) mi ml (-1000001) (by decide) (by decide)) ?_
    rintro _ _ ⟨rfl, rfl⟩
    refine Go.run hsz hn1 0 (pc' := 27) (lv' := [some (gr 0), some (gi a), some (gi w)]) (st' := [gi (-1000001)]) (M' := gw (cFd mi 0) ml) rfl ?_
    refine Go.iret (by rfl) ?_
    first | (exact Or.inl ⟨by omega, rfl, rfl⟩) | (exact Or.inr (Or.inl ⟨by omega, rfl, rfl⟩)) | (exact Or.inr (Or.inr (Or.inl ⟨by omega, rfl, rfl⟩))) | (exact Or.inr (Or.inr (Or.inr (⟨by omega, rfl, rfl⟩))))
  · replace kq1 := b2_pos kq1
    refine Go.run hsz hn1 3 (pc' := 15) (lv' := [some (gr 0), some (gi a), some (gi w)]) (st' := [gi 9, gi 0, gi w]) (M' := gw mi ml) rfl ?_
    refine Go.callS (As := [gi w, gi 0, gi 9]) (st := []) (mc1 := 0) (mc := 0) (ms1 := 0) (ms := 0) (by rfl) rfl (gcn 150 (by decide)).1 (gcn 150 (by decide)).2 (Nat.le_of_ble_eq_true rfl) (by omega) (cC_isIn hsz (n := n - 1) (by omega) mi ml w 0 9 r_w ⟨by decide, by decide⟩ ⟨by decide, by decide⟩) ?_
    rintro _ _ ⟨rfl, rfl⟩
    refine Go.run hsz hn1 0 (pc' := 18) (lv' := [some (gr 0), some (gi a), some (gi w)]) (st' := [gi (b2 (0 ≤ w ∧ w ≤ 9))]) (M' := gw mi ml) rfl ?_
    refine Go.if_ne (by rfl) (b2_rng _) (fun kq2 => ?_) (fun kq2 => ?_)
    · replace kq2 := b2_pos kq2
      refine Go.run hsz hn1 2 (pc' := 31) (lv' := [some (gr 0), some (gi a), some (gi w)]) (st' := [gi 9, gi w]) (M' := gw mi ml) rfl ?_
      refine Go.icmp_ne (by rfl) r_w ⟨by decide, by decide⟩ (fun kq3 => ?_) (fun kq3 => ?_)
      · refine Go.run hsz hn1 4 (pc' := 59) (lv' := [some (gr 0), some (gi a), some (gi w)]) (st' := [gi a, gr 3]) (M' := gw mi ml) rfl ?_
        refine Go.aaldR 4 (by rfl) (N := 24) (by rfl) ⟨by decide, by decide⟩ (by omega) (by omega) (by decide) (gMR_3 (by omega) (by omega)) ?_
        refine Go.run hsz hn1 1 (pc' := 61) (lv' := [some (gr 0), some (gi a), some (gi w)]) (st' := [gi w, gr (24 + a.toNat)]) (M' := gw mi ml) rfl ?_
        refine Go.callV (As := [gi w]) (b := 24 + a.toNat) (st := []) (mc1 := 0) (mc := 0) (ms1 := 0) (ms := 0) (by rfl) rfl (c := 2) (N := 14) (shA (i := a) (by omega)) (by decide) (by rfl) (gcn 23 (by decide)).1 (gcn 23 (by decide)).2 rfl (Nat.le_of_ble_eq_true rfl) (by omega) (cPa_trait hsz (n := n - 1) (by omega) mi ml a (by omega) (by omega) w (by omega) (by omega)) ?_
        rintro _ _ ⟨rfl, rfl⟩
        refine Go.run hsz hn1 0 (pc' := 64) (lv' := [some (gr 0), some (gi a), some (gi w)]) (st' := [gi (cA mi a (cTr w))]) (M' := gw mi ml) rfl ?_
        refine Go.iret (by rfl) ?_
        first | (exact Or.inl ⟨by omega, rfl, rfl⟩) | (exact Or.inr (Or.inl ⟨by omega, rfl, rfl⟩)) | (exact Or.inr (Or.inr (Or.inl ⟨by omega, rfl, rfl⟩))) | (exact Or.inr (Or.inr (Or.inr (⟨by omega, rfl, rfl⟩))))
      · refine Go.run hsz hn1 3 (pc' := 39) (lv' := [some (gr 0), some (gi a), some (gi w)]) (st' := [gi a, gr 1]) (M' := gw mi ml) rfl ?_
        refine Go.callV (As := [gi a]) (b := 1) (st := []) (mc1 := 0) (mc := 0) (ms1 := 0) (ms := 0) (by rfl) rfl (c := 7) (N := 11) (by rfl) (by decide) (by rfl) (gcn 63 (by decide)).1 (gcn 63 (by decide)).2 rfl (Nat.le_of_ble_eq_true rfl) (by omega) (cS_hasCome hsz (n := n - 1) (by omega) mi ml a (by omega) (by omega) hR) ?_
        rintro _ _ ⟨rfl, rfl⟩
        refine Go.run hsz hn1 0 (pc' := 42) (lv' := [some (gr 0), some (gi a), some (gi w)]) (st' := [gi (b2 (cA mi a 4 ≤ mi 1 0))]) (M' := gw mi ml) rfl ?_
        refine Go.if_eq (by rfl) (b2_rng _) (fun kq4 => ?_) (fun kq4 => ?_)
        · replace kq4 := b2_neg kq4
          refine Go.run hsz hn1 1 (pc' := 50) (lv' := [some (gr 0), some (gi a), some (gi w)]) (st' := [gi 0]) (M' := gw mi ml) rfl ?_
          refine Go.iret (by rfl) ?_
          first | (exact Or.inl ⟨by omega, rfl, rfl⟩) | (exact Or.inr (Or.inl ⟨by omega, rfl, rfl⟩)) | (exact Or.inr (Or.inr (Or.inl ⟨by omega, rfl, rfl⟩))) | (exact Or.inr (Or.inr (Or.inr (⟨by omega, rfl, rfl⟩))))
        · replace kq4 := b2_pos kq4
          refine Go.run hsz hn1 2 (pc' := 50) (lv' := [some (gr 0), some (gi a), some (gi w)]) (st' := [gi 1]) (M' := gw mi ml) rfl ?_
          refine Go.iret (by rfl) ?_
          first | (exact Or.inl ⟨by omega, rfl, rfl⟩) | (exact Or.inr (Or.inl ⟨by omega, rfl, rfl⟩)) | (exact Or.inr (Or.inr (Or.inl ⟨by omega, rfl, rfl⟩))) | (exact Or.inr (Or.inr (Or.inr (⟨by omega, rfl, rfl⟩))))
    · replace kq2 := b2_neg kq2
      refine Go.run hsz hn1 2 (pc' := 24) (lv' := [some (gr 0), some (gi a), some (gi w)]) (st' := [gi (-1000001), gr 0]) (M' := gw mi ml) rfl ?_
      refine Go.callV (As := [gi (-1000001)]) (b := 0) (st := []) (mc1 := 0) (mc := 0) (ms1 := 0) (ms := 0) (by rfl) rfl (c := 10) (N := 9) (by rfl) (by decide) (by rfl) (gcn 147 (by decide)).1 (gcn 147 (by decide)).2 rfl (Nat.le_of_ble_eq_true rfl) (by omega) (cC_finding hsz (n := n - 1) (by omega) mi ml (-1000001) (by decide) (by decide)) ?_
      rintro _ _ ⟨rfl, rfl⟩
      refine Go.run hsz hn1 0 (pc' := 27) (lv' := [some (gr 0), some (gi a), some (gi w)]) (st' := [gi (-1000001)]) (M' := gw (cFd mi 0) ml) rfl ?_
      refine Go.iret (by rfl) ?_
      first | (exact Or.inl ⟨by omega, rfl, rfl⟩) | (exact Or.inr (Or.inl ⟨by omega, rfl, rfl⟩)) | (exact Or.inr (Or.inr (Or.inl ⟨by omega, rfl, rfl⟩))) | (exact Or.inr (Or.inr (Or.inr (⟨by omega, rfl, rfl⟩))))
set_option maxRecDepth 100000 in
set_option maxHeartbeats 4000000 in
theorem pC_why {G : gG} (hsz : G.2.2.2.2.2.2 = true) {n : Nat} (hn : 5 ≤ n) (mi : Nat → Nat → Int) (ml : Nat → Nat → Int64) (a p : Int) (r_a : rng a) (r_p : rng p) (hv : CV mi)  : gM G 109 n 0 0 [gr 0, gi a, gi p] (gw mi ml) (fun r M => gE ((0 ≤ a ∧ a < mi 1 3) ∧ (0 ≤ p ∧ p < mi 1 2)) (cReason mi a p) (mi) ml r M ∨ gE (¬ ((0 ≤ a ∧ a < mi 1 3) ∧ (0 ≤ p ∧ p < mi 1 2))) (-1000001) (cFd mi 0) ml r M) := by
  have hn1 : 1 ≤ n := by omega
  obtain ⟨hR, ht, hp, hq, hP, hQ⟩ := id hv
  refine gM.of mX11_why okX11_why (gcp 109 (by decide)).1 (gcp 109 (by decide)).2 (Nat.le_of_ble_eq_true rfl) ?_
  refine Go.run hsz hn1 3 (pc' := 5) (lv' := [some (gr 0), some (gi a), some (gi p)]) (st' := [gi a, gr 1]) (M' := gw mi ml) rfl ?_
  refine Go.callV (As := [gi a]) (b := 1) (st := []) (mc1 := 0) (mc := 0) (ms1 := 0) (ms := 0) (by rfl) rfl (c := 7) (N := 11) (by rfl) (by decide) (by rfl) (gcn 60 (by decide)).1 (gcn 60 (by decide)).2 rfl (Nat.le_of_ble_eq_true rfl) (by omega) (cS_isParty hsz (n := n - 1) (by omega) mi ml a r_a hR) ?_
  rintro _ _ ⟨rfl, rfl⟩
  refine Go.run hsz hn1 0 (pc' := 8) (lv' := [some (gr 0), some (gi a), some (gi p)]) (st' := [gi (b2 (0 ≤ a ∧ a < mi 1 3))]) (M' := gw mi ml) rfl ?_
  refine Go.if_eq (by rfl) (b2_rng _) (fun kq1 => ?_) (fun kq1 => ?_)
  · replace kq1 := b2_neg kq1
    refine Go.run hsz hn1 2 (pc' := 25) (lv' := [some (gr 0), some (gi a), some (gi p)]) (st' := [gi (-1000001), gr 0]) (M' := gw mi ml) rfl ?_
    refine Go.callV (As := [gi (-1000001)]) (b := 0) (st := []) (mc1 := 0) (mc := 0) (ms1 := 0) (ms := 0) (by rfl) rfl (c := 10) (N := 9) (by rfl) (by decide) (by rfl) (gcn 147 (by decide)).1 (gcn 147 (by decide)).2 rfl (Nat.le_of_ble_eq_true rfl) (by omega) (cC_finding hsz (n := n - 1) (by omega) mi ml (-1000001) (by decide) (by decide)) ?_
    rintro _ _ ⟨rfl, rfl⟩
    refine Go.run hsz hn1 0 (pc' := 28) (lv' := [some (gr 0), some (gi a), some (gi p)]) (st' := [gi (-1000001)]) (M' := gw (cFd mi 0) ml) rfl ?_
    refine Go.iret (by rfl) ?_
    first | (exact Or.inl ⟨by omega, rfl, rfl⟩) | (exact Or.inr (⟨by omega, rfl, rfl⟩))
  · replace kq1 := b2_pos kq1
    refine Go.run hsz hn1 3 (pc' := 16) (lv' := [some (gr 0), some (gi a), some (gi p)]) (st' := [gi p, gr 1]) (M' := gw mi ml) rfl ?_
    refine Go.callV (As := [gi p]) (b := 1) (st := []) (mc1 := 0) (mc := 0) (ms1 := 0) (ms := 0) (by rfl) rfl (c := 7) (N := 11) (by rfl) (by decide) (by rfl) (gcn 59 (by decide)).1 (gcn 59 (by decide)).2 rfl (Nat.le_of_ble_eq_true rfl) (by omega) (cS_isPitch hsz (n := n - 1) (by omega) mi ml p r_p hR) ?_
    rintro _ _ ⟨rfl, rfl⟩
    refine Go.run hsz hn1 0 (pc' := 19) (lv' := [some (gr 0), some (gi a), some (gi p)]) (st' := [gi (b2 (0 ≤ p ∧ p < mi 1 2))]) (M' := gw mi ml) rfl ?_
    refine Go.if_ne (by rfl) (b2_rng _) (fun kq2 => ?_) (fun kq2 => ?_)
    · replace kq2 := b2_pos kq2
      refine Go.run hsz hn1 4 (pc' := 37) (lv' := [some (gr 0), some (gi a), some (gi p)]) (st' := [gi a, gr 3]) (M' := gw mi ml) rfl ?_
      refine Go.aaldR 4 (by rfl) (N := 24) (by rfl) ⟨by decide, by decide⟩ (by omega) (by omega) (by decide) (gMR_3 (by omega) (by omega)) ?_
      refine Go.run hsz hn1 4 (pc' := 46) (lv' := [some (gr 0), some (gi a), some (gi p)]) (st' := [gi p, gr 2, gr (24 + a.toNat)]) (M' := gw mi ml) rfl ?_
      refine Go.aaldR 3 (by rfl) (N := 12) (by rfl) ⟨by decide, by decide⟩ (by omega) (by omega) (by decide) (gMR_2 (by omega) (by omega)) ?_
      refine Go.run hsz hn1 0 (pc' := 47) (lv' := [some (gr 0), some (gi a), some (gi p)]) (st' := [gr (12 + p.toNat), gr (24 + a.toNat)]) (M' := gw mi ml) rfl ?_
      refine Go.callS (As := [gr (24 + a.toNat), gr (12 + p.toNat)]) (st := []) (mc1 := 0) (mc := 0) (ms1 := 0) (ms := 0) (by rfl) rfl (gcn 10 (by decide)).1 (gcn 10 (by decide)).2 (Nat.le_of_ble_eq_true rfl) (by omega) (cK_reason hsz (n := n - 1) (by omega) mi ml a p (by omega) (by omega) (by omega) (by omega) (hP _ (by omega) (by omega)) hR) ?_
      rintro _ _ ⟨rfl, rfl⟩
      refine Go.run hsz hn1 0 (pc' := 50) (lv' := [some (gr 0), some (gi a), some (gi p)]) (st' := [gi (cReason mi a p)]) (M' := gw mi ml) rfl ?_
      refine Go.iret (by rfl) ?_
      first | (exact Or.inl ⟨by omega, rfl, rfl⟩) | (exact Or.inr (⟨by omega, rfl, rfl⟩))
    · replace kq2 := b2_neg kq2
      refine Go.run hsz hn1 2 (pc' := 25) (lv' := [some (gr 0), some (gi a), some (gi p)]) (st' := [gi (-1000001), gr 0]) (M' := gw mi ml) rfl ?_
      refine Go.callV (As := [gi (-1000001)]) (b := 0) (st := []) (mc1 := 0) (mc := 0) (ms1 := 0) (ms := 0) (by rfl) rfl (c := 10) (N := 9) (by rfl) (by decide) (by rfl) (gcn 147 (by decide)).1 (gcn 147 (by decide)).2 rfl (Nat.le_of_ble_eq_true rfl) (by omega) (cC_finding hsz (n := n - 1) (by omega) mi ml (-1000001) (by decide) (by decide)) ?_
      rintro _ _ ⟨rfl, rfl⟩
      refine Go.run hsz hn1 0 (pc' := 28) (lv' := [some (gr 0), some (gi a), some (gi p)]) (st' := [gi (-1000001)]) (M' := gw (cFd mi 0) ml) rfl ?_
      refine Go.iret (by rfl) ?_
      first | (exact Or.inl ⟨by omega, rfl, rfl⟩) | (exact Or.inr (⟨by omega, rfl, rfl⟩))
set_option maxRecDepth 100000 in
set_option maxHeartbeats 4000000 in
theorem pC_near {G : gG} (hsz : G.2.2.2.2.2.2 = true) {n : Nat} (hn : 4 ≤ n) (mi : Nat → Nat → Int) (ml : Nat → Nat → Int64) (a b : Int) (r_a : rng a) (r_b : rng b) (hv : CV mi)  : gM G 110 n 0 0 [gr 0, gi a, gi b] (gw mi ml) (fun r M => gE ((0 ≤ a ∧ a < mi 1 3) ∧ (b = -1 ∨ (0 ≤ b ∧ b < mi 1 3)) ∧ ¬ a = b) (cA mi a 9) (gu mi (24 + a.toNat) 9 b) ml r M ∨ gE (¬ ((0 ≤ a ∧ a < mi 1 3) ∧ (b = -1 ∨ (0 ≤ b ∧ b < mi 1 3)) ∧ ¬ a = b)) (-1000001) (cFd mi 0) ml r M) := by
  have hn1 : 1 ≤ n := by omega
  obtain ⟨hR, ht, hp, hq, hP, hQ⟩ := id hv
  refine gM.of mX11_near okX11_near (gcp 110 (by decide)).1 (gcp 110 (by decide)).2 (Nat.le_of_ble_eq_true rfl) ?_
  refine Go.run hsz hn1 3 (pc' := 5) (lv' := [some (gr 0), some (gi a), some (gi b), none]) (st' := [gi a, gr 1]) (M' := gw mi ml) rfl ?_
  refine Go.callV (As := [gi a]) (b := 1) (st := []) (mc1 := 0) (mc := 0) (ms1 := 0) (ms := 0) (by rfl) rfl (c := 7) (N := 11) (by rfl) (by decide) (by rfl) (gcn 60 (by decide)).1 (gcn 60 (by decide)).2 rfl (Nat.le_of_ble_eq_true rfl) (by omega) (cS_isParty hsz (n := n - 1) (by omega) mi ml a r_a hR) ?_
  rintro _ _ ⟨rfl, rfl⟩
  refine Go.run hsz hn1 0 (pc' := 8) (lv' := [some (gr 0), some (gi a), some (gi b), none]) (st' := [gi (b2 (0 ≤ a ∧ a < mi 1 3))]) (M' := gw mi ml) rfl ?_
  refine Go.if_eq (by rfl) (b2_rng _) (fun kq1 => ?_) (fun kq1 => ?_)
  · replace kq1 := b2_neg kq1
    refine Go.run hsz hn1 2 (pc' := 30) (lv' := [some (gr 0), some (gi a), some (gi b), none]) (st' := [gi (-1000001), gr 0]) (M' := gw mi ml) rfl ?_
    refine Go.callV (As := [gi (-1000001)]) (b := 0) (st := []) (mc1 := 0) (mc := 0) (ms1 := 0) (ms := 0) (by rfl) rfl (c := 10) (N := 9) (by rfl) (by decide) (by rfl) (gcn 147 (by decide)).1 (gcn 147 (by decide)).2 rfl (Nat.le_of_ble_eq_true rfl) (by omega) (cC_finding hsz (n := n - 1) (by omega) mi ml (-1000001) (by decide) (by decide)) ?_
    rintro _ _ ⟨rfl, rfl⟩
    refine Go.run hsz hn1 0 (pc' := 33) (lv' := [some (gr 0), some (gi a), some (gi b), none]) (st' := [gi (-1000001)]) (M' := gw (cFd mi 0) ml) rfl ?_
    refine Go.iret (by rfl) ?_
    first | (exact Or.inl ⟨by omega, rfl, rfl⟩) | (exact Or.inr (⟨by omega, rfl, rfl⟩))
  · replace kq1 := b2_pos kq1
    refine Go.run hsz hn1 3 (pc' := 16) (lv' := [some (gr 0), some (gi a), some (gi b), none]) (st' := [gi b, gr 1]) (M' := gw mi ml) rfl ?_
    refine Go.callV (As := [gi b]) (b := 1) (st := []) (mc1 := 0) (mc := 0) (ms1 := 0) (ms := 0) (by rfl) rfl (c := 7) (N := 11) (by rfl) (by decide) (by rfl) (gcn 61 (by decide)).1 (gcn 61 (by decide)).2 rfl (Nat.le_of_ble_eq_true rfl) (by omega) (cS_isPON hsz (n := n - 1) (by omega) mi ml b r_b hR) ?_
    rintro _ _ ⟨rfl, rfl⟩
    refine Go.run hsz hn1 0 (pc' := 19) (lv' := [some (gr 0), some (gi a), some (gi b), none]) (st' := [gi (b2 (b = -1 ∨ (0 ≤ b ∧ b < mi 1 3)))]) (M' := gw mi ml) rfl ?_
    refine Go.if_eq (by rfl) (b2_rng _) (fun kq2 => ?_) (fun kq2 => ?_)
    · replace kq2 := b2_neg kq2
      refine Go.run hsz hn1 2 (pc' := 30) (lv' := [some (gr 0), some (gi a), some (gi b), none]) (st' := [gi (-1000001), gr 0]) (M' := gw mi ml) rfl ?_
      refine Go.callV (As := [gi (-1000001)]) (b := 0) (st := []) (mc1 := 0) (mc := 0) (ms1 := 0) (ms := 0) (by rfl) rfl (c := 10) (N := 9) (by rfl) (by decide) (by rfl) (gcn 147 (by decide)).1 (gcn 147 (by decide)).2 rfl (Nat.le_of_ble_eq_true rfl) (by omega) (cC_finding hsz (n := n - 1) (by omega) mi ml (-1000001) (by decide) (by decide)) ?_
      rintro _ _ ⟨rfl, rfl⟩
      refine Go.run hsz hn1 0 (pc' := 33) (lv' := [some (gr 0), some (gi a), some (gi b), none]) (st' := [gi (-1000001)]) (M' := gw (cFd mi 0) ml) rfl ?_
      refine Go.iret (by rfl) ?_
      first | (exact Or.inl ⟨by omega, rfl, rfl⟩) | (exact Or.inr (⟨by omega, rfl, rfl⟩))
    · replace kq2 := b2_pos kq2
      refine Go.run hsz hn1 2 (pc' := 24) (lv' := [some (gr 0), some (gi a), some (gi b), none]) (st' := [gi b, gi a]) (M' := gw mi ml) rfl ?_
      refine Go.icmp_ne (by rfl) r_a r_b (fun kq3 => ?_) (fun kq3 => ?_)
      · refine Go.run hsz hn1 4 (pc' := 42) (lv' := [some (gr 0), some (gi a), some (gi b), none]) (st' := [gi a, gr 3]) (M' := gw mi ml) rfl ?_
        refine Go.aaldR 4 (by rfl) (N := 24) (by rfl) ⟨by decide, by decide⟩ (by omega) (by omega) (by decide) (gMR_3 (by omega) (by omega)) ?_
        refine Go.run hsz hn1 0 (pc' := 43) (lv' := [some (gr 0), some (gi a), some (gi b), none]) (st' := [gr (24 + a.toNat)]) (M' := gw mi ml) rfl ?_
        refine Go.getf (by rfl) (c := 2) (N := 14) (shA (i := a) (by omega)) ?_
        refine Go.run hsz hn1 5 (pc' := 55) (lv' := [some (gr 0), some (gi a), some (gi b), some (gi (cA mi a 9))]) (st' := [gi a, gr 3]) (M' := gw mi ml) rfl ?_
        refine Go.aaldR 4 (by rfl) (N := 24) (by rfl) ⟨by decide, by decide⟩ (by omega) (by omega) (by decide) (gMR_3 (by omega) (by omega)) ?_
        refine Go.run hsz hn1 1 (pc' := 57) (lv' := [some (gr 0), some (gi a), some (gi b), some (gi (cA mi a 9))]) (st' := [gi b, gr (24 + a.toNat)]) (M' := gw mi ml) rfl ?_
        refine Go.putI (by rfl) (c := 2) (N := 14) (shA (i := a) (by omega)) (by rfl) ?_
        refine Go.run hsz hn1 1 (pc' := 61) (lv' := [some (gr 0), some (gi a), some (gi b), some (gi (cA mi a 9))]) (st' := [gi (cA mi a 9)]) (M' := gw (gu mi (24 + a.toNat) 9 b) ml) rfl ?_
        refine Go.iret (by rfl) ?_
        first | (exact Or.inl ⟨by omega, rfl, rfl⟩) | (exact Or.inr (⟨by omega, rfl, rfl⟩))
      · refine Go.run hsz hn1 2 (pc' := 30) (lv' := [some (gr 0), some (gi a), some (gi b), none]) (st' := [gi (-1000001), gr 0]) (M' := gw mi ml) rfl ?_
        refine Go.callV (As := [gi (-1000001)]) (b := 0) (st := []) (mc1 := 0) (mc := 0) (ms1 := 0) (ms := 0) (by rfl) rfl (c := 10) (N := 9) (by rfl) (by decide) (by rfl) (gcn 147 (by decide)).1 (gcn 147 (by decide)).2 rfl (Nat.le_of_ble_eq_true rfl) (by omega) (cC_finding hsz (n := n - 1) (by omega) mi ml (-1000001) (by decide) (by decide)) ?_
        rintro _ _ ⟨rfl, rfl⟩
        refine Go.run hsz hn1 0 (pc' := 33) (lv' := [some (gr 0), some (gi a), some (gi b), none]) (st' := [gi (-1000001)]) (M' := gw (cFd mi 0) ml) rfl ?_
        refine Go.iret (by rfl) ?_
        first | (exact Or.inl ⟨by omega, rfl, rfl⟩) | (exact Or.inr (⟨by omega, rfl, rfl⟩))
set_option maxRecDepth 100000 in
set_option maxHeartbeats 4000000 in
theorem pC_nights {G : gG} (hsz : G.2.2.2.2.2.2 = true) {n : Nat} (hn : 3 ≤ n) (mi : Nat → Nat → Int) (ml : Nat → Nat → Int64) (x : Int) (r_x : rng x) (hv : CV mi)  : gM G 112 n 0 0 [gr 0, gi x] (gw mi ml) (fun r M => gE (¬ (1 ≤ x ∧ x ≤ 50)) (-1000001) (cFd mi 0) ml r M ∨ gE ((1 ≤ x ∧ x ≤ 50) ∧ 99 < mi 1 0 + x) (-1000005) (cFd mi 4) ml r M ∨ gE ((1 ≤ x ∧ x ≤ 50) ∧ ¬ 99 < mi 1 0 + x) (mi 1 0 + x) (gu mi 1 0 (mi 1 0 + x)) ml r M) := by
  have hn1 : 1 ≤ n := by omega
  obtain ⟨hR, ht, hp, hq, hP, hQ⟩ := id hv
  refine gM.of mX11_nights okX11_nights (gcp 112 (by decide)).1 (gcp 112 (by decide)).2 (Nat.le_of_ble_eq_true rfl) ?_
  refine Go.run hsz hn1 3 (pc' := 4) (lv' := [some (gr 0), some (gi x)]) (st' := [gi 50, gi 1, gi x]) (M' := gw mi ml) rfl ?_
  refine Go.callS (As := [gi x, gi 1, gi 50]) (st := []) (mc1 := 0) (mc := 0) (ms1 := 0) (ms := 0) (by rfl) rfl (gcn 150 (by decide)).1 (gcn 150 (by decide)).2 (Nat.le_of_ble_eq_true rfl) (by omega) (cC_isIn hsz (n := n - 1) (by omega) mi ml x 1 50 r_x ⟨by decide, by decide⟩ ⟨by decide, by decide⟩) ?_
  rintro _ _ ⟨rfl, rfl⟩
  refine Go.run hsz hn1 0 (pc' := 7) (lv' := [some (gr 0), some (gi x)]) (st' := [gi (b2 (1 ≤ x ∧ x ≤ 50))]) (M' := gw mi ml) rfl ?_
  refine Go.if_ne (by rfl) (b2_rng _) (fun kq1 => ?_) (fun kq1 => ?_)
  · replace kq1 := b2_pos kq1
    refine Go.run hsz hn1 6 (pc' := 28) (lv' := [some (gr 0), some (gi x)]) (st' := [gi 99, gi ((mi 1 0) + x)]) (M' := gw mi ml) rfl ?_
    refine Go.icmp_le (by rfl) ⟨by omega, by omega⟩ ⟨by decide, by decide⟩ (fun kq2 => ?_) (fun kq2 => ?_)
    · refine Go.run hsz hn1 10 (pc' := 58) (lv' := [some (gr 0), some (gi x)]) (st' := [gi ((mi 1 0) + x)]) (M' := gw (gu mi 1 0 ((mi 1 0) + x)) ml) rfl ?_
      refine Go.iret (by rfl) ?_
      first | (exact Or.inl ⟨by omega, rfl, rfl⟩) | (exact Or.inr (Or.inl ⟨by omega, rfl, rfl⟩)) | (exact Or.inr (Or.inr (⟨by omega, rfl, rfl⟩)))
    · refine Go.run hsz hn1 2 (pc' := 34) (lv' := [some (gr 0), some (gi x)]) (st' := [gi (-1000005), gr 0]) (M' := gw mi ml) rfl ?_
      refine Go.callV (As := [gi (-1000005)]) (b := 0) (st := []) (mc1 := 0) (mc := 0) (ms1 := 0) (ms := 0) (by rfl) rfl (c := 10) (N := 9) (by rfl) (by decide) (by rfl) (gcn 147 (by decide)).1 (gcn 147 (by decide)).2 rfl (Nat.le_of_ble_eq_true rfl) (by omega) (cC_finding hsz (n := n - 1) (by omega) mi ml (-1000005) (by decide) (by decide)) ?_
      rintro _ _ ⟨rfl, rfl⟩
      refine Go.run hsz hn1 0 (pc' := 37) (lv' := [some (gr 0), some (gi x)]) (st' := [gi (-1000005)]) (M' := gw (cFd mi 4) ml) rfl ?_
      refine Go.iret (by rfl) ?_
      first | (exact Or.inl ⟨by omega, rfl, rfl⟩) | (exact Or.inr (Or.inl ⟨by omega, rfl, rfl⟩)) | (exact Or.inr (Or.inr (⟨by omega, rfl, rfl⟩)))
  · replace kq1 := b2_neg kq1
    refine Go.run hsz hn1 2 (pc' := 13) (lv' := [some (gr 0), some (gi x)]) (st' := [gi (-1000001), gr 0]) (M' := gw mi ml) rfl ?_
    refine Go.callV (As := [gi (-1000001)]) (b := 0) (st := []) (mc1 := 0) (mc := 0) (ms1 := 0) (ms := 0) (by rfl) rfl (c := 10) (N := 9) (by rfl) (by decide) (by rfl) (gcn 147 (by decide)).1 (gcn 147 (by decide)).2 rfl (Nat.le_of_ble_eq_true rfl) (by omega) (cC_finding hsz (n := n - 1) (by omega) mi ml (-1000001) (by decide) (by decide)) ?_
    rintro _ _ ⟨rfl, rfl⟩
    refine Go.run hsz hn1 0 (pc' := 16) (lv' := [some (gr 0), some (gi x)]) (st' := [gi (-1000001)]) (M' := gw (cFd mi 0) ml) rfl ?_
    refine Go.iret (by rfl) ?_
    first | (exact Or.inl ⟨by omega, rfl, rfl⟩) | (exact Or.inr (Or.inl ⟨by omega, rfl, rfl⟩)) | (exact Or.inr (Or.inr (⟨by omega, rfl, rfl⟩)))
set_option maxRecDepth 100000 in
set_option maxHeartbeats 4000000 in
theorem pC_wipe {G : gG} (hsz : G.2.2.2.2.2.2 = true) {n : Nat} (hn : 2 ≤ n) (mi : Nat → Nat → Int) (ml : Nat → Nat → Int64)  (hv : CV mi)  : gM G 118 n 0 0 [gr 0] (gw mi ml) (fun r M => gE (True) (mi 132 0) (gu mi 132 0 0) ml r M) := by
  have hn1 : 1 ≤ n := by omega
  obtain ⟨hR, ht, hp, hq, hP, hQ⟩ := id hv
  refine gM.of mX11_wipe okX11_wipe (gcp 118 (by decide)).1 (gcp 118 (by decide)).2 (Nat.le_of_ble_eq_true rfl) ?_
  refine Go.run hsz hn1 9 (pc' := 17) (lv' := [some (gr 0), some (gi (mi 132 0))]) (st' := [gi (mi 132 0)]) (M' := gw (gu mi 132 0 0) ml) rfl ?_
  refine Go.iret (by rfl) ?_
  first | (exact ⟨trivial, rfl, rfl⟩)
set_option maxRecDepth 100000 in
set_option maxHeartbeats 4000000 in
theorem pC_dry {G : gG} (hsz : G.2.2.2.2.2.2 = true) {n : Nat} (hn : 2 ≤ n) (mi : Nat → Nat → Int) (ml : Nat → Nat → Int64)  (hv : CV mi)  : gM G 135 n 0 0 [gr 0] (gw mi ml) (fun r M => gE (True) (mi 7 0) (gu mi 7 0 0) ml r M) := by
  have hn1 : 1 ≤ n := by omega
  obtain ⟨hR, ht, hp, hq, hP, hQ⟩ := id hv
  refine gM.of mX11_dry okX11_dry (gcp 135 (by decide)).1 (gcp 135 (by decide)).2 (Nat.le_of_ble_eq_true rfl) ?_
  refine Go.run hsz hn1 11 (pc' := 23) (lv' := [some (gr 0), some (gi (mi 7 0))]) (st' := [gi (mi 7 0)]) (M' := gw (gu mi 7 0 0) ml) rfl ?_
  refine Go.iret (by rfl) ?_
  first | (exact ⟨trivial, rfl, rfl⟩)
set_option maxRecDepth 100000 in
set_option maxHeartbeats 4000000 in
theorem pC_limit {G : gG} (hsz : G.2.2.2.2.2.2 = true) {n : Nat} (hn : 3 ≤ n) (mi : Nat → Nat → Int) (ml : Nat → Nat → Int64) (post v : Int) (r_post : rng post) (r_v : rng v) (hv : CV mi)  : gM G 127 n 0 0 [gr 0, gi post, gi v] (gw mi ml) (fun r M => gE ((0 ≤ post ∧ post ≤ 3) ∧ (0 ≤ v ∧ v ≤ 200)) (mi 4 post.toNat) (gu mi 4 post.toNat v) ml r M ∨ gE (¬ ((0 ≤ post ∧ post ≤ 3) ∧ (0 ≤ v ∧ v ≤ 200))) (-1000001) (cFd mi 0) ml r M) := by
  have hn1 : 1 ≤ n := by omega
  obtain ⟨hR, ht, hp, hq, hP, hQ⟩ := id hv
  refine gM.of mX11_limit okX11_limit (gcp 127 (by decide)).1 (gcp 127 (by decide)).2 (Nat.le_of_ble_eq_true rfl) ?_
  refine Go.run hsz hn1 3 (pc' := 3) (lv' := [some (gr 0), some (gi post), some (gi v), none]) (st' := [gi 3, gi 0, gi post]) (M' := gw mi ml) rfl ?_
  refine Go.callS (As := [gi post, gi 0, gi 3]) (st := []) (mc1 := 0) (mc := 0) (ms1 := 0) (ms := 0) (by rfl) rfl (gcn 150 (by decide)).1 (gcn 150 (by decide)).2 (Nat.le_of_ble_eq_true rfl) (by omega) (cC_isIn hsz (n := n - 1) (by omega) mi ml post 0 3 r_post ⟨by decide, by decide⟩ ⟨by decide, by decide⟩) ?_
  rintro _ _ ⟨rfl, rfl⟩
  refine Go.run hsz hn1 0 (pc' := 6) (lv' := [some (gr 0), some (gi post), some (gi v), none]) (st' := [gi (b2 (0 ≤ post ∧ post ≤ 3))]) (M' := gw mi ml) rfl ?_
  refine Go.if_eq (by rfl) (b2_rng _) (fun kq1 => ?_) (fun kq1 => ?_)
  · replace kq1 := b2_neg kq1
    refine Go.run hsz hn1 2 (pc' := 23) (lv' := [some (gr 0), some (gi post), some (gi v), none]) (st' := [gi (-1000001), gr 0]) (M' := gw mi ml) rfl ?_
    refine Go.callV (As := [gi (-1000001)]) (b := 0) (st := []) (mc1 := 0) (mc := 0) (ms1 := 0) (ms := 0) (by rfl) rfl (c := 10) (N := 9) (by rfl) (by decide) (by rfl) (gcn 147 (by decide)).1 (gcn 147 (by decide)).2 rfl (Nat.le_of_ble_eq_true rfl) (by omega) (cC_finding hsz (n := n - 1) (by omega) mi ml (-1000001) (by decide) (by decide)) ?_
    rintro _ _ ⟨rfl, rfl⟩
    refine Go.run hsz hn1 0 (pc' := 26) (lv' := [some (gr 0), some (gi post), some (gi v), none]) (st' := [gi (-1000001)]) (M' := gw (cFd mi 0) ml) rfl ?_
    refine Go.iret (by rfl) ?_
    first | (exact Or.inl ⟨by omega, rfl, rfl⟩) | (exact Or.inr (⟨by omega, rfl, rfl⟩))
  · replace kq1 := b2_pos kq1
    refine Go.run hsz hn1 3 (pc' := 14) (lv' := [some (gr 0), some (gi post), some (gi v), none]) (st' := [gi 200, gi 0, gi v]) (M' := gw mi ml) rfl ?_
    refine Go.callS (As := [gi v, gi 0, gi 200]) (st := []) (mc1 := 0) (mc := 0) (ms1 := 0) (ms := 0) (by rfl) rfl (gcn 150 (by decide)).1 (gcn 150 (by decide)).2 (Nat.le_of_ble_eq_true rfl) (by omega) (cC_isIn hsz (n := n - 1) (by omega) mi ml v 0 200 r_v ⟨by decide, by decide⟩ ⟨by decide, by decide⟩) ?_
    rintro _ _ ⟨rfl, rfl⟩
    refine Go.run hsz hn1 0 (pc' := 17) (lv' := [some (gr 0), some (gi post), some (gi v), none]) (st' := [gi (b2 (0 ≤ v ∧ v ≤ 200))]) (M' := gw mi ml) rfl ?_
    refine Go.if_ne (by rfl) (b2_rng _) (fun kq2 => ?_) (fun kq2 => ?_)
    · replace kq2 := b2_pos kq2
      refine Go.run hsz hn1 4 (pc' := 35) (lv' := [some (gr 0), some (gi post), some (gi v), none]) (st' := [gi post, gr 4]) (M' := gw mi ml) rfl ?_
      refine Go.iald (by rfl) (N := 4) (by rfl) (by omega) (by omega) (by decide) ?_
      refine Go.run hsz hn1 6 (pc' := 46) (lv' := [some (gr 0), some (gi post), some (gi v), some (gi (mi 4 post.toNat))]) (st' := [gi v, gi post, gr 4]) (M' := gw mi ml) rfl ?_
      refine Go.iast (by rfl) (N := 4) (by rfl) (by omega) (by omega) (by decide) ?_
      refine Go.run hsz hn1 1 (pc' := 48) (lv' := [some (gr 0), some (gi post), some (gi v), some (gi (mi 4 post.toNat))]) (st' := [gi (mi 4 post.toNat)]) (M' := gw (gu mi 4 post.toNat v) ml) rfl ?_
      refine Go.iret (by rfl) ?_
      first | (exact Or.inl ⟨by omega, rfl, rfl⟩) | (exact Or.inr (⟨by omega, rfl, rfl⟩))
    · replace kq2 := b2_neg kq2
      refine Go.run hsz hn1 2 (pc' := 23) (lv' := [some (gr 0), some (gi post), some (gi v), none]) (st' := [gi (-1000001), gr 0]) (M' := gw mi ml) rfl ?_
      refine Go.callV (As := [gi (-1000001)]) (b := 0) (st := []) (mc1 := 0) (mc := 0) (ms1 := 0) (ms := 0) (by rfl) rfl (c := 10) (N := 9) (by rfl) (by decide) (by rfl) (gcn 147 (by decide)).1 (gcn 147 (by decide)).2 rfl (Nat.le_of_ble_eq_true rfl) (by omega) (cC_finding hsz (n := n - 1) (by omega) mi ml (-1000001) (by decide) (by decide)) ?_
      rintro _ _ ⟨rfl, rfl⟩
      refine Go.run hsz hn1 0 (pc' := 26) (lv' := [some (gr 0), some (gi post), some (gi v), none]) (st' := [gi (-1000001)]) (M' := gw (cFd mi 0) ml) rfl ?_
      refine Go.iret (by rfl) ?_
      first | (exact Or.inl ⟨by omega, rfl, rfl⟩) | (exact Or.inr (⟨by omega, rfl, rfl⟩))
set_option maxRecDepth 100000 in
set_option maxHeartbeats 4000000 in
theorem pC_load {G : gG} (hsz : G.2.2.2.2.2.2 = true) {n : Nat} (hn : 6 ≤ n) (mi : Nat → Nat → Int) (ml : Nat → Nat → Int64) (post x : Int) (r_post : rng post) (r_x : rng x) (hv : CV mi)  : gM G 128 n 0 0 [gr 0, gi post, gi x] (gw mi ml) (fun r M => gE ((0 ≤ post ∧ post ≤ 3) ∧ (0 ≤ x ∧ x ≤ 23)) (cLoad mi post x (mi 1 3).toNat) (mi) ml r M ∨ gE (¬ ((0 ≤ post ∧ post ≤ 3) ∧ (0 ≤ x ∧ x ≤ 23))) (-1000001) (cFd mi 0) ml r M) := by
  have hn1 : 1 ≤ n := by omega
  obtain ⟨hR, ht, hp, hq, hP, hQ⟩ := id hv
  refine gM.of mX11_load okX11_load (gcp 128 (by decide)).1 (gcp 128 (by decide)).2 (Nat.le_of_ble_eq_true rfl) ?_
  refine Go.run hsz hn1 3 (pc' := 3) (lv' := [some (gr 0), some (gi post), some (gi x)]) (st' := [gi 3, gi 0, gi post]) (M' := gw mi ml) rfl ?_
  refine Go.callS (As := [gi post, gi 0, gi 3]) (st := []) (mc1 := 0) (mc := 0) (ms1 := 0) (ms := 0) (by rfl) rfl (gcn 150 (by decide)).1 (gcn 150 (by decide)).2 (Nat.le_of_ble_eq_true rfl) (by omega) (cC_isIn hsz (n := n - 1) (by omega) mi ml post 0 3 r_post ⟨by decide, by decide⟩ ⟨by decide, by decide⟩) ?_
  rintro _ _ ⟨rfl, rfl⟩
  refine Go.run hsz hn1 0 (pc' := 6) (lv' := [some (gr 0), some (gi post), some (gi x)]) (st' := [gi (b2 (0 ≤ post ∧ post ≤ 3))]) (M' := gw mi ml) rfl ?_
  refine Go.if_eq (by rfl) (b2_rng _) (fun kq1 => ?_) (fun kq1 => ?_)
  · replace kq1 := b2_neg kq1
    refine Go.run hsz hn1 2 (pc' := 22) (lv' := [some (gr 0), some (gi post), some (gi x)]) (st' := [gi (-1000001), gr 0]) (M' := gw mi ml) rfl ?_
    refine Go.callV (As := [gi (-1000001)]) (b := 0) (st := []) (mc1 := 0) (mc := 0) (ms1 := 0) (ms := 0) (by rfl) rfl (c := 10) (N := 9) (by rfl) (by decide) (by rfl) (gcn 147 (by decide)).1 (gcn 147 (by decide)).2 rfl (Nat.le_of_ble_eq_true rfl) (by omega) (cC_finding hsz (n := n - 1) (by omega) mi ml (-1000001) (by decide) (by decide)) ?_
    rintro _ _ ⟨rfl, rfl⟩
    refine Go.run hsz hn1 0 (pc' := 25) (lv' := [some (gr 0), some (gi post), some (gi x)]) (st' := [gi (-1000001)]) (M' := gw (cFd mi 0) ml) rfl ?_
    refine Go.iret (by rfl) ?_
    first | (exact Or.inl ⟨by omega, rfl, rfl⟩) | (exact Or.inr (⟨by omega, rfl, rfl⟩))
  · replace kq1 := b2_pos kq1
    refine Go.run hsz hn1 3 (pc' := 13) (lv' := [some (gr 0), some (gi post), some (gi x)]) (st' := [gi 23, gi 0, gi x]) (M' := gw mi ml) rfl ?_
    refine Go.callS (As := [gi x, gi 0, gi 23]) (st := []) (mc1 := 0) (mc := 0) (ms1 := 0) (ms := 0) (by rfl) rfl (gcn 150 (by decide)).1 (gcn 150 (by decide)).2 (Nat.le_of_ble_eq_true rfl) (by omega) (cC_isIn hsz (n := n - 1) (by omega) mi ml x 0 23 r_x ⟨by decide, by decide⟩ ⟨by decide, by decide⟩) ?_
    rintro _ _ ⟨rfl, rfl⟩
    refine Go.run hsz hn1 0 (pc' := 16) (lv' := [some (gr 0), some (gi post), some (gi x)]) (st' := [gi (b2 (0 ≤ x ∧ x ≤ 23))]) (M' := gw mi ml) rfl ?_
    refine Go.if_ne (by rfl) (b2_rng _) (fun kq2 => ?_) (fun kq2 => ?_)
    · replace kq2 := b2_pos kq2
      refine Go.run hsz hn1 4 (pc' := 32) (lv' := [some (gr 0), some (gi post), some (gi x)]) (st' := [gi x, gi post, gr 1]) (M' := gw mi ml) rfl ?_
      refine Go.callV (As := [gi post, gi x]) (b := 1) (st := []) (mc1 := 0) (mc := 0) (ms1 := 0) (ms := 0) (by rfl) rfl (c := 7) (N := 11) (by rfl) (by decide) (by rfl) (gcn 72 (by decide)).1 (gcn 72 (by decide)).2 rfl (Nat.le_of_ble_eq_true rfl) (by omega) (cS_load hsz (n := n - 1) (by omega) mi ml post x r_post hv) ?_
      rintro _ _ ⟨rfl, rfl⟩
      refine Go.run hsz hn1 0 (pc' := 35) (lv' := [some (gr 0), some (gi post), some (gi x)]) (st' := [gi (cLoad mi post x (mi 1 3).toNat)]) (M' := gw mi ml) rfl ?_
      refine Go.iret (by rfl) ?_
      first | (exact Or.inl ⟨by omega, rfl, rfl⟩) | (exact Or.inr (⟨by omega, rfl, rfl⟩))
    · replace kq2 := b2_neg kq2
      refine Go.run hsz hn1 2 (pc' := 22) (lv' := [some (gr 0), some (gi post), some (gi x)]) (st' := [gi (-1000001), gr 0]) (M' := gw mi ml) rfl ?_
      refine Go.callV (As := [gi (-1000001)]) (b := 0) (st := []) (mc1 := 0) (mc := 0) (ms1 := 0) (ms := 0) (by rfl) rfl (c := 10) (N := 9) (by rfl) (by decide) (by rfl) (gcn 147 (by decide)).1 (gcn 147 (by decide)).2 rfl (Nat.le_of_ble_eq_true rfl) (by omega) (cC_finding hsz (n := n - 1) (by omega) mi ml (-1000001) (by decide) (by decide)) ?_
      rintro _ _ ⟨rfl, rfl⟩
      refine Go.run hsz hn1 0 (pc' := 25) (lv' := [some (gr 0), some (gi post), some (gi x)]) (st' := [gi (-1000001)]) (M' := gw (cFd mi 0) ml) rfl ?_
      refine Go.iret (by rfl) ?_
      first | (exact Or.inl ⟨by omega, rfl, rfl⟩) | (exact Or.inr (⟨by omega, rfl, rfl⟩))
set_option maxRecDepth 100000 in
set_option maxHeartbeats 4000000 in
theorem pC_use {G : gG} (hsz : G.2.2.2.2.2.2 = true) {n : Nat} (hn : 3 ≤ n) (mi : Nat → Nat → Int) (ml : Nat → Nat → Int64) (a x v : Int) (r_a : rng a) (r_x : rng x) (r_v : rng v) (hv : CV mi)  : gM G 126 n 0 0 [gr 0, gi a, gi x, gi v] (gw mi ml) (fun r M => gE ((0 ≤ a ∧ a < mi 1 3) ∧ (0 ≤ x ∧ x ≤ 16777215) ∧ (0 ≤ v ∧ v ≤ 40)) (1) (gu (gu mi (24 + a.toNat) 11 x) (24 + a.toNat) 12 v) ml r M ∨ gE (¬ ((0 ≤ a ∧ a < mi 1 3) ∧ (0 ≤ x ∧ x ≤ 16777215) ∧ (0 ≤ v ∧ v ≤ 40))) (-1000001) (cFd mi 0) ml r M) := by
  have hn1 : 1 ≤ n := by omega
  obtain ⟨hR, ht, hp, hq, hP, hQ⟩ := id hv
  refine gM.of mX11_use okX11_use (gcp 126 (by decide)).1 (gcp 126 (by decide)).2 (Nat.le_of_ble_eq_true rfl) ?_
  refine Go.run hsz hn1 3 (pc' := 5) (lv' := [some (gr 0), some (gi a), some (gi x), some (gi v)]) (st' := [gi a, gr 1]) (M' := gw mi ml) rfl ?_
  refine Go.callV (As := [gi a]) (b := 1) (st := []) (mc1 := 0) (mc := 0) (ms1 := 0) (ms := 0) (by rfl) rfl (c := 7) (N := 11) (by rfl) (by decide) (by rfl) (gcn 60 (by decide)).1 (gcn 60 (by decide)).2 rfl (Nat.le_of_ble_eq_true rfl) (by omega) (cS_isParty hsz (n := n - 1) (by omega) mi ml a r_a hR) ?_
  rintro _ _ ⟨rfl, rfl⟩
  refine Go.run hsz hn1 0 (pc' := 8) (lv' := [some (gr 0), some (gi a), some (gi x), some (gi v)]) (st' := [gi (b2 (0 ≤ a ∧ a < mi 1 3))]) (M' := gw mi ml) rfl ?_
  refine Go.if_eq (by rfl) (b2_rng _) (fun kq1 => ?_) (fun kq1 => ?_)
  · replace kq1 := b2_neg kq1
    refine Go.run hsz hn1 2 (pc' := 34) (lv' := [some (gr 0), some (gi a), some (gi x), some (gi v)]) (st' := [gi (-1000001), gr 0]) (M' := gw mi ml) rfl ?_
    refine Go.callV (As := [gi (-1000001)]) (b := 0) (st := []) (mc1 := 0) (mc := 0) (ms1 := 0) (ms := 0) (by rfl) rfl (c := 10) (N := 9) (by rfl) (by decide) (by rfl) (gcn 147 (by decide)).1 (gcn 147 (by decide)).2 rfl (Nat.le_of_ble_eq_true rfl) (by omega) (cC_finding hsz (n := n - 1) (by omega) mi ml (-1000001) (by decide) (by decide)) ?_
    rintro _ _ ⟨rfl, rfl⟩
    refine Go.run hsz hn1 0 (pc' := 37) (lv' := [some (gr 0), some (gi a), some (gi x), some (gi v)]) (st' := [gi (-1000001)]) (M' := gw (cFd mi 0) ml) rfl ?_
    refine Go.iret (by rfl) ?_
    first | (exact Or.inl ⟨by omega, rfl, rfl⟩) | (exact Or.inr (⟨by omega, rfl, rfl⟩))
  · replace kq1 := b2_pos kq1
    refine Go.run hsz hn1 3 (pc' := 15) (lv' := [some (gr 0), some (gi a), some (gi x), some (gi v)]) (st' := [gi 16777215, gi 0, gi x]) (M' := gw mi ml) rfl ?_
    refine Go.callS (As := [gi x, gi 0, gi 16777215]) (st := []) (mc1 := 0) (mc := 0) (ms1 := 0) (ms := 0) (by rfl) rfl (gcn 150 (by decide)).1 (gcn 150 (by decide)).2 (Nat.le_of_ble_eq_true rfl) (by omega) (cC_isIn hsz (n := n - 1) (by omega) mi ml x 0 16777215 r_x ⟨by decide, by decide⟩ ⟨by decide, by decide⟩) ?_
    rintro _ _ ⟨rfl, rfl⟩
    refine Go.run hsz hn1 0 (pc' := 18) (lv' := [some (gr 0), some (gi a), some (gi x), some (gi v)]) (st' := [gi (b2 (0 ≤ x ∧ x ≤ 16777215))]) (M' := gw mi ml) rfl ?_
    refine Go.if_eq (by rfl) (b2_rng _) (fun kq2 => ?_) (fun kq2 => ?_)
    · replace kq2 := b2_neg kq2
      refine Go.run hsz hn1 2 (pc' := 34) (lv' := [some (gr 0), some (gi a), some (gi x), some (gi v)]) (st' := [gi (-1000001), gr 0]) (M' := gw mi ml) rfl ?_
      refine Go.callV (As := [gi (-1000001)]) (b := 0) (st := []) (mc1 := 0) (mc := 0) (ms1 := 0) (ms := 0) (by rfl) rfl (c := 10) (N := 9) (by rfl) (by decide) (by rfl) (gcn 147 (by decide)).1 (gcn 147 (by decide)).2 rfl (Nat.le_of_ble_eq_true rfl) (by omega) (cC_finding hsz (n := n - 1) (by omega) mi ml (-1000001) (by decide) (by decide)) ?_
      rintro _ _ ⟨rfl, rfl⟩
      refine Go.run hsz hn1 0 (pc' := 37) (lv' := [some (gr 0), some (gi a), some (gi x), some (gi v)]) (st' := [gi (-1000001)]) (M' := gw (cFd mi 0) ml) rfl ?_
      refine Go.iret (by rfl) ?_
      first | (exact Or.inl ⟨by omega, rfl, rfl⟩) | (exact Or.inr (⟨by omega, rfl, rfl⟩))
    · replace kq2 := b2_pos kq2
      refine Go.run hsz hn1 3 (pc' := 25) (lv' := [some (gr 0), some (gi a), some (gi x), some (gi v)]) (st' := [gi 40, gi 0, gi v]) (M' := gw mi ml) rfl ?_
      refine Go.callS (As := [gi v, gi 0, gi 40]) (st := []) (mc1 := 0) (mc := 0) (ms1 := 0) (ms := 0) (by rfl) rfl (gcn 150 (by decide)).1 (gcn 150 (by decide)).2 (Nat.le_of_ble_eq_true rfl) (by omega) (cC_isIn hsz (n := n - 1) (by omega) mi ml v 0 40 r_v ⟨by decide, by decide⟩ ⟨by decide, by decide⟩) ?_
      rintro _ _ ⟨rfl, rfl⟩
      refine Go.run hsz hn1 0 (pc' := 28) (lv' := [some (gr 0), some (gi a), some (gi x), some (gi v)]) (st' := [gi (b2 (0 ≤ v ∧ v ≤ 40))]) (M' := gw mi ml) rfl ?_
      refine Go.if_ne (by rfl) (b2_rng _) (fun kq3 => ?_) (fun kq3 => ?_)
      · replace kq3 := b2_pos kq3
        refine Go.run hsz hn1 4 (pc' := 46) (lv' := [some (gr 0), some (gi a), some (gi x), some (gi v)]) (st' := [gi a, gr 3]) (M' := gw mi ml) rfl ?_
        refine Go.aaldR 4 (by rfl) (N := 24) (by rfl) ⟨by decide, by decide⟩ (by omega) (by omega) (by decide) (gMR_3 (by omega) (by omega)) ?_
        refine Go.run hsz hn1 1 (pc' := 48) (lv' := [some (gr 0), some (gi a), some (gi x), some (gi v)]) (st' := [gi x, gr (24 + a.toNat)]) (M' := gw mi ml) rfl ?_
        refine Go.putI (by rfl) (c := 2) (N := 14) (shA (i := a) (by omega)) (by rfl) ?_
        refine Go.run hsz hn1 4 (pc' := 59) (lv' := [some (gr 0), some (gi a), some (gi x), some (gi v)]) (st' := [gi a, gr 3]) (M' := gw (gu mi (24 + a.toNat) 11 x) ml) rfl ?_
        refine Go.aaldR 4 (by rfl) (N := 24) (by rfl) ⟨by decide, by decide⟩ (by omega) (by omega) (by decide) (gMR_3 (by omega) (by omega)) ?_
        refine Go.run hsz hn1 1 (pc' := 61) (lv' := [some (gr 0), some (gi a), some (gi x), some (gi v)]) (st' := [gi v, gr (24 + a.toNat)]) (M' := gw (gu mi (24 + a.toNat) 11 x) ml) rfl ?_
        refine Go.putI (by rfl) (c := 2) (N := 14) (shA (i := a) (by omega)) (by rfl) ?_
        refine Go.run hsz hn1 1 (pc' := 65) (lv' := [some (gr 0), some (gi a), some (gi x), some (gi v)]) (st' := [gi 1]) (M' := gw (gu (gu mi (24 + a.toNat) 11 x) (24 + a.toNat) 12 v) ml) rfl ?_
        refine Go.iret (by rfl) ?_
        first | (exact Or.inl ⟨by omega, rfl, rfl⟩) | (exact Or.inr (⟨by omega, rfl, rfl⟩))
      · replace kq3 := b2_neg kq3
        refine Go.run hsz hn1 2 (pc' := 34) (lv' := [some (gr 0), some (gi a), some (gi x), some (gi v)]) (st' := [gi (-1000001), gr 0]) (M' := gw mi ml) rfl ?_
        refine Go.callV (As := [gi (-1000001)]) (b := 0) (st := []) (mc1 := 0) (mc := 0) (ms1 := 0) (ms := 0) (by rfl) rfl (c := 10) (N := 9) (by rfl) (by decide) (by rfl) (gcn 147 (by decide)).1 (gcn 147 (by decide)).2 rfl (Nat.le_of_ble_eq_true rfl) (by omega) (cC_finding hsz (n := n - 1) (by omega) mi ml (-1000001) (by decide) (by decide)) ?_
        rintro _ _ ⟨rfl, rfl⟩
        refine Go.run hsz hn1 0 (pc' := 37) (lv' := [some (gr 0), some (gi a), some (gi x), some (gi v)]) (st' := [gi (-1000001)]) (M' := gw (cFd mi 0) ml) rfl ?_
        refine Go.iret (by rfl) ?_
        first | (exact Or.inl ⟨by omega, rfl, rfl⟩) | (exact Or.inr (⟨by omega, rfl, rfl⟩))
set_option maxRecDepth 100000 in
set_option maxHeartbeats 4000000 in
theorem pC_hold {G : gG} (hsz : G.2.2.2.2.2.2 = true) {n : Nat} (hn : 4 ≤ n) (mi : Nat → Nat → Int) (ml : Nat → Nat → Int64) (x a : Int) (r_x : rng x) (r_a : rng a) (hv : CV mi)  : gM G 137 n 0 0 [gr 0, gi x, gi a] (gw mi ml) (fun r M => gE ((0 ≤ x ∧ x ≤ 9) ∧ (a = -1 ∨ (0 ≤ a ∧ a < mi 1 3))) (1) (gu mi 5 x.toNat a) ml r M ∨ gE (¬ ((0 ≤ x ∧ x ≤ 9) ∧ (a = -1 ∨ (0 ≤ a ∧ a < mi 1 3)))) (-1000001) (cFd mi 0) ml r M) := by
  have hn1 : 1 ≤ n := by omega
  obtain ⟨hR, ht, hp, hq, hP, hQ⟩ := id hv
  refine gM.of mX11_hold okX11_hold (gcp 137 (by decide)).1 (gcp 137 (by decide)).2 (Nat.le_of_ble_eq_true rfl) ?_
  refine Go.run hsz hn1 3 (pc' := 4) (lv' := [some (gr 0), some (gi x), some (gi a)]) (st' := [gi 9, gi 0, gi x]) (M' := gw mi ml) rfl ?_
  refine Go.callS (As := [gi x, gi 0, gi 9]) (st := []) (mc1 := 0) (mc := 0) (ms1 := 0) (ms := 0) (by rfl) rfl (gcn 150 (by decide)).1 (gcn 150 (by decide)).2 (Nat.le_of_ble_eq_true rfl) (by omega) (cC_isIn hsz (n := n - 1) (by omega) mi ml x 0 9 r_x ⟨by decide, by decide⟩ ⟨by decide, by decide⟩) ?_
  rintro _ _ ⟨rfl, rfl⟩
  refine Go.run hsz hn1 0 (pc' := 7) (lv' := [some (gr 0), some (gi x), some (gi a)]) (st' := [gi (b2 (0 ≤ x ∧ x ≤ 9))]) (M' := gw mi ml) rfl ?_
  refine Go.if_eq (by rfl) (b2_rng _) (fun kq1 => ?_) (fun kq1 => ?_)
  · replace kq1 := b2_neg kq1
    refine Go.run hsz hn1 2 (pc' := 24) (lv' := [some (gr 0), some (gi x), some (gi a)]) (st' := [gi (-1000001), gr 0]) (M' := gw mi ml) rfl ?_
    refine Go.callV (As := [gi (-1000001)]) (b := 0) (st := []) (mc1 := 0) (mc := 0) (ms1 := 0) (ms := 0) (by rfl) rfl (c := 10) (N := 9) (by rfl) (by decide) (by rfl) (gcn 147 (by decide)).1 (gcn 147 (by decide)).2 rfl (Nat.le_of_ble_eq_true rfl) (by omega) (cC_finding hsz (n := n - 1) (by omega) mi ml (-1000001) (by decide) (by decide)) ?_
    rintro _ _ ⟨rfl, rfl⟩
    refine Go.run hsz hn1 0 (pc' := 27) (lv' := [some (gr 0), some (gi x), some (gi a)]) (st' := [gi (-1000001)]) (M' := gw (cFd mi 0) ml) rfl ?_
    refine Go.iret (by rfl) ?_
    first | (exact Or.inl ⟨by omega, rfl, rfl⟩) | (exact Or.inr (⟨by omega, rfl, rfl⟩))
  · replace kq1 := b2_pos kq1
    refine Go.run hsz hn1 3 (pc' := 15) (lv' := [some (gr 0), some (gi x), some (gi a)]) (st' := [gi a, gr 1]) (M' := gw mi ml) rfl ?_
    refine Go.callV (As := [gi a]) (b := 1) (st := []) (mc1 := 0) (mc := 0) (ms1 := 0) (ms := 0) (by rfl) rfl (c := 7) (N := 11) (by rfl) (by decide) (by rfl) (gcn 61 (by decide)).1 (gcn 61 (by decide)).2 rfl (Nat.le_of_ble_eq_true rfl) (by omega) (cS_isPON hsz (n := n - 1) (by omega) mi ml a r_a hR) ?_
    rintro _ _ ⟨rfl, rfl⟩
    refine Go.run hsz hn1 0 (pc' := 18) (lv' := [some (gr 0), some (gi x), some (gi a)]) (st' := [gi (b2 (a = -1 ∨ (0 ≤ a ∧ a < mi 1 3)))]) (M' := gw mi ml) rfl ?_
    refine Go.if_ne (by rfl) (b2_rng _) (fun kq2 => ?_) (fun kq2 => ?_)
    · replace kq2 := b2_pos kq2
      refine Go.run hsz hn1 5 (pc' := 37) (lv' := [some (gr 0), some (gi x), some (gi a)]) (st' := [gi a, gi x, gr 5]) (M' := gw mi ml) rfl ?_
      refine Go.iast (by rfl) (N := 10) (by rfl) (by omega) (by omega) (by decide) ?_
      refine Go.run hsz hn1 1 (pc' := 39) (lv' := [some (gr 0), some (gi x), some (gi a)]) (st' := [gi 1]) (M' := gw (gu mi 5 x.toNat a) ml) rfl ?_
      refine Go.iret (by rfl) ?_
      first | (exact Or.inl ⟨by omega, rfl, rfl⟩) | (exact Or.inr (⟨by omega, rfl, rfl⟩))
    · replace kq2 := b2_neg kq2
      refine Go.run hsz hn1 2 (pc' := 24) (lv' := [some (gr 0), some (gi x), some (gi a)]) (st' := [gi (-1000001), gr 0]) (M' := gw mi ml) rfl ?_
      refine Go.callV (As := [gi (-1000001)]) (b := 0) (st := []) (mc1 := 0) (mc := 0) (ms1 := 0) (ms := 0) (by rfl) rfl (c := 10) (N := 9) (by rfl) (by decide) (by rfl) (gcn 147 (by decide)).1 (gcn 147 (by decide)).2 rfl (Nat.le_of_ble_eq_true rfl) (by omega) (cC_finding hsz (n := n - 1) (by omega) mi ml (-1000001) (by decide) (by decide)) ?_
      rintro _ _ ⟨rfl, rfl⟩
      refine Go.run hsz hn1 0 (pc' := 27) (lv' := [some (gr 0), some (gi x), some (gi a)]) (st' := [gi (-1000001)]) (M' := gw (cFd mi 0) ml) rfl ?_
      refine Go.iret (by rfl) ?_
      first | (exact Or.inl ⟨by omega, rfl, rfl⟩) | (exact Or.inr (⟨by omega, rfl, rfl⟩))

set_option maxRecDepth 100000 in
set_option maxHeartbeats 4000000 in
theorem cJ_bits {G : gG} (hsz : G.2.2.2.2.2.2 = true) {n : Nat} (hn : 1 ≤ n) (mi : Nat → Nat → Int) (ml : Nat → Nat → Int64) (x : Int64) : gM G 249 n 0 0 [gl x] (gw mi ml) (gret (popL x) (gw mi ml)) := by
  refine gM.of mJ13_bitCount_95d88 okJ13_bitCount_95d88 (by decide +kernel) (by decide +kernel) (Nat.le_of_ble_eq_true rfl) ?_
  refine Go.run hsz hn 8 (pc' := 10) (lv' := [some (gl (x - (((x.toUInt64 >>> ((iI 1).toInt64.toUInt64 &&& Int64.toUInt64 63)).toInt64) &&& (Int64.ofInt 6148914691236517205)))), none]) (st' := []) (M' := gw mi ml) rfl ?_
  generalize hy1 : x - (((x.toUInt64 >>> ((iI 1).toInt64.toUInt64 &&& Int64.toUInt64 63)).toInt64) &&& (Int64.ofInt 6148914691236517205)) = y1
  refine Go.run hsz hn 10 (pc' := 24) (lv' := [some (gl ((y1 &&& (Int64.ofInt 3689348814741910323)) + (((y1.toUInt64 >>> ((iI 2).toInt64.toUInt64 &&& Int64.toUInt64 63)).toInt64) &&& (Int64.ofInt 3689348814741910323)))), none]) (st' := []) (M' := gw mi ml) rfl ?_
  generalize hy2 : (y1 &&& (Int64.ofInt 3689348814741910323)) + (((y1.toUInt64 >>> ((iI 2).toInt64.toUInt64 &&& Int64.toUInt64 63)).toInt64) &&& (Int64.ofInt 3689348814741910323)) = y2
  refine Go.run hsz hn 8 (pc' := 34) (lv' := [some (gl ((y2 + ((y2.toUInt64 >>> ((iI 4).toInt64.toUInt64 &&& Int64.toUInt64 63)).toInt64)) &&& (Int64.ofInt 1085102592571150095))), none]) (st' := []) (M' := gw mi ml) rfl ?_
  generalize hy3 : (y2 + ((y2.toUInt64 >>> ((iI 4).toInt64.toUInt64 &&& Int64.toUInt64 63)).toInt64)) &&& (Int64.ofInt 1085102592571150095) = y3
  refine Go.run hsz hn 6 (pc' := 41) (lv' := [some (gl (y3 + ((y3.toUInt64 >>> ((iI 8).toInt64.toUInt64 &&& Int64.toUInt64 63)).toInt64))), none]) (st' := []) (M' := gw mi ml) rfl ?_
  generalize hy4 : y3 + ((y3.toUInt64 >>> ((iI 8).toInt64.toUInt64 &&& Int64.toUInt64 63)).toInt64) = y4
  refine Go.run hsz hn 6 (pc' := 48) (lv' := [some (gl (y4 + ((y4.toUInt64 >>> ((iI 16).toInt64.toUInt64 &&& Int64.toUInt64 63)).toInt64))), none]) (st' := []) (M' := gw mi ml) rfl ?_
  generalize hy5 : y4 + ((y4.toUInt64 >>> ((iI 16).toInt64.toUInt64 &&& Int64.toUInt64 63)).toInt64) = y5
  refine Go.run hsz hn 6 (pc' := 55) (lv' := [some (gl (y5 + ((y5.toUInt64 >>> ((iI 32).toInt64.toUInt64 &&& Int64.toUInt64 63)).toInt64))), none]) (st' := []) (M' := gw mi ml) rfl ?_
  generalize hy6 : y5 + ((y5.toUInt64 >>> ((iI 32).toInt64.toUInt64 &&& Int64.toUInt64 63)).toInt64) = y6
  refine Go.run hsz hn 4 (pc' := 60) (lv' := [some (gl y6), none]) (st' := [gi (andI y6.toInt32.toInt 127)]) (M' := gw mi ml) rfl ?_
  exact Go.iret (by rfl) ⟨congrArg (fun z => some (gi z)) (popL_ok (by decide) (by decide) (by decide) (un_ushr _ _ 1 (by decide)) hy1 (un_ushr _ _ 2 (by decide)) hy2 (un_ushr _ _ 4 (by decide)) hy3 (un_ushr _ _ 8 (by decide)) hy4 (un_ushr _ _ 16 (by decide)) hy5 (un_ushr _ _ 32 (by decide)) hy6), rfl⟩
def lEmp (ml : Nat → Nat → Int64) (k : Nat) : Nat → Nat → Int64 := fun a j => if (a = 108 ∨ a = 109) ∧ j < k then Int64.ofInt 0 else ml a j
theorem lEmp_0 (ml : Nat → Nat → Int64) : lEmp ml 0 = ml := by
  funext a j
  unfold lEmp
  rw [if_neg (by omega)]
theorem lEmp_s (ml : Nat → Nat → Int64) (k : Nat) : gu (gu (lEmp ml k) 108 k (Int64.ofInt 0)) 109 k (Int64.ofInt 0) = lEmp ml (k + 1) := by
  funext a j
  rw [gu_eq, gu_eq]
  unfold lEmp
  by_cases h : (a = 108 ∨ a = 109) ∧ j = k
  · rw [if_pos (show (a = 108 ∨ a = 109) ∧ j < k + 1 by omega)]
    by_cases h2 : a = 109 ∧ j = k
    · rw [if_pos h2]
    · rw [if_neg h2, if_pos (by omega)]
  · rw [if_neg (by omega), if_neg (by omega)]
    by_cases h3 : (a = 108 ∨ a = 109) ∧ j < k
    · rw [if_pos h3, if_pos (by omega)]
    · rw [if_neg h3, if_neg (by omega)]
def lTake (ml : Nat → Nat → Int64) (p : Int) (L H : Int64) : Nat → Nat → Int64 := gu (gu ml 108 p.toNat (ml 108 p.toNat ||| L)) 109 p.toNat (ml 109 p.toNat ||| H)
def lLeave (ml : Nat → Nat → Int64) (p : Int) (L H : Int64) : Nat → Nat → Int64 := gu (gu ml 108 p.toNat (ml 108 p.toNat &&& (L ^^^ Int64.ofInt (-1)))) 109 p.toNat (ml 109 p.toNat &&& (H ^^^ Int64.ofInt (-1)))
def lFree (ml : Nat → Nat → Int64) (p : Int) (L H : Int64) : Int := b2 (ml 108 p.toNat &&& L = Int64.ofInt 0 ∧ ml 109 p.toNat &&& H = Int64.ofInt 0)
def lMark (mi : Nat → Nat → Int) (ml : Nat → Nat → Int64) (but : Int) : Nat → Nat → Nat → Int64
  | 0 => lEmp ml 12
  | k + 1 => if 0 ≤ mi (24 + k) 8 ∧ andI (shrI but (k : Int)) 1 = 0 then lTake (lMark mi ml but k) (mi (24 + k) 8) (lMark mi ml but k (24 + k) 6) (lMark mi ml but k (24 + k) 7) else lMark mi ml but k
theorem lMark_s {mi : Nat → Nat → Int} {ml : Nat → Nat → Int64} {but k : Int} (k0 : 0 ≤ k) : lMark mi ml but (k + 1).toNat = if 0 ≤ cA mi k 8 ∧ andI (shrI but k) 1 = 0 then lTake (lMark mi ml but k.toNat) (cA mi k 8) (lMark mi ml but k.toNat (24 + k.toNat) 6) (lMark mi ml but k.toNat (24 + k.toNat) 7) else lMark mi ml but k.toNat := by
  rw [show (k + 1).toNat = k.toNat + 1 by omega]
  show (if 0 ≤ mi (24 + k.toNat) 8 ∧ andI (shrI but ((k.toNat : Nat) : Int)) 1 = 0 then _ else _) = _
  rw [show ((k.toNat : Nat) : Int) = k by omega]
  rfl
set_option maxRecDepth 100000 in
set_option maxHeartbeats 4000000 in
theorem lL_empty {G : gG} (hsz : G.2.2.2.2.2.2 = true) {n : Nat} (hn : 1 ≤ n) (mi : Nat → Nat → Int) (ml : Nat → Nat → Int64)  : ∀ (f : Nat) (k : Int), 0 ≤ k → k ≤ 12 → 12 - k < f → Go G mX0_empty n 0 0 2 [some (gr 107), some (gi k)] [] (gw mi (lEmp ml k.toNat)) (gvd (gw mi (lEmp ml 12))) := by
  have hn1 : 1 ≤ n := by omega

  intro f
  induction f with
  | zero => intros; omega
  | succ f ih =>
    intro k k0 k1 k2
    refine Go.run hsz hn1 2 (pc' := 5) (lv' := [some (gr 107), some (gi k)]) (st' := [gi 12, gi k]) (M' := gw mi (lEmp ml k.toNat)) rfl ?_
    refine Go.icmp_ge (by rfl) ⟨by omega, by omega⟩ ⟨by decide, by decide⟩ (fun kq1 => ?_) (fun kq1 => ?_)
    · obtain rfl : k = 12 := by omega
      exact Go.vret (by rfl) ⟨rfl, rfl⟩
    · refine Go.run hsz hn1 4 (pc' := 14) (lv' := [some (gr 107), some (gi k)]) (st' := [gl (Int64.ofInt 0), gi k, gr 108]) (M' := gw mi (lEmp ml k.toNat)) rfl ?_
      refine Go.last (by rfl) (N := 12) (by rfl) (by omega) (by omega) (by decide) ?_
      refine Go.run hsz hn1 4 (pc' := 21) (lv' := [some (gr 107), some (gi k)]) (st' := [gl (Int64.ofInt 0), gi k, gr 109]) (M' := gw mi (gu (lEmp ml k.toNat) 108 k.toNat (Int64.ofInt 0))) rfl ?_
      refine Go.last (by rfl) (N := 12) (by rfl) (by omega) (by omega) (by decide) ?_
      refine Go.run hsz hn1 2 (pc' := 2) (lv' := [some (gr 107), some (gi (k + 1))]) (st' := []) (M' := gw mi (gu (gu (lEmp ml k.toNat) 108 k.toNat (Int64.ofInt 0)) 109 k.toNat (Int64.ofInt 0))) rfl ?_
      have h9 := ih (k + 1) (by omega) (by omega) (by omega)
      rw [show (k + 1).toNat = k.toNat + 1 by omega, ← lEmp_s] at h9
      exact h9
set_option maxRecDepth 100000 in
set_option maxHeartbeats 4000000 in
theorem cL_empty {G : gG} (hsz : G.2.2.2.2.2.2 = true) {n : Nat} (hn : 1 ≤ n) (mi : Nat → Nat → Int) (ml : Nat → Nat → Int64)  : gM G 4 n 0 0 [gr 107] (gw mi ml) (gvd (gw mi (lEmp ml 12))) := by
  refine gM.of mX0_empty okX0_empty (gcp 4 (by decide)).1 (gcp 4 (by decide)).2 (Nat.le_of_ble_eq_true rfl) ?_
  refine Go.run hsz hn 2 (pc' := 2) (lv' := [some (gr 107), some (gi 0)]) (st' := []) (M' := gw mi ml) rfl ?_
  have h9 := lL_empty hsz hn mi ml 13 0 (by omega) (by omega) (by omega)
  rw [show (0 : Int).toNat = 0 from rfl, lEmp_0] at h9
  exact h9
set_option maxRecDepth 100000 in
set_option maxHeartbeats 4000000 in
theorem cL_isFree {G : gG} (hsz : G.2.2.2.2.2.2 = true) {n : Nat} (hn : 1 ≤ n) (mi : Nat → Nat → Int) (ml : Nat → Nat → Int64) (p : Int) (p0 : 0 ≤ p) (p1 : p < 12) (L H : Int64) : gM G 5 n 0 0 [gr 107, gi p, gl L, gl H] (gw mi ml) (gret (lFree ml p L H) (gw mi ml)) := by
  refine gM.of mX0_isFree okX0_isFree (gcp 5 (by decide)).1 (gcp 5 (by decide)).2 (Nat.le_of_ble_eq_true rfl) ?_
  refine Go.run hsz hn 3 (pc' := 5) (lv' := [some (gr 107), some (gi p), some (gl L), none, some (gl H), none]) (st' := [gi p, gr 108]) (M' := gw mi ml) rfl ?_
  refine Go.lald (by rfl) (N := 12) (by rfl) (by omega) (by omega) (by decide) ?_
  refine Go.run hsz hn 4 (pc' := 10) (lv' := [some (gr 107), some (gi p), some (gl L), none, some (gl H), none]) (st' := [gi ((lg_cmp ((ml 108 p.toNat) &&& L) (Int64.ofInt 0)).toInt)]) (M' := gw mi ml) rfl ?_
  refine Go.if_ne (by rfl) (rng_of _) (fun kq1 => ?_) (fun kq1 => ?_)
  · rw [lg_eq0] at kq1
    refine Go.run hsz hn 1 (pc' := 32) (lv' := [some (gr 107), some (gi p), some (gl L), none, some (gl H), none]) (st' := [gi 0]) (M' := gw mi ml) rfl ?_
    exact Go.zret (by rfl) (Or.inl rfl) ⟨congrArg (fun z => some (gi z)) (by unfold lFree b2; first | exact (if_pos ⟨by assumption, by assumption⟩).symm | exact (if_neg (fun h => absurd h.1 (by assumption))).symm | exact (if_neg (fun h => absurd h.2 (by assumption))).symm), rfl⟩
  · rw [lg_eq0] at kq1
    refine Go.run hsz hn 3 (pc' := 18) (lv' := [some (gr 107), some (gi p), some (gl L), none, some (gl H), none]) (st' := [gi p, gr 109]) (M' := gw mi ml) rfl ?_
    refine Go.lald (by rfl) (N := 12) (by rfl) (by omega) (by omega) (by decide) ?_
    refine Go.run hsz hn 4 (pc' := 24) (lv' := [some (gr 107), some (gi p), some (gl L), none, some (gl H), none]) (st' := [gi ((lg_cmp ((ml 109 p.toNat) &&& H) (Int64.ofInt 0)).toInt)]) (M' := gw mi ml) rfl ?_
    refine Go.if_ne (by rfl) (rng_of _) (fun kq2 => ?_) (fun kq2 => ?_)
    · rw [lg_eq0] at kq2
      refine Go.run hsz hn 1 (pc' := 32) (lv' := [some (gr 107), some (gi p), some (gl L), none, some (gl H), none]) (st' := [gi 0]) (M' := gw mi ml) rfl ?_
      exact Go.zret (by rfl) (Or.inl rfl) ⟨congrArg (fun z => some (gi z)) (by unfold lFree b2; first | exact (if_pos ⟨by assumption, by assumption⟩).symm | exact (if_neg (fun h => absurd h.1 (by assumption))).symm | exact (if_neg (fun h => absurd h.2 (by assumption))).symm), rfl⟩
    · rw [lg_eq0] at kq2
      refine Go.run hsz hn 2 (pc' := 32) (lv' := [some (gr 107), some (gi p), some (gl L), none, some (gl H), none]) (st' := [gi 1]) (M' := gw mi ml) rfl ?_
      exact Go.zret (by rfl) (Or.inr rfl) ⟨congrArg (fun z => some (gi z)) (by unfold lFree b2; first | exact (if_pos ⟨by assumption, by assumption⟩).symm | exact (if_neg (fun h => absurd h.1 (by assumption))).symm | exact (if_neg (fun h => absurd h.2 (by assumption))).symm), rfl⟩
set_option maxRecDepth 100000 in
set_option maxHeartbeats 4000000 in
theorem cL_take {G : gG} (hsz : G.2.2.2.2.2.2 = true) {n : Nat} (hn : 1 ≤ n) (mi : Nat → Nat → Int) (ml : Nat → Nat → Int64) (p : Int) (p0 : 0 ≤ p) (p1 : p < 12) (L H : Int64) : gM G 6 n 0 0 [gr 107, gi p, gl L, gl H] (gw mi ml) (gvd (gw mi (lTake ml p L H))) := by
  refine gM.of mX0_take okX0_take (gcp 6 (by decide)).1 (gcp 6 (by decide)).2 (Nat.le_of_ble_eq_true rfl) ?_
  refine Go.run hsz hn 4 (pc' := 6) (lv' := [some (gr 107), some (gi p), some (gl L), none, some (gl H), none]) (st' := [gi p, gr 108, gi p, gr 108]) (M' := gw mi ml) rfl ?_
  refine Go.lald (by rfl) (N := 12) (by rfl) (by omega) (by omega) (by decide) ?_
  refine Go.run hsz hn 2 (pc' := 9) (lv' := [some (gr 107), some (gi p), some (gl L), none, some (gl H), none]) (st' := [gl ((ml 108 p.toNat) ||| L), gi p, gr 108]) (M' := gw mi ml) rfl ?_
  refine Go.last (by rfl) (N := 12) (by rfl) (by omega) (by omega) (by decide) ?_
  refine Go.run hsz hn 4 (pc' := 16) (lv' := [some (gr 107), some (gi p), some (gl L), none, some (gl H), none]) (st' := [gi p, gr 109, gi p, gr 109]) (M' := gw mi (gu ml 108 p.toNat ((ml 108 p.toNat) ||| L))) rfl ?_
  refine Go.lald (by rfl) (N := 12) (by rfl) (by omega) (by omega) (by decide) ?_
  refine Go.run hsz hn 0 (pc' := 17) (lv' := [some (gr 107), some (gi p), some (gl L), none, some (gl H), none]) (st' := [gl ((gu ml 108 p.toNat ((ml 108 p.toNat) ||| L)) 109 p.toNat), gi p, gr 109]) (M' := gw mi (gu ml 108 p.toNat ((ml 108 p.toNat) ||| L))) rfl ?_
  rw [show (gu ml 108 p.toNat ((ml 108 p.toNat) ||| L)) 109 p.toNat = ml 109 p.toNat from gu_ne (Or.inl (by decide))]
  refine Go.run hsz hn 2 (pc' := 20) (lv' := [some (gr 107), some (gi p), some (gl L), none, some (gl H), none]) (st' := [gl ((ml 109 p.toNat) ||| H), gi p, gr 109]) (M' := gw mi (gu ml 108 p.toNat ((ml 108 p.toNat) ||| L))) rfl ?_
  refine Go.last (by rfl) (N := 12) (by rfl) (by omega) (by omega) (by decide) ?_
  refine Go.run hsz hn 0 (pc' := 21) (lv' := [some (gr 107), some (gi p), some (gl L), none, some (gl H), none]) (st' := []) (M' := gw mi (gu (gu ml 108 p.toNat ((ml 108 p.toNat) ||| L)) 109 p.toNat ((ml 109 p.toNat) ||| H))) rfl ?_
  exact Go.vret (by rfl) ⟨rfl, rfl⟩
set_option maxRecDepth 100000 in
set_option maxHeartbeats 4000000 in
theorem cL_leave {G : gG} (hsz : G.2.2.2.2.2.2 = true) {n : Nat} (hn : 1 ≤ n) (mi : Nat → Nat → Int) (ml : Nat → Nat → Int64) (p : Int) (p0 : 0 ≤ p) (p1 : p < 12) (L H : Int64) : gM G 7 n 0 0 [gr 107, gi p, gl L, gl H] (gw mi ml) (gvd (gw mi (lLeave ml p L H))) := by
  refine gM.of mX0_leave okX0_leave (gcp 7 (by decide)).1 (gcp 7 (by decide)).2 (Nat.le_of_ble_eq_true rfl) ?_
  refine Go.run hsz hn 4 (pc' := 6) (lv' := [some (gr 107), some (gi p), some (gl L), none, some (gl H), none]) (st' := [gi p, gr 108, gi p, gr 108]) (M' := gw mi ml) rfl ?_
  refine Go.lald (by rfl) (N := 12) (by rfl) (by omega) (by omega) (by decide) ?_
  refine Go.run hsz hn 4 (pc' := 13) (lv' := [some (gr 107), some (gi p), some (gl L), none, some (gl H), none]) (st' := [gl ((ml 108 p.toNat) &&& (L ^^^ (Int64.ofInt (-1)))), gi p, gr 108]) (M' := gw mi ml) rfl ?_
  refine Go.last (by rfl) (N := 12) (by rfl) (by omega) (by omega) (by decide) ?_
  refine Go.run hsz hn 4 (pc' := 20) (lv' := [some (gr 107), some (gi p), some (gl L), none, some (gl H), none]) (st' := [gi p, gr 109, gi p, gr 109]) (M' := gw mi (gu ml 108 p.toNat ((ml 108 p.toNat) &&& (L ^^^ (Int64.ofInt (-1)))))) rfl ?_
  refine Go.lald (by rfl) (N := 12) (by rfl) (by omega) (by omega) (by decide) ?_
  refine Go.run hsz hn 0 (pc' := 21) (lv' := [some (gr 107), some (gi p), some (gl L), none, some (gl H), none]) (st' := [gl ((gu ml 108 p.toNat ((ml 108 p.toNat) &&& (L ^^^ (Int64.ofInt (-1))))) 109 p.toNat), gi p, gr 109]) (M' := gw mi (gu ml 108 p.toNat ((ml 108 p.toNat) &&& (L ^^^ (Int64.ofInt (-1)))))) rfl ?_
  rw [show (gu ml 108 p.toNat ((ml 108 p.toNat) &&& (L ^^^ (Int64.ofInt (-1))))) 109 p.toNat = ml 109 p.toNat from gu_ne (Or.inl (by decide))]
  refine Go.run hsz hn 4 (pc' := 28) (lv' := [some (gr 107), some (gi p), some (gl L), none, some (gl H), none]) (st' := [gl ((ml 109 p.toNat) &&& (H ^^^ (Int64.ofInt (-1)))), gi p, gr 109]) (M' := gw mi (gu ml 108 p.toNat ((ml 108 p.toNat) &&& (L ^^^ (Int64.ofInt (-1)))))) rfl ?_
  refine Go.last (by rfl) (N := 12) (by rfl) (by omega) (by omega) (by decide) ?_
  refine Go.run hsz hn 0 (pc' := 29) (lv' := [some (gr 107), some (gi p), some (gl L), none, some (gl H), none]) (st' := []) (M' := gw mi (gu (gu ml 108 p.toNat ((ml 108 p.toNat) &&& (L ^^^ (Int64.ofInt (-1))))) 109 p.toNat ((ml 109 p.toNat) &&& (H ^^^ (Int64.ofInt (-1)))))) rfl ?_
  exact Go.vret (by rfl) ⟨rfl, rfl⟩
set_option maxRecDepth 100000 in
set_option maxHeartbeats 4000000 in
theorem cL_lonely {G : gG} (hsz : G.2.2.2.2.2.2 = true) {n : Nat} (hn : 2 ≤ n) (mi : Nat → Nat → Int) (ml : Nat → Nat → Int64) (p : Int) (p0 : 0 ≤ p) (p1 : p < 12) : gM G 8 n 0 0 [gr 107, gi p] (gw mi ml) (gret (lLon (ml 108 p.toNat) (ml 109 p.toNat)) (gw mi ml)) := by
  have hn1 : 1 ≤ n := by omega
  refine gM.of mX0_lonelyNights okX0_lonelyNights (gcp 8 (by decide)).1 (gcp 8 (by decide)).2 (Nat.le_of_ble_eq_true rfl) ?_
  refine Go.run hsz hn1 3 (pc' := 5) (lv' := [some (gr 107), some (gi p), none, none, none, none, none, none, none, none]) (st' := [gi p, gr 108]) (M' := gw mi ml) rfl ?_
  refine Go.lald (by rfl) (N := 12) (by rfl) (by omega) (by omega) (by decide) ?_
  refine Go.run hsz hn1 6 (pc' := 14) (lv' := [some (gr 107), some (gi p), some (gl ((ml 108 p.toNat) <<< ((iI 1).toInt64 &&& 63))), none, none, none, none, none, none, none]) (st' := [gi p, gr 109]) (M' := gw mi ml) rfl ?_
  refine Go.lald (by rfl) (N := 12) (by rfl) (by omega) (by omega) (by decide) ?_
  refine Go.run hsz hn1 5 (pc' := 22) (lv' := [some (gr 107), some (gi p), some (gl ((ml 108 p.toNat) <<< ((iI 1).toInt64 &&& 63))), none, none, none, none, none, none, none]) (st' := [gi p, gr 108, gl ((ml 109 p.toNat) <<< ((iI 1).toInt64 &&& 63))]) (M' := gw mi ml) rfl ?_
  refine Go.lald (by rfl) (N := 12) (by rfl) (by omega) (by omega) (by decide) ?_
  refine Go.run hsz hn1 7 (pc' := 34) (lv' := [some (gr 107), some (gi p), some (gl ((ml 108 p.toNat) <<< ((iI 1).toInt64 &&& 63))), none, some (gl (((ml 109 p.toNat) <<< ((iI 1).toInt64 &&& 63)) ||| (((ml 108 p.toNat).toUInt64 >>> ((iI 63).toInt64.toUInt64 &&& Int64.toUInt64 63)).toInt64))), none, none, none, none, none]) (st' := [gi p, gr 108]) (M' := gw mi ml) rfl ?_
  refine Go.lald (by rfl) (N := 12) (by rfl) (by omega) (by omega) (by decide) ?_
  refine Go.run hsz hn1 5 (pc' := 42) (lv' := [some (gr 107), some (gi p), some (gl ((ml 108 p.toNat) <<< ((iI 1).toInt64 &&& 63))), none, some (gl (((ml 109 p.toNat) <<< ((iI 1).toInt64 &&& 63)) ||| (((ml 108 p.toNat).toUInt64 >>> ((iI 63).toInt64.toUInt64 &&& Int64.toUInt64 63)).toInt64))), none, none, none, none, none]) (st' := [gi p, gr 109, gl (((ml 108 p.toNat).toUInt64 >>> ((iI 1).toInt64.toUInt64 &&& Int64.toUInt64 63)).toInt64)]) (M' := gw mi ml) rfl ?_
  refine Go.lald (by rfl) (N := 12) (by rfl) (by omega) (by omega) (by decide) ?_
  refine Go.run hsz hn1 7 (pc' := 54) (lv' := [some (gr 107), some (gi p), some (gl ((ml 108 p.toNat) <<< ((iI 1).toInt64 &&& 63))), none, some (gl (((ml 109 p.toNat) <<< ((iI 1).toInt64 &&& 63)) ||| (((ml 108 p.toNat).toUInt64 >>> ((iI 63).toInt64.toUInt64 &&& Int64.toUInt64 63)).toInt64))), none, some (gl ((((ml 108 p.toNat).toUInt64 >>> ((iI 1).toInt64.toUInt64 &&& Int64.toUInt64 63)).toInt64) ||| ((ml 109 p.toNat) <<< ((iI 63).toInt64 &&& 63)))), none, none, none]) (st' := [gi p, gr 109]) (M' := gw mi ml) rfl ?_
  refine Go.lald (by rfl) (N := 12) (by rfl) (by omega) (by omega) (by decide) ?_
  refine Go.run hsz hn1 9 (pc' := 68) (lv' := [some (gr 107), some (gi p), some (gl ((ml 108 p.toNat) <<< ((iI 1).toInt64 &&& 63))), none, some (gl (((ml 109 p.toNat) <<< ((iI 1).toInt64 &&& 63)) ||| (((ml 108 p.toNat).toUInt64 >>> ((iI 63).toInt64.toUInt64 &&& Int64.toUInt64 63)).toInt64))), none, some (gl ((((ml 108 p.toNat).toUInt64 >>> ((iI 1).toInt64.toUInt64 &&& Int64.toUInt64 63)).toInt64) ||| ((ml 109 p.toNat) <<< ((iI 63).toInt64 &&& 63)))), none, some (gl (((ml 109 p.toNat).toUInt64 >>> ((iI 1).toInt64.toUInt64 &&& Int64.toUInt64 63)).toInt64)), none]) (st' := [gi p, gr 108, gl (((ml 108 p.toNat) <<< ((iI 1).toInt64 &&& 63)) &&& ((((ml 108 p.toNat).toUInt64 >>> ((iI 1).toInt64.toUInt64 &&& Int64.toUInt64 63)).toInt64) ||| ((ml 109 p.toNat) <<< ((iI 63).toInt64 &&& 63))))]) (M' := gw mi ml) rfl ?_
  refine Go.lald (by rfl) (N := 12) (by rfl) (by omega) (by omega) (by decide) ?_
  refine Go.run hsz hn1 3 (pc' := 74) (lv' := [some (gr 107), some (gi p), some (gl ((ml 108 p.toNat) <<< ((iI 1).toInt64 &&& 63))), none, some (gl (((ml 109 p.toNat) <<< ((iI 1).toInt64 &&& 63)) ||| (((ml 108 p.toNat).toUInt64 >>> ((iI 63).toInt64.toUInt64 &&& Int64.toUInt64 63)).toInt64))), none, some (gl ((((ml 108 p.toNat).toUInt64 >>> ((iI 1).toInt64.toUInt64 &&& Int64.toUInt64 63)).toInt64) ||| ((ml 109 p.toNat) <<< ((iI 63).toInt64 &&& 63)))), none, some (gl (((ml 109 p.toNat).toUInt64 >>> ((iI 1).toInt64.toUInt64 &&& Int64.toUInt64 63)).toInt64)), none]) (st' := [gl ((((ml 108 p.toNat) <<< ((iI 1).toInt64 &&& 63)) &&& ((((ml 108 p.toNat).toUInt64 >>> ((iI 1).toInt64.toUInt64 &&& Int64.toUInt64 63)).toInt64) ||| ((ml 109 p.toNat) <<< ((iI 63).toInt64 &&& 63)))) &&& ((ml 108 p.toNat) ^^^ (Int64.ofInt (-1))))]) (M' := gw mi ml) rfl ?_
  refine Go.callS (As := [gl ((((ml 108 p.toNat) <<< ((iI 1).toInt64 &&& 63)) &&& ((((ml 108 p.toNat).toUInt64 >>> ((iI 1).toInt64.toUInt64 &&& Int64.toUInt64 63)).toInt64) ||| ((ml 109 p.toNat) <<< ((iI 63).toInt64 &&& 63)))) &&& ((ml 108 p.toNat) ^^^ (Int64.ofInt (-1))))]) (st := []) (mc1 := 0) (mc := 0) (ms1 := 0) (ms := 0) (by rfl) rfl (gcn 249 (by decide)).1 (gcn 249 (by decide)).2 (Nat.le_of_ble_eq_true rfl) (by omega) (cJ_bits hsz (n := n - 1) (by omega) mi ml ((((ml 108 p.toNat) <<< ((iI 1).toInt64 &&& 63)) &&& ((((ml 108 p.toNat).toUInt64 >>> ((iI 1).toInt64.toUInt64 &&& Int64.toUInt64 63)).toInt64) ||| ((ml 109 p.toNat) <<< ((iI 63).toInt64 &&& 63)))) &&& ((ml 108 p.toNat) ^^^ (Int64.ofInt (-1))))) ?_
  rintro _ _ ⟨rfl, rfl⟩
  refine Go.run hsz hn1 6 (pc' := 87) (lv' := [some (gr 107), some (gi p), some (gl ((ml 108 p.toNat) <<< ((iI 1).toInt64 &&& 63))), none, some (gl (((ml 109 p.toNat) <<< ((iI 1).toInt64 &&& 63)) ||| (((ml 108 p.toNat).toUInt64 >>> ((iI 63).toInt64.toUInt64 &&& Int64.toUInt64 63)).toInt64))), none, some (gl ((((ml 108 p.toNat).toUInt64 >>> ((iI 1).toInt64.toUInt64 &&& Int64.toUInt64 63)).toInt64) ||| ((ml 109 p.toNat) <<< ((iI 63).toInt64 &&& 63)))), none, some (gl (((ml 109 p.toNat).toUInt64 >>> ((iI 1).toInt64.toUInt64 &&& Int64.toUInt64 63)).toInt64)), none]) (st' := [gi p, gr 109, gl ((((ml 109 p.toNat) <<< ((iI 1).toInt64 &&& 63)) ||| (((ml 108 p.toNat).toUInt64 >>> ((iI 63).toInt64.toUInt64 &&& Int64.toUInt64 63)).toInt64)) &&& (((ml 109 p.toNat).toUInt64 >>> ((iI 1).toInt64.toUInt64 &&& Int64.toUInt64 63)).toInt64)), gi (popL ((((ml 108 p.toNat) <<< ((iI 1).toInt64 &&& 63)) &&& ((((ml 108 p.toNat).toUInt64 >>> ((iI 1).toInt64.toUInt64 &&& Int64.toUInt64 63)).toInt64) ||| ((ml 109 p.toNat) <<< ((iI 63).toInt64 &&& 63)))) &&& ((ml 108 p.toNat) ^^^ (Int64.ofInt (-1)))))]) (M' := gw mi ml) rfl ?_
  refine Go.lald (by rfl) (N := 12) (by rfl) (by omega) (by omega) (by decide) ?_
  refine Go.run hsz hn1 3 (pc' := 93) (lv' := [some (gr 107), some (gi p), some (gl ((ml 108 p.toNat) <<< ((iI 1).toInt64 &&& 63))), none, some (gl (((ml 109 p.toNat) <<< ((iI 1).toInt64 &&& 63)) ||| (((ml 108 p.toNat).toUInt64 >>> ((iI 63).toInt64.toUInt64 &&& Int64.toUInt64 63)).toInt64))), none, some (gl ((((ml 108 p.toNat).toUInt64 >>> ((iI 1).toInt64.toUInt64 &&& Int64.toUInt64 63)).toInt64) ||| ((ml 109 p.toNat) <<< ((iI 63).toInt64 &&& 63)))), none, some (gl (((ml 109 p.toNat).toUInt64 >>> ((iI 1).toInt64.toUInt64 &&& Int64.toUInt64 63)).toInt64)), none]) (st' := [gl (((((ml 109 p.toNat) <<< ((iI 1).toInt64 &&& 63)) ||| (((ml 108 p.toNat).toUInt64 >>> ((iI 63).toInt64.toUInt64 &&& Int64.toUInt64 63)).toInt64)) &&& (((ml 109 p.toNat).toUInt64 >>> ((iI 1).toInt64.toUInt64 &&& Int64.toUInt64 63)).toInt64)) &&& ((ml 109 p.toNat) ^^^ (Int64.ofInt (-1)))), gi (popL ((((ml 108 p.toNat) <<< ((iI 1).toInt64 &&& 63)) &&& ((((ml 108 p.toNat).toUInt64 >>> ((iI 1).toInt64.toUInt64 &&& Int64.toUInt64 63)).toInt64) ||| ((ml 109 p.toNat) <<< ((iI 63).toInt64 &&& 63)))) &&& ((ml 108 p.toNat) ^^^ (Int64.ofInt (-1)))))]) (M' := gw mi ml) rfl ?_
  refine Go.callS (As := [gl (((((ml 109 p.toNat) <<< ((iI 1).toInt64 &&& 63)) ||| (((ml 108 p.toNat).toUInt64 >>> ((iI 63).toInt64.toUInt64 &&& Int64.toUInt64 63)).toInt64)) &&& (((ml 109 p.toNat).toUInt64 >>> ((iI 1).toInt64.toUInt64 &&& Int64.toUInt64 63)).toInt64)) &&& ((ml 109 p.toNat) ^^^ (Int64.ofInt (-1))))]) (st := [gi (popL ((((ml 108 p.toNat) <<< ((iI 1).toInt64 &&& 63)) &&& ((((ml 108 p.toNat).toUInt64 >>> ((iI 1).toInt64.toUInt64 &&& Int64.toUInt64 63)).toInt64) ||| ((ml 109 p.toNat) <<< ((iI 63).toInt64 &&& 63)))) &&& ((ml 108 p.toNat) ^^^ (Int64.ofInt (-1)))))]) (mc1 := 0) (mc := 0) (ms1 := 0) (ms := 0) (by rfl) rfl (gcn 249 (by decide)).1 (gcn 249 (by decide)).2 (Nat.le_of_ble_eq_true rfl) (by omega) (cJ_bits hsz (n := n - 1) (by omega) mi ml (((((ml 109 p.toNat) <<< ((iI 1).toInt64 &&& 63)) ||| (((ml 108 p.toNat).toUInt64 >>> ((iI 63).toInt64.toUInt64 &&& Int64.toUInt64 63)).toInt64)) &&& (((ml 109 p.toNat).toUInt64 >>> ((iI 1).toInt64.toUInt64 &&& Int64.toUInt64 63)).toInt64)) &&& ((ml 109 p.toNat) ^^^ (Int64.ofInt (-1))))) ?_
  rintro _ _ ⟨rfl, rfl⟩
  refine Go.run hsz hn1 1 (pc' := 97) (lv' := [some (gr 107), some (gi p), some (gl ((ml 108 p.toNat) <<< ((iI 1).toInt64 &&& 63))), none, some (gl (((ml 109 p.toNat) <<< ((iI 1).toInt64 &&& 63)) ||| (((ml 108 p.toNat).toUInt64 >>> ((iI 63).toInt64.toUInt64 &&& Int64.toUInt64 63)).toInt64))), none, some (gl ((((ml 108 p.toNat).toUInt64 >>> ((iI 1).toInt64.toUInt64 &&& Int64.toUInt64 63)).toInt64) ||| ((ml 109 p.toNat) <<< ((iI 63).toInt64 &&& 63)))), none, some (gl (((ml 109 p.toNat).toUInt64 >>> ((iI 1).toInt64.toUInt64 &&& Int64.toUInt64 63)).toInt64)), none]) (st' := [gi ((popL ((((ml 108 p.toNat) <<< ((iI 1).toInt64 &&& 63)) &&& ((((ml 108 p.toNat).toUInt64 >>> ((iI 1).toInt64.toUInt64 &&& Int64.toUInt64 63)).toInt64) ||| ((ml 109 p.toNat) <<< ((iI 63).toInt64 &&& 63)))) &&& ((ml 108 p.toNat) ^^^ (Int64.ofInt (-1))))) + (popL (((((ml 109 p.toNat) <<< ((iI 1).toInt64 &&& 63)) ||| (((ml 108 p.toNat).toUInt64 >>> ((iI 63).toInt64.toUInt64 &&& Int64.toUInt64 63)).toInt64)) &&& (((ml 109 p.toNat).toUInt64 >>> ((iI 1).toInt64.toUInt64 &&& Int64.toUInt64 63)).toInt64)) &&& ((ml 109 p.toNat) ^^^ (Int64.ofInt (-1))))))]) (M' := gw mi ml) rfl ?_
  first | exact Go.iret (by rfl) ⟨congrArg (fun z => some (gi z)) (rfl), rfl⟩ | (exfalso; omega)
set_option maxRecDepth 100000 in
set_option maxHeartbeats 4000000 in
theorem lS_mark {G : gG} (hsz : G.2.2.2.2.2.2 = true) {n : Nat} (hn : 2 ≤ n) (mi : Nat → Nat → Int) (ml : Nat → Nat → Int64) (but : Int) (hv : CV mi) : ∀ (f : Nat) (k : Int), 0 ≤ k → k ≤ mi 1 3 → mi 1 3 - k < f → Go G mX8_mark n 0 0 6 [some (gr 1), some (gr 107), some (gi but), some (gi k), none] [] (gw mi (lMark mi ml but k.toNat)) (gvd (gw mi (lMark mi ml but (mi 1 3).toNat))) := by
  have hn1 : 1 ≤ n := by omega
  obtain ⟨hR, ht, hp, hq, hP, hQ⟩ := id hv
  intro f
  induction f with
  | zero => intros; omega
  | succ f ih =>
    intro k k0 k1 k2
    refine Go.run hsz hn1 3 (pc' := 11) (lv' := [some (gr 1), some (gr 107), some (gi but), some (gi k), none]) (st' := [gi (mi 1 3), gi k]) (M' := gw mi (lMark mi ml but k.toNat)) rfl ?_
    refine Go.icmp_ge (by rfl) ⟨by omega, by omega⟩ (hR _ _) (fun kq1 => ?_) (fun kq1 => ?_)
    · exact Go.vret (by rfl) ⟨rfl, by rw [show mi 1 3 = k by omega]⟩
    · refine Go.run hsz hn1 3 (pc' := 19) (lv' := [some (gr 1), some (gr 107), some (gi but), some (gi k), none]) (st' := [gi k, gr 3]) (M' := gw mi (lMark mi ml but k.toNat)) rfl ?_
      refine Go.aaldR 4 (by rfl) (N := 24) (by rfl) ⟨by decide, by decide⟩ (by omega) (by omega) (by decide) (gMR_3 (by omega) (by omega)) ?_
      refine Go.run hsz hn1 2 (pc' := 24) (lv' := [some (gr 1), some (gr 107), some (gi but), some (gi k), some (gr (24 + k.toNat))]) (st' := [gr (24 + k.toNat)]) (M' := gw mi (lMark mi ml but k.toNat)) rfl ?_
      refine Go.getf (by rfl) (c := 2) (N := 14) (shA (i := k) (by omega)) ?_
      refine Go.run hsz hn1 0 (pc' := 27) (lv' := [some (gr 1), some (gr 107), some (gi but), some (gi k), some (gr (24 + k.toNat))]) (st' := [gi (cA mi k 8)]) (M' := gw mi (lMark mi ml but k.toNat)) rfl ?_
      refine Go.if_lt (by rfl) (hR _ _) (fun kq2 => ?_) (fun kq2 => ?_)
      · refine Go.run hsz hn1 2 (pc' := 6) (lv' := [some (gr 1), some (gr 107), some (gi but), some (gi (k + 1)), some (gr (24 + k.toNat))]) (st' := []) (M' := gw mi (lMark mi ml but k.toNat)) rfl ?_
        refine Go.dropl 4 ?_
        refine Go.run hsz hn1 0 (pc' := 6) (lv' := [some (gr 1), some (gr 107), some (gi but), some (gi (k + 1)), none]) (st' := []) (M' := gw mi (lMark mi ml but k.toNat)) rfl ?_
        have h9 := ih (k + 1) (by omega) (by omega) (by omega)
        rw [lMark_s k0] at h9
        first | (rw [if_pos ⟨by omega, by omega⟩] at h9; exact h9) | (rw [if_neg (by omega)] at h9; exact h9)
      · refine Go.run hsz hn1 5 (pc' := 35) (lv' := [some (gr 1), some (gr 107), some (gi but), some (gi k), some (gr (24 + k.toNat))]) (st' := [gi (andI (shrI but k) 1)]) (M' := gw mi (lMark mi ml but k.toNat)) rfl ?_
        refine Go.if_ne (by rfl) (rng_of _) (fun kq3 => ?_) (fun kq3 => ?_)
        · refine Go.run hsz hn1 2 (pc' := 6) (lv' := [some (gr 1), some (gr 107), some (gi but), some (gi (k + 1)), some (gr (24 + k.toNat))]) (st' := []) (M' := gw mi (lMark mi ml but k.toNat)) rfl ?_
          refine Go.dropl 4 ?_
          refine Go.run hsz hn1 0 (pc' := 6) (lv' := [some (gr 1), some (gr 107), some (gi but), some (gi (k + 1)), none]) (st' := []) (M' := gw mi (lMark mi ml but k.toNat)) rfl ?_
          have h9 := ih (k + 1) (by omega) (by omega) (by omega)
          rw [lMark_s k0] at h9
          first | (rw [if_pos ⟨by omega, by omega⟩] at h9; exact h9) | (rw [if_neg (by omega)] at h9; exact h9)
        · refine Go.run hsz hn1 2 (pc' := 41) (lv' := [some (gr 1), some (gr 107), some (gi but), some (gi k), some (gr (24 + k.toNat))]) (st' := [gr (24 + k.toNat), gr 107]) (M' := gw mi (lMark mi ml but k.toNat)) rfl ?_
          refine Go.getf (by rfl) (c := 2) (N := 14) (shA (i := k) (by omega)) ?_
          refine Go.run hsz hn1 1 (pc' := 46) (lv' := [some (gr 1), some (gr 107), some (gi but), some (gi k), some (gr (24 + k.toNat))]) (st' := [gr (24 + k.toNat), gi (cA mi k 8), gr 107]) (M' := gw mi (lMark mi ml but k.toNat)) rfl ?_
          refine Go.getf (by rfl) (c := 2) (N := 14) (shA (i := k) (by omega)) ?_
          refine Go.run hsz hn1 1 (pc' := 51) (lv' := [some (gr 1), some (gr 107), some (gi but), some (gi k), some (gr (24 + k.toNat))]) (st' := [gr (24 + k.toNat), gl ((lMark mi ml but k.toNat) (24 + k.toNat) 6), gi (cA mi k 8), gr 107]) (M' := gw mi (lMark mi ml but k.toNat)) rfl ?_
          refine Go.getf (by rfl) (c := 2) (N := 14) (shA (i := k) (by omega)) ?_
          refine Go.run hsz hn1 0 (pc' := 54) (lv' := [some (gr 1), some (gr 107), some (gi but), some (gi k), some (gr (24 + k.toNat))]) (st' := [gl ((lMark mi ml but k.toNat) (24 + k.toNat) 7), gl ((lMark mi ml but k.toNat) (24 + k.toNat) 6), gi (cA mi k 8), gr 107]) (M' := gw mi (lMark mi ml but k.toNat)) rfl ?_
          refine Go.callV (As := [gi (cA mi k 8), gl ((lMark mi ml but k.toNat) (24 + k.toNat) 6), gl ((lMark mi ml but k.toNat) (24 + k.toNat) 7)]) (b := 107) (st := []) (mc1 := 0) (mc := 0) (ms1 := 0) (ms := 0) (by rfl) rfl (c := 0) (N := 2) (by rfl) (by decide) (by rfl) (gcn 6 (by decide)).1 (gcn 6 (by decide)).2 rfl (Nat.le_of_ble_eq_true rfl) (by omega) (cL_take hsz (n := n - 1) (by omega) mi (lMark mi ml but k.toNat) (cA mi k 8) (by omega) (by have := (hP k (by omega) (by omega)).2.2.2.2.2.2.2.1; omega) ((lMark mi ml but k.toNat) (24 + k.toNat) 6) ((lMark mi ml but k.toNat) (24 + k.toNat) 7)) ?_
          rintro _ _ ⟨rfl, rfl⟩
          refine Go.run hsz hn1 2 (pc' := 6) (lv' := [some (gr 1), some (gr 107), some (gi but), some (gi (k + 1)), some (gr (24 + k.toNat))]) (st' := []) (M' := gw mi (lTake (lMark mi ml but k.toNat) (cA mi k 8) ((lMark mi ml but k.toNat) (24 + k.toNat) 6) ((lMark mi ml but k.toNat) (24 + k.toNat) 7))) rfl ?_
          refine Go.dropl 4 ?_
          refine Go.run hsz hn1 0 (pc' := 6) (lv' := [some (gr 1), some (gr 107), some (gi but), some (gi (k + 1)), none]) (st' := []) (M' := gw mi (lTake (lMark mi ml but k.toNat) (cA mi k 8) ((lMark mi ml but k.toNat) (24 + k.toNat) 6) ((lMark mi ml but k.toNat) (24 + k.toNat) 7))) rfl ?_
          have h9 := ih (k + 1) (by omega) (by omega) (by omega)
          rw [lMark_s k0] at h9
          first | (rw [if_pos ⟨by omega, by omega⟩] at h9; exact h9) | (rw [if_neg (by omega)] at h9; exact h9)
set_option maxRecDepth 100000 in
set_option maxHeartbeats 4000000 in
theorem cS_mark {G : gG} (hsz : G.2.2.2.2.2.2 = true) {n : Nat} (hn : 2 ≤ n) (mi : Nat → Nat → Int) (ml : Nat → Nat → Int64) (but : Int) (hv : CV mi) : gM G 71 n 0 0 [gr 1, gr 107, gi but] (gw mi ml) (gvd (gw mi (lMark mi ml but (mi 1 3).toNat))) := by
  have hn1 : 1 ≤ n := by omega
  refine gM.of mX8_mark okX8_mark (gcp 71 (by decide)).1 (gcp 71 (by decide)).2 (Nat.le_of_ble_eq_true rfl) ?_
  refine Go.run hsz hn1 1 (pc' := 1) (lv' := [some (gr 1), some (gr 107), some (gi but), none, none]) (st' := [gr 107]) (M' := gw mi ml) rfl ?_
  refine Go.callV (As := []) (b := 107) (st := []) (mc1 := 0) (mc := 0) (ms1 := 0) (ms := 0) (by rfl) rfl (c := 0) (N := 2) (by rfl) (by decide) (by rfl) (gcn 4 (by decide)).1 (gcn 4 (by decide)).2 rfl (Nat.le_of_ble_eq_true rfl) (by omega) (cL_empty hsz (n := n - 1) (by omega) mi ml) ?_
  rintro _ _ ⟨rfl, rfl⟩
  refine Go.run hsz hn1 2 (pc' := 6) (lv' := [some (gr 1), some (gr 107), some (gi but), some (gi 0), none]) (st' := []) (M' := gw mi (lEmp ml 12)) rfl ?_
  exact lS_mark hsz hn mi ml but hv ((mi 1 3).toNat + 1) 0 (by omega) (by have := hv.2.2.2.1.1; omega) (by omega)
theorem gf_none {c : Int → Prop} [DecidablePred c] : ∀ {n : Nat}, (∀ k : Nat, k < n → ¬ c k) → gfold (fun a acc => if c a then a else acc) (-1) n = -1
  | 0, _ => rfl
  | n + 1, h => by
    show (if c n then (n : Int) else gfold (fun a acc => if c a then a else acc) (-1) n) = -1
    rw [if_neg (h n (by omega)), gf_none (fun k hk => h k (by omega))]
theorem gf_some {c : Int → Prop} [DecidablePred c] {k : Nat} (hk : c k) : ∀ {n : Nat}, k < n → (∀ j : Nat, j < n → c j → j = k) → gfold (fun a acc => if c a then a else acc) (-1) n = k
  | 0, h, _ => absurd h (by omega)
  | n + 1, h, hu => by
    show (if c n then (n : Int) else gfold (fun a acc => if c a then a else acc) (-1) n) = k
    by_cases e : c n
    · rw [if_pos e, hu n (by omega) e]
    · rw [if_neg e]
      have : k ≠ n := fun q => e (q ▸ hk)
      exact gf_some hk (by omega) (fun j hj => hu j (by omega))
def cOnN (mi : Nat → Nat → Int) (p x a : Int) : Prop := cA mi a 8 = p ∧ ¬ cStays mi a x = 0
def cWho (mi : Nat → Nat → Int) (p x : Int) (k : Nat) : Int := gfold (fun a acc => if cA mi a 8 = p ∧ ¬ cStays mi a x = 0 then a else acc) (-1) k
/-- one holder a night -/
def cUni (mi : Nat → Nat → Int) (p : Int) : Prop := ∀ x a b : Int, 0 ≤ a → a < mi 1 3 → 0 ≤ b → b < mi 1 3 → cOnN mi p x a → cOnN mi p x b → a = b
set_option maxRecDepth 100000 in
set_option maxHeartbeats 4000000 in
theorem lS_holder {G : gG} (hsz : G.2.2.2.2.2.2 = true) {n : Nat} (hn : 3 ≤ n) (mi : Nat → Nat → Int) (ml : Nat → Nat → Int64) (p x : Int) (rp : rng p) (rx : rng x) (hu : cUni mi p) (hv : CV mi) : ∀ (f : Nat) (k : Int) (hall : ∀ b : Nat, (b : Int) < k → ¬ cOnN mi p x b), 0 ≤ k → k ≤ mi 1 3 → mi 1 3 - k < f → Go G mX8_holder n 0 0 2 [some (gr 1), some (gi p), some (gi x), some (gi k)] [] (gw mi ml) (gret (cWho mi p x (mi 1 3).toNat) (gw mi ml)) := by
  have hn1 : 1 ≤ n := by omega
  obtain ⟨hR, ht, hp, hq, hP, hQ⟩ := id hv
  intro f
  induction f with
  | zero => intros; omega
  | succ f ih =>
    intro k hall k0 k1 k2
    refine Go.run hsz hn1 3 (pc' := 7) (lv' := [some (gr 1), some (gi p), some (gi x), some (gi k)]) (st' := [gi (mi 1 3), gi k]) (M' := gw mi ml) rfl ?_
    refine Go.icmp_ge (by rfl) ⟨by omega, by omega⟩ (hR _ _) (fun kq1 => ?_) (fun kq1 => ?_)
    · refine Go.run hsz hn1 1 (pc' := 45) (lv' := [some (gr 1), some (gi p), some (gi x), some (gi k)]) (st' := [gi (-1)]) (M' := gw mi ml) rfl ?_
      refine Go.iret (by rfl) ⟨congrArg (fun z => some (gi z)) (?_ : (-1 : Int) = cWho mi p x (mi 1 3).toNat), rfl⟩
      exact (gf_none (c := fun a => cA mi a 8 = p ∧ ¬ cStays mi a x = 0) (fun j hj => hall j (by omega))).symm
    · refine Go.run hsz hn1 3 (pc' := 15) (lv' := [some (gr 1), some (gi p), some (gi x), some (gi k)]) (st' := [gi k, gr 3]) (M' := gw mi ml) rfl ?_
      refine Go.aaldR 4 (by rfl) (N := 24) (by rfl) ⟨by decide, by decide⟩ (by omega) (by omega) (by decide) (gMR_3 (by omega) (by omega)) ?_
      refine Go.getf (by rfl) (c := 2) (N := 14) (shA (i := k) (by omega)) ?_
      refine Go.run hsz hn1 1 (pc' := 20) (lv' := [some (gr 1), some (gi p), some (gi x), some (gi k)]) (st' := [gi p, gi (cA mi k 8)]) (M' := gw mi ml) rfl ?_
      refine Go.icmp_ne (by rfl) (hR _ _) rp (fun kq2 => ?_) (fun kq2 => ?_)
      · refine Go.run hsz hn1 2 (pc' := 2) (lv' := [some (gr 1), some (gi p), some (gi x), some (gi (k + 1))]) (st' := []) (M' := gw mi ml) rfl ?_
        exact ih (k + 1) (fun b hb hc => (by
          by_cases e : (b : Int) = k
          · rw [e] at hc; unfold cOnN at hc; omega
          · exact hall b (by omega) hc)) (by omega) (by omega) (by omega)
      · refine Go.run hsz hn1 3 (pc' := 28) (lv' := [some (gr 1), some (gi p), some (gi x), some (gi k)]) (st' := [gi k, gr 3]) (M' := gw mi ml) rfl ?_
        refine Go.aaldR 4 (by rfl) (N := 24) (by rfl) ⟨by decide, by decide⟩ (by omega) (by omega) (by decide) (gMR_3 (by omega) (by omega)) ?_
        refine Go.run hsz hn1 1 (pc' := 30) (lv' := [some (gr 1), some (gi p), some (gi x), some (gi k)]) (st' := [gi x, gr (24 + k.toNat)]) (M' := gw mi ml) rfl ?_
        refine Go.callV (As := [gi x]) (b := 24 + k.toNat) (st := []) (mc1 := 0) (mc := 0) (ms1 := 0) (ms := 0) (by rfl) rfl (c := 2) (N := 14) (shA (i := k) (by omega)) (by decide) (by rfl) (gcn 25 (by decide)).1 (gcn 25 (by decide)).2 rfl (Nat.le_of_ble_eq_true rfl) (by omega) (cPa_stays hsz (n := n - 1) (by omega) mi ml k x (by omega) (by omega) rx (hP k (by omega) (by omega)) hR) ?_
        rintro _ _ ⟨rfl, rfl⟩
        refine Go.run hsz hn1 0 (pc' := 33) (lv' := [some (gr 1), some (gi p), some (gi x), some (gi k)]) (st' := [gi (cStays mi k x)]) (M' := gw mi ml) rfl ?_
        refine Go.if_eq (by rfl) (b2_rng _) (fun kq3 => ?_) (fun kq3 => ?_)
        · refine Go.run hsz hn1 2 (pc' := 2) (lv' := [some (gr 1), some (gi p), some (gi x), some (gi (k + 1))]) (st' := []) (M' := gw mi ml) rfl ?_
          exact ih (k + 1) (fun b hb hc => (by
            by_cases e : (b : Int) = k
            · rw [e] at hc; unfold cOnN at hc; omega
            · exact hall b (by omega) hc)) (by omega) (by omega) (by omega)
        · refine Go.run hsz hn1 1 (pc' := 37) (lv' := [some (gr 1), some (gi p), some (gi x), some (gi k)]) (st' := [gi k]) (M' := gw mi ml) rfl ?_
          refine Go.iret (by rfl) ⟨congrArg (fun z => some (gi z)) (?_ : k = cWho mi p x (mi 1 3).toNat), rfl⟩
          have h8 := gf_some (c := fun a => cA mi a 8 = p ∧ ¬ cStays mi a x = 0) (k := k.toNat) (by rw [show ((k.toNat : Nat) : Int) = k by omega]; exact ⟨by omega, by omega⟩) (n := (mi 1 3).toNat) (by omega) (fun j hj hc => by have := hu x j k (by omega) (by omega) (by omega) (by omega) hc ⟨by omega, by omega⟩; omega)
          rw [show ((k.toNat : Nat) : Int) = k by omega] at h8
          exact h8.symm
set_option maxRecDepth 100000 in
set_option maxHeartbeats 4000000 in
theorem cS_holder {G : gG} (hsz : G.2.2.2.2.2.2 = true) {n : Nat} (hn : 3 ≤ n) (mi : Nat → Nat → Int) (ml : Nat → Nat → Int64) (p x : Int) (rp : rng p) (rx : rng x) (hu : cUni mi p) (hv : CV mi) : gM G 70 n 0 0 [gr 1, gi p, gi x] (gw mi ml) (gret (cWho mi p x (mi 1 3).toNat) (gw mi ml)) := by
  have hn1 : 1 ≤ n := by omega
  refine gM.of mX8_holder okX8_holder (gcp 70 (by decide)).1 (gcp 70 (by decide)).2 (Nat.le_of_ble_eq_true rfl) ?_
  refine Go.run hsz hn1 2 (pc' := 2) (lv' := [some (gr 1), some (gi p), some (gi x), some (gi 0)]) (st' := []) (M' := gw mi ml) rfl ?_
  exact lS_holder hsz hn mi ml p x rp rx hu hv ((mi 1 3).toNat + 1) 0 (fun b hb => by omega) (by omega) (by have := hv.2.2.2.1.1; omega) (by omega)
set_option maxRecDepth 100000 in
set_option maxHeartbeats 4000000 in
theorem pC_who {G : gG} (hsz : G.2.2.2.2.2.2 = true) {n : Nat} (hn : 5 ≤ n) (mi : Nat → Nat → Int) (ml : Nat → Nat → Int64) (p x : Int) (r_p : rng p) (r_x : rng x) (hv : CV mi) (hu : ∀ p : Int, 0 ≤ p → p < mi 1 2 → cUni mi p) : gM G 113 n 0 0 [gr 0, gi p, gi x] (gw mi ml) (fun r M => gE ((0 ≤ p ∧ p < mi 1 2) ∧ (0 ≤ x ∧ x ≤ 99)) (cWho mi p x (mi 1 3).toNat) (mi) (ml) r M ∨ gE (¬ ((0 ≤ p ∧ p < mi 1 2) ∧ (0 ≤ x ∧ x ≤ 99))) (-1000001) (cFd mi 0) (ml) r M) := by
  have hn1 : 1 ≤ n := by omega
  obtain ⟨hR, ht, hp, hq, hP, hQ⟩ := id hv
  refine gM.of mX11_who okX11_who (gcp 113 (by decide)).1 (gcp 113 (by decide)).2 (Nat.le_of_ble_eq_true rfl) ?_
  refine Go.run hsz hn1 3 (pc' := 5) (lv' := [some (gr 0), some (gi p), some (gi x)]) (st' := [gi p, gr 1]) (M' := gw mi ml) rfl ?_
  refine Go.callV (As := [gi p]) (b := 1) (st := []) (mc1 := 0) (mc := 0) (ms1 := 0) (ms := 0) (by rfl) rfl (c := 7) (N := 11) (by rfl) (by decide) (by rfl) (gcn 59 (by decide)).1 (gcn 59 (by decide)).2 rfl (Nat.le_of_ble_eq_true rfl) (by omega) (cS_isPitch hsz (n := n - 1) (by omega) mi ml p r_p hR) ?_
  rintro _ _ ⟨rfl, rfl⟩
  refine Go.run hsz hn1 0 (pc' := 8) (lv' := [some (gr 0), some (gi p), some (gi x)]) (st' := [gi (b2 (0 ≤ p ∧ p < mi 1 2))]) (M' := gw mi ml) rfl ?_
  refine Go.if_eq (by rfl) (b2_rng _) (fun kq1 => ?_) (fun kq1 => ?_)
  · replace kq1 := b2_neg kq1
    refine Go.run hsz hn1 2 (pc' := 24) (lv' := [some (gr 0), some (gi p), some (gi x)]) (st' := [gi (-1000001), gr 0]) (M' := gw mi ml) rfl ?_
    refine Go.callV (As := [gi (-1000001)]) (b := 0) (st := []) (mc1 := 0) (mc := 0) (ms1 := 0) (ms := 0) (by rfl) rfl (c := 10) (N := 9) (by rfl) (by decide) (by rfl) (gcn 147 (by decide)).1 (gcn 147 (by decide)).2 rfl (Nat.le_of_ble_eq_true rfl) (by omega) (cC_finding hsz (n := n - 1) (by omega) mi ml (-1000001) (by decide) (by decide)) ?_
    rintro _ _ ⟨rfl, rfl⟩
    refine Go.run hsz hn1 0 (pc' := 27) (lv' := [some (gr 0), some (gi p), some (gi x)]) (st' := [gi (-1000001)]) (M' := gw (cFd mi 0) ml) rfl ?_
    refine Go.iret (by rfl) ?_
    first | (exact Or.inl ⟨by omega, rfl, rfl⟩) | (exact Or.inr (⟨by omega, rfl, rfl⟩))
  · replace kq1 := b2_pos kq1
    refine Go.run hsz hn1 3 (pc' := 15) (lv' := [some (gr 0), some (gi p), some (gi x)]) (st' := [gi 99, gi 0, gi x]) (M' := gw mi ml) rfl ?_
    refine Go.callS (As := [gi x, gi 0, gi 99]) (st := []) (mc1 := 0) (mc := 0) (ms1 := 0) (ms := 0) (by rfl) rfl (gcn 150 (by decide)).1 (gcn 150 (by decide)).2 (Nat.le_of_ble_eq_true rfl) (by omega) (cC_isIn hsz (n := n - 1) (by omega) mi ml x 0 99 r_x ⟨by decide, by decide⟩ ⟨by decide, by decide⟩) ?_
    rintro _ _ ⟨rfl, rfl⟩
    refine Go.run hsz hn1 0 (pc' := 18) (lv' := [some (gr 0), some (gi p), some (gi x)]) (st' := [gi (b2 (0 ≤ x ∧ x ≤ 99))]) (M' := gw mi ml) rfl ?_
    refine Go.if_ne (by rfl) (b2_rng _) (fun kq2 => ?_) (fun kq2 => ?_)
    · replace kq2 := b2_pos kq2
      refine Go.run hsz hn1 4 (pc' := 34) (lv' := [some (gr 0), some (gi p), some (gi x)]) (st' := [gi x, gi p, gr 1]) (M' := gw mi ml) rfl ?_
      refine Go.callV (As := [gi p, gi x]) (b := 1) (st := []) (mc1 := 0) (mc := 0) (ms1 := 0) (ms := 0) (by rfl) rfl (c := 7) (N := 11) (by rfl) (by decide) (by rfl) (gcn 70 (by decide)).1 (gcn 70 (by decide)).2 rfl (Nat.le_of_ble_eq_true rfl) (by omega) (cS_holder hsz (n := n - 1) (by omega) mi ml p x r_p r_x (hu _ (by omega) (by omega)) hv) ?_
      rintro _ _ ⟨rfl, rfl⟩
      refine Go.run hsz hn1 0 (pc' := 37) (lv' := [some (gr 0), some (gi p), some (gi x)]) (st' := [gi (cWho mi p x (mi 1 3).toNat)]) (M' := gw mi ml) rfl ?_
      refine Go.iret (by rfl) ?_
      first | (exact Or.inl ⟨by omega, rfl, rfl⟩) | (exact Or.inr (⟨by omega, rfl, rfl⟩))
    · replace kq2 := b2_neg kq2
      refine Go.run hsz hn1 2 (pc' := 24) (lv' := [some (gr 0), some (gi p), some (gi x)]) (st' := [gi (-1000001), gr 0]) (M' := gw mi ml) rfl ?_
      refine Go.callV (As := [gi (-1000001)]) (b := 0) (st := []) (mc1 := 0) (mc := 0) (ms1 := 0) (ms := 0) (by rfl) rfl (c := 10) (N := 9) (by rfl) (by decide) (by rfl) (gcn 147 (by decide)).1 (gcn 147 (by decide)).2 rfl (Nat.le_of_ble_eq_true rfl) (by omega) (cC_finding hsz (n := n - 1) (by omega) mi ml (-1000001) (by decide) (by decide)) ?_
      rintro _ _ ⟨rfl, rfl⟩
      refine Go.run hsz hn1 0 (pc' := 27) (lv' := [some (gr 0), some (gi p), some (gi x)]) (st' := [gi (-1000001)]) (M' := gw (cFd mi 0) ml) rfl ?_
      refine Go.iret (by rfl) ?_
      first | (exact Or.inl ⟨by omega, rfl, rfl⟩) | (exact Or.inr (⟨by omega, rfl, rfl⟩))
def cPutF (mi : Nat → Nat → Int) (ml : Nat → Nat → Int64) (a p : Int) : Int := lFree (lMark mi ml (shlI 1 a) (mi 1 3).toNat) p ((lMark mi ml (shlI 1 a) (mi 1 3).toNat) (24 + a.toNat) 6) ((lMark mi ml (shlI 1 a) (mi 1 3).toNat) (24 + a.toNat) 7)
set_option maxRecDepth 100000 in
set_option maxHeartbeats 4000000 in
theorem pC_put {G : gG} (hsz : G.2.2.2.2.2.2 = true) {n : Nat} (hn : 5 ≤ n) (mi : Nat → Nat → Int) (ml : Nat → Nat → Int64) (a p : Int) (r_a : rng a) (r_p : rng p) (hv : CV mi)  : gM G 111 n 0 0 [gr 0, gi a, gi p] (gw mi ml) (fun r M => gE (¬ ((0 ≤ a ∧ a < mi 1 3) ∧ (0 ≤ p ∧ p < mi 1 2))) (-1000001) (cFd mi 0) (ml) r M ∨ gE ((0 ≤ a ∧ a < mi 1 3) ∧ (0 ≤ p ∧ p < mi 1 2) ∧ (cA mi a 8 = -2 ∨ (0 ≤ cA mi a 8 ∧ cA mi a 4 ≤ mi 1 0))) (-1000005) (cFd mi 4) (ml) r M ∨ gE ((0 ≤ a ∧ a < mi 1 3) ∧ (0 ≤ p ∧ p < mi 1 2) ∧ ¬ (cA mi a 8 = -2 ∨ (0 ≤ cA mi a 8 ∧ cA mi a 4 ≤ mi 1 0)) ∧ ¬ cReason mi a p = 0) (-1000003) (cFd mi 2) (ml) r M ∨ gE ((0 ≤ a ∧ a < mi 1 3) ∧ (0 ≤ p ∧ p < mi 1 2) ∧ ¬ (cA mi a 8 = -2 ∨ (0 ≤ cA mi a 8 ∧ cA mi a 4 ≤ mi 1 0)) ∧ cReason mi a p = 0 ∧ cPutF mi ml a p = 0) (-1000004) (cFd mi 3) (lMark mi ml (shlI 1 a) (mi 1 3).toNat) r M ∨ gE ((0 ≤ a ∧ a < mi 1 3) ∧ (0 ≤ p ∧ p < mi 1 2) ∧ ¬ (cA mi a 8 = -2 ∨ (0 ≤ cA mi a 8 ∧ cA mi a 4 ≤ mi 1 0)) ∧ cReason mi a p = 0 ∧ ¬ cPutF mi ml a p = 0) (cA mi a 8) (gu mi (24 + a.toNat) 8 p) (lMark mi ml (shlI 1 a) (mi 1 3).toNat) r M) := by
  have hn1 : 1 ≤ n := by omega
  obtain ⟨hR, ht, hp, hq, hP, hQ⟩ := id hv
  refine gM.of mX11_put okX11_put (gcp 111 (by decide)).1 (gcp 111 (by decide)).2 (Nat.le_of_ble_eq_true rfl) ?_
  refine Go.run hsz hn1 3 (pc' := 5) (lv' := [some (gr 0), some (gi a), some (gi p), none, none]) (st' := [gi a, gr 1]) (M' := gw mi ml) rfl ?_
  refine Go.callV (As := [gi a]) (b := 1) (st := []) (mc1 := 0) (mc := 0) (ms1 := 0) (ms := 0) (by rfl) rfl (c := 7) (N := 11) (by rfl) (by decide) (by rfl) (gcn 60 (by decide)).1 (gcn 60 (by decide)).2 rfl (Nat.le_of_ble_eq_true rfl) (by omega) (cS_isParty hsz (n := n - 1) (by omega) mi ml a r_a hR) ?_
  rintro _ _ ⟨rfl, rfl⟩
  refine Go.run hsz hn1 0 (pc' := 8) (lv' := [some (gr 0), some (gi a), some (gi p), none, none]) (st' := [gi (b2 (0 ≤ a ∧ a < mi 1 3))]) (M' := gw mi ml) rfl ?_
  refine Go.if_eq (by rfl) (b2_rng _) (fun kq1 => ?_) (fun kq1 => ?_)
  · replace kq1 := b2_neg kq1
    refine Go.run hsz hn1 2 (pc' := 25) (lv' := [some (gr 0), some (gi a), some (gi p), none, none]) (st' := [gi (-1000001), gr 0]) (M' := gw mi ml) rfl ?_
    refine Go.callV (As := [gi (-1000001)]) (b := 0) (st := []) (mc1 := 0) (mc := 0) (ms1 := 0) (ms := 0) (by rfl) rfl (c := 10) (N := 9) (by rfl) (by decide) (by rfl) (gcn 147 (by decide)).1 (gcn 147 (by decide)).2 rfl (Nat.le_of_ble_eq_true rfl) (by omega) (cC_finding hsz (n := n - 1) (by omega) mi ml (-1000001) (by decide) (by decide)) ?_
    rintro _ _ ⟨rfl, rfl⟩
    refine Go.run hsz hn1 0 (pc' := 28) (lv' := [some (gr 0), some (gi a), some (gi p), none, none]) (st' := [gi (-1000001)]) (M' := gw (cFd mi 0) ml) rfl ?_
    refine Go.iret (by rfl) ?_
    first | (exact Or.inl ⟨by omega, rfl, rfl⟩) | (exact Or.inr (Or.inl ⟨by omega, rfl, rfl⟩)) | (exact Or.inr (Or.inr (Or.inl ⟨by omega, rfl, rfl⟩))) | (exact Or.inr (Or.inr (Or.inr (Or.inl ⟨by omega, rfl, rfl⟩)))) | (exact Or.inr (Or.inr (Or.inr (Or.inr (⟨by omega, rfl, rfl⟩)))))
  · replace kq1 := b2_pos kq1
    refine Go.run hsz hn1 3 (pc' := 16) (lv' := [some (gr 0), some (gi a), some (gi p), none, none]) (st' := [gi p, gr 1]) (M' := gw mi ml) rfl ?_
    refine Go.callV (As := [gi p]) (b := 1) (st := []) (mc1 := 0) (mc := 0) (ms1 := 0) (ms := 0) (by rfl) rfl (c := 7) (N := 11) (by rfl) (by decide) (by rfl) (gcn 59 (by decide)).1 (gcn 59 (by decide)).2 rfl (Nat.le_of_ble_eq_true rfl) (by omega) (cS_isPitch hsz (n := n - 1) (by omega) mi ml p r_p hR) ?_
    rintro _ _ ⟨rfl, rfl⟩
    refine Go.run hsz hn1 0 (pc' := 19) (lv' := [some (gr 0), some (gi a), some (gi p), none, none]) (st' := [gi (b2 (0 ≤ p ∧ p < mi 1 2))]) (M' := gw mi ml) rfl ?_
    refine Go.if_ne (by rfl) (b2_rng _) (fun kq2 => ?_) (fun kq2 => ?_)
    · replace kq2 := b2_pos kq2
      refine Go.run hsz hn1 4 (pc' := 37) (lv' := [some (gr 0), some (gi a), some (gi p), none, none]) (st' := [gi a, gr 3]) (M' := gw mi ml) rfl ?_
      refine Go.aaldR 4 (by rfl) (N := 24) (by rfl) ⟨by decide, by decide⟩ (by omega) (by omega) (by decide) (gMR_3 (by omega) (by omega)) ?_
      refine Go.run hsz hn1 2 (pc' := 40) (lv' := [some (gr 0), some (gi a), some (gi p), some (gr (24 + a.toNat)), none]) (st' := [gr (24 + a.toNat)]) (M' := gw mi ml) rfl ?_
      refine Go.getf (by rfl) (c := 2) (N := 14) (shA (i := a) (by omega)) ?_
      refine Go.run hsz hn1 1 (pc' := 45) (lv' := [some (gr 0), some (gi a), some (gi p), some (gr (24 + a.toNat)), none]) (st' := [gi (-2), gi (cA mi a 8)]) (M' := gw mi ml) rfl ?_
      refine Go.icmp_eq (by rfl) (hR _ _) ⟨by decide, by decide⟩ (fun kq3 => ?_) (fun kq3 => ?_)
      · refine Go.run hsz hn1 2 (pc' := 62) (lv' := [some (gr 0), some (gi a), some (gi p), some (gr (24 + a.toNat)), none]) (st' := [gi (-1000005), gr 0]) (M' := gw mi ml) rfl ?_
        refine Go.callV (As := [gi (-1000005)]) (b := 0) (st := []) (mc1 := 0) (mc := 0) (ms1 := 0) (ms := 0) (by rfl) rfl (c := 10) (N := 9) (by rfl) (by decide) (by rfl) (gcn 147 (by decide)).1 (gcn 147 (by decide)).2 rfl (Nat.le_of_ble_eq_true rfl) (by omega) (cC_finding hsz (n := n - 1) (by omega) mi ml (-1000005) (by decide) (by decide)) ?_
        rintro _ _ ⟨rfl, rfl⟩
        refine Go.run hsz hn1 0 (pc' := 65) (lv' := [some (gr 0), some (gi a), some (gi p), some (gr (24 + a.toNat)), none]) (st' := [gi (-1000005)]) (M' := gw (cFd mi 4) ml) rfl ?_
        refine Go.iret (by rfl) ?_
        first | (exact Or.inl ⟨by omega, rfl, rfl⟩) | (exact Or.inr (Or.inl ⟨by omega, rfl, rfl⟩)) | (exact Or.inr (Or.inr (Or.inl ⟨by omega, rfl, rfl⟩))) | (exact Or.inr (Or.inr (Or.inr (Or.inl ⟨by omega, rfl, rfl⟩)))) | (exact Or.inr (Or.inr (Or.inr (Or.inr (⟨by omega, rfl, rfl⟩)))))
      · refine Go.run hsz hn1 3 (pc' := 53) (lv' := [some (gr 0), some (gi a), some (gi p), some (gr (24 + a.toNat)), none]) (st' := [gi a, gr 1]) (M' := gw mi ml) rfl ?_
        refine Go.callV (As := [gi a]) (b := 1) (st := []) (mc1 := 0) (mc := 0) (ms1 := 0) (ms := 0) (by rfl) rfl (c := 7) (N := 11) (by rfl) (by decide) (by rfl) (gcn 64 (by decide)).1 (gcn 64 (by decide)).2 rfl (Nat.le_of_ble_eq_true rfl) (by omega) (cS_isSettled hsz (n := n - 1) (by omega) mi ml a (by omega) (by omega) hR) ?_
        rintro _ _ ⟨rfl, rfl⟩
        refine Go.run hsz hn1 0 (pc' := 56) (lv' := [some (gr 0), some (gi a), some (gi p), some (gr (24 + a.toNat)), none]) (st' := [gi (b2 (0 ≤ cA mi a 8 ∧ cA mi a 4 ≤ mi 1 0))]) (M' := gw mi ml) rfl ?_
        refine Go.if_eq (by rfl) (b2_rng _) (fun kq4 => ?_) (fun kq4 => ?_)
        · replace kq4 := b2_neg kq4
          refine Go.run hsz hn1 5 (pc' := 75) (lv' := [some (gr 0), some (gi a), some (gi p), some (gr (24 + a.toNat)), none]) (st' := [gi p, gr 2, gr (24 + a.toNat)]) (M' := gw mi ml) rfl ?_
          refine Go.aaldR 3 (by rfl) (N := 12) (by rfl) ⟨by decide, by decide⟩ (by omega) (by omega) (by decide) (gMR_2 (by omega) (by omega)) ?_
          refine Go.run hsz hn1 0 (pc' := 76) (lv' := [some (gr 0), some (gi a), some (gi p), some (gr (24 + a.toNat)), none]) (st' := [gr (12 + p.toNat), gr (24 + a.toNat)]) (M' := gw mi ml) rfl ?_
          refine Go.callS (As := [gr (24 + a.toNat), gr (12 + p.toNat)]) (st := []) (mc1 := 0) (mc := 0) (ms1 := 0) (ms := 0) (by rfl) rfl (gcn 10 (by decide)).1 (gcn 10 (by decide)).2 (Nat.le_of_ble_eq_true rfl) (by omega) (cK_reason hsz (n := n - 1) (by omega) mi ml a p (by omega) (by omega) (by omega) (by omega) (hP _ (by omega) (by omega)) hR) ?_
          rintro _ _ ⟨rfl, rfl⟩
          refine Go.run hsz hn1 0 (pc' := 79) (lv' := [some (gr 0), some (gi a), some (gi p), some (gr (24 + a.toNat)), none]) (st' := [gi (cReason mi a p)]) (M' := gw mi ml) rfl ?_
          refine Go.if_eq (by rfl) ⟨by have := cReason_b mi a p; omega, by have := cReason_b mi a p; omega⟩ (fun kq5 => ?_) (fun kq5 => ?_)
          · refine Go.run hsz hn1 7 (pc' := 100) (lv' := [some (gr 0), some (gi a), some (gi p), some (gr (24 + a.toNat)), none]) (st' := [gi (shlI 1 a), gr 107, gr 1]) (M' := gw mi ml) rfl ?_
            refine Go.callV (As := [gr 107, gi (shlI 1 a)]) (b := 1) (st := []) (mc1 := 0) (mc := 0) (ms1 := 0) (ms := 0) (by rfl) rfl (c := 7) (N := 11) (by rfl) (by decide) (by rfl) (gcn 71 (by decide)).1 (gcn 71 (by decide)).2 rfl (Nat.le_of_ble_eq_true rfl) (by omega) (cS_mark hsz (n := n - 1) (by omega) mi ml (shlI 1 a) hv) ?_
            rintro _ _ ⟨rfl, rfl⟩
            refine Go.run hsz hn1 4 (pc' := 109) (lv' := [some (gr 0), some (gi a), some (gi p), some (gr (24 + a.toNat)), none]) (st' := [gr (24 + a.toNat), gi p, gr 107]) (M' := gw mi (lMark mi ml (shlI 1 a) (mi 1 3).toNat)) rfl ?_
            refine Go.getf (by rfl) (c := 2) (N := 14) (shA (i := a) (by omega)) ?_
            refine Go.run hsz hn1 1 (pc' := 113) (lv' := [some (gr 0), some (gi a), some (gi p), some (gr (24 + a.toNat)), none]) (st' := [gr (24 + a.toNat), gl ((lMark mi ml (shlI 1 a) (mi 1 3).toNat) (24 + a.toNat) 6), gi p, gr 107]) (M' := gw mi (lMark mi ml (shlI 1 a) (mi 1 3).toNat)) rfl ?_
            refine Go.getf (by rfl) (c := 2) (N := 14) (shA (i := a) (by omega)) ?_
            refine Go.run hsz hn1 0 (pc' := 116) (lv' := [some (gr 0), some (gi a), some (gi p), some (gr (24 + a.toNat)), none]) (st' := [gl ((lMark mi ml (shlI 1 a) (mi 1 3).toNat) (24 + a.toNat) 7), gl ((lMark mi ml (shlI 1 a) (mi 1 3).toNat) (24 + a.toNat) 6), gi p, gr 107]) (M' := gw mi (lMark mi ml (shlI 1 a) (mi 1 3).toNat)) rfl ?_
            refine Go.callV (As := [gi p, gl ((lMark mi ml (shlI 1 a) (mi 1 3).toNat) (24 + a.toNat) 6), gl ((lMark mi ml (shlI 1 a) (mi 1 3).toNat) (24 + a.toNat) 7)]) (b := 107) (st := []) (mc1 := 0) (mc := 0) (ms1 := 0) (ms := 0) (by rfl) rfl (c := 0) (N := 2) (by rfl) (by decide) (by rfl) (gcn 5 (by decide)).1 (gcn 5 (by decide)).2 rfl (Nat.le_of_ble_eq_true rfl) (by omega) (cL_isFree hsz (n := n - 1) (by omega) mi (lMark mi ml (shlI 1 a) (mi 1 3).toNat) p (by omega) (by omega) ((lMark mi ml (shlI 1 a) (mi 1 3).toNat) (24 + a.toNat) 6) ((lMark mi ml (shlI 1 a) (mi 1 3).toNat) (24 + a.toNat) 7)) ?_
            rintro _ _ ⟨rfl, rfl⟩
            rw [show lFree (lMark mi ml (shlI 1 a) (mi 1 3).toNat) p ((lMark mi ml (shlI 1 a) (mi 1 3).toNat) (24 + a.toNat) 6) ((lMark mi ml (shlI 1 a) (mi 1 3).toNat) (24 + a.toNat) 7) = cPutF mi ml a p from rfl]
            refine Go.run hsz hn1 0 (pc' := 119) (lv' := [some (gr 0), some (gi a), some (gi p), some (gr (24 + a.toNat)), none]) (st' := [gi (cPutF mi ml a p)]) (M' := gw mi (lMark mi ml (shlI 1 a) (mi 1 3).toNat)) rfl ?_
            refine Go.if_ne (by rfl) (b2_rng _) (fun kq6 => ?_) (fun kq6 => ?_)
            · refine Go.run hsz hn1 1 (pc' := 130) (lv' := [some (gr 0), some (gi a), some (gi p), some (gr (24 + a.toNat)), none]) (st' := [gr (24 + a.toNat)]) (M' := gw mi (lMark mi ml (shlI 1 a) (mi 1 3).toNat)) rfl ?_
              refine Go.getf (by rfl) (c := 2) (N := 14) (shA (i := a) (by omega)) ?_
              refine Go.run hsz hn1 3 (pc' := 137) (lv' := [some (gr 0), some (gi a), some (gi p), some (gr (24 + a.toNat)), some (gi (cA mi a 8))]) (st' := [gi p, gr (24 + a.toNat)]) (M' := gw mi (lMark mi ml (shlI 1 a) (mi 1 3).toNat)) rfl ?_
              refine Go.putI (by rfl) (c := 2) (N := 14) (shA (i := a) (by omega)) (by rfl) ?_
              refine Go.run hsz hn1 1 (pc' := 142) (lv' := [some (gr 0), some (gi a), some (gi p), some (gr (24 + a.toNat)), some (gi (cA mi a 8))]) (st' := [gi (cA mi a 8)]) (M' := gw (gu mi (24 + a.toNat) 8 p) (lMark mi ml (shlI 1 a) (mi 1 3).toNat)) rfl ?_
              refine Go.iret (by rfl) ?_
              first | (exact Or.inl ⟨by omega, rfl, rfl⟩) | (exact Or.inr (Or.inl ⟨by omega, rfl, rfl⟩)) | (exact Or.inr (Or.inr (Or.inl ⟨by omega, rfl, rfl⟩))) | (exact Or.inr (Or.inr (Or.inr (Or.inl ⟨by omega, rfl, rfl⟩)))) | (exact Or.inr (Or.inr (Or.inr (Or.inr (⟨by omega, rfl, rfl⟩)))))
            · refine Go.run hsz hn1 2 (pc' := 125) (lv' := [some (gr 0), some (gi a), some (gi p), some (gr (24 + a.toNat)), none]) (st' := [gi (-1000004), gr 0]) (M' := gw mi (lMark mi ml (shlI 1 a) (mi 1 3).toNat)) rfl ?_
              refine Go.callV (As := [gi (-1000004)]) (b := 0) (st := []) (mc1 := 0) (mc := 0) (ms1 := 0) (ms := 0) (by rfl) rfl (c := 10) (N := 9) (by rfl) (by decide) (by rfl) (gcn 147 (by decide)).1 (gcn 147 (by decide)).2 rfl (Nat.le_of_ble_eq_true rfl) (by omega) (cC_finding hsz (n := n - 1) (by omega) mi (lMark mi ml (shlI 1 a) (mi 1 3).toNat) (-1000004) (by decide) (by decide)) ?_
              rintro _ _ ⟨rfl, rfl⟩
              refine Go.run hsz hn1 0 (pc' := 128) (lv' := [some (gr 0), some (gi a), some (gi p), some (gr (24 + a.toNat)), none]) (st' := [gi (-1000004)]) (M' := gw (cFd mi 3) (lMark mi ml (shlI 1 a) (mi 1 3).toNat)) rfl ?_
              refine Go.iret (by rfl) ?_
              first | (exact Or.inl ⟨by omega, rfl, rfl⟩) | (exact Or.inr (Or.inl ⟨by omega, rfl, rfl⟩)) | (exact Or.inr (Or.inr (Or.inl ⟨by omega, rfl, rfl⟩))) | (exact Or.inr (Or.inr (Or.inr (Or.inl ⟨by omega, rfl, rfl⟩)))) | (exact Or.inr (Or.inr (Or.inr (Or.inr (⟨by omega, rfl, rfl⟩)))))
          · refine Go.run hsz hn1 2 (pc' := 85) (lv' := [some (gr 0), some (gi a), some (gi p), some (gr (24 + a.toNat)), none]) (st' := [gi (-1000003), gr 0]) (M' := gw mi ml) rfl ?_
            refine Go.callV (As := [gi (-1000003)]) (b := 0) (st := []) (mc1 := 0) (mc := 0) (ms1 := 0) (ms := 0) (by rfl) rfl (c := 10) (N := 9) (by rfl) (by decide) (by rfl) (gcn 147 (by decide)).1 (gcn 147 (by decide)).2 rfl (Nat.le_of_ble_eq_true rfl) (by omega) (cC_finding hsz (n := n - 1) (by omega) mi ml (-1000003) (by decide) (by decide)) ?_
            rintro _ _ ⟨rfl, rfl⟩
            refine Go.run hsz hn1 0 (pc' := 88) (lv' := [some (gr 0), some (gi a), some (gi p), some (gr (24 + a.toNat)), none]) (st' := [gi (-1000003)]) (M' := gw (cFd mi 2) ml) rfl ?_
            refine Go.iret (by rfl) ?_
            first | (exact Or.inl ⟨by omega, rfl, rfl⟩) | (exact Or.inr (Or.inl ⟨by omega, rfl, rfl⟩)) | (exact Or.inr (Or.inr (Or.inl ⟨by omega, rfl, rfl⟩))) | (exact Or.inr (Or.inr (Or.inr (Or.inl ⟨by omega, rfl, rfl⟩)))) | (exact Or.inr (Or.inr (Or.inr (Or.inr (⟨by omega, rfl, rfl⟩)))))
        · replace kq4 := b2_pos kq4
          refine Go.run hsz hn1 2 (pc' := 62) (lv' := [some (gr 0), some (gi a), some (gi p), some (gr (24 + a.toNat)), none]) (st' := [gi (-1000005), gr 0]) (M' := gw mi ml) rfl ?_
          refine Go.callV (As := [gi (-1000005)]) (b := 0) (st := []) (mc1 := 0) (mc := 0) (ms1 := 0) (ms := 0) (by rfl) rfl (c := 10) (N := 9) (by rfl) (by decide) (by rfl) (gcn 147 (by decide)).1 (gcn 147 (by decide)).2 rfl (Nat.le_of_ble_eq_true rfl) (by omega) (cC_finding hsz (n := n - 1) (by omega) mi ml (-1000005) (by decide) (by decide)) ?_
          rintro _ _ ⟨rfl, rfl⟩
          refine Go.run hsz hn1 0 (pc' := 65) (lv' := [some (gr 0), some (gi a), some (gi p), some (gr (24 + a.toNat)), none]) (st' := [gi (-1000005)]) (M' := gw (cFd mi 4) ml) rfl ?_
          refine Go.iret (by rfl) ?_
          first | (exact Or.inl ⟨by omega, rfl, rfl⟩) | (exact Or.inr (Or.inl ⟨by omega, rfl, rfl⟩)) | (exact Or.inr (Or.inr (Or.inl ⟨by omega, rfl, rfl⟩))) | (exact Or.inr (Or.inr (Or.inr (Or.inl ⟨by omega, rfl, rfl⟩)))) | (exact Or.inr (Or.inr (Or.inr (Or.inr (⟨by omega, rfl, rfl⟩)))))
    · replace kq2 := b2_neg kq2
      refine Go.run hsz hn1 2 (pc' := 25) (lv' := [some (gr 0), some (gi a), some (gi p), none, none]) (st' := [gi (-1000001), gr 0]) (M' := gw mi ml) rfl ?_
      refine Go.callV (As := [gi (-1000001)]) (b := 0) (st := []) (mc1 := 0) (mc := 0) (ms1 := 0) (ms := 0) (by rfl) rfl (c := 10) (N := 9) (by rfl) (by decide) (by rfl) (gcn 147 (by decide)).1 (gcn 147 (by decide)).2 rfl (Nat.le_of_ble_eq_true rfl) (by omega) (cC_finding hsz (n := n - 1) (by omega) mi ml (-1000001) (by decide) (by decide)) ?_
      rintro _ _ ⟨rfl, rfl⟩
      refine Go.run hsz hn1 0 (pc' := 28) (lv' := [some (gr 0), some (gi a), some (gi p), none, none]) (st' := [gi (-1000001)]) (M' := gw (cFd mi 0) ml) rfl ?_
      refine Go.iret (by rfl) ?_
      first | (exact Or.inl ⟨by omega, rfl, rfl⟩) | (exact Or.inr (Or.inl ⟨by omega, rfl, rfl⟩)) | (exact Or.inr (Or.inr (Or.inl ⟨by omega, rfl, rfl⟩))) | (exact Or.inr (Or.inr (Or.inr (Or.inl ⟨by omega, rfl, rfl⟩)))) | (exact Or.inr (Or.inr (Or.inr (Or.inr (⟨by omega, rfl, rfl⟩)))))
def cGapS (ml : Nat → Nat → Int64) (k : Nat) : Int := gfold (fun p acc => acc + lLon (ml 108 p.toNat) (ml 109 p.toNat)) 0 k
set_option maxRecDepth 100000 in
set_option maxHeartbeats 4000000 in
theorem lC_gaps {G : gG} (hsz : G.2.2.2.2.2.2 = true) {n : Nat} (hn : 3 ≤ n) (mi : Nat → Nat → Int) (ml : Nat → Nat → Int64) (p : Int) (r_p : rng p) (hv : CV mi) : ∀ (f : Nat) (k : Int), 0 ≤ k → k ≤ mi 1 2 → mi 1 2 - k < f → Go G mX11_gaps n 0 0 53 [some (gr 0), some (gi p), some (gi (cGapS ml k.toNat)), some (gi k)] [] (gw mi ml) (gret (cGapS ml (mi 1 2).toNat) (gw mi ml)) := by
  have hn1 : 1 ≤ n := by omega
  obtain ⟨hR, ht, hp, hq, hP, hQ⟩ := id hv
  intro f
  induction f with
  | zero => intros; omega
  | succ f ih =>
    intro k k0 k1 k2
    refine Go.run hsz hn1 4 (pc' := 61) (lv' := [some (gr 0), some (gi p), some (gi (cGapS ml k.toNat)), some (gi k)]) (st' := [gi (mi 1 2), gi k]) (M' := gw mi ml) rfl ?_
    refine Go.icmp_ge (by rfl) ⟨by omega, by omega⟩ (hR _ _) (fun kq1 => ?_) (fun kq1 => ?_)
    · refine Go.run hsz hn1 1 (pc' := 82) (lv' := [some (gr 0), some (gi p), some (gi (cGapS ml k.toNat)), some (gi k)]) (st' := [gi (cGapS ml k.toNat)]) (M' := gw mi ml) rfl ?_
      obtain rfl : k = mi 1 2 := by omega
      exact Go.iret (by rfl) ⟨rfl, rfl⟩
    · refine Go.run hsz hn1 4 (pc' := 70) (lv' := [some (gr 0), some (gi p), some (gi (cGapS ml k.toNat)), some (gi k)]) (st' := [gi k, gr 107, gi (cGapS ml k.toNat)]) (M' := gw mi ml) rfl ?_
      refine Go.callV (As := [gi k]) (b := 107) (st := [gi (cGapS ml k.toNat)]) (mc1 := 0) (mc := 0) (ms1 := 0) (ms := 0) (by rfl) rfl (c := 0) (N := 2) (by rfl) (by decide) (by rfl) (gcn 8 (by decide)).1 (gcn 8 (by decide)).2 rfl (Nat.le_of_ble_eq_true rfl) (by omega) (cL_lonely hsz (n := n - 1) (by omega) mi ml k (by omega) (by omega)) ?_
      rintro _ _ ⟨rfl, rfl⟩
      refine Go.run hsz hn1 4 (pc' := 53) (lv' := [some (gr 0), some (gi p), some (gi ((cGapS ml k.toNat) + (lLon (ml 108 k.toNat) (ml 109 k.toNat)))), some (gi (k + 1))]) (st' := []) (M' := gw mi ml) rfl ?_
      have h9 := ih (k + 1) (by omega) (by omega) (by omega)
      rw [show cGapS ml (k + 1).toNat = _ from gfold_s k0] at h9
      (try dsimp only at h9)
      (repeat' split at h9) <;> first | exact h9 | (exfalso; omega)
set_option maxRecDepth 100000 in
set_option maxHeartbeats 4000000 in
theorem pC_gaps {G : gG} (hsz : G.2.2.2.2.2.2 = true) {n : Nat} (hn : 4 ≤ n) (mi : Nat → Nat → Int) (ml : Nat → Nat → Int64) (p : Int) (r_p : rng p) (hv : CV mi)  : gM G 114 n 0 0 [gr 0, gi p] (gw mi ml) (fun r M => gE (¬ (p = -1 ∨ (0 ≤ p ∧ p < mi 1 2))) (-1000001) (cFd mi 0) (ml) r M ∨ gE (¬ p = -1 ∧ (0 ≤ p ∧ p < mi 1 2)) (lLon ((lMark mi ml 0 (mi 1 3).toNat) 108 p.toNat) ((lMark mi ml 0 (mi 1 3).toNat) 109 p.toNat)) (mi) (lMark mi ml 0 (mi 1 3).toNat) r M ∨ gE (p = -1) (cGapS (lMark mi ml 0 (mi 1 3).toNat) (mi 1 2).toNat) (mi) (lMark mi ml 0 (mi 1 3).toNat) r M) := by
  have hn1 : 1 ≤ n := by omega
  obtain ⟨hR, ht, hp, hq, hP, hQ⟩ := id hv
  refine gM.of mX11_gaps okX11_gaps (gcp 114 (by decide)).1 (gcp 114 (by decide)).2 (Nat.le_of_ble_eq_true rfl) ?_
  refine Go.run hsz hn1 2 (pc' := 2) (lv' := [some (gr 0), some (gi p), none, none]) (st' := [gi (-1), gi p]) (M' := gw mi ml) rfl ?_
  refine Go.icmp_eq (by rfl) r_p ⟨by decide, by decide⟩ (fun kq1 => ?_) (fun kq1 => ?_)
  · refine Go.run hsz hn1 5 (pc' := 32) (lv' := [some (gr 0), some (gi p), none, none]) (st' := [gi 0, gr 107, gr 1]) (M' := gw mi ml) rfl ?_
    refine Go.callV (As := [gr 107, gi 0]) (b := 1) (st := []) (mc1 := 0) (mc := 0) (ms1 := 0) (ms := 0) (by rfl) rfl (c := 7) (N := 11) (by rfl) (by decide) (by rfl) (gcn 71 (by decide)).1 (gcn 71 (by decide)).2 rfl (Nat.le_of_ble_eq_true rfl) (by omega) (cS_mark hsz (n := n - 1) (by omega) mi ml 0 hv) ?_
    rintro _ _ ⟨rfl, rfl⟩
    refine Go.run hsz hn1 2 (pc' := 37) (lv' := [some (gr 0), some (gi p), none, none]) (st' := [gi (-1), gi p]) (M' := gw mi (lMark mi ml 0 (mi 1 3).toNat)) rfl ?_
    refine Go.icmp_eq (by rfl) r_p ⟨by decide, by decide⟩ (fun kq2 => ?_) (fun kq2 => ?_)
    · refine Go.run hsz hn1 4 (pc' := 53) (lv' := [some (gr 0), some (gi p), some (gi 0), some (gi 0)]) (st' := []) (M' := gw mi (lMark mi ml 0 (mi 1 3).toNat)) rfl ?_
      refine Go.imp ?_ (lC_gaps hsz (n := n) (by omega) mi (lMark mi ml 0 (mi 1 3).toNat) p r_p hv ((mi 1 2).toNat + 1) 0 (by omega) (by omega) (by omega))
      rintro _ _ ⟨rfl, rfl⟩
      exact Or.inr (Or.inr ⟨by omega, rfl, rfl⟩)
    · refine Go.run hsz hn1 3 (pc' := 45) (lv' := [some (gr 0), some (gi p), none, none]) (st' := [gi p, gr 107]) (M' := gw mi (lMark mi ml 0 (mi 1 3).toNat)) rfl ?_
      refine Go.callV (As := [gi p]) (b := 107) (st := []) (mc1 := 0) (mc := 0) (ms1 := 0) (ms := 0) (by rfl) rfl (c := 0) (N := 2) (by rfl) (by decide) (by rfl) (gcn 8 (by decide)).1 (gcn 8 (by decide)).2 rfl (Nat.le_of_ble_eq_true rfl) (by omega) (cL_lonely hsz (n := n - 1) (by omega) mi (lMark mi ml 0 (mi 1 3).toNat) p (by omega) (by omega)) ?_
      rintro _ _ ⟨rfl, rfl⟩
      refine Go.run hsz hn1 0 (pc' := 48) (lv' := [some (gr 0), some (gi p), none, none]) (st' := [gi (lLon ((lMark mi ml 0 (mi 1 3).toNat) 108 p.toNat) ((lMark mi ml 0 (mi 1 3).toNat) 109 p.toNat))]) (M' := gw mi (lMark mi ml 0 (mi 1 3).toNat)) rfl ?_
      refine Go.iret (by rfl) ?_
      first | (exact Or.inl ⟨by omega, rfl, rfl⟩) | (exact Or.inr (Or.inl ⟨by omega, rfl, rfl⟩)) | (exact Or.inr (Or.inr (⟨by omega, rfl, rfl⟩)))
  · refine Go.run hsz hn1 3 (pc' := 10) (lv' := [some (gr 0), some (gi p), none, none]) (st' := [gi p, gr 1]) (M' := gw mi ml) rfl ?_
    refine Go.callV (As := [gi p]) (b := 1) (st := []) (mc1 := 0) (mc := 0) (ms1 := 0) (ms := 0) (by rfl) rfl (c := 7) (N := 11) (by rfl) (by decide) (by rfl) (gcn 59 (by decide)).1 (gcn 59 (by decide)).2 rfl (Nat.le_of_ble_eq_true rfl) (by omega) (cS_isPitch hsz (n := n - 1) (by omega) mi ml p r_p hR) ?_
    rintro _ _ ⟨rfl, rfl⟩
    refine Go.run hsz hn1 0 (pc' := 13) (lv' := [some (gr 0), some (gi p), none, none]) (st' := [gi (b2 (0 ≤ p ∧ p < mi 1 2))]) (M' := gw mi ml) rfl ?_
    refine Go.if_ne (by rfl) (b2_rng _) (fun kq3 => ?_) (fun kq3 => ?_)
    · replace kq3 := b2_pos kq3
      refine Go.run hsz hn1 5 (pc' := 32) (lv' := [some (gr 0), some (gi p), none, none]) (st' := [gi 0, gr 107, gr 1]) (M' := gw mi ml) rfl ?_
      refine Go.callV (As := [gr 107, gi 0]) (b := 1) (st := []) (mc1 := 0) (mc := 0) (ms1 := 0) (ms := 0) (by rfl) rfl (c := 7) (N := 11) (by rfl) (by decide) (by rfl) (gcn 71 (by decide)).1 (gcn 71 (by decide)).2 rfl (Nat.le_of_ble_eq_true rfl) (by omega) (cS_mark hsz (n := n - 1) (by omega) mi ml 0 hv) ?_
      rintro _ _ ⟨rfl, rfl⟩
      refine Go.run hsz hn1 2 (pc' := 37) (lv' := [some (gr 0), some (gi p), none, none]) (st' := [gi (-1), gi p]) (M' := gw mi (lMark mi ml 0 (mi 1 3).toNat)) rfl ?_
      refine Go.icmp_eq (by rfl) r_p ⟨by decide, by decide⟩ (fun kq4 => ?_) (fun kq4 => ?_)
      · refine Go.run hsz hn1 4 (pc' := 53) (lv' := [some (gr 0), some (gi p), some (gi 0), some (gi 0)]) (st' := []) (M' := gw mi (lMark mi ml 0 (mi 1 3).toNat)) rfl ?_
        refine Go.imp ?_ (lC_gaps hsz (n := n) (by omega) mi (lMark mi ml 0 (mi 1 3).toNat) p r_p hv ((mi 1 2).toNat + 1) 0 (by omega) (by omega) (by omega))
        rintro _ _ ⟨rfl, rfl⟩
        exact Or.inr (Or.inr ⟨by omega, rfl, rfl⟩)
      · refine Go.run hsz hn1 3 (pc' := 45) (lv' := [some (gr 0), some (gi p), none, none]) (st' := [gi p, gr 107]) (M' := gw mi (lMark mi ml 0 (mi 1 3).toNat)) rfl ?_
        refine Go.callV (As := [gi p]) (b := 107) (st := []) (mc1 := 0) (mc := 0) (ms1 := 0) (ms := 0) (by rfl) rfl (c := 0) (N := 2) (by rfl) (by decide) (by rfl) (gcn 8 (by decide)).1 (gcn 8 (by decide)).2 rfl (Nat.le_of_ble_eq_true rfl) (by omega) (cL_lonely hsz (n := n - 1) (by omega) mi (lMark mi ml 0 (mi 1 3).toNat) p (by omega) (by omega)) ?_
        rintro _ _ ⟨rfl, rfl⟩
        refine Go.run hsz hn1 0 (pc' := 48) (lv' := [some (gr 0), some (gi p), none, none]) (st' := [gi (lLon ((lMark mi ml 0 (mi 1 3).toNat) 108 p.toNat) ((lMark mi ml 0 (mi 1 3).toNat) 109 p.toNat))]) (M' := gw mi (lMark mi ml 0 (mi 1 3).toNat)) rfl ?_
        refine Go.iret (by rfl) ?_
        first | (exact Or.inl ⟨by omega, rfl, rfl⟩) | (exact Or.inr (Or.inl ⟨by omega, rfl, rfl⟩)) | (exact Or.inr (Or.inr (⟨by omega, rfl, rfl⟩)))
    · replace kq3 := b2_neg kq3
      refine Go.run hsz hn1 2 (pc' := 19) (lv' := [some (gr 0), some (gi p), none, none]) (st' := [gi (-1000001), gr 0]) (M' := gw mi ml) rfl ?_
      refine Go.callV (As := [gi (-1000001)]) (b := 0) (st := []) (mc1 := 0) (mc := 0) (ms1 := 0) (ms := 0) (by rfl) rfl (c := 10) (N := 9) (by rfl) (by decide) (by rfl) (gcn 147 (by decide)).1 (gcn 147 (by decide)).2 rfl (Nat.le_of_ble_eq_true rfl) (by omega) (cC_finding hsz (n := n - 1) (by omega) mi ml (-1000001) (by decide) (by decide)) ?_
      rintro _ _ ⟨rfl, rfl⟩
      refine Go.run hsz hn1 0 (pc' := 22) (lv' := [some (gr 0), some (gi p), none, none]) (st' := [gi (-1000001)]) (M' := gw (cFd mi 0) ml) rfl ?_
      refine Go.iret (by rfl) ?_
      first | (exact Or.inl ⟨by omega, rfl, rfl⟩) | (exact Or.inr (Or.inl ⟨by omega, rfl, rfl⟩)) | (exact Or.inr (Or.inr (⟨by omega, rfl, rfl⟩)))

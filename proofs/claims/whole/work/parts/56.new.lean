def gretl (v : Int64) (M : gMe) : Option gV → gMe → Prop := fun r M' => r = some (gl v) ∧ M' = M
def gvd (M : gMe) : Option gV → gMe → Prop := fun r M' => r = none ∧ M' = M
theorem lsh_ok : ∀ k : Nat, k < 64 → ((iI k).toInt64 &&& 63) = Int64.ofInt k := by decide +kernel
theorem lBelow_mid {n : Int} (h0 : 0 < n) (h1 : n < 64) : (Int64.ofInt 1) <<< ((iI n).toInt64 &&& 63) - (Int64.ofInt 1) = lBelow n := by
  have := lsh_ok n.toNat (by omega)
  rw [show ((n.toNat : Nat) : Int) = n by omega] at this
  rw [this]
  unfold lBelow
  rw [if_neg (by omega), if_neg (by omega)]
  rfl
set_option maxRecDepth 100000 in
set_option maxHeartbeats 4000000 in
theorem cL_below {G : gG} (hsz : G.2.2.2.2.2.2 = true) {n : Nat} (hn : 1 ≤ n) (mi : Nat → Nat → Int) (ml : Nat → Nat → Int64) (x : Int) (r_x : rng x) : gM G 3 n 0 0 [gi x] (gw mi ml) (gretl (lBelow x) (gw mi ml)) := by
  refine gM.of mX0_below okX0_below (gcp 3 (by decide)).1 (gcp 3 (by decide)).2 (Nat.le_of_ble_eq_true rfl) ?_
  refine Go.run hsz hn 1 (pc' := 1) (lv' := [some (gi x)]) (st' := [gi x]) (M' := gw mi ml) rfl ?_
  refine Go.if_gt (by rfl) r_x (fun kq1 => ?_) (fun kq1 => ?_)
  · refine Go.run hsz hn 2 (pc' := 9) (lv' := [some (gi x)]) (st' := [gi 64, gi x]) (M' := gw mi ml) rfl ?_
    refine Go.icmp_lt (by rfl) r_x ⟨by decide, by decide⟩ (fun kq2 => ?_) (fun kq2 => ?_)
    · refine Go.run hsz hn 5 (pc' := 23) (lv' := [some (gi x)]) (st' := [gl (((Int64.ofInt 1) <<< ((iI x).toInt64 &&& 63)) - (Int64.ofInt 1))]) (M' := gw mi ml) rfl ?_
      exact Go.lret (by rfl) ⟨congrArg (fun z => some (gl z)) (by first | exact lBelow_mid (by omega) (by omega) | (unfold lBelow; (repeat' split) <;> first | rfl | omega)), rfl⟩
    · refine Go.run hsz hn 2 (pc' := 23) (lv' := [some (gi x)]) (st' := [gl (Int64.ofInt (-1))]) (M' := gw mi ml) rfl ?_
      exact Go.lret (by rfl) ⟨congrArg (fun z => some (gl z)) (by first | exact lBelow_mid (by omega) (by omega) | (unfold lBelow; (repeat' split) <;> first | rfl | omega)), rfl⟩
  · refine Go.run hsz hn 1 (pc' := 5) (lv' := [some (gi x)]) (st' := [gl (Int64.ofInt 0)]) (M' := gw mi ml) rfl ?_
    exact Go.lret (by rfl) ⟨congrArg (fun z => some (gl z)) (by first | exact lBelow_mid (by omega) (by omega) | (unfold lBelow; (repeat' split) <;> first | rfl | omega)), rfl⟩
set_option maxRecDepth 100000 in
set_option maxHeartbeats 4000000 in
theorem cL_low {G : gG} (hsz : G.2.2.2.2.2.2 = true) {n : Nat} (hn : 2 ≤ n) (mi : Nat → Nat → Int) (ml : Nat → Nat → Int64) (f k : Int) (f0 : -10000 ≤ f) (f1 : f ≤ 10000) (k0 : -10000 ≤ k) (k1 : k ≤ 10000) : gM G 1 n 0 0 [gi f, gi k] (gw mi ml) (gretl (lLow f k) (gw mi ml)) := by
  have hn1 : 1 ≤ n := by omega
  refine gM.of mX0_lowNights okX0_lowNights (gcp 1 (by decide)).1 (gcp 1 (by decide)).2 (Nat.le_of_ble_eq_true rfl) ?_
  refine Go.run hsz hn1 3 (pc' := 3) (lv' := [some (gi f), some (gi k)]) (st' := [gi (f + k)]) (M' := gw mi ml) rfl ?_
  refine Go.callS (As := [gi (f + k)]) (st := []) (mc1 := 0) (mc := 0) (ms1 := 0) (ms := 0) (by rfl) rfl (gcn 3 (by decide)).1 (gcn 3 (by decide)).2 (Nat.le_of_ble_eq_true rfl) (by omega) (cL_below hsz (n := n - 1) (by omega) mi ml (f + k) ⟨by omega, by omega⟩) ?_
  rintro _ _ ⟨rfl, rfl⟩
  refine Go.run hsz hn1 1 (pc' := 7) (lv' := [some (gi f), some (gi k)]) (st' := [gi f, gl (lBelow (f + k))]) (M' := gw mi ml) rfl ?_
  refine Go.callS (As := [gi f]) (st := [gl (lBelow (f + k))]) (mc1 := 0) (mc := 0) (ms1 := 0) (ms := 0) (by rfl) rfl (gcn 3 (by decide)).1 (gcn 3 (by decide)).2 (Nat.le_of_ble_eq_true rfl) (by omega) (cL_below hsz (n := n - 1) (by omega) mi ml f ⟨by omega, by omega⟩) ?_
  rintro _ _ ⟨rfl, rfl⟩
  refine Go.run hsz hn1 3 (pc' := 15) (lv' := [some (gi f), some (gi k)]) (st' := [gl ((lBelow (f + k)) &&& ((lBelow f) ^^^ (Int64.ofInt (-1))))]) (M' := gw mi ml) rfl ?_
  exact Go.lret (by rfl) ⟨congrArg (fun z => some (gl z)) (rfl), rfl⟩
set_option maxRecDepth 100000 in
set_option maxHeartbeats 4000000 in
theorem cL_high {G : gG} (hsz : G.2.2.2.2.2.2 = true) {n : Nat} (hn : 2 ≤ n) (mi : Nat → Nat → Int) (ml : Nat → Nat → Int64) (f k : Int) (f0 : -10000 ≤ f) (f1 : f ≤ 10000) (k0 : -10000 ≤ k) (k1 : k ≤ 10000) : gM G 2 n 0 0 [gi f, gi k] (gw mi ml) (gretl (lHigh f k) (gw mi ml)) := by
  have hn1 : 1 ≤ n := by omega
  refine gM.of mX0_highNights okX0_highNights (gcp 2 (by decide)).1 (gcp 2 (by decide)).2 (Nat.le_of_ble_eq_true rfl) ?_
  refine Go.run hsz hn1 5 (pc' := 6) (lv' := [some (gi f), some (gi k)]) (st' := [gi ((f + k) - 64)]) (M' := gw mi ml) rfl ?_
  refine Go.callS (As := [gi ((f + k) - 64)]) (st := []) (mc1 := 0) (mc := 0) (ms1 := 0) (ms := 0) (by rfl) rfl (gcn 3 (by decide)).1 (gcn 3 (by decide)).2 (Nat.le_of_ble_eq_true rfl) (by omega) (cL_below hsz (n := n - 1) (by omega) mi ml ((f + k) - 64) ⟨by omega, by omega⟩) ?_
  rintro _ _ ⟨rfl, rfl⟩
  refine Go.run hsz hn1 3 (pc' := 13) (lv' := [some (gi f), some (gi k)]) (st' := [gi (f - 64), gl (lBelow ((f + k) - 64))]) (M' := gw mi ml) rfl ?_
  refine Go.callS (As := [gi (f - 64)]) (st := [gl (lBelow ((f + k) - 64))]) (mc1 := 0) (mc := 0) (ms1 := 0) (ms := 0) (by rfl) rfl (gcn 3 (by decide)).1 (gcn 3 (by decide)).2 (Nat.le_of_ble_eq_true rfl) (by omega) (cL_below hsz (n := n - 1) (by omega) mi ml (f - 64) ⟨by omega, by omega⟩) ?_
  rintro _ _ ⟨rfl, rfl⟩
  refine Go.run hsz hn1 3 (pc' := 21) (lv' := [some (gi f), some (gi k)]) (st' := [gl ((lBelow ((f + k) - 64)) &&& ((lBelow (f - 64)) ^^^ (Int64.ofInt (-1))))]) (M' := gw mi ml) rfl ?_
  exact Go.lret (by rfl) ⟨congrArg (fun z => some (gl z)) (rfl), rfl⟩
set_option maxRecDepth 100000 in
set_option maxHeartbeats 4000000 in
theorem cPi_begin {G : gG} (hsz : G.2.2.2.2.2.2 = true) {n : Nat} (hn : 1 ≤ n) (mi : Nat → Nat → Int) (ml : Nat → Nat → Int64) (p : Int) (p0 : 0 ≤ p) (p1 : p < 12) (x y z w : Int) (r_x : rng x) (z_x : 0 ≤ x) (r_y : rng y) (z_y : 0 ≤ y) (r_z : rng z) (z_z : 0 ≤ z) (r_w : rng w) (z_w : 0 ≤ w) : gM G 28 n 0 0 [gr (12 + p.toNat), gi x, gi y, gi z, gi w] (gw mi ml) (gvd (gw (gu (gu (gu (gu (gu (gu (gu (gu (gu (gu mi (12 + p.toNat) 0 (x / 100)) (12 + p.toNat) 1 (x % 100)) (12 + p.toNat) 2 (y / 100)) (12 + p.toNat) 3 (y % 100)) (12 + p.toNat) 4 (z / 100)) (12 + p.toNat) 5 (z % 100)) (12 + p.toNat) 6 (w / 10)) (12 + p.toNat) 7 (w % 10)) (12 + p.toNat) 8 0) (12 + p.toNat) 9 0) ml)) := by
  refine gM.of mX4_begin okX4_begin (gcp 28 (by decide)).1 (gcp 28 (by decide)).2 (Nat.le_of_ble_eq_true rfl) ?_
  refine Go.run hsz hn 3 (pc' := 4) (lv' := [some (gr (12 + p.toNat)), some (gi x), some (gi y), some (gi z), some (gi w)]) (st' := [gi 100, gi x, gr (12 + p.toNat)]) (M' := gw mi ml) rfl ?_
  refine Go.idivN (by rfl) r_x (by decide) (by omega) ?_
  refine Go.run hsz hn 0 (pc' := 5) (lv' := [some (gr (12 + p.toNat)), some (gi x), some (gi y), some (gi z), some (gi w)]) (st' := [gi (x / 100), gr (12 + p.toNat)]) (M' := gw mi ml) rfl ?_
  refine Go.putI (by rfl) (c := 3) (N := 10) (shP (i := p) (by omega)) (by rfl) ?_
  refine Go.run hsz hn 3 (pc' := 12) (lv' := [some (gr (12 + p.toNat)), some (gi x), some (gi y), some (gi z), some (gi w)]) (st' := [gi 100, gi x, gr (12 + p.toNat)]) (M' := gw (gu mi (12 + p.toNat) 0 (x / 100)) ml) rfl ?_
  refine Go.iremN (by rfl) r_x (by decide) (by omega) ?_
  refine Go.run hsz hn 0 (pc' := 13) (lv' := [some (gr (12 + p.toNat)), some (gi x), some (gi y), some (gi z), some (gi w)]) (st' := [gi (x % 100), gr (12 + p.toNat)]) (M' := gw (gu mi (12 + p.toNat) 0 (x / 100)) ml) rfl ?_
  refine Go.putI (by rfl) (c := 3) (N := 10) (shP (i := p) (by omega)) (by rfl) ?_
  refine Go.run hsz hn 3 (pc' := 20) (lv' := [some (gr (12 + p.toNat)), some (gi x), some (gi y), some (gi z), some (gi w)]) (st' := [gi 100, gi y, gr (12 + p.toNat)]) (M' := gw (gu (gu mi (12 + p.toNat) 0 (x / 100)) (12 + p.toNat) 1 (x % 100)) ml) rfl ?_
  refine Go.idivN (by rfl) r_y (by decide) (by omega) ?_
  refine Go.run hsz hn 0 (pc' := 21) (lv' := [some (gr (12 + p.toNat)), some (gi x), some (gi y), some (gi z), some (gi w)]) (st' := [gi (y / 100), gr (12 + p.toNat)]) (M' := gw (gu (gu mi (12 + p.toNat) 0 (x / 100)) (12 + p.toNat) 1 (x % 100)) ml) rfl ?_
  refine Go.putI (by rfl) (c := 3) (N := 10) (shP (i := p) (by omega)) (by rfl) ?_
  refine Go.run hsz hn 3 (pc' := 28) (lv' := [some (gr (12 + p.toNat)), some (gi x), some (gi y), some (gi z), some (gi w)]) (st' := [gi 100, gi y, gr (12 + p.toNat)]) (M' := gw (gu (gu (gu mi (12 + p.toNat) 0 (x / 100)) (12 + p.toNat) 1 (x % 100)) (12 + p.toNat) 2 (y / 100)) ml) rfl ?_
  refine Go.iremN (by rfl) r_y (by decide) (by omega) ?_
  refine Go.run hsz hn 0 (pc' := 29) (lv' := [some (gr (12 + p.toNat)), some (gi x), some (gi y), some (gi z), some (gi w)]) (st' := [gi (y % 100), gr (12 + p.toNat)]) (M' := gw (gu (gu (gu mi (12 + p.toNat) 0 (x / 100)) (12 + p.toNat) 1 (x % 100)) (12 + p.toNat) 2 (y / 100)) ml) rfl ?_
  refine Go.putI (by rfl) (c := 3) (N := 10) (shP (i := p) (by omega)) (by rfl) ?_
  refine Go.run hsz hn 3 (pc' := 36) (lv' := [some (gr (12 + p.toNat)), some (gi x), some (gi y), some (gi z), some (gi w)]) (st' := [gi 100, gi z, gr (12 + p.toNat)]) (M' := gw (gu (gu (gu (gu mi (12 + p.toNat) 0 (x / 100)) (12 + p.toNat) 1 (x % 100)) (12 + p.toNat) 2 (y / 100)) (12 + p.toNat) 3 (y % 100)) ml) rfl ?_
  refine Go.idivN (by rfl) r_z (by decide) (by omega) ?_
  refine Go.run hsz hn 0 (pc' := 37) (lv' := [some (gr (12 + p.toNat)), some (gi x), some (gi y), some (gi z), some (gi w)]) (st' := [gi (z / 100), gr (12 + p.toNat)]) (M' := gw (gu (gu (gu (gu mi (12 + p.toNat) 0 (x / 100)) (12 + p.toNat) 1 (x % 100)) (12 + p.toNat) 2 (y / 100)) (12 + p.toNat) 3 (y % 100)) ml) rfl ?_
  refine Go.putI (by rfl) (c := 3) (N := 10) (shP (i := p) (by omega)) (by rfl) ?_
  refine Go.run hsz hn 3 (pc' := 44) (lv' := [some (gr (12 + p.toNat)), some (gi x), some (gi y), some (gi z), some (gi w)]) (st' := [gi 100, gi z, gr (12 + p.toNat)]) (M' := gw (gu (gu (gu (gu (gu mi (12 + p.toNat) 0 (x / 100)) (12 + p.toNat) 1 (x % 100)) (12 + p.toNat) 2 (y / 100)) (12 + p.toNat) 3 (y % 100)) (12 + p.toNat) 4 (z / 100)) ml) rfl ?_
  refine Go.iremN (by rfl) r_z (by decide) (by omega) ?_
  refine Go.run hsz hn 0 (pc' := 45) (lv' := [some (gr (12 + p.toNat)), some (gi x), some (gi y), some (gi z), some (gi w)]) (st' := [gi (z % 100), gr (12 + p.toNat)]) (M' := gw (gu (gu (gu (gu (gu mi (12 + p.toNat) 0 (x / 100)) (12 + p.toNat) 1 (x % 100)) (12 + p.toNat) 2 (y / 100)) (12 + p.toNat) 3 (y % 100)) (12 + p.toNat) 4 (z / 100)) ml) rfl ?_
  refine Go.putI (by rfl) (c := 3) (N := 10) (shP (i := p) (by omega)) (by rfl) ?_
  refine Go.run hsz hn 3 (pc' := 53) (lv' := [some (gr (12 + p.toNat)), some (gi x), some (gi y), some (gi z), some (gi w)]) (st' := [gi 10, gi w, gr (12 + p.toNat)]) (M' := gw (gu (gu (gu (gu (gu (gu mi (12 + p.toNat) 0 (x / 100)) (12 + p.toNat) 1 (x % 100)) (12 + p.toNat) 2 (y / 100)) (12 + p.toNat) 3 (y % 100)) (12 + p.toNat) 4 (z / 100)) (12 + p.toNat) 5 (z % 100)) ml) rfl ?_
  refine Go.idivN (by rfl) r_w (by decide) (by omega) ?_
  refine Go.run hsz hn 0 (pc' := 54) (lv' := [some (gr (12 + p.toNat)), some (gi x), some (gi y), some (gi z), some (gi w)]) (st' := [gi (w / 10), gr (12 + p.toNat)]) (M' := gw (gu (gu (gu (gu (gu (gu mi (12 + p.toNat) 0 (x / 100)) (12 + p.toNat) 1 (x % 100)) (12 + p.toNat) 2 (y / 100)) (12 + p.toNat) 3 (y % 100)) (12 + p.toNat) 4 (z / 100)) (12 + p.toNat) 5 (z % 100)) ml) rfl ?_
  refine Go.putI (by rfl) (c := 3) (N := 10) (shP (i := p) (by omega)) (by rfl) ?_
  refine Go.run hsz hn 3 (pc' := 62) (lv' := [some (gr (12 + p.toNat)), some (gi x), some (gi y), some (gi z), some (gi w)]) (st' := [gi 10, gi w, gr (12 + p.toNat)]) (M' := gw (gu (gu (gu (gu (gu (gu (gu mi (12 + p.toNat) 0 (x / 100)) (12 + p.toNat) 1 (x % 100)) (12 + p.toNat) 2 (y / 100)) (12 + p.toNat) 3 (y % 100)) (12 + p.toNat) 4 (z / 100)) (12 + p.toNat) 5 (z % 100)) (12 + p.toNat) 6 (w / 10)) ml) rfl ?_
  refine Go.iremN (by rfl) r_w (by decide) (by omega) ?_
  refine Go.run hsz hn 0 (pc' := 63) (lv' := [some (gr (12 + p.toNat)), some (gi x), some (gi y), some (gi z), some (gi w)]) (st' := [gi (w % 10), gr (12 + p.toNat)]) (M' := gw (gu (gu (gu (gu (gu (gu (gu mi (12 + p.toNat) 0 (x / 100)) (12 + p.toNat) 1 (x % 100)) (12 + p.toNat) 2 (y / 100)) (12 + p.toNat) 3 (y % 100)) (12 + p.toNat) 4 (z / 100)) (12 + p.toNat) 5 (z % 100)) (12 + p.toNat) 6 (w / 10)) ml) rfl ?_
  refine Go.putI (by rfl) (c := 3) (N := 10) (shP (i := p) (by omega)) (by rfl) ?_
  refine Go.run hsz hn 2 (pc' := 68) (lv' := [some (gr (12 + p.toNat)), some (gi x), some (gi y), some (gi z), some (gi w)]) (st' := [gi 0, gr (12 + p.toNat)]) (M' := gw (gu (gu (gu (gu (gu (gu (gu (gu mi (12 + p.toNat) 0 (x / 100)) (12 + p.toNat) 1 (x % 100)) (12 + p.toNat) 2 (y / 100)) (12 + p.toNat) 3 (y % 100)) (12 + p.toNat) 4 (z / 100)) (12 + p.toNat) 5 (z % 100)) (12 + p.toNat) 6 (w / 10)) (12 + p.toNat) 7 (w % 10)) ml) rfl ?_
  refine Go.putI (by rfl) (c := 3) (N := 10) (shP (i := p) (by omega)) (by rfl) ?_
  refine Go.run hsz hn 2 (pc' := 73) (lv' := [some (gr (12 + p.toNat)), some (gi x), some (gi y), some (gi z), some (gi w)]) (st' := [gi 0, gr (12 + p.toNat)]) (M' := gw (gu (gu (gu (gu (gu (gu (gu (gu (gu mi (12 + p.toNat) 0 (x / 100)) (12 + p.toNat) 1 (x % 100)) (12 + p.toNat) 2 (y / 100)) (12 + p.toNat) 3 (y % 100)) (12 + p.toNat) 4 (z / 100)) (12 + p.toNat) 5 (z % 100)) (12 + p.toNat) 6 (w / 10)) (12 + p.toNat) 7 (w % 10)) (12 + p.toNat) 8 0) ml) rfl ?_
  refine Go.putI (by rfl) (c := 3) (N := 10) (shP (i := p) (by omega)) (by rfl) ?_
  refine Go.run hsz hn 0 (pc' := 76) (lv' := [some (gr (12 + p.toNat)), some (gi x), some (gi y), some (gi z), some (gi w)]) (st' := []) (M' := gw (gu (gu (gu (gu (gu (gu (gu (gu (gu (gu mi (12 + p.toNat) 0 (x / 100)) (12 + p.toNat) 1 (x % 100)) (12 + p.toNat) 2 (y / 100)) (12 + p.toNat) 3 (y % 100)) (12 + p.toNat) 4 (z / 100)) (12 + p.toNat) 5 (z % 100)) (12 + p.toNat) 6 (w / 10)) (12 + p.toNat) 7 (w % 10)) (12 + p.toNat) 8 0) (12 + p.toNat) 9 0) ml) rfl ?_
  exact Go.vret (by rfl) ⟨rfl, rfl⟩
set_option maxRecDepth 100000 in
set_option maxHeartbeats 4000000 in
theorem cPa_begin {G : gG} (hsz : G.2.2.2.2.2.2 = true) {n : Nat} (hn : 3 ≤ n) (mi : Nat → Nat → Int) (ml : Nat → Nat → Int64) (a : Int) (h0 : 0 ≤ a) (h1 : a < 24) (x y z w : Int) (r_y : rng y) (z_y : 0 ≤ y) (r_w : rng w) (z_w : 0 ≤ w) (w9 : w ≤ 9999) : gM G 21 n 0 0 [gr (24 + a.toNat), gi x, gi y, gi z, gi w] (gw mi ml) (gvd (gw (gu (gu (gu (gu (gu (gu (gu (gu (gu (gu (gu (gu mi (24 + a.toNat) 0 x) (24 + a.toNat) 1 (y / 100)) (24 + a.toNat) 2 (y % 100)) (24 + a.toNat) 3 z) (24 + a.toNat) 4 (w / 100)) (24 + a.toNat) 5 (w % 100)) (24 + a.toNat) 8 (-1)) (24 + a.toNat) 9 (-1)) (24 + a.toNat) 10 (-1)) (24 + a.toNat) 11 0) (24 + a.toNat) 12 0) (24 + a.toNat) 13 0) (gu (gu ml (24 + a.toNat) 6 (lLow (w / 100) (w % 100))) (24 + a.toNat) 7 (lHigh (w / 100) (w % 100))))) := by
  have hn1 : 1 ≤ n := by omega
  refine gM.of mX3_begin okX3_begin (gcp 21 (by decide)).1 (gcp 21 (by decide)).2 (Nat.le_of_ble_eq_true rfl) ?_
  refine Go.run hsz hn1 2 (pc' := 2) (lv' := [some (gr (24 + a.toNat)), some (gi x), some (gi y), some (gi z), some (gi w)]) (st' := [gi x, gr (24 + a.toNat)]) (M' := gw mi ml) rfl ?_
  refine Go.putI (by rfl) (c := 2) (N := 14) (shA (i := a) (by omega)) (by rfl) ?_
  refine Go.run hsz hn1 3 (pc' := 9) (lv' := [some (gr (24 + a.toNat)), some (gi x), some (gi y), some (gi z), some (gi w)]) (st' := [gi 100, gi y, gr (24 + a.toNat)]) (M' := gw (gu mi (24 + a.toNat) 0 x) ml) rfl ?_
  refine Go.idivN (by rfl) r_y (by decide) (by omega) ?_
  refine Go.run hsz hn1 0 (pc' := 10) (lv' := [some (gr (24 + a.toNat)), some (gi x), some (gi y), some (gi z), some (gi w)]) (st' := [gi (y / 100), gr (24 + a.toNat)]) (M' := gw (gu mi (24 + a.toNat) 0 x) ml) rfl ?_
  refine Go.putI (by rfl) (c := 2) (N := 14) (shA (i := a) (by omega)) (by rfl) ?_
  refine Go.run hsz hn1 3 (pc' := 17) (lv' := [some (gr (24 + a.toNat)), some (gi x), some (gi y), some (gi z), some (gi w)]) (st' := [gi 100, gi y, gr (24 + a.toNat)]) (M' := gw (gu (gu mi (24 + a.toNat) 0 x) (24 + a.toNat) 1 (y / 100)) ml) rfl ?_
  refine Go.iremN (by rfl) r_y (by decide) (by omega) ?_
  refine Go.run hsz hn1 0 (pc' := 18) (lv' := [some (gr (24 + a.toNat)), some (gi x), some (gi y), some (gi z), some (gi w)]) (st' := [gi (y % 100), gr (24 + a.toNat)]) (M' := gw (gu (gu mi (24 + a.toNat) 0 x) (24 + a.toNat) 1 (y / 100)) ml) rfl ?_
  refine Go.putI (by rfl) (c := 2) (N := 14) (shA (i := a) (by omega)) (by rfl) ?_
  refine Go.run hsz hn1 2 (pc' := 23) (lv' := [some (gr (24 + a.toNat)), some (gi x), some (gi y), some (gi z), some (gi w)]) (st' := [gi z, gr (24 + a.toNat)]) (M' := gw (gu (gu (gu mi (24 + a.toNat) 0 x) (24 + a.toNat) 1 (y / 100)) (24 + a.toNat) 2 (y % 100)) ml) rfl ?_
  refine Go.putI (by rfl) (c := 2) (N := 14) (shA (i := a) (by omega)) (by rfl) ?_
  refine Go.run hsz hn1 3 (pc' := 31) (lv' := [some (gr (24 + a.toNat)), some (gi x), some (gi y), some (gi z), some (gi w)]) (st' := [gi 100, gi w, gr (24 + a.toNat)]) (M' := gw (gu (gu (gu (gu mi (24 + a.toNat) 0 x) (24 + a.toNat) 1 (y / 100)) (24 + a.toNat) 2 (y % 100)) (24 + a.toNat) 3 z) ml) rfl ?_
  refine Go.idivN (by rfl) r_w (by decide) (by omega) ?_
  refine Go.run hsz hn1 0 (pc' := 32) (lv' := [some (gr (24 + a.toNat)), some (gi x), some (gi y), some (gi z), some (gi w)]) (st' := [gi (w / 100), gr (24 + a.toNat)]) (M' := gw (gu (gu (gu (gu mi (24 + a.toNat) 0 x) (24 + a.toNat) 1 (y / 100)) (24 + a.toNat) 2 (y % 100)) (24 + a.toNat) 3 z) ml) rfl ?_
  refine Go.putI (by rfl) (c := 2) (N := 14) (shA (i := a) (by omega)) (by rfl) ?_
  refine Go.run hsz hn1 3 (pc' := 40) (lv' := [some (gr (24 + a.toNat)), some (gi x), some (gi y), some (gi z), some (gi w)]) (st' := [gi 100, gi w, gr (24 + a.toNat)]) (M' := gw (gu (gu (gu (gu (gu mi (24 + a.toNat) 0 x) (24 + a.toNat) 1 (y / 100)) (24 + a.toNat) 2 (y % 100)) (24 + a.toNat) 3 z) (24 + a.toNat) 4 (w / 100)) ml) rfl ?_
  refine Go.iremN (by rfl) r_w (by decide) (by omega) ?_
  refine Go.run hsz hn1 0 (pc' := 41) (lv' := [some (gr (24 + a.toNat)), some (gi x), some (gi y), some (gi z), some (gi w)]) (st' := [gi (w % 100), gr (24 + a.toNat)]) (M' := gw (gu (gu (gu (gu (gu mi (24 + a.toNat) 0 x) (24 + a.toNat) 1 (y / 100)) (24 + a.toNat) 2 (y % 100)) (24 + a.toNat) 3 z) (24 + a.toNat) 4 (w / 100)) ml) rfl ?_
  refine Go.putI (by rfl) (c := 2) (N := 14) (shA (i := a) (by omega)) (by rfl) ?_
  refine Go.run hsz hn1 2 (pc' := 46) (lv' := [some (gr (24 + a.toNat)), some (gi x), some (gi y), some (gi z), some (gi w)]) (st' := [gr (24 + a.toNat), gr (24 + a.toNat)]) (M' := gw (gu (gu (gu (gu (gu (gu mi (24 + a.toNat) 0 x) (24 + a.toNat) 1 (y / 100)) (24 + a.toNat) 2 (y % 100)) (24 + a.toNat) 3 z) (24 + a.toNat) 4 (w / 100)) (24 + a.toNat) 5 (w % 100)) ml) rfl ?_
  refine Go.getf (by rfl) (c := 2) (N := 14) (shA (i := a) (by omega)) ?_
  refine Go.run hsz hn1 0 (pc' := 49) (lv' := [some (gr (24 + a.toNat)), some (gi x), some (gi y), some (gi z), some (gi w)]) (st' := [gi ((gu (gu (gu (gu (gu (gu mi (24 + a.toNat) 0 x) (24 + a.toNat) 1 (y / 100)) (24 + a.toNat) 2 (y % 100)) (24 + a.toNat) 3 z) (24 + a.toNat) 4 (w / 100)) (24 + a.toNat) 5 (w % 100)) (24 + a.toNat) 4), gr (24 + a.toNat)]) (M' := gw (gu (gu (gu (gu (gu (gu mi (24 + a.toNat) 0 x) (24 + a.toNat) 1 (y / 100)) (24 + a.toNat) 2 (y % 100)) (24 + a.toNat) 3 z) (24 + a.toNat) 4 (w / 100)) (24 + a.toNat) 5 (w % 100)) ml) rfl ?_
  rw [show (gu (gu (gu (gu (gu (gu mi (24 + a.toNat) 0 x) (24 + a.toNat) 1 (y / 100)) (24 + a.toNat) 2 (y % 100)) (24 + a.toNat) 3 z) (24 + a.toNat) 4 (w / 100)) (24 + a.toNat) 5 (w % 100)) (24 + a.toNat) 4 = w / 100 from (gu_ne (Or.inr (by decide))).trans (gu_self _ _ _ _)]
  refine Go.run hsz hn1 1 (pc' := 50) (lv' := [some (gr (24 + a.toNat)), some (gi x), some (gi y), some (gi z), some (gi w)]) (st' := [gr (24 + a.toNat), gi (w / 100), gr (24 + a.toNat)]) (M' := gw (gu (gu (gu (gu (gu (gu mi (24 + a.toNat) 0 x) (24 + a.toNat) 1 (y / 100)) (24 + a.toNat) 2 (y % 100)) (24 + a.toNat) 3 z) (24 + a.toNat) 4 (w / 100)) (24 + a.toNat) 5 (w % 100)) ml) rfl ?_
  refine Go.getf (by rfl) (c := 2) (N := 14) (shA (i := a) (by omega)) ?_
  refine Go.run hsz hn1 0 (pc' := 53) (lv' := [some (gr (24 + a.toNat)), some (gi x), some (gi y), some (gi z), some (gi w)]) (st' := [gi ((gu (gu (gu (gu (gu (gu mi (24 + a.toNat) 0 x) (24 + a.toNat) 1 (y / 100)) (24 + a.toNat) 2 (y % 100)) (24 + a.toNat) 3 z) (24 + a.toNat) 4 (w / 100)) (24 + a.toNat) 5 (w % 100)) (24 + a.toNat) 5), gi (w / 100), gr (24 + a.toNat)]) (M' := gw (gu (gu (gu (gu (gu (gu mi (24 + a.toNat) 0 x) (24 + a.toNat) 1 (y / 100)) (24 + a.toNat) 2 (y % 100)) (24 + a.toNat) 3 z) (24 + a.toNat) 4 (w / 100)) (24 + a.toNat) 5 (w % 100)) ml) rfl ?_
  rw [show (gu (gu (gu (gu (gu (gu mi (24 + a.toNat) 0 x) (24 + a.toNat) 1 (y / 100)) (24 + a.toNat) 2 (y % 100)) (24 + a.toNat) 3 z) (24 + a.toNat) 4 (w / 100)) (24 + a.toNat) 5 (w % 100)) (24 + a.toNat) 5 = w % 100 from gu_self _ _ _ _]
  refine Go.run hsz hn1 0 (pc' := 53) (lv' := [some (gr (24 + a.toNat)), some (gi x), some (gi y), some (gi z), some (gi w)]) (st' := [gi (w % 100), gi (w / 100), gr (24 + a.toNat)]) (M' := gw (gu (gu (gu (gu (gu (gu mi (24 + a.toNat) 0 x) (24 + a.toNat) 1 (y / 100)) (24 + a.toNat) 2 (y % 100)) (24 + a.toNat) 3 z) (24 + a.toNat) 4 (w / 100)) (24 + a.toNat) 5 (w % 100)) ml) rfl ?_
  refine Go.callS (As := [gi (w / 100), gi (w % 100)]) (st := [gr (24 + a.toNat)]) (mc1 := 0) (mc := 0) (ms1 := 0) (ms := 0) (by rfl) rfl (gcn 1 (by decide)).1 (gcn 1 (by decide)).2 (Nat.le_of_ble_eq_true rfl) (by omega) (cL_low hsz (n := n - 1) (by omega) (gu (gu (gu (gu (gu (gu mi (24 + a.toNat) 0 x) (24 + a.toNat) 1 (y / 100)) (24 + a.toNat) 2 (y % 100)) (24 + a.toNat) 3 z) (24 + a.toNat) 4 (w / 100)) (24 + a.toNat) 5 (w % 100)) ml (w / 100) (w % 100) (by omega) (by omega) (by omega) (by omega)) ?_
  rintro _ _ ⟨rfl, rfl⟩
  refine Go.run hsz hn1 0 (pc' := 56) (lv' := [some (gr (24 + a.toNat)), some (gi x), some (gi y), some (gi z), some (gi w)]) (st' := [gl (lLow (w / 100) (w % 100)), gr (24 + a.toNat)]) (M' := gw (gu (gu (gu (gu (gu (gu mi (24 + a.toNat) 0 x) (24 + a.toNat) 1 (y / 100)) (24 + a.toNat) 2 (y % 100)) (24 + a.toNat) 3 z) (24 + a.toNat) 4 (w / 100)) (24 + a.toNat) 5 (w % 100)) ml) rfl ?_
  refine Go.putL (by rfl) (c := 2) (N := 14) (shA (i := a) (by omega)) (by rfl) ?_
  refine Go.run hsz hn1 2 (pc' := 61) (lv' := [some (gr (24 + a.toNat)), some (gi x), some (gi y), some (gi z), some (gi w)]) (st' := [gr (24 + a.toNat), gr (24 + a.toNat)]) (M' := gw (gu (gu (gu (gu (gu (gu mi (24 + a.toNat) 0 x) (24 + a.toNat) 1 (y / 100)) (24 + a.toNat) 2 (y % 100)) (24 + a.toNat) 3 z) (24 + a.toNat) 4 (w / 100)) (24 + a.toNat) 5 (w % 100)) (gu ml (24 + a.toNat) 6 (lLow (w / 100) (w % 100)))) rfl ?_
  refine Go.getf (by rfl) (c := 2) (N := 14) (shA (i := a) (by omega)) ?_
  refine Go.run hsz hn1 0 (pc' := 64) (lv' := [some (gr (24 + a.toNat)), some (gi x), some (gi y), some (gi z), some (gi w)]) (st' := [gi ((gu (gu (gu (gu (gu (gu mi (24 + a.toNat) 0 x) (24 + a.toNat) 1 (y / 100)) (24 + a.toNat) 2 (y % 100)) (24 + a.toNat) 3 z) (24 + a.toNat) 4 (w / 100)) (24 + a.toNat) 5 (w % 100)) (24 + a.toNat) 4), gr (24 + a.toNat)]) (M' := gw (gu (gu (gu (gu (gu (gu mi (24 + a.toNat) 0 x) (24 + a.toNat) 1 (y / 100)) (24 + a.toNat) 2 (y % 100)) (24 + a.toNat) 3 z) (24 + a.toNat) 4 (w / 100)) (24 + a.toNat) 5 (w % 100)) (gu ml (24 + a.toNat) 6 (lLow (w / 100) (w % 100)))) rfl ?_
  rw [show (gu (gu (gu (gu (gu (gu mi (24 + a.toNat) 0 x) (24 + a.toNat) 1 (y / 100)) (24 + a.toNat) 2 (y % 100)) (24 + a.toNat) 3 z) (24 + a.toNat) 4 (w / 100)) (24 + a.toNat) 5 (w % 100)) (24 + a.toNat) 4 = w / 100 from (gu_ne (Or.inr (by decide))).trans (gu_self _ _ _ _)]
  refine Go.run hsz hn1 1 (pc' := 65) (lv' := [some (gr (24 + a.toNat)), some (gi x), some (gi y), some (gi z), some (gi w)]) (st' := [gr (24 + a.toNat), gi (w / 100), gr (24 + a.toNat)]) (M' := gw (gu (gu (gu (gu (gu (gu mi (24 + a.toNat) 0 x) (24 + a.toNat) 1 (y / 100)) (24 + a.toNat) 2 (y % 100)) (24 + a.toNat) 3 z) (24 + a.toNat) 4 (w / 100)) (24 + a.toNat) 5 (w % 100)) (gu ml (24 + a.toNat) 6 (lLow (w / 100) (w % 100)))) rfl ?_
  refine Go.getf (by rfl) (c := 2) (N := 14) (shA (i := a) (by omega)) ?_
  refine Go.run hsz hn1 0 (pc' := 68) (lv' := [some (gr (24 + a.toNat)), some (gi x), some (gi y), some (gi z), some (gi w)]) (st' := [gi ((gu (gu (gu (gu (gu (gu mi (24 + a.toNat) 0 x) (24 + a.toNat) 1 (y / 100)) (24 + a.toNat) 2 (y % 100)) (24 + a.toNat) 3 z) (24 + a.toNat) 4 (w / 100)) (24 + a.toNat) 5 (w % 100)) (24 + a.toNat) 5), gi (w / 100), gr (24 + a.toNat)]) (M' := gw (gu (gu (gu (gu (gu (gu mi (24 + a.toNat) 0 x) (24 + a.toNat) 1 (y / 100)) (24 + a.toNat) 2 (y % 100)) (24 + a.toNat) 3 z) (24 + a.toNat) 4 (w / 100)) (24 + a.toNat) 5 (w % 100)) (gu ml (24 + a.toNat) 6 (lLow (w / 100) (w % 100)))) rfl ?_
  rw [show (gu (gu (gu (gu (gu (gu mi (24 + a.toNat) 0 x) (24 + a.toNat) 1 (y / 100)) (24 + a.toNat) 2 (y % 100)) (24 + a.toNat) 3 z) (24 + a.toNat) 4 (w / 100)) (24 + a.toNat) 5 (w % 100)) (24 + a.toNat) 5 = w % 100 from gu_self _ _ _ _]
  refine Go.run hsz hn1 0 (pc' := 68) (lv' := [some (gr (24 + a.toNat)), some (gi x), some (gi y), some (gi z), some (gi w)]) (st' := [gi (w % 100), gi (w / 100), gr (24 + a.toNat)]) (M' := gw (gu (gu (gu (gu (gu (gu mi (24 + a.toNat) 0 x) (24 + a.toNat) 1 (y / 100)) (24 + a.toNat) 2 (y % 100)) (24 + a.toNat) 3 z) (24 + a.toNat) 4 (w / 100)) (24 + a.toNat) 5 (w % 100)) (gu ml (24 + a.toNat) 6 (lLow (w / 100) (w % 100)))) rfl ?_
  refine Go.callS (As := [gi (w / 100), gi (w % 100)]) (st := [gr (24 + a.toNat)]) (mc1 := 0) (mc := 0) (ms1 := 0) (ms := 0) (by rfl) rfl (gcn 2 (by decide)).1 (gcn 2 (by decide)).2 (Nat.le_of_ble_eq_true rfl) (by omega) (cL_high hsz (n := n - 1) (by omega) (gu (gu (gu (gu (gu (gu mi (24 + a.toNat) 0 x) (24 + a.toNat) 1 (y / 100)) (24 + a.toNat) 2 (y % 100)) (24 + a.toNat) 3 z) (24 + a.toNat) 4 (w / 100)) (24 + a.toNat) 5 (w % 100)) (gu ml (24 + a.toNat) 6 (lLow (w / 100) (w % 100))) (w / 100) (w % 100) (by omega) (by omega) (by omega) (by omega)) ?_
  rintro _ _ ⟨rfl, rfl⟩
  refine Go.run hsz hn1 0 (pc' := 71) (lv' := [some (gr (24 + a.toNat)), some (gi x), some (gi y), some (gi z), some (gi w)]) (st' := [gl (lHigh (w / 100) (w % 100)), gr (24 + a.toNat)]) (M' := gw (gu (gu (gu (gu (gu (gu mi (24 + a.toNat) 0 x) (24 + a.toNat) 1 (y / 100)) (24 + a.toNat) 2 (y % 100)) (24 + a.toNat) 3 z) (24 + a.toNat) 4 (w / 100)) (24 + a.toNat) 5 (w % 100)) (gu ml (24 + a.toNat) 6 (lLow (w / 100) (w % 100)))) rfl ?_
  refine Go.putL (by rfl) (c := 2) (N := 14) (shA (i := a) (by omega)) (by rfl) ?_
  refine Go.run hsz hn1 2 (pc' := 76) (lv' := [some (gr (24 + a.toNat)), some (gi x), some (gi y), some (gi z), some (gi w)]) (st' := [gi (-1), gr (24 + a.toNat)]) (M' := gw (gu (gu (gu (gu (gu (gu mi (24 + a.toNat) 0 x) (24 + a.toNat) 1 (y / 100)) (24 + a.toNat) 2 (y % 100)) (24 + a.toNat) 3 z) (24 + a.toNat) 4 (w / 100)) (24 + a.toNat) 5 (w % 100)) (gu (gu ml (24 + a.toNat) 6 (lLow (w / 100) (w % 100))) (24 + a.toNat) 7 (lHigh (w / 100) (w % 100)))) rfl ?_
  refine Go.putI (by rfl) (c := 2) (N := 14) (shA (i := a) (by omega)) (by rfl) ?_
  refine Go.run hsz hn1 2 (pc' := 81) (lv' := [some (gr (24 + a.toNat)), some (gi x), some (gi y), some (gi z), some (gi w)]) (st' := [gi (-1), gr (24 + a.toNat)]) (M' := gw (gu (gu (gu (gu (gu (gu (gu mi (24 + a.toNat) 0 x) (24 + a.toNat) 1 (y / 100)) (24 + a.toNat) 2 (y % 100)) (24 + a.toNat) 3 z) (24 + a.toNat) 4 (w / 100)) (24 + a.toNat) 5 (w % 100)) (24 + a.toNat) 8 (-1)) (gu (gu ml (24 + a.toNat) 6 (lLow (w / 100) (w % 100))) (24 + a.toNat) 7 (lHigh (w / 100) (w % 100)))) rfl ?_
  refine Go.putI (by rfl) (c := 2) (N := 14) (shA (i := a) (by omega)) (by rfl) ?_
  refine Go.run hsz hn1 2 (pc' := 86) (lv' := [some (gr (24 + a.toNat)), some (gi x), some (gi y), some (gi z), some (gi w)]) (st' := [gi (-1), gr (24 + a.toNat)]) (M' := gw (gu (gu (gu (gu (gu (gu (gu (gu mi (24 + a.toNat) 0 x) (24 + a.toNat) 1 (y / 100)) (24 + a.toNat) 2 (y % 100)) (24 + a.toNat) 3 z) (24 + a.toNat) 4 (w / 100)) (24 + a.toNat) 5 (w % 100)) (24 + a.toNat) 8 (-1)) (24 + a.toNat) 9 (-1)) (gu (gu ml (24 + a.toNat) 6 (lLow (w / 100) (w % 100))) (24 + a.toNat) 7 (lHigh (w / 100) (w % 100)))) rfl ?_
  refine Go.putI (by rfl) (c := 2) (N := 14) (shA (i := a) (by omega)) (by rfl) ?_
  refine Go.run hsz hn1 2 (pc' := 91) (lv' := [some (gr (24 + a.toNat)), some (gi x), some (gi y), some (gi z), some (gi w)]) (st' := [gi 0, gr (24 + a.toNat)]) (M' := gw (gu (gu (gu (gu (gu (gu (gu (gu (gu mi (24 + a.toNat) 0 x) (24 + a.toNat) 1 (y / 100)) (24 + a.toNat) 2 (y % 100)) (24 + a.toNat) 3 z) (24 + a.toNat) 4 (w / 100)) (24 + a.toNat) 5 (w % 100)) (24 + a.toNat) 8 (-1)) (24 + a.toNat) 9 (-1)) (24 + a.toNat) 10 (-1)) (gu (gu ml (24 + a.toNat) 6 (lLow (w / 100) (w % 100))) (24 + a.toNat) 7 (lHigh (w / 100) (w % 100)))) rfl ?_
  refine Go.putI (by rfl) (c := 2) (N := 14) (shA (i := a) (by omega)) (by rfl) ?_
  refine Go.run hsz hn1 2 (pc' := 96) (lv' := [some (gr (24 + a.toNat)), some (gi x), some (gi y), some (gi z), some (gi w)]) (st' := [gi 0, gr (24 + a.toNat)]) (M' := gw (gu (gu (gu (gu (gu (gu (gu (gu (gu (gu mi (24 + a.toNat) 0 x) (24 + a.toNat) 1 (y / 100)) (24 + a.toNat) 2 (y % 100)) (24 + a.toNat) 3 z) (24 + a.toNat) 4 (w / 100)) (24 + a.toNat) 5 (w % 100)) (24 + a.toNat) 8 (-1)) (24 + a.toNat) 9 (-1)) (24 + a.toNat) 10 (-1)) (24 + a.toNat) 11 0) (gu (gu ml (24 + a.toNat) 6 (lLow (w / 100) (w % 100))) (24 + a.toNat) 7 (lHigh (w / 100) (w % 100)))) rfl ?_
  refine Go.putI (by rfl) (c := 2) (N := 14) (shA (i := a) (by omega)) (by rfl) ?_
  refine Go.run hsz hn1 2 (pc' := 101) (lv' := [some (gr (24 + a.toNat)), some (gi x), some (gi y), some (gi z), some (gi w)]) (st' := [gi 0, gr (24 + a.toNat)]) (M' := gw (gu (gu (gu (gu (gu (gu (gu (gu (gu (gu (gu mi (24 + a.toNat) 0 x) (24 + a.toNat) 1 (y / 100)) (24 + a.toNat) 2 (y % 100)) (24 + a.toNat) 3 z) (24 + a.toNat) 4 (w / 100)) (24 + a.toNat) 5 (w % 100)) (24 + a.toNat) 8 (-1)) (24 + a.toNat) 9 (-1)) (24 + a.toNat) 10 (-1)) (24 + a.toNat) 11 0) (24 + a.toNat) 12 0) (gu (gu ml (24 + a.toNat) 6 (lLow (w / 100) (w % 100))) (24 + a.toNat) 7 (lHigh (w / 100) (w % 100)))) rfl ?_
  refine Go.putZ (by rfl) (c := 2) (N := 14) (shA (i := a) (by omega)) (by rfl) (Or.inl rfl) ?_
  refine Go.run hsz hn1 0 (pc' := 104) (lv' := [some (gr (24 + a.toNat)), some (gi x), some (gi y), some (gi z), some (gi w)]) (st' := []) (M' := gw (gu (gu (gu (gu (gu (gu (gu (gu (gu (gu (gu (gu mi (24 + a.toNat) 0 x) (24 + a.toNat) 1 (y / 100)) (24 + a.toNat) 2 (y % 100)) (24 + a.toNat) 3 z) (24 + a.toNat) 4 (w / 100)) (24 + a.toNat) 5 (w % 100)) (24 + a.toNat) 8 (-1)) (24 + a.toNat) 9 (-1)) (24 + a.toNat) 10 (-1)) (24 + a.toNat) 11 0) (24 + a.toNat) 12 0) (24 + a.toNat) 13 0) (gu (gu ml (24 + a.toNat) 6 (lLow (w / 100) (w % 100))) (24 + a.toNat) 7 (lHigh (w / 100) (w % 100)))) rfl ?_
  exact Go.vret (by rfl) ⟨rfl, rfl⟩

def cPrice (mi : Nat → Nat → Int) (a : Int) : Int := if cA mi a 0 < 2 then (if cA mi a 0 = 1 then 10 + cA mi a 1 - 3 else 10 + cA mi a 1) else if cA mi a 0 = 3 then 2 * (10 + cA mi a 1 + 2 * cA mi a 2) else if cA mi a 0 = 4 then (10 + cA mi a 1 + 2 * cA mi a 2) - (10 + cA mi a 1 + 2 * cA mi a 2).tdiv 3 else 10 + cA mi a 1 + 2 * cA mi a 2
theorem CV.o11 {m mi : Nat → Nat → Int} (h : CV mi) (hR : gR32 m) (hm : ∀ c k : Nat, c ≠ 11 → m c k = mi c k) : CV m := by
  obtain ⟨-, h0, h2, h3, h4, h5⟩ := h
  have eA : ∀ a k, cA m a k = cA mi a k := fun a k => hm _ _ (by omega)
  have eP : ∀ a k, cP m a k = cP mi a k := fun a k => hm _ _ (by omega)
  refine ⟨hR, by rw [hm _ _ (by decide)]; exact h0, by rw [hm _ _ (by decide)]; exact h2, by rw [hm _ _ (by decide)]; exact h3, fun a a0 a1 => ?_, fun p p0 p1 => ?_⟩
  · rw [hm _ _ (by decide)] at a1
    have := h4 a a0 a1
    unfold CPV at this ⊢
    simp only [eA, hm 1 2 (by decide), hm 1 3 (by decide)]
    exact this
  · rw [hm _ _ (by decide)] at p1
    have := h5 p p0 p1
    unfold CQV at this ⊢
    simp only [eP]
    exact this
theorem cOthers_c {m mi : Nat → Nat → Int} (hm : ∀ c k : Nat, c ≠ 11 → m c k = mi c k) (a x : Int) (k : Nat) : cOthers m a x k = cOthers mi a x k := by
  have eA : ∀ a k, cA m a k = cA mi a k := fun a k => hm _ _ (by omega)
  unfold cOthers cStays
  simp only [eA]
theorem SV.o167 {m mi : Nat → Nat → Int} (h : SV mi) (hR : gR32 m) (hm : ∀ c k : Nat, c ≠ 167 → m c k = mi c k) : SV m := by
  have eO : ∀ a w, mOf m a w = mOf mi a w := fun a w => hm _ _ (by decide)
  have eP : ∀ a w, mPi m a w = mPi mi a w := fun a w => hm _ _ (by decide)
  obtain ⟨-, h0, h2, h3, h4, h5⟩ := h
  refine ⟨hR, by rw [hm _ _ (by decide)]; exact h0, by rw [hm _ _ (by decide)]; exact h2, by rw [hm _ _ (by decide)]; exact h3, fun a a0 a1 => ?_, fun p p0 p1 => ?_⟩
  · rw [hm _ _ (by decide)] at a1
    have := h4 a a0 a1
    unfold PV at this ⊢
    simp only [eO, hm 148 2 (by decide), hm 148 6 (by decide)]
    exact this
  · rw [hm _ _ (by decide)] at p1
    have := h5 p p0 p1
    unfold QV at this ⊢
    simp only [eP]
    exact this
theorem mNm_c {m mi : Nat → Nat → Int} (hm : ∀ c k : Nat, c ≠ 167 → m c k = mi c k) (a ch : Int) : mNm m a ch = mNm mi a ch := by
  have eO : ∀ a w, mOf m a w = mOf mi a w := fun a w => hm _ _ (by decide)
  unfold mNm mOthers mStays
  simp only [eO, hm 148 0 (by decide), hm 148 6 (by decide)]
theorem eV_rng {mi : Nat → Nat → Int} (hv : SV mi) {a : Int} (a0 : 0 ≤ a) (a1 : a < mi 148 6) (l : Nat) : rng (eV mi l a) := eS_rng (fun i => hv.1 _ _) (fun m => mNm_rng hv a0 a1 _) _ _
set_option maxRecDepth 100000 in
set_option maxHeartbeats 4000000 in
theorem cK_price {G : gG} (hsz : G.2.2.2.2.2.2 = true) {n : Nat} (hn : 1 ≤ n) (mi : Nat → Nat → Int) (ml : Nat → Nat → Int64) (a : Int) (h0 : 0 ≤ a) (h1 : a < 24) (hb : CPV mi a) : gM G 13 n 0 0 [gr (24 + a.toNat)] (gw mi ml) (gret (cPrice mi a) (gw mi ml)) := by
  obtain ⟨b0, b1, b2x, -⟩ := id hb
  refine gM.of mX1_price okX1_price (gcp 13 (by decide)).1 (gcp 13 (by decide)).2 (Nat.le_of_ble_eq_true rfl) ?_
  rcases (show cA mi a 0 = 0 ∨ cA mi a 0 = 1 ∨ cA mi a 0 = 2 ∨ cA mi a 0 = 3 ∨ cA mi a 0 = 4 by omega) with hkd | hkd | hkd | hkd | hkd
  · refine Go.run hsz hn 2 (pc' := 3) (lv' := [some (gr (24 + a.toNat)), none, none]) (st' := [gr (24 + a.toNat), gi 10]) (M' := gw mi ml) rfl ?_
    refine Go.getf (by rfl) (c := 2) (N := 14) (shA (i := a) (by omega)) ?_
    refine Go.run hsz hn 5 (pc' := 11) (lv' := [some (gr (24 + a.toNat)), some (gi (10 + (cA mi a 1))), none]) (st' := [gr (24 + a.toNat), gi 2, gi (10 + (cA mi a 1))]) (M' := gw mi ml) rfl ?_
    refine Go.getf (by rfl) (c := 2) (N := 14) (shA (i := a) (by omega)) ?_
    refine Go.run hsz hn 4 (pc' := 18) (lv' := [some (gr (24 + a.toNat)), some (gi (10 + (cA mi a 1))), some (gi ((10 + (cA mi a 1)) + (2 * (cA mi a 2))))]) (st' := [gr (24 + a.toNat)]) (M' := gw mi ml) rfl ?_
    refine Go.getf (by rfl) (c := 2) (N := 14) (shA (i := a) (by omega)) ?_
    refine Go.run hsz hn 0 (pc' := 21) (lv' := [some (gr (24 + a.toNat)), some (gi (10 + (cA mi a 1))), some (gi ((10 + (cA mi a 1)) + (2 * (cA mi a 2))))]) (st' := [gi (cA mi a 0)]) (M' := gw mi ml) rfl ?_
    rw [hkd]
    refine Go.run hsz hn 0 (pc' := 21) (lv' := [some (gr (24 + a.toNat)), some (gi (10 + (cA mi a 1))), some (gi ((10 + (cA mi a 1)) + (2 * (cA mi a 2))))]) (st' := [gi 0]) (M' := gw mi ml) rfl ?_
    refine Go.tsw_out (l := _) (by rfl) (by rfl) ⟨by decide, by decide⟩ (by decide) ?_
    refine Go.run hsz hn 1 (pc' := 69) (lv' := [some (gr (24 + a.toNat)), some (gi (10 + (cA mi a 1))), some (gi ((10 + (cA mi a 1)) + (2 * (cA mi a 2))))]) (st' := [gi (10 + (cA mi a 1))]) (M' := gw mi ml) rfl ?_
    first | exact Go.iret (by rfl) ⟨congrArg (fun z => some (gi z)) (by unfold cPrice; (repeat' split) <;> first | rfl | omega), rfl⟩ | (exfalso; omega)
  · refine Go.run hsz hn 2 (pc' := 3) (lv' := [some (gr (24 + a.toNat)), none, none]) (st' := [gr (24 + a.toNat), gi 10]) (M' := gw mi ml) rfl ?_
    refine Go.getf (by rfl) (c := 2) (N := 14) (shA (i := a) (by omega)) ?_
    refine Go.run hsz hn 5 (pc' := 11) (lv' := [some (gr (24 + a.toNat)), some (gi (10 + (cA mi a 1))), none]) (st' := [gr (24 + a.toNat), gi 2, gi (10 + (cA mi a 1))]) (M' := gw mi ml) rfl ?_
    refine Go.getf (by rfl) (c := 2) (N := 14) (shA (i := a) (by omega)) ?_
    refine Go.run hsz hn 4 (pc' := 18) (lv' := [some (gr (24 + a.toNat)), some (gi (10 + (cA mi a 1))), some (gi ((10 + (cA mi a 1)) + (2 * (cA mi a 2))))]) (st' := [gr (24 + a.toNat)]) (M' := gw mi ml) rfl ?_
    refine Go.getf (by rfl) (c := 2) (N := 14) (shA (i := a) (by omega)) ?_
    refine Go.run hsz hn 0 (pc' := 21) (lv' := [some (gr (24 + a.toNat)), some (gi (10 + (cA mi a 1))), some (gi ((10 + (cA mi a 1)) + (2 * (cA mi a 2))))]) (st' := [gi (cA mi a 0)]) (M' := gw mi ml) rfl ?_
    rw [hkd]
    refine Go.run hsz hn 0 (pc' := 21) (lv' := [some (gr (24 + a.toNat)), some (gi (10 + (cA mi a 1))), some (gi ((10 + (cA mi a 1)) + (2 * (cA mi a 2))))]) (st' := [gi 1]) (M' := gw mi ml) rfl ?_
    refine Go.tsw_in (l := _) (w' := 1) (t := 52) (by rfl) (by rfl) ⟨by decide, by decide⟩ (by decide) (by decide) (by rfl) ?_
    refine Go.run hsz hn 3 (pc' := 55) (lv' := [some (gr (24 + a.toNat)), some (gi (10 + (cA mi a 1))), some (gi ((10 + (cA mi a 1)) + (2 * (cA mi a 2))))]) (st' := [gi ((10 + (cA mi a 1)) - 3)]) (M' := gw mi ml) rfl ?_
    first | exact Go.iret (by rfl) ⟨congrArg (fun z => some (gi z)) (by unfold cPrice; (repeat' split) <;> first | rfl | omega), rfl⟩ | (exfalso; omega)
  · refine Go.run hsz hn 2 (pc' := 3) (lv' := [some (gr (24 + a.toNat)), none, none]) (st' := [gr (24 + a.toNat), gi 10]) (M' := gw mi ml) rfl ?_
    refine Go.getf (by rfl) (c := 2) (N := 14) (shA (i := a) (by omega)) ?_
    refine Go.run hsz hn 5 (pc' := 11) (lv' := [some (gr (24 + a.toNat)), some (gi (10 + (cA mi a 1))), none]) (st' := [gr (24 + a.toNat), gi 2, gi (10 + (cA mi a 1))]) (M' := gw mi ml) rfl ?_
    refine Go.getf (by rfl) (c := 2) (N := 14) (shA (i := a) (by omega)) ?_
    refine Go.run hsz hn 4 (pc' := 18) (lv' := [some (gr (24 + a.toNat)), some (gi (10 + (cA mi a 1))), some (gi ((10 + (cA mi a 1)) + (2 * (cA mi a 2))))]) (st' := [gr (24 + a.toNat)]) (M' := gw mi ml) rfl ?_
    refine Go.getf (by rfl) (c := 2) (N := 14) (shA (i := a) (by omega)) ?_
    refine Go.run hsz hn 0 (pc' := 21) (lv' := [some (gr (24 + a.toNat)), some (gi (10 + (cA mi a 1))), some (gi ((10 + (cA mi a 1)) + (2 * (cA mi a 2))))]) (st' := [gi (cA mi a 0)]) (M' := gw mi ml) rfl ?_
    rw [hkd]
    refine Go.run hsz hn 0 (pc' := 21) (lv' := [some (gr (24 + a.toNat)), some (gi (10 + (cA mi a 1))), some (gi ((10 + (cA mi a 1)) + (2 * (cA mi a 2))))]) (st' := [gi 2]) (M' := gw mi ml) rfl ?_
    refine Go.tsw_in (l := _) (w' := 2) (t := 56) (by rfl) (by rfl) ⟨by decide, by decide⟩ (by decide) (by decide) (by rfl) ?_
    refine Go.run hsz hn 1 (pc' := 57) (lv' := [some (gr (24 + a.toNat)), some (gi (10 + (cA mi a 1))), some (gi ((10 + (cA mi a 1)) + (2 * (cA mi a 2))))]) (st' := [gi ((10 + (cA mi a 1)) + (2 * (cA mi a 2)))]) (M' := gw mi ml) rfl ?_
    first | exact Go.iret (by rfl) ⟨congrArg (fun z => some (gi z)) (by unfold cPrice; (repeat' split) <;> first | rfl | omega), rfl⟩ | (exfalso; omega)
  · refine Go.run hsz hn 2 (pc' := 3) (lv' := [some (gr (24 + a.toNat)), none, none]) (st' := [gr (24 + a.toNat), gi 10]) (M' := gw mi ml) rfl ?_
    refine Go.getf (by rfl) (c := 2) (N := 14) (shA (i := a) (by omega)) ?_
    refine Go.run hsz hn 5 (pc' := 11) (lv' := [some (gr (24 + a.toNat)), some (gi (10 + (cA mi a 1))), none]) (st' := [gr (24 + a.toNat), gi 2, gi (10 + (cA mi a 1))]) (M' := gw mi ml) rfl ?_
    refine Go.getf (by rfl) (c := 2) (N := 14) (shA (i := a) (by omega)) ?_
    refine Go.run hsz hn 4 (pc' := 18) (lv' := [some (gr (24 + a.toNat)), some (gi (10 + (cA mi a 1))), some (gi ((10 + (cA mi a 1)) + (2 * (cA mi a 2))))]) (st' := [gr (24 + a.toNat)]) (M' := gw mi ml) rfl ?_
    refine Go.getf (by rfl) (c := 2) (N := 14) (shA (i := a) (by omega)) ?_
    refine Go.run hsz hn 0 (pc' := 21) (lv' := [some (gr (24 + a.toNat)), some (gi (10 + (cA mi a 1))), some (gi ((10 + (cA mi a 1)) + (2 * (cA mi a 2))))]) (st' := [gi (cA mi a 0)]) (M' := gw mi ml) rfl ?_
    rw [hkd]
    refine Go.run hsz hn 0 (pc' := 21) (lv' := [some (gr (24 + a.toNat)), some (gi (10 + (cA mi a 1))), some (gi ((10 + (cA mi a 1)) + (2 * (cA mi a 2))))]) (st' := [gi 3]) (M' := gw mi ml) rfl ?_
    refine Go.tsw_in (l := _) (w' := 3) (t := 58) (by rfl) (by rfl) ⟨by decide, by decide⟩ (by decide) (by decide) (by rfl) ?_
    refine Go.run hsz hn 3 (pc' := 61) (lv' := [some (gr (24 + a.toNat)), some (gi (10 + (cA mi a 1))), some (gi ((10 + (cA mi a 1)) + (2 * (cA mi a 2))))]) (st' := [gi (2 * ((10 + (cA mi a 1)) + (2 * (cA mi a 2))))]) (M' := gw mi ml) rfl ?_
    first | exact Go.iret (by rfl) ⟨congrArg (fun z => some (gi z)) (by unfold cPrice; (repeat' split) <;> first | rfl | omega), rfl⟩ | (exfalso; omega)
  · refine Go.run hsz hn 2 (pc' := 3) (lv' := [some (gr (24 + a.toNat)), none, none]) (st' := [gr (24 + a.toNat), gi 10]) (M' := gw mi ml) rfl ?_
    refine Go.getf (by rfl) (c := 2) (N := 14) (shA (i := a) (by omega)) ?_
    refine Go.run hsz hn 5 (pc' := 11) (lv' := [some (gr (24 + a.toNat)), some (gi (10 + (cA mi a 1))), none]) (st' := [gr (24 + a.toNat), gi 2, gi (10 + (cA mi a 1))]) (M' := gw mi ml) rfl ?_
    refine Go.getf (by rfl) (c := 2) (N := 14) (shA (i := a) (by omega)) ?_
    refine Go.run hsz hn 4 (pc' := 18) (lv' := [some (gr (24 + a.toNat)), some (gi (10 + (cA mi a 1))), some (gi ((10 + (cA mi a 1)) + (2 * (cA mi a 2))))]) (st' := [gr (24 + a.toNat)]) (M' := gw mi ml) rfl ?_
    refine Go.getf (by rfl) (c := 2) (N := 14) (shA (i := a) (by omega)) ?_
    refine Go.run hsz hn 0 (pc' := 21) (lv' := [some (gr (24 + a.toNat)), some (gi (10 + (cA mi a 1))), some (gi ((10 + (cA mi a 1)) + (2 * (cA mi a 2))))]) (st' := [gi (cA mi a 0)]) (M' := gw mi ml) rfl ?_
    rw [hkd]
    refine Go.run hsz hn 0 (pc' := 21) (lv' := [some (gr (24 + a.toNat)), some (gi (10 + (cA mi a 1))), some (gi ((10 + (cA mi a 1)) + (2 * (cA mi a 2))))]) (st' := [gi 4]) (M' := gw mi ml) rfl ?_
    refine Go.tsw_in (l := _) (w' := 4) (t := 62) (by rfl) (by rfl) ⟨by decide, by decide⟩ (by decide) (by decide) (by rfl) ?_
    refine Go.run hsz hn 3 (pc' := 65) (lv' := [some (gr (24 + a.toNat)), some (gi (10 + (cA mi a 1))), some (gi ((10 + (cA mi a 1)) + (2 * (cA mi a 2))))]) (st' := [gi 3, gi ((10 + (cA mi a 1)) + (2 * (cA mi a 2))), gi ((10 + (cA mi a 1)) + (2 * (cA mi a 2)))]) (M' := gw mi ml) rfl ?_
    refine Go.idiv (by rfl) ⟨by omega, by omega⟩ ⟨by decide, by decide⟩ (by decide) (rng_tdiv ⟨by omega, by omega⟩ (by decide)) ?_
    refine Go.run hsz hn 1 (pc' := 67) (lv' := [some (gr (24 + a.toNat)), some (gi (10 + (cA mi a 1))), some (gi ((10 + (cA mi a 1)) + (2 * (cA mi a 2))))]) (st' := [gi (((10 + (cA mi a 1)) + (2 * (cA mi a 2))) - (((10 + (cA mi a 1)) + (2 * (cA mi a 2))).tdiv 3))]) (M' := gw mi ml) rfl ?_
    first | exact Go.iret (by rfl) ⟨congrArg (fun z => some (gi z)) (by unfold cPrice; (repeat' split) <;> first | rfl | omega), rfl⟩ | (exfalso; omega)
def wNm0 (mi : Nat → Nat → Int) (a : Int) : Nat → Nat → Int := gu (gu (gu (gu (gu (gu mi 11 0 (cA mi a 1)) 11 1 (cA mi a 2)) 11 2 (cA mi a 5)) 11 3 (cA mi a 0)) 11 4 (cA mi a 4 - mi 1 0)) 11 5 (cOthers mi a (cA mi a 4) (mi 1 3).toNat)
theorem wNm0_off {mi : Nat → Nat → Int} {a : Int} (c k : Nat) (h : c ≠ 11) : wNm0 mi a c k = mi c k := by
  unfold wNm0
  rw [gu_other h, gu_other h, gu_other h, gu_other h, gu_other h, gu_other h]
theorem wNm0_N {t : Nat} {mi : Nat → Nat → Int} {ml : Nat → Nat → Int64} (h : Rep t 1 mi ml (sg mi)) {a : Int} (a0 : 0 ≤ a) (a1 : a < mi 148 6) : ∀ c m : Int, cdRel c m → 10000 ≤ c → c < 20000 → wNm0 mi a 11 (c - 10000).toNat = en_ mi a m := by
  obtain ⟨e0, e1, e2, -, e4, e5, -⟩ := h.cA a0 a1
  have et : mi 1 0 = mi 148 0 := h.1.1
  have eo := eq_others h a
  intro c m hc c0 c1
  unfold cdRel at hc
  rcases (show (c = 10000 ∧ m = 10108) ∨ (c = 10001 ∧ m = 10097) ∨ (c = 10002 ∧ m = 10110) ∨ (c = 10003 ∧ m = 10107) ∨ (c = 10004 ∧ m = 10100) ∨ (c = 10005 ∧ m = 10111) by omega) with ⟨rfl, rfl⟩ | ⟨rfl, rfl⟩ | ⟨rfl, rfl⟩ | ⟨rfl, rfl⟩ | ⟨rfl, rfl⟩ | ⟨rfl, rfl⟩
  · show cA mi a 1 = mOf mi a 1
    exact e1
  · show cA mi a 2 = mOf mi a 2
    exact e2
  · show cA mi a 5 = mOf mi a 5
    exact e5
  · show cA mi a 0 = mOf mi a 0
    exact e0
  · show cA mi a 4 - mi 1 0 = mOf mi a 4 - mi 148 0
    rw [e4, et]
  · show cOthers mi a (cA mi a 4) (mi 1 3).toNat = mOthers mi a (mi 148 6).toNat
    rw [e4]
    exact eo
theorem wNm0_R {t : Nat} {mi : Nat → Nat → Int} {ml : Nat → Nat → Int64} (h : Rep t 1 mi ml (sg mi)) (hv : SV mi) {a : Int} (a0 : 0 ≤ a) (a1 : a < mi 148 6) : gR32 (wNm0 mi a) := by
  have hR := hv.1
  obtain ⟨-, -, -, -, e4, -⟩ := h.cA a0 a1
  have et : mi 1 0 = mi 148 0 := h.1.1
  have eo := eq_others h a
  have bo := mOthers_b mi a (mi 148 6).toNat
  have b6 := hv.2.2.2.1
  have bt := hv.2.1
  have b4 := (hv.2.2.2.2.1 a a0 a1).2.2.2.2.1
  unfold wNm0
  rw [e4, eo, et]
  exact gR32_gu (gR32_gu (gR32_gu (gR32_gu (gR32_gu (gR32_gu hR (hR _ _)) (hR _ _)) (hR _ _)) (hR _ _)) ⟨by omega, by omega⟩) ⟨by omega, by omega⟩
set_option maxRecDepth 100000 in
set_option maxHeartbeats 4000000 in
theorem cS_worth0 {G : gG} (hsz : G.2.2.2.2.2.2 = true) {n : Nat} (hn : 5 ≤ n) (mi : Nat → Nat → Int) (ml : Nat → Nat → Int64) (t : Nat) (a : Int) (a0 : 0 ≤ a) (a1 : a < mi 148 6) (hrep : Rep t 1 mi ml (sg mi)) (hsv : SV mi) (hv : CV mi) (hp0 : 0 < mi 157 0) : gM G 75 n 0 0 [gr 1, gi a, gr 48] (gw mi ml) (fun r M => ∃ m, r = some (gi (eV mi 0 a)) ∧ M = gw m ml ∧ (∀ c j : Nat, c ≠ 11 → c ≠ 50 → c ≠ 53 → m c j = mi c j) ∧ gR32 m) := by
  have hn1 : 1 ≤ n := by omega
  obtain ⟨hR, ht, hp, hq, hP, hQ⟩ := id hv
  have e3 : mi 1 3 = mi 148 6 := hrep.1.2.2.2.1
  have hok := Rlw.ok hrep (l := 0) (by decide) hp0 a
  have hok : mi 48 1 = mi 157 0 ∧ mi 157 0 ≤ 120 ∧ (∀ i : Nat, (i : Int) < mi 157 0 → cdRel (mi 49 i) (eq_ mi 0 i)) ∧ eOK (eq_ mi 0) (en_ mi a) (mi 157 0).toNat := hok
  have hok2 : 0 ≤ mi 48 1 ∧ mi 48 1 ≤ 120 := by omega
  have hPa := hP a a0 (by omega)
  have hc4 := hPa.2.2.2.2.1
  refine gM.of mX8_worthFor okX8_worthFor (gcp 75 (by decide)).1 (gcp 75 (by decide)).2 (Nat.le_of_ble_eq_true rfl) ?_
  refine Go.run hsz hn1 3 (pc' := 5) (lv' := [some (gr 1), some (gi a), some (gr 48), none]) (st' := [gi a, gr 3]) (M' := gw mi ml) rfl ?_
  refine Go.aaldR 4 (by rfl) (N := 24) (by rfl) ⟨by decide, by decide⟩ (by omega) (by omega) (by decide) (gMR_3 (by omega) (by omega)) ?_
  refine Go.run hsz hn1 5 (pc' := 13) (lv' := [some (gr 1), some (gi a), some (gr 48), some (gr (24 + a.toNat))]) (st' := [gr (24 + a.toNat), gi 0, gr 11]) (M' := gw mi ml) rfl ?_
  refine Go.getf (by rfl) (c := 2) (N := 14) (shA (i := a) (by omega)) ?_
  refine Go.run hsz hn1 0 (pc' := 16) (lv' := [some (gr 1), some (gi a), some (gr 48), some (gr (24 + a.toNat))]) (st' := [gi (cA mi a 1), gi 0, gr 11]) (M' := gw mi ml) rfl ?_
  refine Go.iast (by rfl) (N := 6) (by rfl) (by omega) (by omega) (by decide) ?_
  refine Go.run hsz hn1 4 (pc' := 23) (lv' := [some (gr 1), some (gi a), some (gr 48), some (gr (24 + a.toNat))]) (st' := [gr (24 + a.toNat), gi 1, gr 11]) (M' := gw (gu mi 11 0 (cA mi a 1)) ml) rfl ?_
  refine Go.getf (by rfl) (c := 2) (N := 14) (shA (i := a) (by omega)) ?_
  refine Go.run hsz hn1 0 (pc' := 26) (lv' := [some (gr 1), some (gi a), some (gr 48), some (gr (24 + a.toNat))]) (st' := [gi ((gu mi 11 0 (cA mi a 1)) (24 + a.toNat) 2), gi 1, gr 11]) (M' := gw (gu mi 11 0 (cA mi a 1)) ml) rfl ?_
  rw [show (gu mi 11 0 (cA mi a 1)) (24 + a.toNat) 2 = mi (24 + a.toNat) 2 from gu_ne (Or.inr (by decide))]
  refine Go.run hsz hn1 0 (pc' := 26) (lv' := [some (gr 1), some (gi a), some (gr 48), some (gr (24 + a.toNat))]) (st' := [gi (cA mi a 2), gi 1, gr 11]) (M' := gw (gu mi 11 0 (cA mi a 1)) ml) rfl ?_
  refine Go.iast (by rfl) (N := 6) (by rfl) (by omega) (by omega) (by decide) ?_
  refine Go.run hsz hn1 4 (pc' := 33) (lv' := [some (gr 1), some (gi a), some (gr 48), some (gr (24 + a.toNat))]) (st' := [gr (24 + a.toNat), gi 2, gr 11]) (M' := gw (gu (gu mi 11 0 (cA mi a 1)) 11 1 (cA mi a 2)) ml) rfl ?_
  refine Go.getf (by rfl) (c := 2) (N := 14) (shA (i := a) (by omega)) ?_
  refine Go.run hsz hn1 0 (pc' := 36) (lv' := [some (gr 1), some (gi a), some (gr 48), some (gr (24 + a.toNat))]) (st' := [gi ((gu (gu mi 11 0 (cA mi a 1)) 11 1 (cA mi a 2)) (24 + a.toNat) 5), gi 2, gr 11]) (M' := gw (gu (gu mi 11 0 (cA mi a 1)) 11 1 (cA mi a 2)) ml) rfl ?_
  rw [show (gu (gu mi 11 0 (cA mi a 1)) 11 1 (cA mi a 2)) (24 + a.toNat) 5 = mi (24 + a.toNat) 5 from (gu_ne (Or.inr (by decide))).trans (gu_ne (Or.inr (by decide)))]
  refine Go.run hsz hn1 0 (pc' := 36) (lv' := [some (gr 1), some (gi a), some (gr 48), some (gr (24 + a.toNat))]) (st' := [gi (cA mi a 5), gi 2, gr 11]) (M' := gw (gu (gu mi 11 0 (cA mi a 1)) 11 1 (cA mi a 2)) ml) rfl ?_
  refine Go.iast (by rfl) (N := 6) (by rfl) (by omega) (by omega) (by decide) ?_
  refine Go.run hsz hn1 4 (pc' := 43) (lv' := [some (gr 1), some (gi a), some (gr 48), some (gr (24 + a.toNat))]) (st' := [gr (24 + a.toNat), gi 3, gr 11]) (M' := gw (gu (gu (gu mi 11 0 (cA mi a 1)) 11 1 (cA mi a 2)) 11 2 (cA mi a 5)) ml) rfl ?_
  refine Go.getf (by rfl) (c := 2) (N := 14) (shA (i := a) (by omega)) ?_
  refine Go.run hsz hn1 0 (pc' := 46) (lv' := [some (gr 1), some (gi a), some (gr 48), some (gr (24 + a.toNat))]) (st' := [gi ((gu (gu (gu mi 11 0 (cA mi a 1)) 11 1 (cA mi a 2)) 11 2 (cA mi a 5)) (24 + a.toNat) 0), gi 3, gr 11]) (M' := gw (gu (gu (gu mi 11 0 (cA mi a 1)) 11 1 (cA mi a 2)) 11 2 (cA mi a 5)) ml) rfl ?_
  rw [show (gu (gu (gu mi 11 0 (cA mi a 1)) 11 1 (cA mi a 2)) 11 2 (cA mi a 5)) (24 + a.toNat) 0 = mi (24 + a.toNat) 0 from (gu_ne (Or.inr (by decide))).trans ((gu_ne (Or.inr (by decide))).trans (gu_ne (Or.inl (by omega))))]
  refine Go.run hsz hn1 0 (pc' := 46) (lv' := [some (gr 1), some (gi a), some (gr 48), some (gr (24 + a.toNat))]) (st' := [gi (cA mi a 0), gi 3, gr 11]) (M' := gw (gu (gu (gu mi 11 0 (cA mi a 1)) 11 1 (cA mi a 2)) 11 2 (cA mi a 5)) ml) rfl ?_
  refine Go.iast (by rfl) (N := 6) (by rfl) (by omega) (by omega) (by decide) ?_
  refine Go.run hsz hn1 4 (pc' := 53) (lv' := [some (gr 1), some (gi a), some (gr 48), some (gr (24 + a.toNat))]) (st' := [gr (24 + a.toNat), gi 4, gr 11]) (M' := gw (gu (gu (gu (gu mi 11 0 (cA mi a 1)) 11 1 (cA mi a 2)) 11 2 (cA mi a 5)) 11 3 (cA mi a 0)) ml) rfl ?_
  refine Go.getf (by rfl) (c := 2) (N := 14) (shA (i := a) (by omega)) ?_
  refine Go.run hsz hn1 0 (pc' := 56) (lv' := [some (gr 1), some (gi a), some (gr 48), some (gr (24 + a.toNat))]) (st' := [gi ((gu (gu (gu (gu mi 11 0 (cA mi a 1)) 11 1 (cA mi a 2)) 11 2 (cA mi a 5)) 11 3 (cA mi a 0)) (24 + a.toNat) 4), gi 4, gr 11]) (M' := gw (gu (gu (gu (gu mi 11 0 (cA mi a 1)) 11 1 (cA mi a 2)) 11 2 (cA mi a 5)) 11 3 (cA mi a 0)) ml) rfl ?_
  rw [show (gu (gu (gu (gu mi 11 0 (cA mi a 1)) 11 1 (cA mi a 2)) 11 2 (cA mi a 5)) 11 3 (cA mi a 0)) (24 + a.toNat) 4 = mi (24 + a.toNat) 4 from (gu_ne (Or.inr (by decide))).trans ((gu_ne (Or.inr (by decide))).trans ((gu_ne (Or.inr (by decide))).trans (gu_ne (Or.inr (by decide)))))]
  refine Go.run hsz hn1 3 (pc' := 61) (lv' := [some (gr 1), some (gi a), some (gr 48), some (gr (24 + a.toNat))]) (st' := [gi ((cA mi a 4) - (mi 1 0)), gi 4, gr 11]) (M' := gw (gu (gu (gu (gu mi 11 0 (cA mi a 1)) 11 1 (cA mi a 2)) 11 2 (cA mi a 5)) 11 3 (cA mi a 0)) ml) rfl ?_
  refine Go.iast (by rfl) (N := 6) (by rfl) (by omega) (by omega) (by decide) ?_
  refine Go.run hsz hn1 6 (pc' := 70) (lv' := [some (gr 1), some (gi a), some (gr 48), some (gr (24 + a.toNat))]) (st' := [gr (24 + a.toNat), gi a, gr 1, gi 5, gr 11]) (M' := gw (gu (gu (gu (gu (gu mi 11 0 (cA mi a 1)) 11 1 (cA mi a 2)) 11 2 (cA mi a 5)) 11 3 (cA mi a 0)) 11 4 ((cA mi a 4) - (mi 1 0))) ml) rfl ?_
  refine Go.getf (by rfl) (c := 2) (N := 14) (shA (i := a) (by omega)) ?_
  refine Go.run hsz hn1 0 (pc' := 73) (lv' := [some (gr 1), some (gi a), some (gr 48), some (gr (24 + a.toNat))]) (st' := [gi ((gu (gu (gu (gu (gu mi 11 0 (cA mi a 1)) 11 1 (cA mi a 2)) 11 2 (cA mi a 5)) 11 3 (cA mi a 0)) 11 4 ((cA mi a 4) - (mi 1 0))) (24 + a.toNat) 4), gi a, gr 1, gi 5, gr 11]) (M' := gw (gu (gu (gu (gu (gu mi 11 0 (cA mi a 1)) 11 1 (cA mi a 2)) 11 2 (cA mi a 5)) 11 3 (cA mi a 0)) 11 4 ((cA mi a 4) - (mi 1 0))) ml) rfl ?_
  rw [show (gu (gu (gu (gu (gu mi 11 0 (cA mi a 1)) 11 1 (cA mi a 2)) 11 2 (cA mi a 5)) 11 3 (cA mi a 0)) 11 4 ((cA mi a 4) - (mi 1 0))) (24 + a.toNat) 4 = mi (24 + a.toNat) 4 from (gu_ne (Or.inl (by omega))).trans ((gu_ne (Or.inr (by decide))).trans ((gu_ne (Or.inr (by decide))).trans ((gu_ne (Or.inr (by decide))).trans (gu_ne (Or.inr (by decide))))))]
  refine Go.run hsz hn1 0 (pc' := 73) (lv' := [some (gr 1), some (gi a), some (gr 48), some (gr (24 + a.toNat))]) (st' := [gi (cA mi a 4), gi a, gr 1, gi 5, gr 11]) (M' := gw (gu (gu (gu (gu (gu mi 11 0 (cA mi a 1)) 11 1 (cA mi a 2)) 11 2 (cA mi a 5)) 11 3 (cA mi a 0)) 11 4 ((cA mi a 4) - (mi 1 0))) ml) rfl ?_
  refine Go.callV (As := [gi a, gi (cA mi a 4)]) (b := 1) (st := [gi 5, gr 11]) (mc1 := 0) (mc := 0) (ms1 := 0) (ms := 0) (by rfl) rfl (c := 7) (N := 11) (by rfl) (by decide) (by rfl) (gcn 76 (by decide)).1 (gcn 76 (by decide)).2 rfl (Nat.le_of_ble_eq_true rfl) (by omega) (cS_others hsz (n := n - 1) (by omega) (gu (gu (gu (gu (gu mi 11 0 (cA mi a 1)) 11 1 (cA mi a 2)) 11 2 (cA mi a 5)) 11 3 (cA mi a 0)) 11 4 ((cA mi a 4) - (mi 1 0))) ml a (cA mi a 4) ⟨by omega, by omega⟩ ⟨by omega, by omega⟩ (hv.o11 (gR32_gu (gR32_gu (gR32_gu (gR32_gu (gR32_gu hR (hR _ _)) (hR _ _)) (hR _ _)) (hR _ _)) ⟨by omega, by omega⟩) (fun c k hc => by rw [gu_other hc, gu_other hc, gu_other hc, gu_other hc, gu_other hc]))) ?_
  rintro _ _ ⟨rfl, rfl⟩
  rw [show cOthers (gu (gu (gu (gu (gu mi 11 0 (cA mi a 1)) 11 1 (cA mi a 2)) 11 2 (cA mi a 5)) 11 3 (cA mi a 0)) 11 4 ((cA mi a 4) - (mi 1 0))) a (cA mi a 4) ((gu (gu (gu (gu (gu mi 11 0 (cA mi a 1)) 11 1 (cA mi a 2)) 11 2 (cA mi a 5)) 11 3 (cA mi a 0)) 11 4 ((cA mi a 4) - (mi 1 0))) 1 3).toNat = cOthers mi a (cA mi a 4) (mi 1 3).toNat from cOthers_c (fun c k hc => by rw [gu_other hc, gu_other hc, gu_other hc, gu_other hc, gu_other hc]) a _ _]
  refine Go.run hsz hn1 0 (pc' := 76) (lv' := [some (gr 1), some (gi a), some (gr 48), some (gr (24 + a.toNat))]) (st' := [gi (cOthers mi a (cA mi a 4) (mi 1 3).toNat), gi 5, gr 11]) (M' := gw (gu (gu (gu (gu (gu mi 11 0 (cA mi a 1)) 11 1 (cA mi a 2)) 11 2 (cA mi a 5)) 11 3 (cA mi a 0)) 11 4 ((cA mi a 4) - (mi 1 0))) ml) rfl ?_
  refine Go.iast (by rfl) (N := 6) (by rfl) (by omega) (by omega) (by decide) ?_
  refine Go.run hsz hn1 3 (pc' := 82) (lv' := [some (gr 1), some (gi a), some (gr 48), some (gr (24 + a.toNat))]) (st' := [gr 11, gr 48]) (M' := gw (gu (gu (gu (gu (gu (gu mi 11 0 (cA mi a 1)) 11 1 (cA mi a 2)) 11 2 (cA mi a 5)) 11 3 (cA mi a 0)) 11 4 ((cA mi a 4) - (mi 1 0))) 11 5 (cOthers mi a (cA mi a 4) (mi 1 3).toNat)) ml) rfl ?_
  refine Go.callV (As := [gr 11]) (b := 48) (st := []) (mc1 := 0) (mc := 0) (ms1 := 0) (ms := 0) (by rfl) rfl (c := 1) (N := 4) (by rfl) (by decide) (by rfl) (gcn 17 (by decide)).1 (gcn 17 (by decide)).2 rfl (Nat.le_of_ble_eq_true rfl) (by omega) (cLw_worth0 hsz (n := n - 1) (by omega) (wNm0 mi a) ml (eq_ mi 0) (en_ mi a) hok2 (fun i hi => hok.2.2.1 i (by have hi : (i : Int) < mi 48 1 := hi; omega)) (by show eOK _ _ (mi 48 1).toNat; rw [hok.1]; exact hok.2.2.2) (wNm0_N hrep a0 a1) (fun m => mNm_rng hsv a0 a1 _) (wNm0_R hrep hsv a0 a1)) ?_
  rintro _ _ ⟨m, rfl, rfl, hm, hmR⟩
  refine Go.run hsz hn1 0 (pc' := 85) (lv' := [some (gr 1), some (gi a), some (gr 48), some (gr (24 + a.toNat))]) (st' := [gi ((eS (eq_ mi 0) (en_ mi a) (wNm0 mi a 48 1).toNat).2 0)]) (M' := gw m ml) rfl ?_
  refine Go.iret (by rfl) ⟨m, congrArg (fun z => some (gi z)) ?_, rfl, fun c j h1 h2 h3 => (hm c j (by omega)).trans (wNm0_off c j h1), hmR⟩
  show (eS (eq_ mi 0) (en_ mi a) (mi 48 1).toNat).2 0 = _
  rw [hok.1]; rfl

set_option maxRecDepth 100000 in
set_option maxHeartbeats 4000000 in
theorem cS_worth1 {G : gG} (hsz : G.2.2.2.2.2.2 = true) {n : Nat} (hn : 5 ≤ n) (mi : Nat → Nat → Int) (ml : Nat → Nat → Int64) (t : Nat) (a : Int) (a0 : 0 ≤ a) (a1 : a < mi 148 6) (hrep : Rep t 1 mi ml (sg mi)) (hsv : SV mi) (hv : CV mi) (hp0 : 0 < mi 157 1) : gM G 75 n 0 0 [gr 1, gi a, gr 51] (gw mi ml) (fun r M => ∃ m, r = some (gi (eV mi 1 a)) ∧ M = gw m ml ∧ (∀ c j : Nat, c ≠ 11 → c ≠ 50 → c ≠ 53 → m c j = mi c j) ∧ gR32 m) := by
  have hn1 : 1 ≤ n := by omega
  obtain ⟨hR, ht, hp, hq, hP, hQ⟩ := id hv
  have e3 : mi 1 3 = mi 148 6 := hrep.1.2.2.2.1
  have hok := Rlw.ok hrep (l := 1) (by decide) hp0 a
  have hok : mi 51 1 = mi 157 1 ∧ mi 157 1 ≤ 120 ∧ (∀ i : Nat, (i : Int) < mi 157 1 → cdRel (mi 52 i) (eq_ mi 1 i)) ∧ eOK (eq_ mi 1) (en_ mi a) (mi 157 1).toNat := hok
  have hok2 : 0 ≤ mi 51 1 ∧ mi 51 1 ≤ 120 := by omega
  have hPa := hP a a0 (by omega)
  have hc4 := hPa.2.2.2.2.1
  refine gM.of mX8_worthFor okX8_worthFor (gcp 75 (by decide)).1 (gcp 75 (by decide)).2 (Nat.le_of_ble_eq_true rfl) ?_
  refine Go.run hsz hn1 3 (pc' := 5) (lv' := [some (gr 1), some (gi a), some (gr 51), none]) (st' := [gi a, gr 3]) (M' := gw mi ml) rfl ?_
  refine Go.aaldR 4 (by rfl) (N := 24) (by rfl) ⟨by decide, by decide⟩ (by omega) (by omega) (by decide) (gMR_3 (by omega) (by omega)) ?_
  refine Go.run hsz hn1 5 (pc' := 13) (lv' := [some (gr 1), some (gi a), some (gr 51), some (gr (24 + a.toNat))]) (st' := [gr (24 + a.toNat), gi 0, gr 11]) (M' := gw mi ml) rfl ?_
  refine Go.getf (by rfl) (c := 2) (N := 14) (shA (i := a) (by omega)) ?_
  refine Go.run hsz hn1 0 (pc' := 16) (lv' := [some (gr 1), some (gi a), some (gr 51), some (gr (24 + a.toNat))]) (st' := [gi (cA mi a 1), gi 0, gr 11]) (M' := gw mi ml) rfl ?_
  refine Go.iast (by rfl) (N := 6) (by rfl) (by omega) (by omega) (by decide) ?_
  refine Go.run hsz hn1 4 (pc' := 23) (lv' := [some (gr 1), some (gi a), some (gr 51), some (gr (24 + a.toNat))]) (st' := [gr (24 + a.toNat), gi 1, gr 11]) (M' := gw (gu mi 11 0 (cA mi a 1)) ml) rfl ?_
  refine Go.getf (by rfl) (c := 2) (N := 14) (shA (i := a) (by omega)) ?_
  refine Go.run hsz hn1 0 (pc' := 26) (lv' := [some (gr 1), some (gi a), some (gr 51), some (gr (24 + a.toNat))]) (st' := [gi ((gu mi 11 0 (cA mi a 1)) (24 + a.toNat) 2), gi 1, gr 11]) (M' := gw (gu mi 11 0 (cA mi a 1)) ml) rfl ?_
  rw [show (gu mi 11 0 (cA mi a 1)) (24 + a.toNat) 2 = mi (24 + a.toNat) 2 from gu_ne (Or.inr (by decide))]
  refine Go.run hsz hn1 0 (pc' := 26) (lv' := [some (gr 1), some (gi a), some (gr 51), some (gr (24 + a.toNat))]) (st' := [gi (cA mi a 2), gi 1, gr 11]) (M' := gw (gu mi 11 0 (cA mi a 1)) ml) rfl ?_
  refine Go.iast (by rfl) (N := 6) (by rfl) (by omega) (by omega) (by decide) ?_
  refine Go.run hsz hn1 4 (pc' := 33) (lv' := [some (gr 1), some (gi a), some (gr 51), some (gr (24 + a.toNat))]) (st' := [gr (24 + a.toNat), gi 2, gr 11]) (M' := gw (gu (gu mi 11 0 (cA mi a 1)) 11 1 (cA mi a 2)) ml) rfl ?_
  refine Go.getf (by rfl) (c := 2) (N := 14) (shA (i := a) (by omega)) ?_
  refine Go.run hsz hn1 0 (pc' := 36) (lv' := [some (gr 1), some (gi a), some (gr 51), some (gr (24 + a.toNat))]) (st' := [gi ((gu (gu mi 11 0 (cA mi a 1)) 11 1 (cA mi a 2)) (24 + a.toNat) 5), gi 2, gr 11]) (M' := gw (gu (gu mi 11 0 (cA mi a 1)) 11 1 (cA mi a 2)) ml) rfl ?_
  rw [show (gu (gu mi 11 0 (cA mi a 1)) 11 1 (cA mi a 2)) (24 + a.toNat) 5 = mi (24 + a.toNat) 5 from (gu_ne (Or.inr (by decide))).trans (gu_ne (Or.inr (by decide)))]
  refine Go.run hsz hn1 0 (pc' := 36) (lv' := [some (gr 1), some (gi a), some (gr 51), some (gr (24 + a.toNat))]) (st' := [gi (cA mi a 5), gi 2, gr 11]) (M' := gw (gu (gu mi 11 0 (cA mi a 1)) 11 1 (cA mi a 2)) ml) rfl ?_
  refine Go.iast (by rfl) (N := 6) (by rfl) (by omega) (by omega) (by decide) ?_
  refine Go.run hsz hn1 4 (pc' := 43) (lv' := [some (gr 1), some (gi a), some (gr 51), some (gr (24 + a.toNat))]) (st' := [gr (24 + a.toNat), gi 3, gr 11]) (M' := gw (gu (gu (gu mi 11 0 (cA mi a 1)) 11 1 (cA mi a 2)) 11 2 (cA mi a 5)) ml) rfl ?_
  refine Go.getf (by rfl) (c := 2) (N := 14) (shA (i := a) (by omega)) ?_
  refine Go.run hsz hn1 0 (pc' := 46) (lv' := [some (gr 1), some (gi a), some (gr 51), some (gr (24 + a.toNat))]) (st' := [gi ((gu (gu (gu mi 11 0 (cA mi a 1)) 11 1 (cA mi a 2)) 11 2 (cA mi a 5)) (24 + a.toNat) 0), gi 3, gr 11]) (M' := gw (gu (gu (gu mi 11 0 (cA mi a 1)) 11 1 (cA mi a 2)) 11 2 (cA mi a 5)) ml) rfl ?_
  rw [show (gu (gu (gu mi 11 0 (cA mi a 1)) 11 1 (cA mi a 2)) 11 2 (cA mi a 5)) (24 + a.toNat) 0 = mi (24 + a.toNat) 0 from (gu_ne (Or.inr (by decide))).trans ((gu_ne (Or.inr (by decide))).trans (gu_ne (Or.inl (by omega))))]
  refine Go.run hsz hn1 0 (pc' := 46) (lv' := [some (gr 1), some (gi a), some (gr 51), some (gr (24 + a.toNat))]) (st' := [gi (cA mi a 0), gi 3, gr 11]) (M' := gw (gu (gu (gu mi 11 0 (cA mi a 1)) 11 1 (cA mi a 2)) 11 2 (cA mi a 5)) ml) rfl ?_
  refine Go.iast (by rfl) (N := 6) (by rfl) (by omega) (by omega) (by decide) ?_
  refine Go.run hsz hn1 4 (pc' := 53) (lv' := [some (gr 1), some (gi a), some (gr 51), some (gr (24 + a.toNat))]) (st' := [gr (24 + a.toNat), gi 4, gr 11]) (M' := gw (gu (gu (gu (gu mi 11 0 (cA mi a 1)) 11 1 (cA mi a 2)) 11 2 (cA mi a 5)) 11 3 (cA mi a 0)) ml) rfl ?_
  refine Go.getf (by rfl) (c := 2) (N := 14) (shA (i := a) (by omega)) ?_
  refine Go.run hsz hn1 0 (pc' := 56) (lv' := [some (gr 1), some (gi a), some (gr 51), some (gr (24 + a.toNat))]) (st' := [gi ((gu (gu (gu (gu mi 11 0 (cA mi a 1)) 11 1 (cA mi a 2)) 11 2 (cA mi a 5)) 11 3 (cA mi a 0)) (24 + a.toNat) 4), gi 4, gr 11]) (M' := gw (gu (gu (gu (gu mi 11 0 (cA mi a 1)) 11 1 (cA mi a 2)) 11 2 (cA mi a 5)) 11 3 (cA mi a 0)) ml) rfl ?_
  rw [show (gu (gu (gu (gu mi 11 0 (cA mi a 1)) 11 1 (cA mi a 2)) 11 2 (cA mi a 5)) 11 3 (cA mi a 0)) (24 + a.toNat) 4 = mi (24 + a.toNat) 4 from (gu_ne (Or.inr (by decide))).trans ((gu_ne (Or.inr (by decide))).trans ((gu_ne (Or.inr (by decide))).trans (gu_ne (Or.inr (by decide)))))]
  refine Go.run hsz hn1 3 (pc' := 61) (lv' := [some (gr 1), some (gi a), some (gr 51), some (gr (24 + a.toNat))]) (st' := [gi ((cA mi a 4) - (mi 1 0)), gi 4, gr 11]) (M' := gw (gu (gu (gu (gu mi 11 0 (cA mi a 1)) 11 1 (cA mi a 2)) 11 2 (cA mi a 5)) 11 3 (cA mi a 0)) ml) rfl ?_
  refine Go.iast (by rfl) (N := 6) (by rfl) (by omega) (by omega) (by decide) ?_
  refine Go.run hsz hn1 6 (pc' := 70) (lv' := [some (gr 1), some (gi a), some (gr 51), some (gr (24 + a.toNat))]) (st' := [gr (24 + a.toNat), gi a, gr 1, gi 5, gr 11]) (M' := gw (gu (gu (gu (gu (gu mi 11 0 (cA mi a 1)) 11 1 (cA mi a 2)) 11 2 (cA mi a 5)) 11 3 (cA mi a 0)) 11 4 ((cA mi a 4) - (mi 1 0))) ml) rfl ?_
  refine Go.getf (by rfl) (c := 2) (N := 14) (shA (i := a) (by omega)) ?_
  refine Go.run hsz hn1 0 (pc' := 73) (lv' := [some (gr 1), some (gi a), some (gr 51), some (gr (24 + a.toNat))]) (st' := [gi ((gu (gu (gu (gu (gu mi 11 0 (cA mi a 1)) 11 1 (cA mi a 2)) 11 2 (cA mi a 5)) 11 3 (cA mi a 0)) 11 4 ((cA mi a 4) - (mi 1 0))) (24 + a.toNat) 4), gi a, gr 1, gi 5, gr 11]) (M' := gw (gu (gu (gu (gu (gu mi 11 0 (cA mi a 1)) 11 1 (cA mi a 2)) 11 2 (cA mi a 5)) 11 3 (cA mi a 0)) 11 4 ((cA mi a 4) - (mi 1 0))) ml) rfl ?_
  rw [show (gu (gu (gu (gu (gu mi 11 0 (cA mi a 1)) 11 1 (cA mi a 2)) 11 2 (cA mi a 5)) 11 3 (cA mi a 0)) 11 4 ((cA mi a 4) - (mi 1 0))) (24 + a.toNat) 4 = mi (24 + a.toNat) 4 from (gu_ne (Or.inl (by omega))).trans ((gu_ne (Or.inr (by decide))).trans ((gu_ne (Or.inr (by decide))).trans ((gu_ne (Or.inr (by decide))).trans (gu_ne (Or.inr (by decide))))))]
  refine Go.run hsz hn1 0 (pc' := 73) (lv' := [some (gr 1), some (gi a), some (gr 51), some (gr (24 + a.toNat))]) (st' := [gi (cA mi a 4), gi a, gr 1, gi 5, gr 11]) (M' := gw (gu (gu (gu (gu (gu mi 11 0 (cA mi a 1)) 11 1 (cA mi a 2)) 11 2 (cA mi a 5)) 11 3 (cA mi a 0)) 11 4 ((cA mi a 4) - (mi 1 0))) ml) rfl ?_
  refine Go.callV (As := [gi a, gi (cA mi a 4)]) (b := 1) (st := [gi 5, gr 11]) (mc1 := 0) (mc := 0) (ms1 := 0) (ms := 0) (by rfl) rfl (c := 7) (N := 11) (by rfl) (by decide) (by rfl) (gcn 76 (by decide)).1 (gcn 76 (by decide)).2 rfl (Nat.le_of_ble_eq_true rfl) (by omega) (cS_others hsz (n := n - 1) (by omega) (gu (gu (gu (gu (gu mi 11 0 (cA mi a 1)) 11 1 (cA mi a 2)) 11 2 (cA mi a 5)) 11 3 (cA mi a 0)) 11 4 ((cA mi a 4) - (mi 1 0))) ml a (cA mi a 4) ⟨by omega, by omega⟩ ⟨by omega, by omega⟩ (hv.o11 (gR32_gu (gR32_gu (gR32_gu (gR32_gu (gR32_gu hR (hR _ _)) (hR _ _)) (hR _ _)) (hR _ _)) ⟨by omega, by omega⟩) (fun c k hc => by rw [gu_other hc, gu_other hc, gu_other hc, gu_other hc, gu_other hc]))) ?_
  rintro _ _ ⟨rfl, rfl⟩
  rw [show cOthers (gu (gu (gu (gu (gu mi 11 0 (cA mi a 1)) 11 1 (cA mi a 2)) 11 2 (cA mi a 5)) 11 3 (cA mi a 0)) 11 4 ((cA mi a 4) - (mi 1 0))) a (cA mi a 4) ((gu (gu (gu (gu (gu mi 11 0 (cA mi a 1)) 11 1 (cA mi a 2)) 11 2 (cA mi a 5)) 11 3 (cA mi a 0)) 11 4 ((cA mi a 4) - (mi 1 0))) 1 3).toNat = cOthers mi a (cA mi a 4) (mi 1 3).toNat from cOthers_c (fun c k hc => by rw [gu_other hc, gu_other hc, gu_other hc, gu_other hc, gu_other hc]) a _ _]
  refine Go.run hsz hn1 0 (pc' := 76) (lv' := [some (gr 1), some (gi a), some (gr 51), some (gr (24 + a.toNat))]) (st' := [gi (cOthers mi a (cA mi a 4) (mi 1 3).toNat), gi 5, gr 11]) (M' := gw (gu (gu (gu (gu (gu mi 11 0 (cA mi a 1)) 11 1 (cA mi a 2)) 11 2 (cA mi a 5)) 11 3 (cA mi a 0)) 11 4 ((cA mi a 4) - (mi 1 0))) ml) rfl ?_
  refine Go.iast (by rfl) (N := 6) (by rfl) (by omega) (by omega) (by decide) ?_
  refine Go.run hsz hn1 3 (pc' := 82) (lv' := [some (gr 1), some (gi a), some (gr 51), some (gr (24 + a.toNat))]) (st' := [gr 11, gr 51]) (M' := gw (gu (gu (gu (gu (gu (gu mi 11 0 (cA mi a 1)) 11 1 (cA mi a 2)) 11 2 (cA mi a 5)) 11 3 (cA mi a 0)) 11 4 ((cA mi a 4) - (mi 1 0))) 11 5 (cOthers mi a (cA mi a 4) (mi 1 3).toNat)) ml) rfl ?_
  refine Go.callV (As := [gr 11]) (b := 51) (st := []) (mc1 := 0) (mc := 0) (ms1 := 0) (ms := 0) (by rfl) rfl (c := 1) (N := 4) (by rfl) (by decide) (by rfl) (gcn 17 (by decide)).1 (gcn 17 (by decide)).2 rfl (Nat.le_of_ble_eq_true rfl) (by omega) (cLw_worth1 hsz (n := n - 1) (by omega) (wNm0 mi a) ml (eq_ mi 1) (en_ mi a) hok2 (fun i hi => hok.2.2.1 i (by have hi : (i : Int) < mi 51 1 := hi; omega)) (by show eOK _ _ (mi 51 1).toNat; rw [hok.1]; exact hok.2.2.2) (wNm0_N hrep a0 a1) (fun m => mNm_rng hsv a0 a1 _) (wNm0_R hrep hsv a0 a1)) ?_
  rintro _ _ ⟨m, rfl, rfl, hm, hmR⟩
  refine Go.run hsz hn1 0 (pc' := 85) (lv' := [some (gr 1), some (gi a), some (gr 51), some (gr (24 + a.toNat))]) (st' := [gi ((eS (eq_ mi 1) (en_ mi a) (wNm0 mi a 51 1).toNat).2 0)]) (M' := gw m ml) rfl ?_
  refine Go.iret (by rfl) ⟨m, congrArg (fun z => some (gi z)) ?_, rfl, fun c j h1 h2 h3 => (hm c j (by omega)).trans (wNm0_off c j h1), hmR⟩
  show (eS (eq_ mi 1) (en_ mi a) (mi 51 1).toNat).2 0 = _
  rw [hok.1]; rfl
set_option maxRecDepth 100000 in
set_option maxHeartbeats 4000000 in
theorem cS_priceNow {G : gG} (hsz : G.2.2.2.2.2.2 = true) {n : Nat} (hn : 6 ≤ n) (mi : Nat → Nat → Int) (ml : Nat → Nat → Int64) (t : Nat) (a : Int) (a0 : 0 ≤ a) (a1 : a < mi 148 6) (hrep : Rep t 1 mi ml (sg mi)) (hsv : SV mi) (hv : CV mi) : gM G 73 n 0 0 [gr 1, gi a] (gw mi ml) (fun r M => ∃ m, r = some (gi (mSays mi 0 a)) ∧ M = gw m ml ∧ (∀ c j : Nat, c ≠ 11 → c ≠ 50 → c ≠ 53 → m c j = mi c j) ∧ gR32 m) := by
  have hn1 : 1 ≤ n := by omega
  obtain ⟨hR, ht, hp, hq, hP, hQ⟩ := id hv
  have e3 : mi 1 3 = mi 148 6 := hrep.1.2.2.2.1
  have e0 : mi 1 0 = mi 148 0 := hrep.1.1
  have hb : mi 48 0 = b2 (0 < mi 157 0) := (hrep.2.2.2.2.2.2.1 0 (by decide)).1
  obtain ⟨c0, c1, c2, -, c4, -⟩ := hrep.cA a0 a1
  have hc4 := (hP a a0 (by omega)).2.2.2.2.1
  refine gM.of mX8_priceNow okX8_priceNow (gcp 73 (by decide)).1 (gcp 73 (by decide)).2 (Nat.le_of_ble_eq_true rfl) ?_
  refine Go.run hsz hn1 3 (pc' := 5) (lv' := [some (gr 1), some (gi a)]) (st' := [gi 0, gr 6]) (M' := gw mi ml) rfl ?_
  refine Go.aaldR 5 (by rfl) (N := 2) (by rfl) ⟨by decide, by decide⟩ (by decide) (by decide) (by decide) (b := 48) (by rfl) ?_
  refine Go.run hsz hn1 1 (pc' := 9) (lv' := [some (gr 1), some (gi a)]) (st' := [gi (mi 48 0)]) (M' := gw mi ml) rfl ?_
  refine Go.if_ne (by rfl) (hR _ _) (fun kq1 => ?_) (fun kq1 => ?_)
  · refine Go.run hsz hn1 7 (pc' := 33) (lv' := [some (gr 1), some (gi a)]) (st' := [gi 0, gr 6, gi a, gr 1, gi 9999, gi 0]) (M' := gw mi ml) rfl ?_
    refine Go.aaldR 5 (by rfl) (N := 2) (by rfl) ⟨by decide, by decide⟩ (by decide) (by decide) (by decide) (b := 48) (by rfl) ?_
    refine Go.callV (As := [gi a, gr 48]) (b := 1) (st := [gi 9999, gi 0]) (mc1 := 0) (mc := 0) (ms1 := 0) (ms := 0) (by rfl) rfl (c := 7) (N := 11) (by rfl) (by decide) (by rfl) (gcn 75 (by decide)).1 (gcn 75 (by decide)).2 rfl (Nat.le_of_ble_eq_true rfl) (by omega) (cS_worth0 hsz (n := n - 1) (by omega) mi ml t a a0 a1 hrep hsv hv (b2_pos (fun q => by rw [← hb] at q; omega))) ?_
    rintro _ _ ⟨m, rfl, rfl, hm, hmR⟩
    have her := eV_rng hsv a0 a1 0
    have her2 : -2147483648 ≤ eV mi 0 a ∧ eV mi 0 a < 2147483648 := her
    refine Go.run hsz hn1 0 (pc' := 37) (lv' := [some (gr 1), some (gi a)]) (st' := [gi (eV mi 0 a), gi 9999, gi 0]) (M' := gw m ml) rfl ?_
    refine Go.mmin (by rfl) hn1 (Nat.le_of_ble_eq_true rfl) ⟨by decide, by decide⟩ her ?_
    refine Go.run hsz hn1 0 (pc' := 40) (lv' := [some (gr 1), some (gi a)]) (st' := [gi (if eV mi 0 a < 9999 then eV mi 0 a else 9999), gi 0]) (M' := gw m ml) rfl ?_
    refine Go.mmax (by rfl) hn1 (Nat.le_of_ble_eq_true rfl) ⟨by decide, by decide⟩ ⟨by omega, by omega⟩ ?_
    refine Go.run hsz hn1 0 (pc' := 43) (lv' := [some (gr 1), some (gi a)]) (st' := [gi (if 0 < if eV mi 0 a < 9999 then eV mi 0 a else 9999 then if eV mi 0 a < 9999 then eV mi 0 a else 9999 else 0)]) (M' := gw m ml) rfl ?_
    refine Go.iret (by rfl) ⟨m, congrArg (fun z => some (gi z)) ?_, rfl, hm, hmR⟩
    have hp0 : 0 < mi 157 0 := b2_pos (fun q => by rw [← hb] at q; omega)
    unfold mSays clp; rw [if_pos hp0]; simp only [if_true]; (repeat' split) <;> omega
  · refine Go.run hsz hn1 3 (pc' := 17) (lv' := [some (gr 1), some (gi a)]) (st' := [gi a, gr 3]) (M' := gw mi ml) rfl ?_
    refine Go.aaldR 4 (by rfl) (N := 24) (by rfl) ⟨by decide, by decide⟩ (by omega) (by omega) (by decide) (gMR_3 (by omega) (by omega)) ?_
    refine Go.callS (As := [gr (24 + a.toNat)]) (st := []) (mc1 := 0) (mc := 0) (ms1 := 0) (ms := 0) (by rfl) rfl (gcn 13 (by decide)).1 (gcn 13 (by decide)).2 (Nat.le_of_ble_eq_true rfl) (by omega) (cK_price hsz (n := n - 1) (by omega) mi ml a (by omega) (by omega) (hP _ (by omega) (by omega))) ?_
    rintro _ _ ⟨rfl, rfl⟩
    refine Go.run hsz hn1 0 (pc' := 21) (lv' := [some (gr 1), some (gi a)]) (st' := [gi (cPrice mi a)]) (M' := gw mi ml) rfl ?_
    refine Go.iret (by rfl) ⟨mi, congrArg (fun z => some (gi z)) ?_, rfl, fun _ _ _ _ _ => rfl, hR⟩
    have hp0 : ¬ 0 < mi 157 0 := b2_neg (by rw [← hb]; omega)
    unfold mSays; rw [if_neg hp0]; simp only [if_true]; unfold cPrice mPrice; rw [c0, c1, c2]
set_option maxRecDepth 100000 in
set_option maxHeartbeats 4000000 in
theorem cS_refundNow {G : gG} (hsz : G.2.2.2.2.2.2 = true) {n : Nat} (hn : 6 ≤ n) (mi : Nat → Nat → Int) (ml : Nat → Nat → Int64) (t : Nat) (a : Int) (a0 : 0 ≤ a) (a1 : a < mi 148 6) (hrep : Rep t 1 mi ml (sg mi)) (hsv : SV mi) (hv : CV mi) : gM G 74 n 0 0 [gr 1, gi a] (gw mi ml) (fun r M => ∃ m, r = some (gi (mSays mi 1 a)) ∧ M = gw m ml ∧ (∀ c j : Nat, c ≠ 11 → c ≠ 50 → c ≠ 53 → m c j = mi c j) ∧ gR32 m) := by
  have hn1 : 1 ≤ n := by omega
  obtain ⟨hR, ht, hp, hq, hP, hQ⟩ := id hv
  have e3 : mi 1 3 = mi 148 6 := hrep.1.2.2.2.1
  have e0 : mi 1 0 = mi 148 0 := hrep.1.1
  have hb : mi 51 0 = b2 (0 < mi 157 1) := (hrep.2.2.2.2.2.2.1 1 (by decide)).1
  obtain ⟨c0, c1, c2, -, c4, -⟩ := hrep.cA a0 a1
  have hc4 := (hP a a0 (by omega)).2.2.2.2.1
  refine gM.of mX8_refundNow okX8_refundNow (gcp 74 (by decide)).1 (gcp 74 (by decide)).2 (Nat.le_of_ble_eq_true rfl) ?_
  refine Go.run hsz hn1 3 (pc' := 5) (lv' := [some (gr 1), some (gi a), none]) (st' := [gi 1, gr 6]) (M' := gw mi ml) rfl ?_
  refine Go.aaldR 5 (by rfl) (N := 2) (by rfl) ⟨by decide, by decide⟩ (by decide) (by decide) (by decide) (b := 51) (by rfl) ?_
  refine Go.run hsz hn1 1 (pc' := 9) (lv' := [some (gr 1), some (gi a), none]) (st' := [gi (mi 51 0)]) (M' := gw mi ml) rfl ?_
  refine Go.if_eq (by rfl) (hR _ _) (fun kq1 => ?_) (fun kq1 => ?_)
  · refine Go.run hsz hn1 3 (pc' := 38) (lv' := [some (gr 1), some (gi a), none]) (st' := [gi a, gr 3]) (M' := gw mi ml) rfl ?_
    refine Go.aaldR 4 (by rfl) (N := 24) (by rfl) ⟨by decide, by decide⟩ (by omega) (by omega) (by decide) (gMR_3 (by omega) (by omega)) ?_
    refine Go.getf (by rfl) (c := 2) (N := 14) (shA (i := a) (by omega)) ?_
    refine Go.run hsz hn1 6 (pc' := 51) (lv' := [some (gr 1), some (gi a), some (gi ((cA mi a 4) - (mi 1 0)))]) (st' := [gi 7, gi ((cA mi a 4) - (mi 1 0))]) (M' := gw mi ml) rfl ?_
    refine Go.icmp_lt (by rfl) ⟨by omega, by omega⟩ ⟨by decide, by decide⟩ (fun kq2 => ?_) (fun kq2 => ?_)
    · refine Go.run hsz hn1 2 (pc' := 59) (lv' := [some (gr 1), some (gi a), some (gi ((cA mi a 4) - (mi 1 0)))]) (st' := [gi 1, gi ((cA mi a 4) - (mi 1 0))]) (M' := gw mi ml) rfl ?_
      refine Go.icmp_lt (by rfl) ⟨by omega, by omega⟩ ⟨by decide, by decide⟩ (fun kq3 => ?_) (fun kq3 => ?_)
      · refine Go.run hsz hn1 1 (pc' := 68) (lv' := [some (gr 1), some (gi a), some (gi ((cA mi a 4) - (mi 1 0)))]) (st' := [gi 0]) (M' := gw mi ml) rfl ?_
        refine Go.iret (by rfl) ⟨mi, congrArg (fun z => some (gi z)) ?_, rfl, fun _ _ _ _ _ => rfl, hR⟩
        have hp0 : ¬ 0 < mi 157 1 := b2_neg (by rw [← hb]; omega)
        unfold mSays; rw [if_neg hp0]; simp only [show ¬ (1 : Nat) = 0 by omega, if_false]; (repeat' split) <;> omega
      · refine Go.run hsz hn1 2 (pc' := 68) (lv' := [some (gr 1), some (gi a), some (gi ((cA mi a 4) - (mi 1 0)))]) (st' := [gi 50]) (M' := gw mi ml) rfl ?_
        refine Go.iret (by rfl) ⟨mi, congrArg (fun z => some (gi z)) ?_, rfl, fun _ _ _ _ _ => rfl, hR⟩
        have hp0 : ¬ 0 < mi 157 1 := b2_neg (by rw [← hb]; omega)
        unfold mSays; rw [if_neg hp0]; simp only [show ¬ (1 : Nat) = 0 by omega, if_false]; (repeat' split) <;> omega
    · refine Go.run hsz hn1 1 (pc' := 56) (lv' := [some (gr 1), some (gi a), some (gi ((cA mi a 4) - (mi 1 0)))]) (st' := [gi 100]) (M' := gw mi ml) rfl ?_
      refine Go.iret (by rfl) ⟨mi, congrArg (fun z => some (gi z)) ?_, rfl, fun _ _ _ _ _ => rfl, hR⟩
      have hp0 : ¬ 0 < mi 157 1 := b2_neg (by rw [← hb]; omega)
      unfold mSays; rw [if_neg hp0]; simp only [show ¬ (1 : Nat) = 0 by omega, if_false]; (repeat' split) <;> omega
  · refine Go.run hsz hn1 7 (pc' := 22) (lv' := [some (gr 1), some (gi a), none]) (st' := [gi 1, gr 6, gi a, gr 1, gi 100, gi 0]) (M' := gw mi ml) rfl ?_
    refine Go.aaldR 5 (by rfl) (N := 2) (by rfl) ⟨by decide, by decide⟩ (by decide) (by decide) (by decide) (b := 51) (by rfl) ?_
    refine Go.callV (As := [gi a, gr 51]) (b := 1) (st := [gi 100, gi 0]) (mc1 := 0) (mc := 0) (ms1 := 0) (ms := 0) (by rfl) rfl (c := 7) (N := 11) (by rfl) (by decide) (by rfl) (gcn 75 (by decide)).1 (gcn 75 (by decide)).2 rfl (Nat.le_of_ble_eq_true rfl) (by omega) (cS_worth1 hsz (n := n - 1) (by omega) mi ml t a a0 a1 hrep hsv hv (b2_pos (fun q => by rw [← hb] at q; omega))) ?_
    rintro _ _ ⟨m, rfl, rfl, hm, hmR⟩
    have her := eV_rng hsv a0 a1 1
    have her2 : -2147483648 ≤ eV mi 1 a ∧ eV mi 1 a < 2147483648 := her
    refine Go.run hsz hn1 0 (pc' := 26) (lv' := [some (gr 1), some (gi a), none]) (st' := [gi (eV mi 1 a), gi 100, gi 0]) (M' := gw m ml) rfl ?_
    refine Go.mmin (by rfl) hn1 (Nat.le_of_ble_eq_true rfl) ⟨by decide, by decide⟩ her ?_
    refine Go.run hsz hn1 0 (pc' := 29) (lv' := [some (gr 1), some (gi a), none]) (st' := [gi (if eV mi 1 a < 100 then eV mi 1 a else 100), gi 0]) (M' := gw m ml) rfl ?_
    refine Go.mmax (by rfl) hn1 (Nat.le_of_ble_eq_true rfl) ⟨by decide, by decide⟩ ⟨by omega, by omega⟩ ?_
    refine Go.run hsz hn1 0 (pc' := 32) (lv' := [some (gr 1), some (gi a), none]) (st' := [gi (if 0 < if eV mi 1 a < 100 then eV mi 1 a else 100 then if eV mi 1 a < 100 then eV mi 1 a else 100 else 0)]) (M' := gw m ml) rfl ?_
    refine Go.iret (by rfl) ⟨m, congrArg (fun z => some (gi z)) ?_, rfl, hm, hmR⟩
    have hp0 : 0 < mi 157 1 := b2_pos (fun q => by rw [← hb] at q; omega)
    unfold mSays clp; rw [if_pos hp0]; simp only [show ¬ (1 : Nat) = 0 by omega, if_false]; (repeat' split) <;> omega
set_option maxRecDepth 100000 in
set_option maxHeartbeats 4000000 in
theorem cM_named {G : gG} (hsz : G.2.2.2.2.2.2 = true) {n : Nat} (hn : 4 ≤ n) (mi : Nat → Nat → Int) (ml : Nat → Nat → Int64) (ch a : Int) (hc : ch = 108 ∨ ch = 97 ∨ ch = 110 ∨ ch = 107 ∨ ch = 100 ∨ ch = 111) (a0 : 0 ≤ a) (a1 : a < mi 148 6) (hv : SV mi) : gM G 207 n 0 0 [gr 148, gi ch, gi a] (gw mi ml) (gret (mNm mi a ch) (gw mi ml)) := by
  have hn1 : 1 ≤ n := by omega
  obtain ⟨hR, ht, hp, hq, hP, hQ⟩ := id hv
  refine gM.of mX12_named okX12_named (gcp 207 (by decide)).1 (gcp 207 (by decide)).2 (Nat.le_of_ble_eq_true rfl) ?_
  rcases hc with rfl | rfl | rfl | rfl | rfl | rfl
  · refine Go.run hsz hn1 1 (pc' := 1) (lv' := [some (gr 148), some (gi 108), some (gi a)]) (st' := [gi 108]) (M' := gw mi ml) rfl ?_
    refine Go.tsw_in (l := _) (w' := 108) (t := 72) (by rfl) (by rfl) ⟨by decide, by decide⟩ (by decide) (by decide) (by rfl) ?_
    refine Go.run hsz hn1 3 (pc' := 75) (lv' := [some (gr 148), some (gi 108), some (gi a)]) (st' := [gi 1, gi a, gr 148]) (M' := gw mi ml) rfl ?_
    refine Go.callV (As := [gi a, gi 1]) (b := 148) (st := []) (mc1 := 0) (mc := 0) (ms1 := 0) (ms := 0) (by rfl) rfl (c := 11) (N := 46) (by rfl) (by decide) (by rfl) (gcn 165 (by decide)).1 (gcn 165 (by decide)).2 rfl (Nat.le_of_ble_eq_true rfl) (by omega) (cM_of hsz (n := n - 1) (by omega) mi ml a 1 (by omega) (by omega) (by omega) (by omega)) ?_
    rintro _ _ ⟨rfl, rfl⟩
    refine Go.run hsz hn1 0 (pc' := 78) (lv' := [some (gr 148), some (gi 108), some (gi a)]) (st' := [gi (mOf mi a 1)]) (M' := gw mi ml) rfl ?_
    first | exact Go.iret (by rfl) ⟨congrArg (fun z => some (gi z)) (rfl), rfl⟩ | (exfalso; omega)
  · refine Go.run hsz hn1 1 (pc' := 1) (lv' := [some (gr 148), some (gi 97), some (gi a)]) (st' := [gi 97]) (M' := gw mi ml) rfl ?_
    refine Go.tsw_in (l := _) (w' := 97) (t := 79) (by rfl) (by rfl) ⟨by decide, by decide⟩ (by decide) (by decide) (by rfl) ?_
    refine Go.run hsz hn1 3 (pc' := 82) (lv' := [some (gr 148), some (gi 97), some (gi a)]) (st' := [gi 2, gi a, gr 148]) (M' := gw mi ml) rfl ?_
    refine Go.callV (As := [gi a, gi 2]) (b := 148) (st := []) (mc1 := 0) (mc := 0) (ms1 := 0) (ms := 0) (by rfl) rfl (c := 11) (N := 46) (by rfl) (by decide) (by rfl) (gcn 165 (by decide)).1 (gcn 165 (by decide)).2 rfl (Nat.le_of_ble_eq_true rfl) (by omega) (cM_of hsz (n := n - 1) (by omega) mi ml a 2 (by omega) (by omega) (by omega) (by omega)) ?_
    rintro _ _ ⟨rfl, rfl⟩
    refine Go.run hsz hn1 0 (pc' := 85) (lv' := [some (gr 148), some (gi 97), some (gi a)]) (st' := [gi (mOf mi a 2)]) (M' := gw mi ml) rfl ?_
    first | exact Go.iret (by rfl) ⟨congrArg (fun z => some (gi z)) (rfl), rfl⟩ | (exfalso; omega)
  · refine Go.run hsz hn1 1 (pc' := 1) (lv' := [some (gr 148), some (gi 110), some (gi a)]) (st' := [gi 110]) (M' := gw mi ml) rfl ?_
    refine Go.tsw_in (l := _) (w' := 110) (t := 86) (by rfl) (by rfl) ⟨by decide, by decide⟩ (by decide) (by decide) (by rfl) ?_
    refine Go.run hsz hn1 3 (pc' := 89) (lv' := [some (gr 148), some (gi 110), some (gi a)]) (st' := [gi 5, gi a, gr 148]) (M' := gw mi ml) rfl ?_
    refine Go.callV (As := [gi a, gi 5]) (b := 148) (st := []) (mc1 := 0) (mc := 0) (ms1 := 0) (ms := 0) (by rfl) rfl (c := 11) (N := 46) (by rfl) (by decide) (by rfl) (gcn 165 (by decide)).1 (gcn 165 (by decide)).2 rfl (Nat.le_of_ble_eq_true rfl) (by omega) (cM_of hsz (n := n - 1) (by omega) mi ml a 5 (by omega) (by omega) (by omega) (by omega)) ?_
    rintro _ _ ⟨rfl, rfl⟩
    refine Go.run hsz hn1 0 (pc' := 92) (lv' := [some (gr 148), some (gi 110), some (gi a)]) (st' := [gi (mOf mi a 5)]) (M' := gw mi ml) rfl ?_
    first | exact Go.iret (by rfl) ⟨congrArg (fun z => some (gi z)) (rfl), rfl⟩ | (exfalso; omega)
  · refine Go.run hsz hn1 1 (pc' := 1) (lv' := [some (gr 148), some (gi 107), some (gi a)]) (st' := [gi 107]) (M' := gw mi ml) rfl ?_
    refine Go.tsw_in (l := _) (w' := 107) (t := 93) (by rfl) (by rfl) ⟨by decide, by decide⟩ (by decide) (by decide) (by rfl) ?_
    refine Go.run hsz hn1 3 (pc' := 96) (lv' := [some (gr 148), some (gi 107), some (gi a)]) (st' := [gi 0, gi a, gr 148]) (M' := gw mi ml) rfl ?_
    refine Go.callV (As := [gi a, gi 0]) (b := 148) (st := []) (mc1 := 0) (mc := 0) (ms1 := 0) (ms := 0) (by rfl) rfl (c := 11) (N := 46) (by rfl) (by decide) (by rfl) (gcn 165 (by decide)).1 (gcn 165 (by decide)).2 rfl (Nat.le_of_ble_eq_true rfl) (by omega) (cM_of hsz (n := n - 1) (by omega) mi ml a 0 (by omega) (by omega) (by omega) (by omega)) ?_
    rintro _ _ ⟨rfl, rfl⟩
    refine Go.run hsz hn1 0 (pc' := 99) (lv' := [some (gr 148), some (gi 107), some (gi a)]) (st' := [gi (mOf mi a 0)]) (M' := gw mi ml) rfl ?_
    first | exact Go.iret (by rfl) ⟨congrArg (fun z => some (gi z)) (rfl), rfl⟩ | (exfalso; omega)
  · refine Go.run hsz hn1 1 (pc' := 1) (lv' := [some (gr 148), some (gi 100), some (gi a)]) (st' := [gi 100]) (M' := gw mi ml) rfl ?_
    refine Go.tsw_in (l := _) (w' := 100) (t := 100) (by rfl) (by rfl) ⟨by decide, by decide⟩ (by decide) (by decide) (by rfl) ?_
    refine Go.run hsz hn1 3 (pc' := 103) (lv' := [some (gr 148), some (gi 100), some (gi a)]) (st' := [gi 4, gi a, gr 148]) (M' := gw mi ml) rfl ?_
    refine Go.callV (As := [gi a, gi 4]) (b := 148) (st := []) (mc1 := 0) (mc := 0) (ms1 := 0) (ms := 0) (by rfl) rfl (c := 11) (N := 46) (by rfl) (by decide) (by rfl) (gcn 165 (by decide)).1 (gcn 165 (by decide)).2 rfl (Nat.le_of_ble_eq_true rfl) (by omega) (cM_of hsz (n := n - 1) (by omega) mi ml a 4 (by omega) (by omega) (by omega) (by omega)) ?_
    rintro _ _ ⟨rfl, rfl⟩
    refine Go.run hsz hn1 3 (pc' := 111) (lv' := [some (gr 148), some (gi 100), some (gi a)]) (st' := [gi ((mOf mi a 4) - (mi 148 0))]) (M' := gw mi ml) rfl ?_
    first | exact Go.iret (by rfl) ⟨congrArg (fun z => some (gi z)) (rfl), rfl⟩ | (exfalso; omega)
  · refine Go.run hsz hn1 1 (pc' := 1) (lv' := [some (gr 148), some (gi 111), some (gi a)]) (st' := [gi 111]) (M' := gw mi ml) rfl ?_
    refine Go.tsw_out (l := _) (by rfl) (by rfl) ⟨by decide, by decide⟩ (by decide) ?_
    refine Go.run hsz hn1 2 (pc' := 114) (lv' := [some (gr 148), some (gi 111), some (gi a)]) (st' := [gi a, gr 148]) (M' := gw mi ml) rfl ?_
    refine Go.callV (As := [gi a]) (b := 148) (st := []) (mc1 := 0) (mc := 0) (ms1 := 0) (ms := 0) (by rfl) rfl (c := 11) (N := 46) (by rfl) (by decide) (by rfl) (gcn 206 (by decide)).1 (gcn 206 (by decide)).2 rfl (Nat.le_of_ble_eq_true rfl) (by omega) (cM_others hsz (n := n - 1) (by omega) mi ml a a0 a1 hv) ?_
    rintro _ _ ⟨rfl, rfl⟩
    refine Go.run hsz hn1 0 (pc' := 117) (lv' := [some (gr 148), some (gi 111), some (gi a)]) (st' := [gi (mOthers mi a (mi 148 6).toNat)]) (M' := gw mi ml) rfl ?_
    first | exact Go.iret (by rfl) ⟨congrArg (fun z => some (gi z)) (rfl), rfl⟩ | (exfalso; omega)
set_option maxRecDepth 100000 in
set_option maxHeartbeats 4000000 in
theorem lM_worked {G : gG} (hsz : G.2.2.2.2.2.2 = true) {n : Nat} (hn : 5 ≤ n) (mi : Nat → Nat → Int) (ml : Nat → Nat → Int64) (l a : Int) (l0 : 0 ≤ l) (l1 : l ≤ 1) (a0 : 0 ≤ a) (a1 : a < mi 148 6) (hv : SV mi) (hz : 0 ≤ mi 157 l.toNat ∧ mi 157 l.toNat ≤ 120) (hok : eOK (eq_ mi l.toNat) (en_ mi a) (mi 157 l.toNat).toNat) : ∀ (f : Nat) (k : Int) (m : Nat → Nat → Int) (tp : Int) (hm : ∀ c j : Nat, c ≠ 167 → m c j = mi c j) (hmR : gR32 m) (htp : tp = ((eS (eq_ mi l.toNat) (en_ mi a) k.toNat).1 : Nat)) (hst : eRl m 167 (eS (eq_ mi l.toNat) (en_ mi a) k.toNat)), 0 ≤ k → k ≤ mi 157 l.toNat → mi 157 l.toNat - k < f → Go G mX12_worked n 0 0 8 [some (gr 148), some (gi l), some (gi a), some (gi tp), some (gi ((120 * l) + k)), none] [] (gw m ml) (fun r M => ∃ m, r = some (gi (eV mi l.toNat a)) ∧ M = gw m ml ∧ (∀ c j : Nat, c ≠ 167 → m c j = mi c j) ∧ gR32 m) := by
  have hn1 : 1 ≤ n := by omega
  obtain ⟨hR, ht, hp, hq, hP, hQ⟩ := id hv
  intro f
  induction f with
  | zero => intros; omega
  | succ f ih =>
    intro k m tp hm hmR htp hst k0 k1 k2
    have ez : m 157 l.toNat = mi 157 l.toNat := hm 157 _ (by decide)
    have ec : m 158 (((120 * l) + k).toNat) = eq_ mi l.toNat k.toNat := by rw [hm 158 _ (by decide)]; unfold eq_; rw [show ((120 * l) + k).toNat = 120 * l.toNat + k.toNat by omega]
    have hle := eS_le (eq_ mi l.toNat) (en_ mi a) k.toNat
    have hcd : k < mi 157 l.toNat → eQ (eq_ mi l.toNat k.toNat) := fun z => (hok.1 k.toNat (by omega)).1
    have hdp : k < mi 157 l.toNat → (eq_ mi l.toNat k.toNat = 30000 → 1 ≤ (eS (eq_ mi l.toNat) (en_ mi a) k.toNat).1) ∧ (20000 ≤ eq_ mi l.toNat k.toNat → eq_ mi l.toNat k.toNat < 30000 → 2 ≤ (eS (eq_ mi l.toNat) (en_ mi a) k.toNat).1) := fun z => (hok.1 k.toNat (by omega)).2
    refine Go.run hsz hn1 7 (pc' := 19) (lv' := [some (gr 148), some (gi l), some (gi a), some (gi tp), some (gi ((120 * l) + k)), none]) (st' := [gi l, gr 157, gi (120 * l), gi ((120 * l) + k)]) (M' := gw m ml) rfl ?_
    refine Go.iald (by rfl) (N := 2) (by rfl) (by omega) (by omega) (by decide) ?_
    refine Go.run hsz hn1 1 (pc' := 21) (lv' := [some (gr 148), some (gi l), some (gi a), some (gi tp), some (gi ((120 * l) + k)), none]) (st' := [gi ((120 * l) + (m 157 l.toNat)), gi ((120 * l) + k)]) (M' := gw m ml) rfl ?_
    refine Go.icmp_ge (by rfl) ⟨by omega, by omega⟩ ⟨by omega, by omega⟩ (fun kq1 => ?_) (fun kq1 => ?_)
    · refine Go.run hsz hn1 3 (pc' := 151) (lv' := [some (gr 148), some (gi l), some (gi a), some (gi tp), some (gi ((120 * l) + k)), none]) (st' := [gi 0, gr 167]) (M' := gw m ml) rfl ?_
      refine Go.iald (by rfl) (N := 120) (by rfl) (by omega) (by omega) (by decide) ?_
      refine Go.run hsz hn1 0 (pc' := 152) (lv' := [some (gr 148), some (gi l), some (gi a), some (gi tp), some (gi ((120 * l) + k)), none]) (st' := [gi (m 167 0)]) (M' := gw m ml) rfl ?_
      have hk : k = mi 157 l.toNat := by omega
      subst hk
      refine Go.iret (by rfl) ⟨m, congrArg (fun z => some (gi z)) (hst 0 (by have := hok.2; omega)), rfl, hm, hmR⟩
    · refine Go.run hsz hn1 0 (pc' := 24) (lv' := [some (gr 148), some (gi l), some (gi a), some (gi tp), some (gi ((120 * l) + k)), none]) (st' := []) (M' := gw m ml) rfl ?_
      replace hcd := hcd (by omega)
      replace hdp := hdp (by omega)
      have hcd2 := hcd
      unfold eQ at hcd2
      refine Go.run hsz hn1 3 (pc' := 30) (lv' := [some (gr 148), some (gi l), some (gi a), some (gi tp), some (gi ((120 * l) + k)), none]) (st' := [gi ((120 * l) + k), gr 158]) (M' := gw m ml) rfl ?_
      refine Go.iald (by rfl) (N := 240) (by rfl) (by omega) (by omega) (by decide) ?_
      refine Go.run hsz hn1 3 (pc' := 38) (lv' := [some (gr 148), some (gi l), some (gi a), some (gi tp), some (gi ((120 * l) + k)), some (gi (m 158 (((120 * l) + k).toNat)))]) (st' := [gi 30000, gi (m 158 (((120 * l) + k).toNat))]) (M' := gw m ml) rfl ?_
      refine Go.icmp_ne (by rfl) (hmR _ _) ⟨by decide, by decide⟩ (fun kq2 => ?_) (fun kq2 => ?_)
      · refine Go.run hsz hn1 2 (pc' := 67) (lv' := [some (gr 148), some (gi l), some (gi a), some (gi tp), some (gi ((120 * l) + k)), some (gi (m 158 (((120 * l) + k).toNat)))]) (st' := [gi 20000, gi (m 158 (((120 * l) + k).toNat))]) (M' := gw m ml) rfl ?_
        refine Go.icmp_lt (by rfl) (hmR _ _) ⟨by decide, by decide⟩ (fun kq3 => ?_) (fun kq3 => ?_)
        · refine Go.run hsz hn1 5 (pc' := 117) (lv' := [some (gr 148), some (gi l), some (gi a), some (gi tp), some (gi ((120 * l) + k)), some (gi (m 158 (((120 * l) + k).toNat)))]) (st' := [gi 10000, gi (m 158 (((120 * l) + k).toNat)), gi tp, gr 167]) (M' := gw m ml) rfl ?_
          refine Go.icmp_lt (by rfl) (hmR _ _) ⟨by decide, by decide⟩ (fun kq4 => ?_) (fun kq4 => ?_)
          · refine Go.run hsz hn1 1 (pc' := 136) (lv' := [some (gr 148), some (gi l), some (gi a), some (gi tp), some (gi ((120 * l) + k)), some (gi (m 158 (((120 * l) + k).toNat)))]) (st' := [gi (m 158 (((120 * l) + k).toNat)), gi tp, gr 167]) (M' := gw m ml) rfl ?_
            refine Go.iast (by rfl) (N := 120) (by rfl) (by omega) (by omega) (by decide) ?_
            refine Go.run hsz hn1 3 (pc' := 8) (lv' := [some (gr 148), some (gi l), some (gi a), some (gi (tp + 1)), some (gi (((120 * l) + k) + 1)), some (gi (m 158 (((120 * l) + k).toNat)))]) (st' := []) (M' := gw (gu m 167 tp.toNat (m 158 (((120 * l) + k).toNat))) ml) rfl ?_
            refine Go.dropl 5 ?_
            refine Go.run hsz hn1 0 (pc' := 8) (lv' := [some (gr 148), some (gi l), some (gi a), some (gi (tp + 1)), some (gi (((120 * l) + k) + 1)), none]) (st' := []) (M' := gw (gu m 167 tp.toNat (m 158 (((120 * l) + k).toNat))) ml) rfl ?_
            have hB := eRl_push (v := m 158 (((120 * l) + k).toNat)) hst htp (show eq_ mi l.toNat k.toNat < 20000 by omega) (by first | (rw [if_pos (by omega)]; show mNm mi a (m 158 (((120 * l) + k).toNat) - 10000) = mNm mi a (eq_ mi l.toNat k.toNat - 10000); rw [ec]) | (rw [if_neg (by omega)]; exact ec))
            have h9 := ih (k + 1) (gu m 167 tp.toNat (m 158 (((120 * l) + k).toNat))) (tp + 1) (fun c j hc => (gu_other hc).trans (hm c j hc)) (gR32_gu hmR (by first | exact mNm_rng hv a0 a1 _ | exact hmR _ _)) (by rw [show (k + 1).toNat = k.toNat + 1 by omega]; exact hB.2) (by rw [show (k + 1).toNat = k.toNat + 1 by omega]; exact hB.1) (by omega) (by omega) (by omega)
            rw [show (120 * l) + (k + 1) = (120 * l) + k + 1 by omega] at h9
            exact h9
          · refine Go.run hsz hn1 5 (pc' := 128) (lv' := [some (gr 148), some (gi l), some (gi a), some (gi tp), some (gi ((120 * l) + k)), some (gi (m 158 (((120 * l) + k).toNat)))]) (st' := [gi a, gi ((m 158 (((120 * l) + k).toNat)) - 10000), gr 148, gi tp, gr 167]) (M' := gw m ml) rfl ?_
            refine Go.callV (As := [gi ((m 158 (((120 * l) + k).toNat)) - 10000), gi a]) (b := 148) (st := [gi tp, gr 167]) (mc1 := 0) (mc := 0) (ms1 := 0) (ms := 0) (by rfl) rfl (c := 11) (N := 46) (by rfl) (by decide) (by rfl) (gcn 207 (by decide)).1 (gcn 207 (by decide)).2 rfl (Nat.le_of_ble_eq_true rfl) (by omega) (cM_named hsz (n := n - 1) (by omega) m ml ((m 158 (((120 * l) + k).toNat)) - 10000) a (by omega) a0 (by rw [hm 148 6 (by decide)]; exact a1) (hv.o167 hmR hm)) ?_
            rintro _ _ ⟨rfl, rfl⟩
            rw [mNm_c hm]
            refine Go.run hsz hn1 1 (pc' := 136) (lv' := [some (gr 148), some (gi l), some (gi a), some (gi tp), some (gi ((120 * l) + k)), some (gi (m 158 (((120 * l) + k).toNat)))]) (st' := [gi (mNm mi a ((m 158 (((120 * l) + k).toNat)) - 10000)), gi tp, gr 167]) (M' := gw m ml) rfl ?_
            refine Go.iast (by rfl) (N := 120) (by rfl) (by omega) (by omega) (by decide) ?_
            refine Go.run hsz hn1 3 (pc' := 8) (lv' := [some (gr 148), some (gi l), some (gi a), some (gi (tp + 1)), some (gi (((120 * l) + k) + 1)), some (gi (m 158 (((120 * l) + k).toNat)))]) (st' := []) (M' := gw (gu m 167 tp.toNat (mNm mi a ((m 158 (((120 * l) + k).toNat)) - 10000))) ml) rfl ?_
            refine Go.dropl 5 ?_
            refine Go.run hsz hn1 0 (pc' := 8) (lv' := [some (gr 148), some (gi l), some (gi a), some (gi (tp + 1)), some (gi (((120 * l) + k) + 1)), none]) (st' := []) (M' := gw (gu m 167 tp.toNat (mNm mi a ((m 158 (((120 * l) + k).toNat)) - 10000))) ml) rfl ?_
            have hB := eRl_push (v := mNm mi a ((m 158 (((120 * l) + k).toNat)) - 10000)) hst htp (show eq_ mi l.toNat k.toNat < 20000 by omega) (by first | (rw [if_pos (by omega)]; show mNm mi a (m 158 (((120 * l) + k).toNat) - 10000) = mNm mi a (eq_ mi l.toNat k.toNat - 10000); rw [ec]) | (rw [if_neg (by omega)]; exact ec))
            have h9 := ih (k + 1) (gu m 167 tp.toNat (mNm mi a ((m 158 (((120 * l) + k).toNat)) - 10000))) (tp + 1) (fun c j hc => (gu_other hc).trans (hm c j hc)) (gR32_gu hmR (by first | exact mNm_rng hv a0 a1 _ | exact hmR _ _)) (by rw [show (k + 1).toNat = k.toNat + 1 by omega]; exact hB.2) (by rw [show (k + 1).toNat = k.toNat + 1 by omega]; exact hB.1) (by omega) (by omega) (by omega)
            rw [show (120 * l) + (k + 1) = (120 * l) + k + 1 by omega] at h9
            exact h9
        · refine Go.run hsz hn1 14 (pc' := 93) (lv' := [some (gr 148), some (gi l), some (gi a), some (gi (tp + (-1))), some (gi ((120 * l) + k)), some (gi (m 158 (((120 * l) + k).toNat)))]) (st' := [gi ((tp + (-1)) - 1), gr 167, gi ((m 158 (((120 * l) + k).toNat)) - 20000), gi ((tp + (-1)) - 1), gr 167]) (M' := gw m ml) rfl ?_
          refine Go.iald (by rfl) (N := 120) (by rfl) (by omega) (by omega) (by decide) ?_
          refine Go.run hsz hn1 3 (pc' := 99) (lv' := [some (gr 148), some (gi l), some (gi a), some (gi (tp + (-1))), some (gi ((120 * l) + k)), some (gi (m 158 (((120 * l) + k).toNat)))]) (st' := [gi (tp + (-1)), gr 167, gi (m 167 (((tp + (-1)) - 1).toNat)), gi ((m 158 (((120 * l) + k).toNat)) - 20000), gi ((tp + (-1)) - 1), gr 167]) (M' := gw m ml) rfl ?_
          refine Go.iald (by rfl) (N := 120) (by rfl) (by omega) (by omega) (by decide) ?_
          refine Go.run hsz hn1 0 (pc' := 100) (lv' := [some (gr 148), some (gi l), some (gi a), some (gi (tp + (-1))), some (gi ((120 * l) + k)), some (gi (m 158 (((120 * l) + k).toNat)))]) (st' := [gi (m 167 ((tp + (-1)).toNat)), gi (m 167 (((tp + (-1)) - 1).toNat)), gi ((m 158 (((120 * l) + k).toNat)) - 20000), gi ((tp + (-1)) - 1), gr 167]) (M' := gw m ml) rfl ?_
          refine Go.callS (As := [gi ((m 158 (((120 * l) + k).toNat)) - 20000), gi (m 167 (((tp + (-1)) - 1).toNat)), gi (m 167 ((tp + (-1)).toNat))]) (st := [gi ((tp + (-1)) - 1), gr 167]) (mc1 := 0) (mc := 0) (ms1 := 0) (ms := 0) (by rfl) rfl (gcn 208 (by decide)).1 (gcn 208 (by decide)).2 (Nat.le_of_ble_eq_true rfl) (by omega) (cM_joined hsz (n := n - 1) (by omega) m ml ((m 158 (((120 * l) + k).toNat)) - 20000) (m 167 (((tp + (-1)) - 1).toNat)) (m 167 ((tp + (-1)).toNat)) (by omega) (hmR _ _) (hmR _ _)) ?_
          rintro _ _ ⟨rfl, rfl⟩
          refine Go.run hsz hn1 0 (pc' := 103) (lv' := [some (gr 148), some (gi l), some (gi a), some (gi (tp + (-1))), some (gi ((120 * l) + k)), some (gi (m 158 (((120 * l) + k).toNat)))]) (st' := [gi (jn ((m 158 (((120 * l) + k).toNat)) - 20000) (m 167 (((tp + (-1)) - 1).toNat)) (m 167 ((tp + (-1)).toNat))), gi ((tp + (-1)) - 1), gr 167]) (M' := gw m ml) rfl ?_
          refine Go.iast (by rfl) (N := 120) (by rfl) (by omega) (by omega) (by decide) ?_
          refine Go.run hsz hn1 3 (pc' := 8) (lv' := [some (gr 148), some (gi l), some (gi a), some (gi (tp + (-1))), some (gi (((120 * l) + k) + 1)), some (gi (m 158 (((120 * l) + k).toNat)))]) (st' := []) (M' := gw (gu m 167 (((tp + (-1)) - 1).toNat) (jn ((m 158 (((120 * l) + k).toNat)) - 20000) (m 167 (((tp + (-1)) - 1).toNat)) (m 167 ((tp + (-1)).toNat)))) ml) rfl ?_
          refine Go.dropl 5 ?_
          refine Go.run hsz hn1 0 (pc' := 8) (lv' := [some (gr 148), some (gi l), some (gi a), some (gi (tp + (-1))), some (gi (((120 * l) + k) + 1)), none]) (st' := []) (M' := gw (gu m 167 (((tp + (-1)) - 1).toNat) (jn ((m 158 (((120 * l) + k).toNat)) - 20000) (m 167 (((tp + (-1)) - 1).toNat)) (m 167 ((tp + (-1)).toNat)))) ml) rfl ?_
          have hB := eRl_bin (v := jn (eq_ mi l.toNat k.toNat - 20000) (m 167 (tp - 2).toNat) (m 167 (tp - 1).toNat)) hst htp (show 20000 ≤ eq_ mi l.toNat k.toNat by omega) (show eq_ mi l.toNat k.toNat < 30000 by omega) (by omega) rfl
          have h9 := ih (k + 1) (gu m 167 (tp - 2).toNat (jn (eq_ mi l.toNat k.toNat - 20000) (m 167 (tp - 2).toNat) (m 167 (tp - 1).toNat))) (tp - 1) (fun c j hc => (gu_other hc).trans (hm c j hc)) (gR32_gu hmR (jn_rng _ _ _)) (by rw [show (k + 1).toNat = k.toNat + 1 by omega]; exact hB.2) (by rw [show (k + 1).toNat = k.toNat + 1 by omega]; exact hB.1) (by omega) (by omega) (by omega)
          rw [show m 158 (((120 * l) + k).toNat) - 20000 = eq_ mi l.toNat k.toNat - 20000 by omega, show tp + (-1) - 1 = tp - 2 by omega, show tp + (-1) = tp - 1 by omega]
          rw [show (120 * l) + (k + 1) = (120 * l) + k + 1 by omega] at h9
          exact h9
      · refine Go.run hsz hn1 11 (pc' := 56) (lv' := [some (gr 148), some (gi l), some (gi a), some (gi tp), some (gi ((120 * l) + k)), some (gi (m 158 (((120 * l) + k).toNat)))]) (st' := [gi (tp - 1), gr 167, gi 0, gi (tp - 1), gr 167]) (M' := gw m ml) rfl ?_
        refine Go.iald (by rfl) (N := 120) (by rfl) (by omega) (by omega) (by decide) ?_
        refine Go.run hsz hn1 1 (pc' := 58) (lv' := [some (gr 148), some (gi l), some (gi a), some (gi tp), some (gi ((120 * l) + k)), some (gi (m 158 (((120 * l) + k).toNat)))]) (st' := [gi (0 - (m 167 ((tp - 1).toNat))), gi (tp - 1), gr 167]) (M' := gw m ml) rfl ?_
        refine Go.nrm ?_
        rw [show (0 - (m 167 ((tp - 1).toNat)) : Int) = -(m 167 ((tp - 1).toNat)) by omega]
        refine Go.run hsz hn1 0 (pc' := 58) (lv' := [some (gr 148), some (gi l), some (gi a), some (gi tp), some (gi ((120 * l) + k)), some (gi (m 158 (((120 * l) + k).toNat)))]) (st' := [gi (w32 (-(m 167 ((tp - 1).toNat)))), gi (tp - 1), gr 167]) (M' := gw m ml) rfl ?_
        refine Go.iast (by rfl) (N := 120) (by rfl) (by omega) (by omega) (by decide) ?_
        refine Go.run hsz hn1 3 (pc' := 8) (lv' := [some (gr 148), some (gi l), some (gi a), some (gi tp), some (gi (((120 * l) + k) + 1)), some (gi (m 158 (((120 * l) + k).toNat)))]) (st' := []) (M' := gw (gu m 167 ((tp - 1).toNat) (w32 (-(m 167 ((tp - 1).toNat))))) ml) rfl ?_
        refine Go.dropl 5 ?_
        refine Go.run hsz hn1 0 (pc' := 8) (lv' := [some (gr 148), some (gi l), some (gi a), some (gi tp), some (gi (((120 * l) + k) + 1)), none]) (st' := []) (M' := gw (gu m 167 ((tp - 1).toNat) (w32 (-(m 167 ((tp - 1).toNat))))) ml) rfl ?_
        have hB := eRl_neg hst htp (show eq_ mi l.toNat k.toNat = 30000 by omega) (by omega) rfl
        have h9 := ih (k + 1) (gu m 167 (tp - 1).toNat (w32 (-(m 167 (tp - 1).toNat)))) tp (fun c j hc => (gu_other hc).trans (hm c j hc)) (gR32_gu hmR (w32_rng _)) (by rw [show (k + 1).toNat = k.toNat + 1 by omega]; exact hB.2) (by rw [show (k + 1).toNat = k.toNat + 1 by omega]; exact hB.1) (by omega) (by omega) (by omega)
        rw [show (120 * l) + (k + 1) = (120 * l) + k + 1 by omega] at h9
        exact h9
set_option maxRecDepth 100000 in
set_option maxHeartbeats 4000000 in
theorem cM_worked {G : gG} (hsz : G.2.2.2.2.2.2 = true) {n : Nat} (hn : 5 ≤ n) (mi : Nat → Nat → Int) (ml : Nat → Nat → Int64) (l a : Int) (l0 : 0 ≤ l) (l1 : l ≤ 1) (a0 : 0 ≤ a) (a1 : a < mi 148 6) (hv : SV mi) (hz : 0 ≤ mi 157 l.toNat ∧ mi 157 l.toNat ≤ 120) (hok : eOK (eq_ mi l.toNat) (en_ mi a) (mi 157 l.toNat).toNat) : gM G 209 n 0 0 [gr 148, gi l, gi a] (gw mi ml) (fun r M => ∃ m, r = some (gi (eV mi l.toNat a)) ∧ M = gw m ml ∧ (∀ c j : Nat, c ≠ 167 → m c j = mi c j) ∧ gR32 m) := by
  have hn1 : 1 ≤ n := by omega
  refine gM.of mX12_worked okX12_worked (gcp 209 (by decide)).1 (gcp 209 (by decide)).2 (Nat.le_of_ble_eq_true rfl) ?_
  refine Go.run hsz hn1 6 (pc' := 8) (lv' := [some (gr 148), some (gi l), some (gi a), some (gi 0), some (gi (120 * l)), none]) (st' := []) (M' := gw mi ml) rfl ?_
  have h9 := lM_worked hsz hn mi ml l a l0 l1 a0 a1 hv hz hok ((mi 157 l.toNat).toNat + 1) 0 mi 0 (fun _ _ _ => rfl) hv.1 rfl (fun j hj => absurd hj (by show ¬ j < 0; omega)) (by omega) (by omega) (by omega)
  rw [show (120 * l) + 0 = 120 * l by omega] at h9
  exact h9
set_option maxRecDepth 100000 in
set_option maxHeartbeats 4000000 in
theorem cM_saysOf {G : gG} (hsz : G.2.2.2.2.2.2 = true) {n : Nat} (hn : 6 ≤ n) (mi : Nat → Nat → Int) (ml : Nat → Nat → Int64) (l a : Int) (l0 : 0 ≤ l) (l1 : l ≤ 1) (a0 : 0 ≤ a) (a1 : a < mi 148 6) (hv : SV mi) (hz : 0 ≤ mi 157 l.toNat ∧ mi 157 l.toNat ≤ 120) (hok : 0 < mi 157 l.toNat → eOK (eq_ mi l.toNat) (en_ mi a) (mi 157 l.toNat).toNat) : gM G 212 n 0 0 [gr 148, gi l, gi a] (gw mi ml) (fun r M => ∃ m, r = some (gi (mSays mi l.toNat a)) ∧ M = gw m ml ∧ (∀ c j : Nat, c ≠ 167 → m c j = mi c j) ∧ gR32 m) := by
  have hn1 : 1 ≤ n := by omega
  obtain ⟨hR, ht, hp, hq, hP, hQ⟩ := id hv
  have hc4 := (hP a a0 a1).2.2.2.2.1
  refine gM.of mX12_saysOf okX12_saysOf (gcp 212 (by decide)).1 (gcp 212 (by decide)).2 (Nat.le_of_ble_eq_true rfl) ?_
  refine Go.run hsz hn1 3 (pc' := 5) (lv' := [some (gr 148), some (gi l), some (gi a), none]) (st' := [gi l, gr 157]) (M' := gw mi ml) rfl ?_
  refine Go.iald (by rfl) (N := 2) (by rfl) (by omega) (by omega) (by decide) ?_
  refine Go.run hsz hn1 0 (pc' := 6) (lv' := [some (gr 148), some (gi l), some (gi a), none]) (st' := [gi (mi 157 l.toNat)]) (M' := gw mi ml) rfl ?_
  refine Go.if_le (by rfl) (hR _ _) (fun kq1 => ?_) (fun kq1 => ?_)
  · refine Go.run hsz hn1 3 (pc' := 34) (lv' := [some (gr 148), some (gi l), some (gi a), none]) (st' := [gi 4, gi a, gr 148]) (M' := gw mi ml) rfl ?_
    refine Go.callV (As := [gi a, gi 4]) (b := 148) (st := []) (mc1 := 0) (mc := 0) (ms1 := 0) (ms := 0) (by rfl) rfl (c := 11) (N := 46) (by rfl) (by decide) (by rfl) (gcn 165 (by decide)).1 (gcn 165 (by decide)).2 rfl (Nat.le_of_ble_eq_true rfl) (by omega) (cM_of hsz (n := n - 1) (by omega) mi ml a 4 (by omega) (by omega) (by omega) (by omega)) ?_
    rintro _ _ ⟨rfl, rfl⟩
    refine Go.run hsz hn1 5 (pc' := 44) (lv' := [some (gr 148), some (gi l), some (gi a), some (gi ((mOf mi a 4) - (mi 148 0)))]) (st' := [gi l]) (M' := gw mi ml) rfl ?_
    refine Go.if_ne (by rfl) ⟨by omega, by omega⟩ (fun kq2 => ?_) (fun kq2 => ?_)
    · refine Go.run hsz hn1 2 (pc' := 58) (lv' := [some (gr 148), some (gi l), some (gi a), some (gi ((mOf mi a 4) - (mi 148 0)))]) (st' := [gi 7, gi ((mOf mi a 4) - (mi 148 0))]) (M' := gw mi ml) rfl ?_
      refine Go.icmp_lt (by rfl) ⟨by omega, by omega⟩ ⟨by decide, by decide⟩ (fun kq3 => ?_) (fun kq3 => ?_)
      · refine Go.run hsz hn1 2 (pc' := 68) (lv' := [some (gr 148), some (gi l), some (gi a), some (gi ((mOf mi a 4) - (mi 148 0)))]) (st' := [gi 1, gi ((mOf mi a 4) - (mi 148 0))]) (M' := gw mi ml) rfl ?_
        refine Go.icmp_lt (by rfl) ⟨by omega, by omega⟩ ⟨by decide, by decide⟩ (fun kq4 => ?_) (fun kq4 => ?_)
        · refine Go.run hsz hn1 1 (pc' := 77) (lv' := [some (gr 148), some (gi l), some (gi a), some (gi ((mOf mi a 4) - (mi 148 0)))]) (st' := [gi 0]) (M' := gw mi ml) rfl ?_
          refine Go.iret (by rfl) ⟨mi, congrArg (fun z => some (gi z)) ?_, rfl, fun _ _ _ => rfl, hR⟩
          unfold mSays
          rcases (show l = 0 ∨ l = 1 by omega) with rfl | rfl
          · first | (exfalso; omega) | (first | (rw [if_pos (show 0 < mi 157 (0 : Int).toNat by omega)]; rfl) | (rw [if_neg (show ¬ 0 < mi 157 (0 : Int).toNat by omega)]; first | rfl | (simp only [show ¬ (1 : Int).toNat = 0 by decide, if_false]; (repeat' split) <;> omega)))
          · first | (exfalso; omega) | (first | (rw [if_pos (show 0 < mi 157 (1 : Int).toNat by omega)]; rfl) | (rw [if_neg (show ¬ 0 < mi 157 (1 : Int).toNat by omega)]; first | rfl | (simp only [show ¬ (1 : Int).toNat = 0 by decide, if_false]; (repeat' split) <;> omega)))
        · refine Go.run hsz hn1 2 (pc' := 77) (lv' := [some (gr 148), some (gi l), some (gi a), some (gi ((mOf mi a 4) - (mi 148 0)))]) (st' := [gi 50]) (M' := gw mi ml) rfl ?_
          refine Go.iret (by rfl) ⟨mi, congrArg (fun z => some (gi z)) ?_, rfl, fun _ _ _ => rfl, hR⟩
          unfold mSays
          rcases (show l = 0 ∨ l = 1 by omega) with rfl | rfl
          · first | (exfalso; omega) | (first | (rw [if_pos (show 0 < mi 157 (0 : Int).toNat by omega)]; rfl) | (rw [if_neg (show ¬ 0 < mi 157 (0 : Int).toNat by omega)]; first | rfl | (simp only [show ¬ (1 : Int).toNat = 0 by decide, if_false]; (repeat' split) <;> omega)))
          · first | (exfalso; omega) | (first | (rw [if_pos (show 0 < mi 157 (1 : Int).toNat by omega)]; rfl) | (rw [if_neg (show ¬ 0 < mi 157 (1 : Int).toNat by omega)]; first | rfl | (simp only [show ¬ (1 : Int).toNat = 0 by decide, if_false]; (repeat' split) <;> omega)))
      · refine Go.run hsz hn1 2 (pc' := 77) (lv' := [some (gr 148), some (gi l), some (gi a), some (gi ((mOf mi a 4) - (mi 148 0)))]) (st' := [gi 100]) (M' := gw mi ml) rfl ?_
        refine Go.iret (by rfl) ⟨mi, congrArg (fun z => some (gi z)) ?_, rfl, fun _ _ _ => rfl, hR⟩
        unfold mSays
        rcases (show l = 0 ∨ l = 1 by omega) with rfl | rfl
        · first | (exfalso; omega) | (first | (rw [if_pos (show 0 < mi 157 (0 : Int).toNat by omega)]; rfl) | (rw [if_neg (show ¬ 0 < mi 157 (0 : Int).toNat by omega)]; first | rfl | (simp only [show ¬ (1 : Int).toNat = 0 by decide, if_false]; (repeat' split) <;> omega)))
        · first | (exfalso; omega) | (first | (rw [if_pos (show 0 < mi 157 (1 : Int).toNat by omega)]; rfl) | (rw [if_neg (show ¬ 0 < mi 157 (1 : Int).toNat by omega)]; first | rfl | (simp only [show ¬ (1 : Int).toNat = 0 by decide, if_false]; (repeat' split) <;> omega)))
    · refine Go.run hsz hn1 2 (pc' := 49) (lv' := [some (gr 148), some (gi l), some (gi a), some (gi ((mOf mi a 4) - (mi 148 0)))]) (st' := [gi a, gr 148]) (M' := gw mi ml) rfl ?_
      refine Go.callV (As := [gi a]) (b := 148) (st := []) (mc1 := 0) (mc := 0) (ms1 := 0) (ms := 0) (by rfl) rfl (c := 11) (N := 46) (by rfl) (by decide) (by rfl) (gcn 210 (by decide)).1 (gcn 210 (by decide)).2 rfl (Nat.le_of_ble_eq_true rfl) (by omega) (cM_priceBy hsz (n := n - 1) (by omega) mi ml a (by omega) (by omega) hR (hP a a0 a1)) ?_
      rintro _ _ ⟨rfl, rfl⟩
      refine Go.run hsz hn1 1 (pc' := 77) (lv' := [some (gr 148), some (gi l), some (gi a), some (gi ((mOf mi a 4) - (mi 148 0)))]) (st' := [gi (mPrice mi a)]) (M' := gw mi ml) rfl ?_
      refine Go.iret (by rfl) ⟨mi, congrArg (fun z => some (gi z)) ?_, rfl, fun _ _ _ => rfl, hR⟩
      unfold mSays
      rcases (show l = 0 ∨ l = 1 by omega) with rfl | rfl
      · first | (exfalso; omega) | (first | (rw [if_pos (show 0 < mi 157 (0 : Int).toNat by omega)]; rfl) | (rw [if_neg (show ¬ 0 < mi 157 (0 : Int).toNat by omega)]; first | rfl | (simp only [show ¬ (1 : Int).toNat = 0 by decide, if_false]; (repeat' split) <;> omega)))
      · first | (exfalso; omega) | (first | (rw [if_pos (show 0 < mi 157 (1 : Int).toNat by omega)]; rfl) | (rw [if_neg (show ¬ 0 < mi 157 (1 : Int).toNat by omega)]; first | rfl | (simp only [show ¬ (1 : Int).toNat = 0 by decide, if_false]; (repeat' split) <;> omega)))
  · refine Go.run hsz hn1 3 (pc' := 12) (lv' := [some (gr 148), some (gi l), some (gi a), none]) (st' := [gi a, gi l, gr 148]) (M' := gw mi ml) rfl ?_
    refine Go.callV (As := [gi l, gi a]) (b := 148) (st := []) (mc1 := 0) (mc := 0) (ms1 := 0) (ms := 0) (by rfl) rfl (c := 11) (N := 46) (by rfl) (by decide) (by rfl) (gcn 209 (by decide)).1 (gcn 209 (by decide)).2 rfl (Nat.le_of_ble_eq_true rfl) (by omega) (cM_worked hsz (n := n - 1) (by omega) mi ml l a l0 l1 a0 a1 hv hz (hok (by omega))) ?_
    rintro _ _ ⟨m, rfl, rfl, hm, hmR⟩
    have her := eV_rng hv a0 a1 l.toNat
    refine Go.run hsz hn1 1 (pc' := 16) (lv' := [some (gr 148), some (gi l), some (gi a), none]) (st' := [gi l, gi (eV mi l.toNat a)]) (M' := gw m ml) rfl ?_
    refine Go.if_ne (by rfl) ⟨by omega, by omega⟩ (fun kq5 => ?_) (fun kq5 => ?_)
    · refine Go.run hsz hn1 1 (pc' := 27) (lv' := [some (gr 148), some (gi l), some (gi a), none]) (st' := [gi 100, gi (eV mi l.toNat a)]) (M' := gw m ml) rfl ?_
      refine Go.callS (As := [gi (eV mi l.toNat a), gi 100]) (st := []) (mc1 := 0) (mc := 0) (ms1 := 0) (ms := 0) (by rfl) rfl (gcn 211 (by decide)).1 (gcn 211 (by decide)).2 (Nat.le_of_ble_eq_true rfl) (by omega) (cM_held hsz (n := n - 1) (by omega) m ml (eV mi l.toNat a) 100 her ⟨by decide, by decide⟩) ?_
      rintro _ _ ⟨rfl, rfl⟩
      refine Go.run hsz hn1 0 (pc' := 30) (lv' := [some (gr 148), some (gi l), some (gi a), none]) (st' := [gi (clp 100 (eV mi l.toNat a))]) (M' := gw m ml) rfl ?_
      refine Go.iret (by rfl) ⟨m, congrArg (fun z => some (gi z)) ?_, rfl, hm, hmR⟩
      unfold mSays
      rcases (show l = 0 ∨ l = 1 by omega) with rfl | rfl
      · first | (exfalso; omega) | (first | (rw [if_pos (show 0 < mi 157 (0 : Int).toNat by omega)]; rfl) | (rw [if_neg (show ¬ 0 < mi 157 (0 : Int).toNat by omega)]; first | rfl | (simp only [show ¬ (1 : Int).toNat = 0 by decide, if_false]; (repeat' split) <;> omega)))
      · first | (exfalso; omega) | (first | (rw [if_pos (show 0 < mi 157 (1 : Int).toNat by omega)]; rfl) | (rw [if_neg (show ¬ 0 < mi 157 (1 : Int).toNat by omega)]; first | rfl | (simp only [show ¬ (1 : Int).toNat = 0 by decide, if_false]; (repeat' split) <;> omega)))
    · refine Go.run hsz hn1 2 (pc' := 27) (lv' := [some (gr 148), some (gi l), some (gi a), none]) (st' := [gi 9999, gi (eV mi l.toNat a)]) (M' := gw m ml) rfl ?_
      refine Go.callS (As := [gi (eV mi l.toNat a), gi 9999]) (st := []) (mc1 := 0) (mc := 0) (ms1 := 0) (ms := 0) (by rfl) rfl (gcn 211 (by decide)).1 (gcn 211 (by decide)).2 (Nat.le_of_ble_eq_true rfl) (by omega) (cM_held hsz (n := n - 1) (by omega) m ml (eV mi l.toNat a) 9999 her ⟨by decide, by decide⟩) ?_
      rintro _ _ ⟨rfl, rfl⟩
      refine Go.run hsz hn1 0 (pc' := 30) (lv' := [some (gr 148), some (gi l), some (gi a), none]) (st' := [gi (clp 9999 (eV mi l.toNat a))]) (M' := gw m ml) rfl ?_
      refine Go.iret (by rfl) ⟨m, congrArg (fun z => some (gi z)) ?_, rfl, hm, hmR⟩
      unfold mSays
      rcases (show l = 0 ∨ l = 1 by omega) with rfl | rfl
      · first | (exfalso; omega) | (first | (rw [if_pos (show 0 < mi 157 (0 : Int).toNat by omega)]; rfl) | (rw [if_neg (show ¬ 0 < mi 157 (0 : Int).toNat by omega)]; first | rfl | (simp only [show ¬ (1 : Int).toNat = 0 by decide, if_false]; (repeat' split) <;> omega)))
      · first | (exfalso; omega) | (first | (rw [if_pos (show 0 < mi 157 (1 : Int).toNat by omega)]; rfl) | (rw [if_neg (show ¬ 0 < mi 157 (1 : Int).toNat by omega)]; first | rfl | (simp only [show ¬ (1 : Int).toNat = 0 by decide, if_false]; (repeat' split) <;> omega)))

/-! ===== plan: the class gathers and looks ===== -/
set_option maxRecDepth 100000 in
set_option maxHeartbeats 4000000 in
theorem lP_gat {G : gG} (hsz : G.2.2.2.2.2.2 = true) {n : Nat} (hn : 1 ≤ n) (ml : Nat → Nat → Int64) (mi : Nat → Nat → Int) (hN : 0 ≤ mi 1 3 ∧ mi 1 3 ≤ 24) (X : Nat) (hX : X < 16777216) (hX4 : popN X (mi 1 3).toNat ≤ 4) : ∀ (f : Nat) (q : Int) (m : Nat → Nat → Int) (hm : cgM mi m X q.toNat), 0 ≤ q → q ≤ mi 1 3 → mi 1 3 - q < f → Go G mX5_gather n 0 0 7 [some (gr 110), some (gi ((X : Nat) : Int)), some (gi q)] [] (gw m ml) (fun r M => r = none ∧ ∃ m1 : Nat → Nat → Int, M = gw m1 ml ∧ cgM mi m1 X (mi 1 3).toNat) := by
  have hn1 : 1 ≤ n := by omega

  intro f
  induction f with
  | zero => intros; omega
  | succ f ih =>
    intro q m hm q0 q1 q2
    have e13 : m 1 3 = mi 1 3 := hm.1.2 1 3 (by decide) (by decide)
    have e20 : m 110 2 = popN X q.toNat := hm.2.1
    have hbt : q < mi 1 3 → (X.testBit q.toNat = true ∧ andI (shrI ((X : Nat) : Int) q) 1 = 1) ∨ (X.testBit q.toNat = false ∧ andI (shrI ((X : Nat) : Int) q) 1 = 0) := fun w9 => (by rw [bit_nat hX (k := q) (by omega) (by omega)]; cases X.testBit q.toNat <;> simp)
    have hpu : q < mi 1 3 → ¬ andI (shrI ((X : Nat) : Int) q) 1 = 0 → popN X q.toNat < popN X (mi 1 3).toNat := fun w9 w8 => (by rcases hbt w9 with w7 | w7; (· exact popN_up (by omega) w7.1); (· exfalso; omega))
    refine Go.run hsz hn1 4 (pc' := 15) (lv' := [some (gr 110), some (gi ((X : Nat) : Int)), some (gi q)]) (st' := [gi (m 1 3), gi q]) (M' := gw m ml) rfl ?_
    refine Go.icmp_ge (by rfl) ⟨by omega, by omega⟩ (hm.1.1 _ _) (fun kq1 => ?_) (fun kq1 => ?_)
    · have hq9 : q.toNat = (mi 1 3).toNat := (by omega)
      rw [hq9] at hm
      exact Go.vret (by rfl) ⟨rfl, m, rfl, hm⟩
    · refine Go.run hsz hn1 5 (pc' := 23) (lv' := [some (gr 110), some (gi ((X : Nat) : Int)), some (gi q)]) (st' := [gi (andI (shrI ((X : Nat) : Int) q) 1)]) (M' := gw m ml) rfl ?_
      refine Go.if_eq (by rfl) (rng_of _) (fun kq2 => ?_) (fun kq2 => ?_)
      · refine Go.run hsz hn1 2 (pc' := 7) (lv' := [some (gr 110), some (gi ((X : Nat) : Int)), some (gi (q + 1))]) (st' := []) (M' := gw m ml) rfl ?_
        first | (exfalso; omega) | (exact ih (q + 1) m (by rw [show (q + 1).toNat = q.toNat + 1 by omega]; exact cgM_no hm (by rcases hbt (by omega) with w9 | w9; (· exfalso; omega); (· exact w9.1))) (by omega) (by omega) (by omega))
      · refine Go.run hsz hn1 3 (pc' := 31) (lv' := [some (gr 110), some (gi ((X : Nat) : Int)), some (gi q)]) (st' := [gi 4, gi (m 110 2)]) (M' := gw m ml) rfl ?_
        refine Go.icmp_ge (by rfl) (hm.1.1 _ _) ⟨by decide, by decide⟩ (fun kq3 => ?_) (fun kq3 => ?_)
        · refine Go.run hsz hn1 2 (pc' := 7) (lv' := [some (gr 110), some (gi ((X : Nat) : Int)), some (gi (q + 1))]) (st' := []) (M' := gw m ml) rfl ?_
          first | (exfalso; omega) | (exact ih (q + 1) m (by rw [show (q + 1).toNat = q.toNat + 1 by omega]; exact cgM_no hm (by rcases hbt (by omega) with w9 | w9; (· exfalso; omega); (· exact w9.1))) (by omega) (by omega) (by omega))
        · refine Go.run hsz hn1 5 (pc' := 43) (lv' := [some (gr 110), some (gi ((X : Nat) : Int)), some (gi q)]) (st' := [gi q, gi (m 110 2), gr 111]) (M' := gw m ml) rfl ?_
          refine Go.iast (by rfl) (N := 4) (by rfl) (by omega) (by omega) (by decide) ?_
          refine Go.run hsz hn1 3 (pc' := 49) (lv' := [some (gr 110), some (gi ((X : Nat) : Int)), some (gi q)]) (st' := [gi ((gu m 111 ((m 110 2).toNat) q) 110 2), gr 110]) (M' := gw (gu m 111 ((m 110 2).toNat) q) ml) rfl ?_
          refine Go.run hsz hn1 0 (pc' := 49) (lv' := [some (gr 110), some (gi ((X : Nat) : Int)), some (gi q)]) (st' := [gi ((gu m 111 ((m 110 2).toNat) q) 110 2), gr 110]) (M' := gw (gu m 111 ((m 110 2).toNat) q) ml) rfl ?_
          rw [show (gu m 111 ((m 110 2).toNat) q) 110 2 = m 110 2 from gu_ne (Or.inl (by decide))]
          refine Go.run hsz hn1 5 (pc' := 7) (lv' := [some (gr 110), some (gi ((X : Nat) : Int)), some (gi (q + 1))]) (st' := []) (M' := gw (gu (gu m 111 ((m 110 2).toNat) q) 110 2 ((m 110 2) + 1)) ml) rfl ?_
          exact ih (q + 1) _ (by rw [show (q + 1).toNat = q.toNat + 1 by omega]; exact cgM_add hm (by rcases hbt (by omega) with w9 | w9; (· exact w9.1); (· exfalso; omega)) (by omega) (by omega) (by omega) (by omega) (by omega)) (by omega) (by omega) (by omega)
set_option maxRecDepth 100000 in
set_option maxHeartbeats 4000000 in
theorem cP_gat {G : gG} (hsz : G.2.2.2.2.2.2 = true) {n : Nat} (hn : 2 ≤ n) (ml : Nat → Nat → Int64) (mi : Nat → Nat → Int) (hN : 0 ≤ mi 1 3 ∧ mi 1 3 ≤ 24) (X : Nat) (hX : X < 16777216) (hX4 : popN X (mi 1 3).toNat ≤ 4) (hR : gR32 mi) : gM G 34 n 0 0 [gr 110, gi ((X : Nat) : Int)] (gw mi ml) (fun r M => r = none ∧ ∃ m1 : Nat → Nat → Int, M = gw m1 ml ∧ cgM mi m1 X (mi 1 3).toNat) := by
  have hn1 : 1 ≤ n := by omega
  refine gM.of mX5_gather okX5_gather (gcp 34 (by decide)).1 (gcp 34 (by decide)).2 (Nat.le_of_ble_eq_true rfl) ?_
  refine Go.run hsz hn1 5 (pc' := 7) (lv' := [some (gr 110), some (gi ((X : Nat) : Int)), some (gi 0)]) (st' := []) (M' := gw (gu mi 110 2 0) ml) rfl ?_
  exact lP_gat hsz (n := n) (by omega) ml mi hN X hX hX4 ((mi 1 3).toNat + 1) 0 _ (cgM_0 hR X) (by omega) (by omega) (by omega)
set_option maxRecDepth 100000 in
set_option maxHeartbeats 4000000 in
theorem cP_wish {G : gG} (hsz : G.2.2.2.2.2.2 = true) {n : Nat} (hn : 1 ≤ n) (ml : Nat → Nat → Int64) (m : Nat → Nat → Int) (hR : gR32 m) (a b : Int) (ha : 0 ≤ a ∧ a < 24) (hb : 0 ≤ b ∧ b < 24) : gM G 37 n 0 0 [gr 110, gi a, gi b] (gw m ml) (gret (cWs m a b) (gw m ml)) := by
  refine gM.of mX5_wishesBetween okX5_wishesBetween (gcp 37 (by decide)).1 (gcp 37 (by decide)).2 (Nat.le_of_ble_eq_true rfl) ?_
  refine Go.run hsz hn 4 (pc' := 8) (lv' := [some (gr 110), some (gi a), some (gi b)]) (st' := [gi a, gr 3]) (M' := gw m ml) rfl ?_
  refine Go.aaldR 4 (by rfl) (N := 24) (by rfl) ⟨by decide, by decide⟩ (by omega) (by omega) (by decide) (gMR_3 (by omega) (by omega)) ?_
  refine Go.getf (by rfl) (c := 2) (N := 14) (shA (i := a) (by omega)) ?_
  refine Go.run hsz hn 1 (pc' := 13) (lv' := [some (gr 110), some (gi a), some (gi b)]) (st' := [gi b, gi (m (24 + a.toNat) 9)]) (M' := gw m ml) rfl ?_
  refine Go.icmp_ne (by rfl) (hR _ _) ⟨by omega, by omega⟩ (fun kq1 => ?_) (fun kq1 => ?_)
  · refine Go.run hsz hn 5 (pc' := 29) (lv' := [some (gr 110), some (gi a), some (gi b)]) (st' := [gi b, gr 3, gi 0]) (M' := gw m ml) rfl ?_
    refine Go.aaldR 4 (by rfl) (N := 24) (by rfl) ⟨by decide, by decide⟩ (by omega) (by omega) (by decide) (gMR_3 (by omega) (by omega)) ?_
    refine Go.run hsz hn 0 (pc' := 30) (lv' := [some (gr 110), some (gi a), some (gi b)]) (st' := [gr (24 + b.toNat), gi 0]) (M' := gw m ml) rfl ?_
    refine Go.getf (by rfl) (c := 2) (N := 14) (shA (i := b) (by omega)) ?_
    refine Go.run hsz hn 1 (pc' := 34) (lv' := [some (gr 110), some (gi a), some (gi b)]) (st' := [gi a, gi (m (24 + b.toNat) 9), gi 0]) (M' := gw m ml) rfl ?_
    refine Go.icmp_ne (by rfl) (hR _ _) ⟨by omega, by omega⟩ (fun kq2 => ?_) (fun kq2 => ?_)
    · refine Go.run hsz hn 2 (pc' := 43) (lv' := [some (gr 110), some (gi a), some (gi b)]) (st' := [gi 0]) (M' := gw m ml) rfl ?_
      exact Go.iret (by rfl) ⟨congrArg (fun z => some (gi z)) (by unfold cWs; (first | rw [if_pos (by omega), if_pos (by omega)] | rw [if_pos (by omega), if_neg (by omega)] | rw [if_neg (by omega), if_pos (by omega)] | rw [if_neg (by omega), if_neg (by omega)]); decide), rfl⟩
    · refine Go.run hsz hn 3 (pc' := 43) (lv' := [some (gr 110), some (gi a), some (gi b)]) (st' := [gi 1]) (M' := gw m ml) rfl ?_
      exact Go.iret (by rfl) ⟨congrArg (fun z => some (gi z)) (by unfold cWs; (first | rw [if_pos (by omega), if_pos (by omega)] | rw [if_pos (by omega), if_neg (by omega)] | rw [if_neg (by omega), if_pos (by omega)] | rw [if_neg (by omega), if_neg (by omega)]); decide), rfl⟩
  · refine Go.run hsz hn 6 (pc' := 29) (lv' := [some (gr 110), some (gi a), some (gi b)]) (st' := [gi b, gr 3, gi 1]) (M' := gw m ml) rfl ?_
    refine Go.aaldR 4 (by rfl) (N := 24) (by rfl) ⟨by decide, by decide⟩ (by omega) (by omega) (by decide) (gMR_3 (by omega) (by omega)) ?_
    refine Go.run hsz hn 0 (pc' := 30) (lv' := [some (gr 110), some (gi a), some (gi b)]) (st' := [gr (24 + b.toNat), gi 1]) (M' := gw m ml) rfl ?_
    refine Go.getf (by rfl) (c := 2) (N := 14) (shA (i := b) (by omega)) ?_
    refine Go.run hsz hn 1 (pc' := 34) (lv' := [some (gr 110), some (gi a), some (gi b)]) (st' := [gi a, gi (m (24 + b.toNat) 9), gi 1]) (M' := gw m ml) rfl ?_
    refine Go.icmp_ne (by rfl) (hR _ _) ⟨by omega, by omega⟩ (fun kq3 => ?_) (fun kq3 => ?_)
    · refine Go.run hsz hn 2 (pc' := 43) (lv' := [some (gr 110), some (gi a), some (gi b)]) (st' := [gi 1]) (M' := gw m ml) rfl ?_
      exact Go.iret (by rfl) ⟨congrArg (fun z => some (gi z)) (by unfold cWs; (first | rw [if_pos (by omega), if_pos (by omega)] | rw [if_pos (by omega), if_neg (by omega)] | rw [if_neg (by omega), if_pos (by omega)] | rw [if_neg (by omega), if_neg (by omega)]); decide), rfl⟩
    · refine Go.run hsz hn 3 (pc' := 43) (lv' := [some (gr 110), some (gi a), some (gi b)]) (st' := [gi 2]) (M' := gw m ml) rfl ?_
      exact Go.iret (by rfl) ⟨congrArg (fun z => some (gi z)) (by unfold cWs; (first | rw [if_pos (by omega), if_pos (by omega)] | rw [if_pos (by omega), if_neg (by omega)] | rw [if_neg (by omega), if_pos (by omega)] | rw [if_neg (by omega), if_neg (by omega)]); decide), rfl⟩
def awM (m m1 : Nat → Nat → Int) (i q : Nat) (W : Int) (F : Nat → Int) : Prop := (gR32 m1 ∧ ∀ a k : Nat, a ≠ 116 + i → m1 a k = m a k) ∧ (∀ k : Nat, k < q → m1 (116 + i) k = m (116 + i) k + W * F k) ∧ ∀ k : Nat, q ≤ k → m1 (116 + i) k = m (116 + i) k
theorem awM_s {m m1 : Nat → Nat → Int} {i q : Nat} {W : Int} {F : Nat → Int} (h : awM m m1 i q W F) {c j : Nat} {v : Int} (hc : c = 116 + i) (hj : j = q) (hv : v = m1 (116 + i) q + W * F q) (hr : rng v) : awM m (gu m1 c j v) i (q + 1) W F := by
  subst hc
  subst hj
  refine ⟨⟨gR32_gu h.1.1 hr, fun a k h1 => by rw [gu_other h1]; exact h.1.2 a k h1⟩, fun k hk => ?_, fun k hk => by rw [gu_ne (Or.inr (by omega))]; exact h.2.2 k (by omega)⟩
  by_cases e : k = j
  · rw [e, gu_self, hv, h.2.2 j (Nat.le_refl _)]
  · rw [gu_ne (Or.inr e)]
    exact h.2.1 k (by omega)
set_option maxRecDepth 100000 in
set_option maxHeartbeats 4000000 in
theorem lP_aw {G : gG} (hsz : G.2.2.2.2.2.2 = true) {n : Nat} (hn : 3 ≤ n) (ml : Nat → Nat → Int64) (u : Nat → Nat → Int) (hv : SV u) (m : Nat → Nat → Int) (hCV : CV m) (hm2 : m 1 2 = u 148 2) (hfar : ∀ p q : Int, 0 ≤ p → p < u 148 2 → 0 ≤ q → q < u 148 2 → cFar m p q = mFar u p q) (x : Int) (i : Nat) (hx : x = i) (hi : i < 4) (y : Int) (hy : 0 ≤ y ∧ y < 24) (W : Int) (hW : 0 ≤ W ∧ W ≤ 2) (O9 : Int) (hO9 : m (24 + y.toNat) 8 = O9) (hO : 0 ≤ O9 ∧ O9 < u 148 2) (hrow : ∀ p : Nat, (p : Int) < u 148 2 → 0 ≤ m (116 + i) p ∧ m (116 + i) p ≤ 10000) : ∀ (f : Nat) (q : Int) (m1 : Nat → Nat → Int) (hw : awM m m1 i q.toNat W (fun k => mFar u (k : Int) O9)), 0 ≤ q → q ≤ u 148 2 → u 148 2 - q < f → Go G mX5_addWays n 0 0 15 [some (gr 110), some (gi x), some (gi y), some (gi W), some (gi q)] [] (gw m1 ml) (fun r M => r = none ∧ ∃ m1 : Nat → Nat → Int, M = gw m1 ml ∧ awM m m1 i (u 148 2).toNat W (fun k => mFar u (k : Int) O9)) := by
  have hn1 : 1 ≤ n := by omega
  have hP : 0 ≤ u 148 2 ∧ u 148 2 ≤ 12 := hv.2.2.1
  have hxn : x.toNat = i := (by omega)
  intro f
  induction f with
  | zero => intros; omega
  | succ f ih =>
    intro q m1 hw q0 q1 q2
    have e12 : m1 1 2 = u 148 2 := (hw.1.2 1 2 (by omega)).trans hm2
    have e8 : m1 (24 + y.toNat) 8 = O9 := (hw.1.2 _ 8 (by omega)).trans hO9
    refine Go.run hsz hn1 1 (pc' := 16) (lv' := [some (gr 110), some (gi x), some (gi y), some (gi W), some (gi q)]) (st' := [gi W]) (M' := gw m1 ml) rfl ?_
    refine Go.if_le (by rfl) ⟨by omega, by omega⟩ (fun kq1 => ?_) (fun kq1 => ?_)
    · by_cases hq9 : q.toNat = (u 148 2).toNat
      · rw [hq9] at hw; exact Go.vret (by rfl) ⟨rfl, m1, rfl, hw⟩
      · have hW0 : W = 0 := (by omega)
        subst hW0
        refine Go.vret (by rfl) ⟨rfl, m1, rfl, hw.1, fun k hk => ?_, fun k hk => hw.2.2 k (by omega)⟩
        by_cases w8 : k < q.toNat
        · exact hw.2.1 k w8
        · rw [Int.zero_mul, Int.add_zero]; exact hw.2.2 k (by omega)
    · refine Go.run hsz hn1 4 (pc' := 28) (lv' := [some (gr 110), some (gi x), some (gi y), some (gi W), some (gi q)]) (st' := [gi (m1 1 2), gi q]) (M' := gw m1 ml) rfl ?_
      refine Go.icmp_ge (by rfl) ⟨by omega, by omega⟩ (hw.1.1 _ _) (fun kq2 => ?_) (fun kq2 => ?_)
      · by_cases hq9 : q.toNat = (u 148 2).toNat
        · rw [hq9] at hw; exact Go.vret (by rfl) ⟨rfl, m1, rfl, hw⟩
        · have hW0 : W = 0 := (by omega)
          subst hW0
          refine Go.vret (by rfl) ⟨rfl, m1, rfl, hw.1, fun k hk => ?_, fun k hk => hw.2.2 k (by omega)⟩
          by_cases w8 : k < q.toNat
          · exact hw.2.1 k w8
          · rw [Int.zero_mul, Int.add_zero]; exact hw.2.2 k (by omega)
      · refine Go.run hsz hn1 3 (pc' := 36) (lv' := [some (gr 110), some (gi x), some (gi y), some (gi W), some (gi q)]) (st' := [gi x, gr 115]) (M' := gw m1 ml) rfl ?_
        refine Go.aaldR 7 (by rfl) (N := 4) (by rfl) ⟨by decide, by decide⟩ (by omega) (by omega) (by decide) (gMR_115 (by omega) (by omega)) ?_
        refine Go.run hsz hn1 2 (pc' := 40) (lv' := [some (gr 110), some (gi x), some (gi y), some (gi W), some (gi q)]) (st' := [gi q, gr (116 + x.toNat), gi q, gr (116 + x.toNat)]) (M' := gw m1 ml) rfl ?_
        refine Go.iald (by rfl) (N := 12) (shW (i := x) (by omega)) (by omega) (by omega) (by decide) ?_
        refine Go.run hsz hn1 8 (pc' := 56) (lv' := [some (gr 110), some (gi x), some (gi y), some (gi W), some (gi q)]) (st' := [gi y, gr 3, gi q, gr 1, gi W, gi (m1 (116 + x.toNat) q.toNat), gi q, gr (116 + x.toNat)]) (M' := gw m1 ml) rfl ?_
        refine Go.aaldR 4 (by rfl) (N := 24) (by rfl) ⟨by decide, by decide⟩ (by omega) (by omega) (by decide) (gMR_3 (by omega) (by omega)) ?_
        refine Go.run hsz hn1 0 (pc' := 57) (lv' := [some (gr 110), some (gi x), some (gi y), some (gi W), some (gi q)]) (st' := [gr (24 + y.toNat), gi q, gr 1, gi W, gi (m1 (116 + x.toNat) q.toNat), gi q, gr (116 + x.toNat)]) (M' := gw m1 ml) rfl ?_
        refine Go.getf (by rfl) (c := 2) (N := 14) (shA (i := y) (by omega)) ?_
        refine Go.run hsz hn1 0 (pc' := 60) (lv' := [some (gr 110), some (gi x), some (gi y), some (gi W), some (gi q)]) (st' := [gi (m1 (24 + y.toNat) 8), gi q, gr 1, gi W, gi (m1 (116 + x.toNat) q.toNat), gi q, gr (116 + x.toNat)]) (M' := gw m1 ml) rfl ?_
        have hfq : cFar m1 q O9 = mFar u q O9 := (by rw [← hfar q O9 (by omega) (by omega) (by omega) (by omega)]; unfold cFar cP; rw [hw.1.2 _ _ (by omega), hw.1.2 _ _ (by omega), hw.1.2 _ _ (by omega), hw.1.2 _ _ (by omega)])
        have hfb := mFar_b (hv.2.2.2.2.2 q (by omega) (by omega)) (hv.2.2.2.2.2 O9 (by omega) (by omega))
        have hwf := wf_b hW hfb
        have hq1 : CQV m1 q := (by have w9 := hCV.2.2.2.2.2 q (by omega) (by omega); unfold CQV cP at w9 ⊢; simp only [hw.1.2 (12 + q.toNat) _ (show 12 + q.toNat ≠ 116 + i by omega)]; exact w9)
        have hq2 : CQV m1 O9 := (by have w9 := hCV.2.2.2.2.2 O9 (by omega) (by omega); unfold CQV cP at w9 ⊢; simp only [hw.1.2 (12 + O9.toNat) _ (show 12 + O9.toNat ≠ 116 + i by omega)]; exact w9)
        rw [e8]
        refine Go.callV (As := [gi q, gi O9]) (b := 1) (st := [gi W, gi (m1 (116 + x.toNat) q.toNat), gi q, gr (116 + x.toNat)]) (mc1 := 0) (mc := 0) (ms1 := 0) (ms := 0) (by rfl) rfl (c := 7) (N := 11) (by rfl) (by decide) (by rfl) (gcn 69 (by decide)).1 (gcn 69 (by decide)).2 rfl (Nat.le_of_ble_eq_true rfl) (by omega) (cS_dist hsz (n := n - 1) (by omega) m1 ml q O9 (by omega) (by omega) (by omega) (by omega) hq1 hq2) ?_
        rintro _ _ ⟨rfl, rfl⟩
        rw [hfq]
        refine Go.run hsz hn1 2 (pc' := 65) (lv' := [some (gr 110), some (gi x), some (gi y), some (gi W), some (gi q)]) (st' := [gi ((m1 (116 + x.toNat) q.toNat) + (W * (mFar u q O9))), gi q, gr (116 + x.toNat)]) (M' := gw m1 ml) rfl ?_
        refine Go.iast (by rfl) (N := 12) (shW (i := x) (by omega)) (by omega) (by omega) (by decide) ?_
        refine Go.run hsz hn1 2 (pc' := 15) (lv' := [some (gr 110), some (gi x), some (gi y), some (gi W), some (gi (q + 1))]) (st' := []) (M' := gw (gu m1 (116 + x.toNat) q.toNat ((m1 (116 + x.toNat) q.toNat) + (W * (mFar u q O9)))) ml) rfl ?_
        have hrq := hrow q.toNat (by omega)
        have hkq := hw.2.2 q.toNat (Nat.le_refl _)
        exact ih (q + 1) _ (by rw [show (q + 1).toNat = q.toNat + 1 by omega]; exact awM_s hw (by omega) rfl (by rw [hxn]; show _ = _ + W * mFar u ((q.toNat : Nat) : Int) O9; rw [show ((q.toNat : Nat) : Int) = q by omega]) ⟨by rw [hxn]; omega, by rw [hxn]; omega⟩) (by omega) (by omega) (by omega)
set_option maxRecDepth 100000 in
set_option maxHeartbeats 4000000 in
theorem cP_aw {G : gG} (hsz : G.2.2.2.2.2.2 = true) {n : Nat} (hn : 4 ≤ n) (ml : Nat → Nat → Int64) (u : Nat → Nat → Int) (hv : SV u) (m : Nat → Nat → Int) (hCV : CV m) (hm2 : m 1 2 = u 148 2) (hfar : ∀ p q : Int, 0 ≤ p → p < u 148 2 → 0 ≤ q → q < u 148 2 → cFar m p q = mFar u p q) (x : Int) (i : Nat) (hx : x = i) (hi : i < 4) (y : Int) (hy : 0 ≤ y ∧ y < 24) (W : Int) (hW : 0 ≤ W ∧ W ≤ 2) (O9 : Int) (hO9 : m (24 + y.toNat) 8 = O9) (hO : 0 ≤ O9 ∧ O9 < u 148 2) (hrow : ∀ p : Nat, (p : Int) < u 148 2 → 0 ≤ m (116 + i) p ∧ m (116 + i) p ≤ 10000) (ha : 0 ≤ m 111 x.toNat ∧ m 111 x.toNat < 24) (hWs : cWs m (m 111 x.toNat) y = W) : gM G 36 n 0 0 [gr 110, gi x, gi y] (gw m ml) (fun r M => r = none ∧ ∃ m1 : Nat → Nat → Int, M = gw m1 ml ∧ awM m m1 i (u 148 2).toNat W (fun k => mFar u (k : Int) O9)) := by
  have hn1 : 1 ≤ n := by omega
  have hP : 0 ≤ u 148 2 ∧ u 148 2 ≤ 12 := hv.2.2.1
  refine gM.of mX5_addWays okX5_addWays (gcp 36 (by decide)).1 (gcp 36 (by decide)).2 (Nat.le_of_ble_eq_true rfl) ?_
  refine Go.run hsz hn1 4 (pc' := 6) (lv' := [some (gr 110), some (gi x), some (gi y), none, none]) (st' := [gi x, gr 111, gr 110]) (M' := gw m ml) rfl ?_
  refine Go.iald (by rfl) (N := 4) (by rfl) (by omega) (by omega) (by decide) ?_
  refine Go.run hsz hn1 1 (pc' := 8) (lv' := [some (gr 110), some (gi x), some (gi y), none, none]) (st' := [gi y, gi (m 111 x.toNat), gr 110]) (M' := gw m ml) rfl ?_
  refine Go.callV (As := [gi (m 111 x.toNat), gi y]) (b := 110) (st := []) (mc1 := 0) (mc := 0) (ms1 := 0) (ms := 0) (by rfl) rfl (c := 4) (N := 14) (by rfl) (by decide) (by rfl) (gcn 37 (by decide)).1 (gcn 37 (by decide)).2 rfl (Nat.le_of_ble_eq_true rfl) (by omega) (cP_wish hsz (n := n - 1) (by omega) ml m hCV.1 (m 111 x.toNat) y (by omega) hy) ?_
  rintro _ _ ⟨rfl, rfl⟩
  rw [hWs]
  refine Go.run hsz hn1 3 (pc' := 15) (lv' := [some (gr 110), some (gi x), some (gi y), some (gi W), some (gi 0)]) (st' := []) (M' := gw m ml) rfl ?_
  exact lP_aw hsz (n := n) (by omega) ml u hv m hCV hm2 hfar x i hx hi y hy W hW O9 hO9 hO hrow ((u 148 2).toNat + 1) 0 m ⟨⟨hCV.1, fun _ _ _ => rfl⟩, fun k hk => absurd hk (by show ¬ k < 0; omega), fun _ _ => rfl⟩ (by omega) (by omega) (by omega)

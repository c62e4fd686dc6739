theorem mul_b {x y X Y : Int} (h1 : 0 ≤ x) (h2 : x ≤ X) (h3 : 0 ≤ y) (h4 : y ≤ Y) : 0 ≤ x * y ∧ x * y ≤ X * Y := ⟨Int.mul_nonneg h1 h3, Int.mul_le_mul h2 h4 h3 (Int.le_trans h1 h2)⟩
def gScr (m mi : Nat → Nat → Int) : Prop := ∀ c j : Nat, c ≠ 11 → c ≠ 50 → c ≠ 53 → m c j = mi c j
theorem Inv.scr {t : Nat} {m mi : Nat → Nat → Int} {ml : Nat → Nat → Int64} (h : Inv t mi ml) (hR : gR32 m) (hm : ∀ c j : Nat, c ≠ 11 → c ≠ 50 → c ≠ 53 → c ≠ 167 → m c j = mi c j) : Inv t m ml := h.fr (Nat.le_refl _) hR (fun a k hk => hm a k (fun e => by subst e; revert hk; unfold grel gsr; simp) (fun e => by subst e; revert hk; unfold grel gsr; simp) (fun e => by subst e; revert hk; unfold grel gsr; simp) (fun e => by subst e; revert hk; unfold grel; simp)) (fun _ _ _ => rfl)
theorem inv_pay {t : Nat} {mi : Nat → Nat → Int} {ml : Nat → Nat → Int64} {a v : Int} (h : Inv t mi ml) (ht : t < 64) (a0 : 0 ≤ a) (a1 : a < mi 148 6) (hv : 0 ≤ v ∧ v ≤ 299970) : Inv (t + 1) (stT (stA mi a 8 v) 1 (mi 148 1 + v)) ml := by
  have b6 : 0 ≤ mi 148 6 ∧ mi 148 6 ≤ 24 := h.2.1.1.2.2.2.2.2.2.1
  have bt : -(299970 * (t : Int)) ≤ mi 148 1 ∧ mi 148 1 ≤ 299970 * t := h.2.1.1.2.2.2.2.2.2.2
  have h1 : Inv t (stA mi a 8 v) ml := h.setA (by omega) a0 a1 (by omega) (by omega) ⟨by omega, by omega⟩ (fun c c0 c1 => stA_PV a0 (by omega) (by omega) c0 (h.SV.2.2.2.2.1 c c0 c1) (Or.inr (Or.inr (Or.inr (Or.inl ⟨rfl, by omega, by omega⟩))))) (stA_dj a0 (by omega) (by omega) (by omega) h.2.1.2.2.2.1)
  exact h1.setT (by omega) (by omega) ⟨by omega, by omega⟩ (Or.inr ⟨rfl, by omega, by omega⟩)
theorem stA_dj6 {mi : Nat → Nat → Int} {a : Int} (a0 : 0 ≤ a) (ha : a < 24) (h : Rdj (sg mi)) : Rdj (sg (stA mi a 6 (-2))) := by
  have e3 : sg (stA mi a 6 (-2)) 0 3 = mi 148 6 := stA_off 148 6 (by omega) (by omega)
  intro b c b0 b1 c0 c1 hne
  rw [e3] at b1 c1
  have ev := fun b x b0 x0 hx => stA_vOf (mi := mi) (v := -2) a0 (show (6 : Nat) < 12 by omega) ha b x b0 x0 hx
  rw [ev b 6 b0 (by omega) (by omega), ev c 6 c0 (by omega) (by omega), ev b 4 b0 (by omega) (by omega), ev c 4 c0 (by omega) (by omega), ev b 5 b0 (by omega) (by omega), ev c 5 c0 (by omega) (by omega), if_neg (show ¬ (b = a ∧ (4 : Int) = (6 : Nat)) by omega), if_neg (show ¬ (c = a ∧ (4 : Int) = (6 : Nat)) by omega), if_neg (show ¬ (b = a ∧ (5 : Int) = (6 : Nat)) by omega), if_neg (show ¬ (c = a ∧ (5 : Int) = (6 : Nat)) by omega)]
  have f1 : ∀ d : Int, d = a → (if d = a ∧ (6 : Int) = ((6 : Nat) : Int) then (-2 : Int) else mOf mi d 6) = -2 := fun d hd => if_pos ⟨hd, rfl⟩
  have f2 : ∀ d : Int, ¬ d = a → (if d = a ∧ (6 : Int) = ((6 : Nat) : Int) then (-2 : Int) else mOf mi d 6) = mOf mi d 6 := fun d hd => if_neg (fun q => hd q.1)
  by_cases eb : b = a
  · rw [f1 b eb]
    intro q
    omega
  · rw [f2 b eb]
    by_cases ec : c = a
    · rw [f1 c ec]
      intro q1 q2
      omega
    · rw [f2 c ec]
      exact h b c b0 b1 c0 c1 hne
theorem inv_cancel {t : Nat} {mi : Nat → Nat → Int} {ml : Nat → Nat → Int64} {a v : Int} (h : Inv t mi ml) (ht : t < 64) (a0 : 0 ≤ a) (a1 : a < mi 148 6) (hv : 0 ≤ v ∧ v ≤ 299970) : Inv (t + 1) (stT (stA mi a 6 (-2)) 1 (mi 148 1 - v)) ml := by
  have b6 : 0 ≤ mi 148 6 ∧ mi 148 6 ≤ 24 := h.2.1.1.2.2.2.2.2.2.1
  have bq : 0 ≤ mi 148 2 := h.2.1.1.2.2.2.2.2.1.1
  have bt : -(299970 * (t : Int)) ≤ mi 148 1 ∧ mi 148 1 ≤ 299970 * t := h.2.1.1.2.2.2.2.2.2.2
  have h1 : Inv t (stA mi a 6 (-2)) ml := h.setA (by omega) a0 a1 (by omega) (by omega) ⟨by omega, by omega⟩ (fun c c0 c1 => stA_PV a0 (by omega) (by omega) c0 (h.SV.2.2.2.2.1 c c0 c1) (Or.inr (Or.inr (Or.inl ⟨rfl, by omega, by omega⟩)))) (stA_dj6 a0 (by omega) h.2.1.2.2.2.1)
  exact h1.setT (by omega) (by omega) ⟨by omega, by omega⟩ (Or.inr ⟨rfl, by omega, by omega⟩)
theorem Inv.lawM {t : Nat} {mi : Nat → Nat → Int} {ml : Nat → Nat → Int64} (h : Inv t mi ml) (a : Int) : ∀ l : Int, 0 ≤ l → l ≤ 1 → (0 ≤ mi 157 l.toNat ∧ mi 157 l.toNat ≤ 120) ∧ (0 < mi 157 l.toNat → eOK (eq_ mi l.toNat) (en_ mi a) (mi 157 l.toNat).toNat) := fun l l0 l1 => ⟨(h.2.1.2.2.2.2.2.2.1 l.toNat (by omega)).2.1.1, fun hp => (Rlw.ok h.2.1 (by omega) hp a).2.2.2⟩
theorem mSays_c {m mi : Nat → Nat → Int} (hm : ∀ c j : Nat, 148 ≤ c → (c ≠ 148 ∨ j ≠ 1) → c ≠ 152 → c ≠ 167 → c ≠ 159 → m c j = mi c j) (hO : ∀ a w, mOf m a w = mOf mi a w) (l : Nat) (a : Int) : mSays m l a = mSays mi l a := by
  have e1 : eq_ m l = eq_ mi l := by funext i; exact hm _ _ (by decide) (Or.inl (by decide)) (by decide) (by decide) (by decide)
  have e2 : en_ m a = en_ mi a := by
    funext x
    unfold en_ mNm mOthers mStays
    simp only [hO, hm 148 0 (by decide) (by decide) (by decide) (by decide) (by decide), hm 148 6 (by decide) (by decide) (by decide) (by decide) (by decide)]
  unfold mSays eV mPrice
  simp only [e1, e2, hO, hm 157 l (by decide) (Or.inl (by decide)) (by decide) (by decide) (by decide), hm 148 0 (by decide) (by decide) (by decide) (by decide) (by decide)]
set_option maxRecDepth 100000 in
set_option maxHeartbeats 4000000 in
theorem pC_says {G : gG} (hsz : G.2.2.2.2.2.2 = true) {n : Nat} (hn : 7 ≤ n) (mi : Nat → Nat → Int) (ml : Nat → Nat → Int64) (l a : Int) (r_l : rng l) (r_a : rng a) (hv : CV mi) (t : Nat) (hrep : Rep t 1 mi ml (sg mi)) (hsv : SV mi) : gM G 121 n 0 0 [gr 0, gi l, gi a] (gw mi ml) (fun r M => gE (¬ ((0 ≤ l ∧ l ≤ 1) ∧ (0 ≤ a ∧ a < mi 1 3))) (-1000001) (cFd mi 0) ml r M ∨ (((0 ≤ l ∧ l ≤ 1) ∧ (0 ≤ a ∧ a < mi 1 3)) ∧ ∃ m, r = some (gi (mSays mi l.toNat a)) ∧ M = gw m ml ∧ gScr m mi ∧ gR32 m)) := by
  have hn1 : 1 ≤ n := by omega
  obtain ⟨hR, ht, hp, hq, hP, hQ⟩ := id hv
  have e3 : mi 1 3 = mi 148 6 := hrep.1.2.2.2.1
  refine gM.of mX11_says okX11_says (gcp 121 (by decide)).1 (gcp 121 (by decide)).2 (Nat.le_of_ble_eq_true rfl) ?_
  refine Go.run hsz hn1 3 (pc' := 3) (lv' := [some (gr 0), some (gi l), some (gi a)]) (st' := [gi 1, gi 0, gi l]) (M' := gw mi ml) rfl ?_
  refine Go.callS (As := [gi l, gi 0, gi 1]) (st := []) (mc1 := 0) (mc := 0) (ms1 := 0) (ms := 0) (by rfl) rfl (gcn 150 (by decide)).1 (gcn 150 (by decide)).2 (Nat.le_of_ble_eq_true rfl) (by omega) (cC_isIn hsz (n := n - 1) (by omega) mi ml l 0 1 r_l ⟨by decide, by decide⟩ ⟨by decide, by decide⟩) ?_
  rintro _ _ ⟨rfl, rfl⟩
  refine Go.run hsz hn1 0 (pc' := 6) (lv' := [some (gr 0), some (gi l), some (gi a)]) (st' := [gi (b2 (0 ≤ l ∧ l ≤ 1))]) (M' := gw mi ml) rfl ?_
  refine Go.if_eq (by rfl) (b2_rng _) (fun kq1 => ?_) (fun kq1 => ?_)
  · replace kq1 := b2_neg kq1
    refine Go.run hsz hn1 2 (pc' := 23) (lv' := [some (gr 0), some (gi l), some (gi a)]) (st' := [gi (-1000001), gr 0]) (M' := gw mi ml) rfl ?_
    refine Go.callV (As := [gi (-1000001)]) (b := 0) (st := []) (mc1 := 0) (mc := 0) (ms1 := 0) (ms := 0) (by rfl) rfl (c := 10) (N := 9) (by rfl) (by decide) (by rfl) (gcn 147 (by decide)).1 (gcn 147 (by decide)).2 rfl (Nat.le_of_ble_eq_true rfl) (by omega) (cC_finding hsz (n := n - 1) (by omega) mi ml (-1000001) (by decide) (by decide)) ?_
    rintro _ _ ⟨rfl, rfl⟩
    refine Go.run hsz hn1 0 (pc' := 26) (lv' := [some (gr 0), some (gi l), some (gi a)]) (st' := [gi (-1000001)]) (M' := gw (cFd mi 0) ml) rfl ?_
    exact Go.iret (by rfl) (Or.inl ⟨by omega, rfl, rfl⟩)
  · replace kq1 := b2_pos kq1
    refine Go.run hsz hn1 3 (pc' := 14) (lv' := [some (gr 0), some (gi l), some (gi a)]) (st' := [gi a, gr 1]) (M' := gw mi ml) rfl ?_
    refine Go.callV (As := [gi a]) (b := 1) (st := []) (mc1 := 0) (mc := 0) (ms1 := 0) (ms := 0) (by rfl) rfl (c := 7) (N := 11) (by rfl) (by decide) (by rfl) (gcn 60 (by decide)).1 (gcn 60 (by decide)).2 rfl (Nat.le_of_ble_eq_true rfl) (by omega) (cS_isParty hsz (n := n - 1) (by omega) mi ml a r_a hR) ?_
    rintro _ _ ⟨rfl, rfl⟩
    refine Go.run hsz hn1 0 (pc' := 17) (lv' := [some (gr 0), some (gi l), some (gi a)]) (st' := [gi (b2 (0 ≤ a ∧ a < mi 1 3))]) (M' := gw mi ml) rfl ?_
    refine Go.if_ne (by rfl) (b2_rng _) (fun kq2 => ?_) (fun kq2 => ?_)
    · replace kq2 := b2_pos kq2
      refine Go.run hsz hn1 1 (pc' := 28) (lv' := [some (gr 0), some (gi l), some (gi a)]) (st' := [gi l]) (M' := gw mi ml) rfl ?_
      refine Go.if_ne (by rfl) r_l (fun kq3 => ?_) (fun kq3 => ?_)
      · refine Go.run hsz hn1 3 (pc' := 47) (lv' := [some (gr 0), some (gi l), some (gi a)]) (st' := [gi a, gr 1]) (M' := gw mi ml) rfl ?_
        refine Go.callV (As := [gi a]) (b := 1) (st := []) (mc1 := 0) (mc := 0) (ms1 := 0) (ms := 0) (by rfl) rfl (c := 7) (N := 11) (by rfl) (by decide) (by rfl) (gcn 74 (by decide)).1 (gcn 74 (by decide)).2 rfl (Nat.le_of_ble_eq_true rfl) (by omega) (cS_refundNow hsz (n := n - 1) (by omega) mi ml t a (by omega) (by omega) hrep hsv hv) ?_
        rintro _ _ ⟨m, rfl, rfl, hm, hmR⟩
        have hsb := mSays_b (mi := mi) (a := a) (hsv.2.2.2.2.1 a (by omega) (by omega)) 1
        simp only [show ¬ (1 : Nat) = 0 by omega, if_false] at hsb
        refine Go.run hsz hn1 0 (pc' := 50) (lv' := [some (gr 0), some (gi l), some (gi a)]) (st' := [gi (mSays mi 1 a)]) (M' := gw m ml) rfl ?_
        first | exact Go.iret (by rfl) (Or.inr ⟨by omega, m, (by rw [show l = 0 by omega]; rfl), rfl, hm, hmR⟩) | exact Go.iret (by rfl) (Or.inr ⟨by omega, m, (by rw [show l = 1 by omega]; rfl), rfl, hm, hmR⟩)
      · refine Go.run hsz hn1 3 (pc' := 36) (lv' := [some (gr 0), some (gi l), some (gi a)]) (st' := [gi a, gr 1]) (M' := gw mi ml) rfl ?_
        refine Go.callV (As := [gi a]) (b := 1) (st := []) (mc1 := 0) (mc := 0) (ms1 := 0) (ms := 0) (by rfl) rfl (c := 7) (N := 11) (by rfl) (by decide) (by rfl) (gcn 73 (by decide)).1 (gcn 73 (by decide)).2 rfl (Nat.le_of_ble_eq_true rfl) (by omega) (cS_priceNow hsz (n := n - 1) (by omega) mi ml t a (by omega) (by omega) hrep hsv hv) ?_
        rintro _ _ ⟨m, rfl, rfl, hm, hmR⟩
        have hsb := mSays_b (mi := mi) (a := a) (hsv.2.2.2.2.1 a (by omega) (by omega)) 0
        simp only [if_true] at hsb
        refine Go.run hsz hn1 1 (pc' := 50) (lv' := [some (gr 0), some (gi l), some (gi a)]) (st' := [gi (mSays mi 0 a)]) (M' := gw m ml) rfl ?_
        first | exact Go.iret (by rfl) (Or.inr ⟨by omega, m, (by rw [show l = 0 by omega]; rfl), rfl, hm, hmR⟩) | exact Go.iret (by rfl) (Or.inr ⟨by omega, m, (by rw [show l = 1 by omega]; rfl), rfl, hm, hmR⟩)
    · replace kq2 := b2_neg kq2
      refine Go.run hsz hn1 2 (pc' := 23) (lv' := [some (gr 0), some (gi l), some (gi a)]) (st' := [gi (-1000001), gr 0]) (M' := gw mi ml) rfl ?_
      refine Go.callV (As := [gi (-1000001)]) (b := 0) (st := []) (mc1 := 0) (mc := 0) (ms1 := 0) (ms := 0) (by rfl) rfl (c := 10) (N := 9) (by rfl) (by decide) (by rfl) (gcn 147 (by decide)).1 (gcn 147 (by decide)).2 rfl (Nat.le_of_ble_eq_true rfl) (by omega) (cC_finding hsz (n := n - 1) (by omega) mi ml (-1000001) (by decide) (by decide)) ?_
      rintro _ _ ⟨rfl, rfl⟩
      refine Go.run hsz hn1 0 (pc' := 26) (lv' := [some (gr 0), some (gi l), some (gi a)]) (st' := [gi (-1000001)]) (M' := gw (cFd mi 0) ml) rfl ?_
      exact Go.iret (by rfl) (Or.inl ⟨by omega, rfl, rfl⟩)
set_option maxRecDepth 100000 in
set_option maxHeartbeats 4000000 in
theorem pC_pay {G : gG} (hsz : G.2.2.2.2.2.2 = true) {n : Nat} (hn : 7 ≤ n) (mi : Nat → Nat → Int) (ml : Nat → Nat → Int64) (a : Int) (r_a : rng a) (hv : CV mi) (t : Nat) (hrep : Rep t 1 mi ml (sg mi)) (hsv : SV mi) : gM G 122 n 0 0 [gr 0, gi a] (gw mi ml) (fun r M => gE (¬ (0 ≤ a ∧ a < mi 1 3)) (-1000001) (cFd mi 0) ml r M ∨ gE ((0 ≤ a ∧ a < mi 1 3) ∧ (cA mi a 8 = -2 ∨ ¬ cA mi a 10 = -1)) (-1000005) (cFd mi 4) ml r M ∨ (((0 ≤ a ∧ a < mi 1 3) ∧ ¬ (cA mi a 8 = -2 ∨ ¬ cA mi a 10 = -1)) ∧ ∃ m, r = some (gi ((cA mi a 5) * (mSays mi 0 a))) ∧ M = gw (gu (gu m (24 + a.toNat) 10 ((cA mi a 5) * (mSays mi 0 a))) 1 1 (m 1 1 + ((cA mi a 5) * (mSays mi 0 a)))) ml ∧ gScr m mi ∧ gR32 m)) := by
  have hn1 : 1 ≤ n := by omega
  obtain ⟨hR, ht, hp, hq, hP, hQ⟩ := id hv
  have e3 : mi 1 3 = mi 148 6 := hrep.1.2.2.2.1
  refine gM.of mX11_pay okX11_pay (gcp 122 (by decide)).1 (gcp 122 (by decide)).2 (Nat.le_of_ble_eq_true rfl) ?_
  refine Go.run hsz hn1 3 (pc' := 5) (lv' := [some (gr 0), some (gi a), none]) (st' := [gi a, gr 1]) (M' := gw mi ml) rfl ?_
  refine Go.callV (As := [gi a]) (b := 1) (st := []) (mc1 := 0) (mc := 0) (ms1 := 0) (ms := 0) (by rfl) rfl (c := 7) (N := 11) (by rfl) (by decide) (by rfl) (gcn 60 (by decide)).1 (gcn 60 (by decide)).2 rfl (Nat.le_of_ble_eq_true rfl) (by omega) (cS_isParty hsz (n := n - 1) (by omega) mi ml a r_a hR) ?_
  rintro _ _ ⟨rfl, rfl⟩
  refine Go.run hsz hn1 0 (pc' := 8) (lv' := [some (gr 0), some (gi a), none]) (st' := [gi (b2 (0 ≤ a ∧ a < mi 1 3))]) (M' := gw mi ml) rfl ?_
  refine Go.if_ne (by rfl) (b2_rng _) (fun kq1 => ?_) (fun kq1 => ?_)
  · replace kq1 := b2_pos kq1
    refine Go.run hsz hn1 4 (pc' := 26) (lv' := [some (gr 0), some (gi a), none]) (st' := [gi a, gr 3]) (M' := gw mi ml) rfl ?_
    refine Go.aaldR 4 (by rfl) (N := 24) (by rfl) ⟨by decide, by decide⟩ (by omega) (by omega) (by decide) (gMR_3 (by omega) (by omega)) ?_
    refine Go.run hsz hn1 2 (pc' := 29) (lv' := [some (gr 0), some (gi a), some (gr (24 + a.toNat))]) (st' := [gr (24 + a.toNat)]) (M' := gw mi ml) rfl ?_
    refine Go.getf (by rfl) (c := 2) (N := 14) (shA (i := a) (by omega)) ?_
    refine Go.run hsz hn1 1 (pc' := 34) (lv' := [some (gr 0), some (gi a), some (gr (24 + a.toNat))]) (st' := [gi (-2), gi (cA mi a 8)]) (M' := gw mi ml) rfl ?_
    refine Go.icmp_eq (by rfl) (hR _ _) ⟨by decide, by decide⟩ (fun kq2 => ?_) (fun kq2 => ?_)
    · refine Go.run hsz hn1 2 (pc' := 48) (lv' := [some (gr 0), some (gi a), some (gr (24 + a.toNat))]) (st' := [gi (-1000005), gr 0]) (M' := gw mi ml) rfl ?_
      refine Go.callV (As := [gi (-1000005)]) (b := 0) (st := []) (mc1 := 0) (mc := 0) (ms1 := 0) (ms := 0) (by rfl) rfl (c := 10) (N := 9) (by rfl) (by decide) (by rfl) (gcn 147 (by decide)).1 (gcn 147 (by decide)).2 rfl (Nat.le_of_ble_eq_true rfl) (by omega) (cC_finding hsz (n := n - 1) (by omega) mi ml (-1000005) (by decide) (by decide)) ?_
      rintro _ _ ⟨rfl, rfl⟩
      refine Go.run hsz hn1 0 (pc' := 51) (lv' := [some (gr 0), some (gi a), some (gr (24 + a.toNat))]) (st' := [gi (-1000005)]) (M' := gw (cFd mi 4) ml) rfl ?_
      first | exact Go.iret (by rfl) (Or.inl ⟨by omega, rfl, rfl⟩) | exact Go.iret (by rfl) (Or.inr (Or.inl ⟨by omega, rfl, rfl⟩))
    · refine Go.run hsz hn1 1 (pc' := 38) (lv' := [some (gr 0), some (gi a), some (gr (24 + a.toNat))]) (st' := [gr (24 + a.toNat)]) (M' := gw mi ml) rfl ?_
      refine Go.getf (by rfl) (c := 2) (N := 14) (shA (i := a) (by omega)) ?_
      refine Go.run hsz hn1 1 (pc' := 42) (lv' := [some (gr 0), some (gi a), some (gr (24 + a.toNat))]) (st' := [gi (-1), gi (cA mi a 10)]) (M' := gw mi ml) rfl ?_
      refine Go.icmp_eq (by rfl) (hR _ _) ⟨by decide, by decide⟩ (fun kq3 => ?_) (fun kq3 => ?_)
      · refine Go.run hsz hn1 2 (pc' := 54) (lv' := [some (gr 0), some (gi a), some (gr (24 + a.toNat))]) (st' := [gr (24 + a.toNat), gr (24 + a.toNat)]) (M' := gw mi ml) rfl ?_
        refine Go.getf (by rfl) (c := 2) (N := 14) (shA (i := a) (by omega)) ?_
        refine Go.run hsz hn1 3 (pc' := 62) (lv' := [some (gr 0), some (gi a), some (gr (24 + a.toNat))]) (st' := [gi a, gr 1, gi (cA mi a 5), gr (24 + a.toNat)]) (M' := gw mi ml) rfl ?_
        refine Go.callV (As := [gi a]) (b := 1) (st := [gi (cA mi a 5), gr (24 + a.toNat)]) (mc1 := 0) (mc := 0) (ms1 := 0) (ms := 0) (by rfl) rfl (c := 7) (N := 11) (by rfl) (by decide) (by rfl) (gcn 73 (by decide)).1 (gcn 73 (by decide)).2 rfl (Nat.le_of_ble_eq_true rfl) (by omega) (cS_priceNow hsz (n := n - 1) (by omega) mi ml t a (by omega) (by omega) hrep hsv hv) ?_
        rintro _ _ ⟨m, rfl, rfl, hm, hmR⟩
        have hsb := mSays_b (mi := mi) (a := a) (hsv.2.2.2.2.1 a (by omega) (by omega)) 0
        simp only [if_true] at hsb
        refine Go.run hsz hn1 1 (pc' := 66) (lv' := [some (gr 0), some (gi a), some (gr (24 + a.toNat))]) (st' := [gi ((cA mi a 5) * (mSays mi 0 a)), gr (24 + a.toNat)]) (M' := gw m ml) rfl ?_
        refine Go.putI (by rfl) (c := 2) (N := 14) (shA (i := a) (by omega)) (by rfl) ?_
        refine Go.run hsz hn1 4 (pc' := 77) (lv' := [some (gr 0), some (gi a), some (gr (24 + a.toNat))]) (st' := [gi ((gu m (24 + a.toNat) 10 ((cA mi a 5) * (mSays mi 0 a))) 1 1), gr 1]) (M' := gw (gu m (24 + a.toNat) 10 ((cA mi a 5) * (mSays mi 0 a))) ml) rfl ?_
        refine Go.run hsz hn1 0 (pc' := 77) (lv' := [some (gr 0), some (gi a), some (gr (24 + a.toNat))]) (st' := [gi ((gu m (24 + a.toNat) 10 ((cA mi a 5) * (mSays mi 0 a))) 1 1), gr 1]) (M' := gw (gu m (24 + a.toNat) 10 ((cA mi a 5) * (mSays mi 0 a))) ml) rfl ?_
        rw [show (gu m (24 + a.toNat) 10 ((cA mi a 5) * (mSays mi 0 a))) 1 1 = m 1 1 from gu_ne (Or.inr (by decide))]
        refine Go.run hsz hn1 1 (pc' := 78) (lv' := [some (gr 0), some (gi a), some (gr (24 + a.toNat))]) (st' := [gr (24 + a.toNat), gi (m 1 1), gr 1]) (M' := gw (gu m (24 + a.toNat) 10 ((cA mi a 5) * (mSays mi 0 a))) ml) rfl ?_
        refine Go.getf (by rfl) (c := 2) (N := 14) (shA (i := a) (by omega)) ?_
        refine Go.run hsz hn1 0 (pc' := 81) (lv' := [some (gr 0), some (gi a), some (gr (24 + a.toNat))]) (st' := [gi ((gu m (24 + a.toNat) 10 ((cA mi a 5) * (mSays mi 0 a))) (24 + a.toNat) 10), gi (m 1 1), gr 1]) (M' := gw (gu m (24 + a.toNat) 10 ((cA mi a 5) * (mSays mi 0 a))) ml) rfl ?_
        rw [show (gu m (24 + a.toNat) 10 ((cA mi a 5) * (mSays mi 0 a))) (24 + a.toNat) 10 = (cA mi a 5) * (mSays mi 0 a) from gu_self _ _ _ _]
        refine Go.run hsz hn1 3 (pc' := 86) (lv' := [some (gr 0), some (gi a), some (gr (24 + a.toNat))]) (st' := [gr (24 + a.toNat)]) (M' := gw (gu (gu m (24 + a.toNat) 10 ((cA mi a 5) * (mSays mi 0 a))) 1 1 ((m 1 1) + ((cA mi a 5) * (mSays mi 0 a)))) ml) rfl ?_
        refine Go.getf (by rfl) (c := 2) (N := 14) (shA (i := a) (by omega)) ?_
        refine Go.run hsz hn1 0 (pc' := 89) (lv' := [some (gr 0), some (gi a), some (gr (24 + a.toNat))]) (st' := [gi ((gu (gu m (24 + a.toNat) 10 ((cA mi a 5) * (mSays mi 0 a))) 1 1 ((m 1 1) + ((cA mi a 5) * (mSays mi 0 a)))) (24 + a.toNat) 10)]) (M' := gw (gu (gu m (24 + a.toNat) 10 ((cA mi a 5) * (mSays mi 0 a))) 1 1 ((m 1 1) + ((cA mi a 5) * (mSays mi 0 a)))) ml) rfl ?_
        rw [show (gu (gu m (24 + a.toNat) 10 ((cA mi a 5) * (mSays mi 0 a))) 1 1 ((m 1 1) + ((cA mi a 5) * (mSays mi 0 a)))) (24 + a.toNat) 10 = (cA mi a 5) * (mSays mi 0 a) from (gu_ne (Or.inr (by decide))).trans (gu_self _ _ _ _)]
        refine Go.run hsz hn1 0 (pc' := 89) (lv' := [some (gr 0), some (gi a), some (gr (24 + a.toNat))]) (st' := [gi ((cA mi a 5) * (mSays mi 0 a))]) (M' := gw (gu (gu m (24 + a.toNat) 10 ((cA mi a 5) * (mSays mi 0 a))) 1 1 ((m 1 1) + ((cA mi a 5) * (mSays mi 0 a)))) ml) rfl ?_
        exact Go.iret (by rfl) (Or.inr (Or.inr ⟨by omega, m, rfl, rfl, hm, hmR⟩))
      · refine Go.run hsz hn1 2 (pc' := 48) (lv' := [some (gr 0), some (gi a), some (gr (24 + a.toNat))]) (st' := [gi (-1000005), gr 0]) (M' := gw mi ml) rfl ?_
        refine Go.callV (As := [gi (-1000005)]) (b := 0) (st := []) (mc1 := 0) (mc := 0) (ms1 := 0) (ms := 0) (by rfl) rfl (c := 10) (N := 9) (by rfl) (by decide) (by rfl) (gcn 147 (by decide)).1 (gcn 147 (by decide)).2 rfl (Nat.le_of_ble_eq_true rfl) (by omega) (cC_finding hsz (n := n - 1) (by omega) mi ml (-1000005) (by decide) (by decide)) ?_
        rintro _ _ ⟨rfl, rfl⟩
        refine Go.run hsz hn1 0 (pc' := 51) (lv' := [some (gr 0), some (gi a), some (gr (24 + a.toNat))]) (st' := [gi (-1000005)]) (M' := gw (cFd mi 4) ml) rfl ?_
        first | exact Go.iret (by rfl) (Or.inl ⟨by omega, rfl, rfl⟩) | exact Go.iret (by rfl) (Or.inr (Or.inl ⟨by omega, rfl, rfl⟩))
  · replace kq1 := b2_neg kq1
    refine Go.run hsz hn1 2 (pc' := 14) (lv' := [some (gr 0), some (gi a), none]) (st' := [gi (-1000001), gr 0]) (M' := gw mi ml) rfl ?_
    refine Go.callV (As := [gi (-1000001)]) (b := 0) (st := []) (mc1 := 0) (mc := 0) (ms1 := 0) (ms := 0) (by rfl) rfl (c := 10) (N := 9) (by rfl) (by decide) (by rfl) (gcn 147 (by decide)).1 (gcn 147 (by decide)).2 rfl (Nat.le_of_ble_eq_true rfl) (by omega) (cC_finding hsz (n := n - 1) (by omega) mi ml (-1000001) (by decide) (by decide)) ?_
    rintro _ _ ⟨rfl, rfl⟩
    refine Go.run hsz hn1 0 (pc' := 17) (lv' := [some (gr 0), some (gi a), none]) (st' := [gi (-1000001)]) (M' := gw (cFd mi 0) ml) rfl ?_
    first | exact Go.iret (by rfl) (Or.inl ⟨by omega, rfl, rfl⟩) | exact Go.iret (by rfl) (Or.inr (Or.inl ⟨by omega, rfl, rfl⟩))
set_option maxRecDepth 100000 in
set_option maxHeartbeats 4000000 in
theorem pC_cancel {G : gG} (hsz : G.2.2.2.2.2.2 = true) {n : Nat} (hn : 7 ≤ n) (mi : Nat → Nat → Int) (ml : Nat → Nat → Int64) (a : Int) (r_a : rng a) (hv : CV mi) (t : Nat) (hrep : Rep t 1 mi ml (sg mi)) (hsv : SV mi) : gM G 123 n 0 0 [gr 0, gi a] (gw mi ml) (fun r M => gE (¬ (0 ≤ a ∧ a < mi 1 3)) (-1000001) (cFd mi 0) ml r M ∨ gE ((0 ≤ a ∧ a < mi 1 3) ∧ (cA mi a 8 = -2 ∨ (0 ≤ cA mi a 8 ∧ cA mi a 4 ≤ mi 1 0))) (-1000005) (cFd mi 4) ml r M ∨ (((0 ≤ a ∧ a < mi 1 3) ∧ ¬ (cA mi a 8 = -2 ∨ (0 ≤ cA mi a 8 ∧ cA mi a 4 ≤ mi 1 0))) ∧ ∃ (m : Nat → Nat → Int) (v : Int), ((cA mi a 10 = -1 ∧ v = 0) ∨ (¬ cA mi a 10 = -1 ∧ v = ((cA mi a 10) * (mSays mi 1 a)) / 100)) ∧ r = some (gi v) ∧ M = gw (gu (gu m (24 + a.toNat) 8 (-2)) 1 1 (m 1 1 - v)) ml ∧ gScr m mi ∧ gR32 m)) := by
  have hn1 : 1 ≤ n := by omega
  obtain ⟨hR, ht, hp, hq, hP, hQ⟩ := id hv
  have e3 : mi 1 3 = mi 148 6 := hrep.1.2.2.2.1
  refine gM.of mX11_cancel okX11_cancel (gcp 123 (by decide)).1 (gcp 123 (by decide)).2 (Nat.le_of_ble_eq_true rfl) ?_
  refine Go.run hsz hn1 3 (pc' := 5) (lv' := [some (gr 0), some (gi a), none, none]) (st' := [gi a, gr 1]) (M' := gw mi ml) rfl ?_
  refine Go.callV (As := [gi a]) (b := 1) (st := []) (mc1 := 0) (mc := 0) (ms1 := 0) (ms := 0) (by rfl) rfl (c := 7) (N := 11) (by rfl) (by decide) (by rfl) (gcn 60 (by decide)).1 (gcn 60 (by decide)).2 rfl (Nat.le_of_ble_eq_true rfl) (by omega) (cS_isParty hsz (n := n - 1) (by omega) mi ml a r_a hR) ?_
  rintro _ _ ⟨rfl, rfl⟩
  refine Go.run hsz hn1 0 (pc' := 8) (lv' := [some (gr 0), some (gi a), none, none]) (st' := [gi (b2 (0 ≤ a ∧ a < mi 1 3))]) (M' := gw mi ml) rfl ?_
  refine Go.if_ne (by rfl) (b2_rng _) (fun kq1 => ?_) (fun kq1 => ?_)
  · replace kq1 := b2_pos kq1
    refine Go.run hsz hn1 4 (pc' := 26) (lv' := [some (gr 0), some (gi a), none, none]) (st' := [gi a, gr 3]) (M' := gw mi ml) rfl ?_
    refine Go.aaldR 4 (by rfl) (N := 24) (by rfl) ⟨by decide, by decide⟩ (by omega) (by omega) (by decide) (gMR_3 (by omega) (by omega)) ?_
    refine Go.run hsz hn1 2 (pc' := 29) (lv' := [some (gr 0), some (gi a), some (gr (24 + a.toNat)), none]) (st' := [gr (24 + a.toNat)]) (M' := gw mi ml) rfl ?_
    refine Go.getf (by rfl) (c := 2) (N := 14) (shA (i := a) (by omega)) ?_
    refine Go.run hsz hn1 1 (pc' := 34) (lv' := [some (gr 0), some (gi a), some (gr (24 + a.toNat)), none]) (st' := [gi (-2), gi (cA mi a 8)]) (M' := gw mi ml) rfl ?_
    refine Go.icmp_eq (by rfl) (hR _ _) ⟨by decide, by decide⟩ (fun kq2 => ?_) (fun kq2 => ?_)
    · refine Go.run hsz hn1 2 (pc' := 51) (lv' := [some (gr 0), some (gi a), some (gr (24 + a.toNat)), none]) (st' := [gi (-1000005), gr 0]) (M' := gw mi ml) rfl ?_
      refine Go.callV (As := [gi (-1000005)]) (b := 0) (st := []) (mc1 := 0) (mc := 0) (ms1 := 0) (ms := 0) (by rfl) rfl (c := 10) (N := 9) (by rfl) (by decide) (by rfl) (gcn 147 (by decide)).1 (gcn 147 (by decide)).2 rfl (Nat.le_of_ble_eq_true rfl) (by omega) (cC_finding hsz (n := n - 1) (by omega) mi ml (-1000005) (by decide) (by decide)) ?_
      rintro _ _ ⟨rfl, rfl⟩
      refine Go.run hsz hn1 0 (pc' := 54) (lv' := [some (gr 0), some (gi a), some (gr (24 + a.toNat)), none]) (st' := [gi (-1000005)]) (M' := gw (cFd mi 4) ml) rfl ?_
      first | exact Go.iret (by rfl) (Or.inl ⟨by omega, rfl, rfl⟩) | exact Go.iret (by rfl) (Or.inr (Or.inl ⟨by omega, rfl, rfl⟩))
    · refine Go.run hsz hn1 3 (pc' := 42) (lv' := [some (gr 0), some (gi a), some (gr (24 + a.toNat)), none]) (st' := [gi a, gr 1]) (M' := gw mi ml) rfl ?_
      refine Go.callV (As := [gi a]) (b := 1) (st := []) (mc1 := 0) (mc := 0) (ms1 := 0) (ms := 0) (by rfl) rfl (c := 7) (N := 11) (by rfl) (by decide) (by rfl) (gcn 64 (by decide)).1 (gcn 64 (by decide)).2 rfl (Nat.le_of_ble_eq_true rfl) (by omega) (cS_isSettled hsz (n := n - 1) (by omega) mi ml a (by omega) (by omega) hR) ?_
      rintro _ _ ⟨rfl, rfl⟩
      refine Go.run hsz hn1 0 (pc' := 45) (lv' := [some (gr 0), some (gi a), some (gr (24 + a.toNat)), none]) (st' := [gi (b2 (0 ≤ cA mi a 8 ∧ cA mi a 4 ≤ mi 1 0))]) (M' := gw mi ml) rfl ?_
      refine Go.if_eq (by rfl) (b2_rng _) (fun kq3 => ?_) (fun kq3 => ?_)
      · replace kq3 := b2_neg kq3
        refine Go.run hsz hn1 1 (pc' := 56) (lv' := [some (gr 0), some (gi a), some (gr (24 + a.toNat)), none]) (st' := [gr (24 + a.toNat)]) (M' := gw mi ml) rfl ?_
        refine Go.getf (by rfl) (c := 2) (N := 14) (shA (i := a) (by omega)) ?_
        refine Go.run hsz hn1 1 (pc' := 60) (lv' := [some (gr 0), some (gi a), some (gr (24 + a.toNat)), none]) (st' := [gi (-1), gi (cA mi a 10)]) (M' := gw mi ml) rfl ?_
        refine Go.icmp_ne (by rfl) (hR _ _) ⟨by decide, by decide⟩ (fun kq4 => ?_) (fun kq4 => ?_)
        · refine Go.run hsz hn1 1 (pc' := 68) (lv' := [some (gr 0), some (gi a), some (gr (24 + a.toNat)), none]) (st' := [gr (24 + a.toNat)]) (M' := gw mi ml) rfl ?_
          refine Go.getf (by rfl) (c := 2) (N := 14) (shA (i := a) (by omega)) ?_
          refine Go.run hsz hn1 3 (pc' := 76) (lv' := [some (gr 0), some (gi a), some (gr (24 + a.toNat)), none]) (st' := [gi a, gr 1, gi (cA mi a 10)]) (M' := gw mi ml) rfl ?_
          refine Go.callV (As := [gi a]) (b := 1) (st := [gi (cA mi a 10)]) (mc1 := 0) (mc := 0) (ms1 := 0) (ms := 0) (by rfl) rfl (c := 7) (N := 11) (by rfl) (by decide) (by rfl) (gcn 74 (by decide)).1 (gcn 74 (by decide)).2 rfl (Nat.le_of_ble_eq_true rfl) (by omega) (cS_refundNow hsz (n := n - 1) (by omega) mi ml t a (by omega) (by omega) hrep hsv hv) ?_
          rintro _ _ ⟨m, rfl, rfl, hm, hmR⟩
          have hsb := mSays_b (mi := mi) (a := a) (hsv.2.2.2.2.1 a (by omega) (by omega)) 1
          simp only [show ¬ (1 : Nat) = 0 by omega, if_false] at hsb
          have hpd := (hP a (by omega) (by omega)).2.2.2.2.2.2.2.2.2.1
          have hmb := mul_b (x := cA mi a 10) (y := mSays mi 1 a) (X := 299970) (Y := 100) (by omega) (by omega) hsb.1 hsb.2
          refine Go.run hsz hn1 2 (pc' := 82) (lv' := [some (gr 0), some (gi a), some (gr (24 + a.toNat)), none]) (st' := [gi 100, gi ((cA mi a 10) * (mSays mi 1 a))]) (M' := gw m ml) rfl ?_
          refine Go.idivN (by rfl) ⟨by omega, by omega⟩ (by decide) (by omega) ?_
          refine Go.run hsz hn1 3 (pc' := 87) (lv' := [some (gr 0), some (gi a), some (gr (24 + a.toNat)), some (gi (((cA mi a 10) * (mSays mi 1 a)) / 100))]) (st' := [gi (-2), gr (24 + a.toNat)]) (M' := gw m ml) rfl ?_
          refine Go.putI (by rfl) (c := 2) (N := 14) (shA (i := a) (by omega)) (by rfl) ?_
          refine Go.run hsz hn1 4 (pc' := 98) (lv' := [some (gr 0), some (gi a), some (gr (24 + a.toNat)), some (gi (((cA mi a 10) * (mSays mi 1 a)) / 100))]) (st' := [gi ((gu m (24 + a.toNat) 8 (-2)) 1 1), gr 1]) (M' := gw (gu m (24 + a.toNat) 8 (-2)) ml) rfl ?_
          refine Go.run hsz hn1 0 (pc' := 98) (lv' := [some (gr 0), some (gi a), some (gr (24 + a.toNat)), some (gi (((cA mi a 10) * (mSays mi 1 a)) / 100))]) (st' := [gi ((gu m (24 + a.toNat) 8 (-2)) 1 1), gr 1]) (M' := gw (gu m (24 + a.toNat) 8 (-2)) ml) rfl ?_
          rw [show (gu m (24 + a.toNat) 8 (-2)) 1 1 = m 1 1 from gu_ne (Or.inr (by decide))]
          refine Go.run hsz hn1 4 (pc' := 104) (lv' := [some (gr 0), some (gi a), some (gr (24 + a.toNat)), some (gi (((cA mi a 10) * (mSays mi 1 a)) / 100))]) (st' := [gi (((cA mi a 10) * (mSays mi 1 a)) / 100)]) (M' := gw (gu (gu m (24 + a.toNat) 8 (-2)) 1 1 ((m 1 1) - (((cA mi a 10) * (mSays mi 1 a)) / 100))) ml) rfl ?_
          exact Go.iret (by rfl) (Or.inr (Or.inr ⟨by omega, m, _, Or.inr ⟨by omega, rfl⟩, rfl, rfl, hm, hmR⟩))
        · refine Go.run hsz hn1 5 (pc' := 87) (lv' := [some (gr 0), some (gi a), some (gr (24 + a.toNat)), some (gi 0)]) (st' := [gi (-2), gr (24 + a.toNat)]) (M' := gw mi ml) rfl ?_
          refine Go.putI (by rfl) (c := 2) (N := 14) (shA (i := a) (by omega)) (by rfl) ?_
          refine Go.run hsz hn1 4 (pc' := 98) (lv' := [some (gr 0), some (gi a), some (gr (24 + a.toNat)), some (gi 0)]) (st' := [gi ((gu mi (24 + a.toNat) 8 (-2)) 1 1), gr 1]) (M' := gw (gu mi (24 + a.toNat) 8 (-2)) ml) rfl ?_
          refine Go.run hsz hn1 0 (pc' := 98) (lv' := [some (gr 0), some (gi a), some (gr (24 + a.toNat)), some (gi 0)]) (st' := [gi ((gu mi (24 + a.toNat) 8 (-2)) 1 1), gr 1]) (M' := gw (gu mi (24 + a.toNat) 8 (-2)) ml) rfl ?_
          rw [show (gu mi (24 + a.toNat) 8 (-2)) 1 1 = mi 1 1 from gu_ne (Or.inr (by decide))]
          refine Go.run hsz hn1 4 (pc' := 104) (lv' := [some (gr 0), some (gi a), some (gr (24 + a.toNat)), some (gi 0)]) (st' := [gi 0]) (M' := gw (gu (gu mi (24 + a.toNat) 8 (-2)) 1 1 ((mi 1 1) - 0)) ml) rfl ?_
          exact Go.iret (by rfl) (Or.inr (Or.inr ⟨by omega, mi, _, Or.inl ⟨by omega, rfl⟩, rfl, rfl, fun _ _ _ _ _ => rfl, hR⟩))
      · replace kq3 := b2_pos kq3
        refine Go.run hsz hn1 2 (pc' := 51) (lv' := [some (gr 0), some (gi a), some (gr (24 + a.toNat)), none]) (st' := [gi (-1000005), gr 0]) (M' := gw mi ml) rfl ?_
        refine Go.callV (As := [gi (-1000005)]) (b := 0) (st := []) (mc1 := 0) (mc := 0) (ms1 := 0) (ms := 0) (by rfl) rfl (c := 10) (N := 9) (by rfl) (by decide) (by rfl) (gcn 147 (by decide)).1 (gcn 147 (by decide)).2 rfl (Nat.le_of_ble_eq_true rfl) (by omega) (cC_finding hsz (n := n - 1) (by omega) mi ml (-1000005) (by decide) (by decide)) ?_
        rintro _ _ ⟨rfl, rfl⟩
        refine Go.run hsz hn1 0 (pc' := 54) (lv' := [some (gr 0), some (gi a), some (gr (24 + a.toNat)), none]) (st' := [gi (-1000005)]) (M' := gw (cFd mi 4) ml) rfl ?_
        first | exact Go.iret (by rfl) (Or.inl ⟨by omega, rfl, rfl⟩) | exact Go.iret (by rfl) (Or.inr (Or.inl ⟨by omega, rfl, rfl⟩))
  · replace kq1 := b2_neg kq1
    refine Go.run hsz hn1 2 (pc' := 14) (lv' := [some (gr 0), some (gi a), none, none]) (st' := [gi (-1000001), gr 0]) (M' := gw mi ml) rfl ?_
    refine Go.callV (As := [gi (-1000001)]) (b := 0) (st := []) (mc1 := 0) (mc := 0) (ms1 := 0) (ms := 0) (by rfl) rfl (c := 10) (N := 9) (by rfl) (by decide) (by rfl) (gcn 147 (by decide)).1 (gcn 147 (by decide)).2 rfl (Nat.le_of_ble_eq_true rfl) (by omega) (cC_finding hsz (n := n - 1) (by omega) mi ml (-1000001) (by decide) (by decide)) ?_
    rintro _ _ ⟨rfl, rfl⟩
    refine Go.run hsz hn1 0 (pc' := 17) (lv' := [some (gr 0), some (gi a), none, none]) (st' := [gi (-1000001)]) (M' := gw (cFd mi 0) ml) rfl ?_
    first | exact Go.iret (by rfl) (Or.inl ⟨by omega, rfl, rfl⟩) | exact Go.iret (by rfl) (Or.inr (Or.inl ⟨by omega, rfl, rfl⟩))
set_option maxRecDepth 100000 in
set_option maxHeartbeats 4000000 in
theorem pM_says {G : gG} (hsz : G.2.2.2.2.2.2 = true) {n : Nat} (hn : 8 ≤ n) (mi : Nat → Nat → Int) (ml : Nat → Nat → Int64) (l a : Int) (r_l : rng l) (r_a : rng a) (hv : SV mi) (hlw : ∀ l : Int, 0 ≤ l → l ≤ 1 → (0 ≤ mi 157 l.toNat ∧ mi 157 l.toNat ≤ 120) ∧ (0 < mi 157 l.toNat → eOK (eq_ mi l.toNat) (en_ mi a) (mi 157 l.toNat).toNat)) : gM G 213 n 0 0 [gr 148, gi l, gi a] (gw mi ml) (fun r M => gE (¬ ((0 ≤ l ∧ l ≤ 1) ∧ (0 ≤ a ∧ a ≤ mi 148 6 - 1))) (-1000001) (mFd mi 0) ml r M ∨ (((0 ≤ l ∧ l ≤ 1) ∧ (0 ≤ a ∧ a ≤ mi 148 6 - 1)) ∧ ∃ m, r = some (gi (mSays mi l.toNat a)) ∧ M = gw m ml ∧ (∀ c j : Nat, c ≠ 167 → m c j = mi c j) ∧ gR32 m)) := by
  have hn1 : 1 ≤ n := by omega
  obtain ⟨hR, ht, hp, hq, hP, hQ⟩ := id hv
  refine gM.of mX12_says okX12_says (gcp 213 (by decide)).1 (gcp 213 (by decide)).2 (Nat.le_of_ble_eq_true rfl) ?_
  refine Go.run hsz hn1 3 (pc' := 3) (lv' := [some (gr 148), some (gi l), some (gi a)]) (st' := [gi 1, gi 0, gi l]) (M' := gw mi ml) rfl ?_
  refine Go.callS (As := [gi l, gi 0, gi 1]) (st := []) (mc1 := 0) (mc := 0) (ms1 := 0) (ms := 0) (by rfl) rfl (gcn 153 (by decide)).1 (gcn 153 (by decide)).2 (Nat.le_of_ble_eq_true rfl) (by omega) (cM_in hsz (n := n - 1) (by omega) mi ml l 0 1 r_l ⟨by decide, by decide⟩ ⟨by decide, by decide⟩) ?_
  rintro _ _ ⟨rfl, rfl⟩
  refine Go.run hsz hn1 0 (pc' := 6) (lv' := [some (gr 148), some (gi l), some (gi a)]) (st' := [gi (b2 (0 ≤ l ∧ l ≤ 1))]) (M' := gw mi ml) rfl ?_
  refine Go.if_eq (by rfl) (b2_rng _) (fun kq1 => ?_) (fun kq1 => ?_)
  · replace kq1 := b2_neg kq1
    refine Go.run hsz hn1 2 (pc' := 28) (lv' := [some (gr 148), some (gi l), some (gi a)]) (st' := [gi 0, gr 148]) (M' := gw mi ml) rfl ?_
    refine Go.callV (As := [gi 0]) (b := 148) (st := []) (mc1 := 0) (mc := 0) (ms1 := 0) (ms := 0) (by rfl) rfl (c := 11) (N := 46) (by rfl) (by decide) (by rfl) (gcn 154 (by decide)).1 (gcn 154 (by decide)).2 rfl (Nat.le_of_ble_eq_true rfl) (by omega) (cM_finds hsz (n := n - 1) (by omega) mi ml 0 (by decide) (by decide)) ?_
    rintro _ _ ⟨rfl, rfl⟩
    refine Go.run hsz hn1 0 (pc' := 31) (lv' := [some (gr 148), some (gi l), some (gi a)]) (st' := [gi (-1000001)]) (M' := gw (mFd mi 0) ml) rfl ?_
    exact Go.iret (by rfl) (Or.inl ⟨by omega, rfl, rfl⟩)
  · replace kq1 := b2_pos kq1
    refine Go.run hsz hn1 2 (pc' := 11) (lv' := [some (gr 148), some (gi l), some (gi a)]) (st' := [gi a, gr 148]) (M' := gw mi ml) rfl ?_
    refine Go.callV (As := [gi a]) (b := 148) (st := []) (mc1 := 0) (mc := 0) (ms1 := 0) (ms := 0) (by rfl) rfl (c := 11) (N := 46) (by rfl) (by decide) (by rfl) (gcn 156 (by decide)).1 (gcn 156 (by decide)).2 rfl (Nat.le_of_ble_eq_true rfl) (by omega) (cM_isParty hsz (n := n - 1) (by omega) mi ml a r_a hq.1 hq.2) ?_
    rintro _ _ ⟨rfl, rfl⟩
    refine Go.run hsz hn1 0 (pc' := 14) (lv' := [some (gr 148), some (gi l), some (gi a)]) (st' := [gi (b2 (0 ≤ a ∧ a ≤ mi 148 6 - 1))]) (M' := gw mi ml) rfl ?_
    refine Go.if_eq (by rfl) (b2_rng _) (fun kq2 => ?_) (fun kq2 => ?_)
    · replace kq2 := b2_neg kq2
      refine Go.run hsz hn1 2 (pc' := 28) (lv' := [some (gr 148), some (gi l), some (gi a)]) (st' := [gi 0, gr 148]) (M' := gw mi ml) rfl ?_
      refine Go.callV (As := [gi 0]) (b := 148) (st := []) (mc1 := 0) (mc := 0) (ms1 := 0) (ms := 0) (by rfl) rfl (c := 11) (N := 46) (by rfl) (by decide) (by rfl) (gcn 154 (by decide)).1 (gcn 154 (by decide)).2 rfl (Nat.le_of_ble_eq_true rfl) (by omega) (cM_finds hsz (n := n - 1) (by omega) mi ml 0 (by decide) (by decide)) ?_
      rintro _ _ ⟨rfl, rfl⟩
      refine Go.run hsz hn1 0 (pc' := 31) (lv' := [some (gr 148), some (gi l), some (gi a)]) (st' := [gi (-1000001)]) (M' := gw (mFd mi 0) ml) rfl ?_
      exact Go.iret (by rfl) (Or.inl ⟨by omega, rfl, rfl⟩)
    · replace kq2 := b2_pos kq2
      refine Go.run hsz hn1 3 (pc' := 20) (lv' := [some (gr 148), some (gi l), some (gi a)]) (st' := [gi a, gi l, gr 148]) (M' := gw mi ml) rfl ?_
      refine Go.callV (As := [gi l, gi a]) (b := 148) (st := []) (mc1 := 0) (mc := 0) (ms1 := 0) (ms := 0) (by rfl) rfl (c := 11) (N := 46) (by rfl) (by decide) (by rfl) (gcn 212 (by decide)).1 (gcn 212 (by decide)).2 rfl (Nat.le_of_ble_eq_true rfl) (by omega) (cM_saysOf hsz (n := n - 1) (by omega) mi ml l a (by omega) (by omega) (by omega) (by omega) hv (hlw l (by omega) (by omega)).1 (hlw l (by omega) (by omega)).2) ?_
      rintro _ _ ⟨m, rfl, rfl, hm, hmR⟩
      have hsb := mSays_b (mi := mi) (a := a) (hP a (by omega) (by omega)) (l : Int).toNat
      refine Go.run hsz hn1 1 (pc' := 31) (lv' := [some (gr 148), some (gi l), some (gi a)]) (st' := [gi (mSays mi l.toNat a)]) (M' := gw m ml) rfl ?_
      exact Go.iret (by rfl) (Or.inr ⟨by omega, m, rfl, rfl, hm, hmR⟩)
set_option maxRecDepth 100000 in
set_option maxHeartbeats 4000000 in
theorem pM_pay {G : gG} (hsz : G.2.2.2.2.2.2 = true) {n : Nat} (hn : 8 ≤ n) (mi : Nat → Nat → Int) (ml : Nat → Nat → Int64) (a : Int) (r_a : rng a) (hv : SV mi) (hlw : ∀ l : Int, 0 ≤ l → l ≤ 1 → (0 ≤ mi 157 l.toNat ∧ mi 157 l.toNat ≤ 120) ∧ (0 < mi 157 l.toNat → eOK (eq_ mi l.toNat) (en_ mi a) (mi 157 l.toNat).toNat)) : gM G 214 n 0 0 [gr 148, gi a] (gw mi ml) (fun r M => gE (¬ (0 ≤ a ∧ a ≤ mi 148 6 - 1)) (-1000001) (mFd mi 0) ml r M ∨ gE ((0 ≤ a ∧ a ≤ mi 148 6 - 1) ∧ (mOf mi a 6 = -2 ∨ 0 ≤ mOf mi a 8)) (-1000005) (mFd mi 4) ml r M ∨ (((0 ≤ a ∧ a ≤ mi 148 6 - 1) ∧ ¬ (mOf mi a 6 = -2 ∨ 0 ≤ mOf mi a 8)) ∧ ∃ m, r = some (gi ((mOf mi a 5) * (mSays mi 0 a))) ∧ M = gw (gu (gu m 152 ((12 * a) + 8).toNat ((mOf mi a 5) * (mSays mi 0 a))) 148 1 (m 148 1 + ((mOf mi a 5) * (mSays mi 0 a)))) ml ∧ (∀ c j : Nat, c ≠ 167 → m c j = mi c j) ∧ gR32 m)) := by
  have hn1 : 1 ≤ n := by omega
  obtain ⟨hR, ht, hp, hq, hP, hQ⟩ := id hv
  refine gM.of mX12_pay okX12_pay (gcp 214 (by decide)).1 (gcp 214 (by decide)).2 (Nat.le_of_ble_eq_true rfl) ?_
  refine Go.run hsz hn1 2 (pc' := 2) (lv' := [some (gr 148), some (gi a), none]) (st' := [gi a, gr 148]) (M' := gw mi ml) rfl ?_
  refine Go.callV (As := [gi a]) (b := 148) (st := []) (mc1 := 0) (mc := 0) (ms1 := 0) (ms := 0) (by rfl) rfl (c := 11) (N := 46) (by rfl) (by decide) (by rfl) (gcn 156 (by decide)).1 (gcn 156 (by decide)).2 rfl (Nat.le_of_ble_eq_true rfl) (by omega) (cM_isParty hsz (n := n - 1) (by omega) mi ml a r_a hq.1 hq.2) ?_
  rintro _ _ ⟨rfl, rfl⟩
  refine Go.run hsz hn1 0 (pc' := 5) (lv' := [some (gr 148), some (gi a), none]) (st' := [gi (b2 (0 ≤ a ∧ a ≤ mi 148 6 - 1))]) (M' := gw mi ml) rfl ?_
  refine Go.if_ne (by rfl) (b2_rng _) (fun kq1 => ?_) (fun kq1 => ?_)
  · replace kq1 := b2_pos kq1
    refine Go.run hsz hn1 3 (pc' := 18) (lv' := [some (gr 148), some (gi a), none]) (st' := [gi 6, gi a, gr 148]) (M' := gw mi ml) rfl ?_
    refine Go.callV (As := [gi a, gi 6]) (b := 148) (st := []) (mc1 := 0) (mc := 0) (ms1 := 0) (ms := 0) (by rfl) rfl (c := 11) (N := 46) (by rfl) (by decide) (by rfl) (gcn 165 (by decide)).1 (gcn 165 (by decide)).2 rfl (Nat.le_of_ble_eq_true rfl) (by omega) (cM_of hsz (n := n - 1) (by omega) mi ml a 6 (by omega) (by omega) (by omega) (by omega)) ?_
    rintro _ _ ⟨rfl, rfl⟩
    refine Go.run hsz hn1 1 (pc' := 23) (lv' := [some (gr 148), some (gi a), none]) (st' := [gi (-2), gi (mOf mi a 6)]) (M' := gw mi ml) rfl ?_
    refine Go.icmp_eq (by rfl) (hR _ _) ⟨by decide, by decide⟩ (fun kq2 => ?_) (fun kq2 => ?_)
    · refine Go.run hsz hn1 2 (pc' := 38) (lv' := [some (gr 148), some (gi a), none]) (st' := [gi 4, gr 148]) (M' := gw mi ml) rfl ?_
      refine Go.callV (As := [gi 4]) (b := 148) (st := []) (mc1 := 0) (mc := 0) (ms1 := 0) (ms := 0) (by rfl) rfl (c := 11) (N := 46) (by rfl) (by decide) (by rfl) (gcn 154 (by decide)).1 (gcn 154 (by decide)).2 rfl (Nat.le_of_ble_eq_true rfl) (by omega) (cM_finds hsz (n := n - 1) (by omega) mi ml 4 (by decide) (by decide)) ?_
      rintro _ _ ⟨rfl, rfl⟩
      refine Go.run hsz hn1 0 (pc' := 41) (lv' := [some (gr 148), some (gi a), none]) (st' := [gi (-1000005)]) (M' := gw (mFd mi 4) ml) rfl ?_
      first | exact Go.iret (by rfl) (Or.inl ⟨by omega, rfl, rfl⟩) | exact Go.iret (by rfl) (Or.inr (Or.inl ⟨by omega, rfl, rfl⟩))
    · refine Go.run hsz hn1 3 (pc' := 30) (lv' := [some (gr 148), some (gi a), none]) (st' := [gi 8, gi a, gr 148]) (M' := gw mi ml) rfl ?_
      refine Go.callV (As := [gi a, gi 8]) (b := 148) (st := []) (mc1 := 0) (mc := 0) (ms1 := 0) (ms := 0) (by rfl) rfl (c := 11) (N := 46) (by rfl) (by decide) (by rfl) (gcn 165 (by decide)).1 (gcn 165 (by decide)).2 rfl (Nat.le_of_ble_eq_true rfl) (by omega) (cM_of hsz (n := n - 1) (by omega) mi ml a 8 (by omega) (by omega) (by omega) (by omega)) ?_
      rintro _ _ ⟨rfl, rfl⟩
      refine Go.run hsz hn1 0 (pc' := 33) (lv' := [some (gr 148), some (gi a), none]) (st' := [gi (mOf mi a 8)]) (M' := gw mi ml) rfl ?_
      refine Go.if_lt (by rfl) (hR _ _) (fun kq3 => ?_) (fun kq3 => ?_)
      · refine Go.run hsz hn1 3 (pc' := 45) (lv' := [some (gr 148), some (gi a), none]) (st' := [gi 5, gi a, gr 148]) (M' := gw mi ml) rfl ?_
        refine Go.callV (As := [gi a, gi 5]) (b := 148) (st := []) (mc1 := 0) (mc := 0) (ms1 := 0) (ms := 0) (by rfl) rfl (c := 11) (N := 46) (by rfl) (by decide) (by rfl) (gcn 165 (by decide)).1 (gcn 165 (by decide)).2 rfl (Nat.le_of_ble_eq_true rfl) (by omega) (cM_of hsz (n := n - 1) (by omega) mi ml a 5 (by omega) (by omega) (by omega) (by omega)) ?_
        rintro _ _ ⟨rfl, rfl⟩
        refine Go.run hsz hn1 3 (pc' := 51) (lv' := [some (gr 148), some (gi a), none]) (st' := [gi a, gi 0, gr 148, gi (mOf mi a 5)]) (M' := gw mi ml) rfl ?_
        refine Go.callV (As := [gi 0, gi a]) (b := 148) (st := [gi (mOf mi a 5)]) (mc1 := 0) (mc := 0) (ms1 := 0) (ms := 0) (by rfl) rfl (c := 11) (N := 46) (by rfl) (by decide) (by rfl) (gcn 212 (by decide)).1 (gcn 212 (by decide)).2 rfl (Nat.le_of_ble_eq_true rfl) (by omega) (cM_saysOf hsz (n := n - 1) (by omega) mi ml 0 a (by omega) (by omega) (by omega) (by omega) hv (hlw 0 (by omega) (by omega)).1 (hlw 0 (by omega) (by omega)).2) ?_
        rintro _ _ ⟨m, rfl, rfl, hm, hmR⟩
        have hsb := mSays_b (mi := mi) (a := a) (hP a (by omega) (by omega)) (0 : Int).toNat
        refine Go.run hsz hn1 10 (pc' := 68) (lv' := [some (gr 148), some (gi a), some (gi ((mOf mi a 5) * (mSays mi 0 a)))]) (st' := [gi ((mOf mi a 5) * (mSays mi 0 a)), gi ((12 * a) + 8), gr 152]) (M' := gw m ml) rfl ?_
        refine Go.iast (by rfl) (N := 288) (by rfl) (by omega) (by omega) (by decide) ?_
        refine Go.run hsz hn1 3 (pc' := 74) (lv' := [some (gr 148), some (gi a), some (gi ((mOf mi a 5) * (mSays mi 0 a)))]) (st' := [gi ((gu m 152 (((12 * a) + 8).toNat) ((mOf mi a 5) * (mSays mi 0 a))) 148 1), gr 148]) (M' := gw (gu m 152 (((12 * a) + 8).toNat) ((mOf mi a 5) * (mSays mi 0 a))) ml) rfl ?_
        refine Go.run hsz hn1 0 (pc' := 74) (lv' := [some (gr 148), some (gi a), some (gi ((mOf mi a 5) * (mSays mi 0 a)))]) (st' := [gi ((gu m 152 (((12 * a) + 8).toNat) ((mOf mi a 5) * (mSays mi 0 a))) 148 1), gr 148]) (M' := gw (gu m 152 (((12 * a) + 8).toNat) ((mOf mi a 5) * (mSays mi 0 a))) ml) rfl ?_
        rw [show (gu m 152 (((12 * a) + 8).toNat) ((mOf mi a 5) * (mSays mi 0 a))) 148 1 = m 148 1 from gu_ne (Or.inl (by decide))]
        refine Go.run hsz hn1 4 (pc' := 80) (lv' := [some (gr 148), some (gi a), some (gi ((mOf mi a 5) * (mSays mi 0 a)))]) (st' := [gi ((mOf mi a 5) * (mSays mi 0 a))]) (M' := gw (gu (gu m 152 (((12 * a) + 8).toNat) ((mOf mi a 5) * (mSays mi 0 a))) 148 1 ((m 148 1) + ((mOf mi a 5) * (mSays mi 0 a)))) ml) rfl ?_
        exact Go.iret (by rfl) (Or.inr (Or.inr ⟨by omega, m, rfl, rfl, hm, hmR⟩))
      · refine Go.run hsz hn1 2 (pc' := 38) (lv' := [some (gr 148), some (gi a), none]) (st' := [gi 4, gr 148]) (M' := gw mi ml) rfl ?_
        refine Go.callV (As := [gi 4]) (b := 148) (st := []) (mc1 := 0) (mc := 0) (ms1 := 0) (ms := 0) (by rfl) rfl (c := 11) (N := 46) (by rfl) (by decide) (by rfl) (gcn 154 (by decide)).1 (gcn 154 (by decide)).2 rfl (Nat.le_of_ble_eq_true rfl) (by omega) (cM_finds hsz (n := n - 1) (by omega) mi ml 4 (by decide) (by decide)) ?_
        rintro _ _ ⟨rfl, rfl⟩
        refine Go.run hsz hn1 0 (pc' := 41) (lv' := [some (gr 148), some (gi a), none]) (st' := [gi (-1000005)]) (M' := gw (mFd mi 4) ml) rfl ?_
        first | exact Go.iret (by rfl) (Or.inl ⟨by omega, rfl, rfl⟩) | exact Go.iret (by rfl) (Or.inr (Or.inl ⟨by omega, rfl, rfl⟩))
  · replace kq1 := b2_neg kq1
    refine Go.run hsz hn1 2 (pc' := 10) (lv' := [some (gr 148), some (gi a), none]) (st' := [gi 0, gr 148]) (M' := gw mi ml) rfl ?_
    refine Go.callV (As := [gi 0]) (b := 148) (st := []) (mc1 := 0) (mc := 0) (ms1 := 0) (ms := 0) (by rfl) rfl (c := 11) (N := 46) (by rfl) (by decide) (by rfl) (gcn 154 (by decide)).1 (gcn 154 (by decide)).2 rfl (Nat.le_of_ble_eq_true rfl) (by omega) (cM_finds hsz (n := n - 1) (by omega) mi ml 0 (by decide) (by decide)) ?_
    rintro _ _ ⟨rfl, rfl⟩
    refine Go.run hsz hn1 0 (pc' := 13) (lv' := [some (gr 148), some (gi a), none]) (st' := [gi (-1000001)]) (M' := gw (mFd mi 0) ml) rfl ?_
    first | exact Go.iret (by rfl) (Or.inl ⟨by omega, rfl, rfl⟩) | exact Go.iret (by rfl) (Or.inr (Or.inl ⟨by omega, rfl, rfl⟩))
set_option maxRecDepth 100000 in
set_option maxHeartbeats 4000000 in
theorem pM_cancel {G : gG} (hsz : G.2.2.2.2.2.2 = true) {n : Nat} (hn : 8 ≤ n) (mi : Nat → Nat → Int) (ml : Nat → Nat → Int64) (a : Int) (r_a : rng a) (hv : SV mi) (hlw : ∀ l : Int, 0 ≤ l → l ≤ 1 → (0 ≤ mi 157 l.toNat ∧ mi 157 l.toNat ≤ 120) ∧ (0 < mi 157 l.toNat → eOK (eq_ mi l.toNat) (en_ mi a) (mi 157 l.toNat).toNat)) : gM G 215 n 0 0 [gr 148, gi a] (gw mi ml) (fun r M => gE (¬ (0 ≤ a ∧ a ≤ mi 148 6 - 1)) (-1000001) (mFd mi 0) ml r M ∨ gE ((0 ≤ a ∧ a ≤ mi 148 6 - 1) ∧ (mOf mi a 6 = -2 ∨ (0 ≤ mOf mi a 6 ∧ mOf mi a 4 ≤ mi 148 0))) (-1000005) (mFd mi 4) ml r M ∨ (((0 ≤ a ∧ a ≤ mi 148 6 - 1) ∧ ¬ (mOf mi a 6 = -2 ∨ (0 ≤ mOf mi a 6 ∧ mOf mi a 4 ≤ mi 148 0))) ∧ ∃ (m : Nat → Nat → Int) (v : Int), ((¬ 0 < mOf mi a 8 ∧ v = 0) ∨ (0 < mOf mi a 8 ∧ v = ((mOf mi a 8) * (mSays mi 1 a)) / 100)) ∧ r = some (gi v) ∧ M = gw (gu (gu m 152 ((12 * a) + 6).toNat (-2)) 148 1 (m 148 1 - v)) ml ∧ (∀ c j : Nat, c ≠ 167 → m c j = mi c j) ∧ gR32 m)) := by
  have hn1 : 1 ≤ n := by omega
  obtain ⟨hR, ht, hp, hq, hP, hQ⟩ := id hv
  refine gM.of mX12_cancel okX12_cancel (gcp 215 (by decide)).1 (gcp 215 (by decide)).2 (Nat.le_of_ble_eq_true rfl) ?_
  refine Go.run hsz hn1 2 (pc' := 2) (lv' := [some (gr 148), some (gi a), none]) (st' := [gi a, gr 148]) (M' := gw mi ml) rfl ?_
  refine Go.callV (As := [gi a]) (b := 148) (st := []) (mc1 := 0) (mc := 0) (ms1 := 0) (ms := 0) (by rfl) rfl (c := 11) (N := 46) (by rfl) (by decide) (by rfl) (gcn 156 (by decide)).1 (gcn 156 (by decide)).2 rfl (Nat.le_of_ble_eq_true rfl) (by omega) (cM_isParty hsz (n := n - 1) (by omega) mi ml a r_a hq.1 hq.2) ?_
  rintro _ _ ⟨rfl, rfl⟩
  refine Go.run hsz hn1 0 (pc' := 5) (lv' := [some (gr 148), some (gi a), none]) (st' := [gi (b2 (0 ≤ a ∧ a ≤ mi 148 6 - 1))]) (M' := gw mi ml) rfl ?_
  refine Go.if_ne (by rfl) (b2_rng _) (fun kq1 => ?_) (fun kq1 => ?_)
  · replace kq1 := b2_pos kq1
    refine Go.run hsz hn1 3 (pc' := 18) (lv' := [some (gr 148), some (gi a), none]) (st' := [gi 6, gi a, gr 148]) (M' := gw mi ml) rfl ?_
    refine Go.callV (As := [gi a, gi 6]) (b := 148) (st := []) (mc1 := 0) (mc := 0) (ms1 := 0) (ms := 0) (by rfl) rfl (c := 11) (N := 46) (by rfl) (by decide) (by rfl) (gcn 165 (by decide)).1 (gcn 165 (by decide)).2 rfl (Nat.le_of_ble_eq_true rfl) (by omega) (cM_of hsz (n := n - 1) (by omega) mi ml a 6 (by omega) (by omega) (by omega) (by omega)) ?_
    rintro _ _ ⟨rfl, rfl⟩
    refine Go.run hsz hn1 1 (pc' := 23) (lv' := [some (gr 148), some (gi a), none]) (st' := [gi (-2), gi (mOf mi a 6)]) (M' := gw mi ml) rfl ?_
    refine Go.icmp_eq (by rfl) (hR _ _) ⟨by decide, by decide⟩ (fun kq2 => ?_) (fun kq2 => ?_)
    · refine Go.run hsz hn1 2 (pc' := 46) (lv' := [some (gr 148), some (gi a), none]) (st' := [gi 4, gr 148]) (M' := gw mi ml) rfl ?_
      refine Go.callV (As := [gi 4]) (b := 148) (st := []) (mc1 := 0) (mc := 0) (ms1 := 0) (ms := 0) (by rfl) rfl (c := 11) (N := 46) (by rfl) (by decide) (by rfl) (gcn 154 (by decide)).1 (gcn 154 (by decide)).2 rfl (Nat.le_of_ble_eq_true rfl) (by omega) (cM_finds hsz (n := n - 1) (by omega) mi ml 4 (by decide) (by decide)) ?_
      rintro _ _ ⟨rfl, rfl⟩
      refine Go.run hsz hn1 0 (pc' := 49) (lv' := [some (gr 148), some (gi a), none]) (st' := [gi (-1000005)]) (M' := gw (mFd mi 4) ml) rfl ?_
      first | exact Go.iret (by rfl) (Or.inl ⟨by omega, rfl, rfl⟩) | exact Go.iret (by rfl) (Or.inr (Or.inl ⟨by omega, rfl, rfl⟩))
    · refine Go.run hsz hn1 3 (pc' := 30) (lv' := [some (gr 148), some (gi a), none]) (st' := [gi 6, gi a, gr 148]) (M' := gw mi ml) rfl ?_
      refine Go.callV (As := [gi a, gi 6]) (b := 148) (st := []) (mc1 := 0) (mc := 0) (ms1 := 0) (ms := 0) (by rfl) rfl (c := 11) (N := 46) (by rfl) (by decide) (by rfl) (gcn 165 (by decide)).1 (gcn 165 (by decide)).2 rfl (Nat.le_of_ble_eq_true rfl) (by omega) (cM_of hsz (n := n - 1) (by omega) mi ml a 6 (by omega) (by omega) (by omega) (by omega)) ?_
      rintro _ _ ⟨rfl, rfl⟩
      refine Go.run hsz hn1 0 (pc' := 33) (lv' := [some (gr 148), some (gi a), none]) (st' := [gi (mOf mi a 6)]) (M' := gw mi ml) rfl ?_
      refine Go.if_lt (by rfl) (hR _ _) (fun kq3 => ?_) (fun kq3 => ?_)
      · refine Go.run hsz hn1 3 (pc' := 54) (lv' := [some (gr 148), some (gi a), none]) (st' := [gi 8, gi a, gr 148]) (M' := gw mi ml) rfl ?_
        refine Go.callV (As := [gi a, gi 8]) (b := 148) (st := []) (mc1 := 0) (mc := 0) (ms1 := 0) (ms := 0) (by rfl) rfl (c := 11) (N := 46) (by rfl) (by decide) (by rfl) (gcn 165 (by decide)).1 (gcn 165 (by decide)).2 rfl (Nat.le_of_ble_eq_true rfl) (by omega) (cM_of hsz (n := n - 1) (by omega) mi ml a 8 (by omega) (by omega) (by omega) (by omega)) ?_
        rintro _ _ ⟨rfl, rfl⟩
        refine Go.run hsz hn1 0 (pc' := 57) (lv' := [some (gr 148), some (gi a), none]) (st' := [gi (mOf mi a 8)]) (M' := gw mi ml) rfl ?_
        refine Go.if_le (by rfl) (hR _ _) (fun kq4 => ?_) (fun kq4 => ?_)
        · refine Go.run hsz hn1 10 (pc' := 95) (lv' := [some (gr 148), some (gi a), some (gi 0)]) (st' := [gi (-2), gi ((12 * a) + 6), gr 152]) (M' := gw mi ml) rfl ?_
          refine Go.iast (by rfl) (N := 288) (by rfl) (by omega) (by omega) (by decide) ?_
          refine Go.run hsz hn1 3 (pc' := 101) (lv' := [some (gr 148), some (gi a), some (gi 0)]) (st' := [gi ((gu mi 152 (((12 * a) + 6).toNat) (-2)) 148 1), gr 148]) (M' := gw (gu mi 152 (((12 * a) + 6).toNat) (-2)) ml) rfl ?_
          refine Go.run hsz hn1 0 (pc' := 101) (lv' := [some (gr 148), some (gi a), some (gi 0)]) (st' := [gi ((gu mi 152 (((12 * a) + 6).toNat) (-2)) 148 1), gr 148]) (M' := gw (gu mi 152 (((12 * a) + 6).toNat) (-2)) ml) rfl ?_
          rw [show (gu mi 152 (((12 * a) + 6).toNat) (-2)) 148 1 = mi 148 1 from gu_ne (Or.inl (by decide))]
          refine Go.run hsz hn1 4 (pc' := 107) (lv' := [some (gr 148), some (gi a), some (gi 0)]) (st' := [gi 0]) (M' := gw (gu (gu mi 152 (((12 * a) + 6).toNat) (-2)) 148 1 ((mi 148 1) - 0)) ml) rfl ?_
          exact Go.iret (by rfl) (Or.inr (Or.inr ⟨by omega, mi, _, Or.inl ⟨by omega, rfl⟩, rfl, rfl, fun _ _ _ => rfl, hR⟩))
        · refine Go.run hsz hn1 3 (pc' := 64) (lv' := [some (gr 148), some (gi a), none]) (st' := [gi 8, gi a, gr 148]) (M' := gw mi ml) rfl ?_
          refine Go.callV (As := [gi a, gi 8]) (b := 148) (st := []) (mc1 := 0) (mc := 0) (ms1 := 0) (ms := 0) (by rfl) rfl (c := 11) (N := 46) (by rfl) (by decide) (by rfl) (gcn 165 (by decide)).1 (gcn 165 (by decide)).2 rfl (Nat.le_of_ble_eq_true rfl) (by omega) (cM_of hsz (n := n - 1) (by omega) mi ml a 8 (by omega) (by omega) (by omega) (by omega)) ?_
          rintro _ _ ⟨rfl, rfl⟩
          refine Go.run hsz hn1 3 (pc' := 70) (lv' := [some (gr 148), some (gi a), none]) (st' := [gi a, gi 1, gr 148, gi (mOf mi a 8)]) (M' := gw mi ml) rfl ?_
          refine Go.callV (As := [gi 1, gi a]) (b := 148) (st := [gi (mOf mi a 8)]) (mc1 := 0) (mc := 0) (ms1 := 0) (ms := 0) (by rfl) rfl (c := 11) (N := 46) (by rfl) (by decide) (by rfl) (gcn 212 (by decide)).1 (gcn 212 (by decide)).2 rfl (Nat.le_of_ble_eq_true rfl) (by omega) (cM_saysOf hsz (n := n - 1) (by omega) mi ml 1 a (by omega) (by omega) (by omega) (by omega) hv (hlw 1 (by omega) (by omega)).1 (hlw 1 (by omega) (by omega)).2) ?_
          rintro _ _ ⟨m, rfl, rfl, hm, hmR⟩
          have hsb := mSays_b (mi := mi) (a := a) (hP a (by omega) (by omega)) (1 : Int).toNat
          have hsb : 0 ≤ mSays mi 1 a ∧ mSays mi 1 a ≤ 100 := hsb
          have hpd := (hP a (by omega) (by omega)).2.2.2.2.2.2.2.2.2.1
          have hmb := mul_b (x := mOf mi a 8) (y := mSays mi 1 a) (X := 299970) (Y := 100) (by omega) (by omega) hsb.1 hsb.2
          refine Go.run hsz hn1 2 (pc' := 76) (lv' := [some (gr 148), some (gi a), none]) (st' := [gi 100, gi ((mOf mi a 8) * (mSays mi 1 a))]) (M' := gw m ml) rfl ?_
          refine Go.idivN (by rfl) ⟨by omega, by omega⟩ (by decide) (by omega) ?_
          refine Go.run hsz hn1 10 (pc' := 95) (lv' := [some (gr 148), some (gi a), some (gi (((mOf mi a 8) * (mSays mi 1 a)) / 100))]) (st' := [gi (-2), gi ((12 * a) + 6), gr 152]) (M' := gw m ml) rfl ?_
          refine Go.iast (by rfl) (N := 288) (by rfl) (by omega) (by omega) (by decide) ?_
          refine Go.run hsz hn1 3 (pc' := 101) (lv' := [some (gr 148), some (gi a), some (gi (((mOf mi a 8) * (mSays mi 1 a)) / 100))]) (st' := [gi ((gu m 152 (((12 * a) + 6).toNat) (-2)) 148 1), gr 148]) (M' := gw (gu m 152 (((12 * a) + 6).toNat) (-2)) ml) rfl ?_
          refine Go.run hsz hn1 0 (pc' := 101) (lv' := [some (gr 148), some (gi a), some (gi (((mOf mi a 8) * (mSays mi 1 a)) / 100))]) (st' := [gi ((gu m 152 (((12 * a) + 6).toNat) (-2)) 148 1), gr 148]) (M' := gw (gu m 152 (((12 * a) + 6).toNat) (-2)) ml) rfl ?_
          rw [show (gu m 152 (((12 * a) + 6).toNat) (-2)) 148 1 = m 148 1 from gu_ne (Or.inl (by decide))]
          refine Go.run hsz hn1 4 (pc' := 107) (lv' := [some (gr 148), some (gi a), some (gi (((mOf mi a 8) * (mSays mi 1 a)) / 100))]) (st' := [gi (((mOf mi a 8) * (mSays mi 1 a)) / 100)]) (M' := gw (gu (gu m 152 (((12 * a) + 6).toNat) (-2)) 148 1 ((m 148 1) - (((mOf mi a 8) * (mSays mi 1 a)) / 100))) ml) rfl ?_
          exact Go.iret (by rfl) (Or.inr (Or.inr ⟨by omega, m, _, Or.inr ⟨by omega, rfl⟩, rfl, rfl, hm, hmR⟩))
      · refine Go.run hsz hn1 2 (pc' := 38) (lv' := [some (gr 148), some (gi a), none]) (st' := [gi a, gr 148]) (M' := gw mi ml) rfl ?_
        refine Go.callV (As := [gi a]) (b := 148) (st := []) (mc1 := 0) (mc := 0) (ms1 := 0) (ms := 0) (by rfl) rfl (c := 11) (N := 46) (by rfl) (by decide) (by rfl) (gcn 166 (by decide)).1 (gcn 166 (by decide)).2 rfl (Nat.le_of_ble_eq_true rfl) (by omega) (cM_hasCome hsz (n := n - 1) (by omega) mi ml a (by omega) (by omega) hR) ?_
        rintro _ _ ⟨rfl, rfl⟩
        refine Go.run hsz hn1 0 (pc' := 41) (lv' := [some (gr 148), some (gi a), none]) (st' := [gi (b2 (mOf mi a 4 ≤ mi 148 0))]) (M' := gw mi ml) rfl ?_
        refine Go.if_eq (by rfl) (b2_rng _) (fun kq5 => ?_) (fun kq5 => ?_)
        · replace kq5 := b2_neg kq5
          refine Go.run hsz hn1 3 (pc' := 54) (lv' := [some (gr 148), some (gi a), none]) (st' := [gi 8, gi a, gr 148]) (M' := gw mi ml) rfl ?_
          refine Go.callV (As := [gi a, gi 8]) (b := 148) (st := []) (mc1 := 0) (mc := 0) (ms1 := 0) (ms := 0) (by rfl) rfl (c := 11) (N := 46) (by rfl) (by decide) (by rfl) (gcn 165 (by decide)).1 (gcn 165 (by decide)).2 rfl (Nat.le_of_ble_eq_true rfl) (by omega) (cM_of hsz (n := n - 1) (by omega) mi ml a 8 (by omega) (by omega) (by omega) (by omega)) ?_
          rintro _ _ ⟨rfl, rfl⟩
          refine Go.run hsz hn1 0 (pc' := 57) (lv' := [some (gr 148), some (gi a), none]) (st' := [gi (mOf mi a 8)]) (M' := gw mi ml) rfl ?_
          refine Go.if_le (by rfl) (hR _ _) (fun kq6 => ?_) (fun kq6 => ?_)
          · refine Go.run hsz hn1 10 (pc' := 95) (lv' := [some (gr 148), some (gi a), some (gi 0)]) (st' := [gi (-2), gi ((12 * a) + 6), gr 152]) (M' := gw mi ml) rfl ?_
            refine Go.iast (by rfl) (N := 288) (by rfl) (by omega) (by omega) (by decide) ?_
            refine Go.run hsz hn1 3 (pc' := 101) (lv' := [some (gr 148), some (gi a), some (gi 0)]) (st' := [gi ((gu mi 152 (((12 * a) + 6).toNat) (-2)) 148 1), gr 148]) (M' := gw (gu mi 152 (((12 * a) + 6).toNat) (-2)) ml) rfl ?_
            refine Go.run hsz hn1 0 (pc' := 101) (lv' := [some (gr 148), some (gi a), some (gi 0)]) (st' := [gi ((gu mi 152 (((12 * a) + 6).toNat) (-2)) 148 1), gr 148]) (M' := gw (gu mi 152 (((12 * a) + 6).toNat) (-2)) ml) rfl ?_
            rw [show (gu mi 152 (((12 * a) + 6).toNat) (-2)) 148 1 = mi 148 1 from gu_ne (Or.inl (by decide))]
            refine Go.run hsz hn1 4 (pc' := 107) (lv' := [some (gr 148), some (gi a), some (gi 0)]) (st' := [gi 0]) (M' := gw (gu (gu mi 152 (((12 * a) + 6).toNat) (-2)) 148 1 ((mi 148 1) - 0)) ml) rfl ?_
            exact Go.iret (by rfl) (Or.inr (Or.inr ⟨by omega, mi, _, Or.inl ⟨by omega, rfl⟩, rfl, rfl, fun _ _ _ => rfl, hR⟩))
          · refine Go.run hsz hn1 3 (pc' := 64) (lv' := [some (gr 148), some (gi a), none]) (st' := [gi 8, gi a, gr 148]) (M' := gw mi ml) rfl ?_
            refine Go.callV (As := [gi a, gi 8]) (b := 148) (st := []) (mc1 := 0) (mc := 0) (ms1 := 0) (ms := 0) (by rfl) rfl (c := 11) (N := 46) (by rfl) (by decide) (by rfl) (gcn 165 (by decide)).1 (gcn 165 (by decide)).2 rfl (Nat.le_of_ble_eq_true rfl) (by omega) (cM_of hsz (n := n - 1) (by omega) mi ml a 8 (by omega) (by omega) (by omega) (by omega)) ?_
            rintro _ _ ⟨rfl, rfl⟩
            refine Go.run hsz hn1 3 (pc' := 70) (lv' := [some (gr 148), some (gi a), none]) (st' := [gi a, gi 1, gr 148, gi (mOf mi a 8)]) (M' := gw mi ml) rfl ?_
            refine Go.callV (As := [gi 1, gi a]) (b := 148) (st := [gi (mOf mi a 8)]) (mc1 := 0) (mc := 0) (ms1 := 0) (ms := 0) (by rfl) rfl (c := 11) (N := 46) (by rfl) (by decide) (by rfl) (gcn 212 (by decide)).1 (gcn 212 (by decide)).2 rfl (Nat.le_of_ble_eq_true rfl) (by omega) (cM_saysOf hsz (n := n - 1) (by omega) mi ml 1 a (by omega) (by omega) (by omega) (by omega) hv (hlw 1 (by omega) (by omega)).1 (hlw 1 (by omega) (by omega)).2) ?_
            rintro _ _ ⟨m, rfl, rfl, hm, hmR⟩
            have hsb := mSays_b (mi := mi) (a := a) (hP a (by omega) (by omega)) (1 : Int).toNat
            have hsb : 0 ≤ mSays mi 1 a ∧ mSays mi 1 a ≤ 100 := hsb
            have hpd := (hP a (by omega) (by omega)).2.2.2.2.2.2.2.2.2.1
            have hmb := mul_b (x := mOf mi a 8) (y := mSays mi 1 a) (X := 299970) (Y := 100) (by omega) (by omega) hsb.1 hsb.2
            refine Go.run hsz hn1 2 (pc' := 76) (lv' := [some (gr 148), some (gi a), none]) (st' := [gi 100, gi ((mOf mi a 8) * (mSays mi 1 a))]) (M' := gw m ml) rfl ?_
            refine Go.idivN (by rfl) ⟨by omega, by omega⟩ (by decide) (by omega) ?_
            refine Go.run hsz hn1 10 (pc' := 95) (lv' := [some (gr 148), some (gi a), some (gi (((mOf mi a 8) * (mSays mi 1 a)) / 100))]) (st' := [gi (-2), gi ((12 * a) + 6), gr 152]) (M' := gw m ml) rfl ?_
            refine Go.iast (by rfl) (N := 288) (by rfl) (by omega) (by omega) (by decide) ?_
            refine Go.run hsz hn1 3 (pc' := 101) (lv' := [some (gr 148), some (gi a), some (gi (((mOf mi a 8) * (mSays mi 1 a)) / 100))]) (st' := [gi ((gu m 152 (((12 * a) + 6).toNat) (-2)) 148 1), gr 148]) (M' := gw (gu m 152 (((12 * a) + 6).toNat) (-2)) ml) rfl ?_
            refine Go.run hsz hn1 0 (pc' := 101) (lv' := [some (gr 148), some (gi a), some (gi (((mOf mi a 8) * (mSays mi 1 a)) / 100))]) (st' := [gi ((gu m 152 (((12 * a) + 6).toNat) (-2)) 148 1), gr 148]) (M' := gw (gu m 152 (((12 * a) + 6).toNat) (-2)) ml) rfl ?_
            rw [show (gu m 152 (((12 * a) + 6).toNat) (-2)) 148 1 = m 148 1 from gu_ne (Or.inl (by decide))]
            refine Go.run hsz hn1 4 (pc' := 107) (lv' := [some (gr 148), some (gi a), some (gi (((mOf mi a 8) * (mSays mi 1 a)) / 100))]) (st' := [gi (((mOf mi a 8) * (mSays mi 1 a)) / 100)]) (M' := gw (gu (gu m 152 (((12 * a) + 6).toNat) (-2)) 148 1 ((m 148 1) - (((mOf mi a 8) * (mSays mi 1 a)) / 100))) ml) rfl ?_
            exact Go.iret (by rfl) (Or.inr (Or.inr ⟨by omega, m, _, Or.inr ⟨by omega, rfl⟩, rfl, rfl, hm, hmR⟩))
        · replace kq5 := b2_pos kq5
          refine Go.run hsz hn1 2 (pc' := 46) (lv' := [some (gr 148), some (gi a), none]) (st' := [gi 4, gr 148]) (M' := gw mi ml) rfl ?_
          refine Go.callV (As := [gi 4]) (b := 148) (st := []) (mc1 := 0) (mc := 0) (ms1 := 0) (ms := 0) (by rfl) rfl (c := 11) (N := 46) (by rfl) (by decide) (by rfl) (gcn 154 (by decide)).1 (gcn 154 (by decide)).2 rfl (Nat.le_of_ble_eq_true rfl) (by omega) (cM_finds hsz (n := n - 1) (by omega) mi ml 4 (by decide) (by decide)) ?_
          rintro _ _ ⟨rfl, rfl⟩
          refine Go.run hsz hn1 0 (pc' := 49) (lv' := [some (gr 148), some (gi a), none]) (st' := [gi (-1000005)]) (M' := gw (mFd mi 4) ml) rfl ?_
          first | exact Go.iret (by rfl) (Or.inl ⟨by omega, rfl, rfl⟩) | exact Go.iret (by rfl) (Or.inr (Or.inl ⟨by omega, rfl, rfl⟩))
  · replace kq1 := b2_neg kq1
    refine Go.run hsz hn1 2 (pc' := 10) (lv' := [some (gr 148), some (gi a), none]) (st' := [gi 0, gr 148]) (M' := gw mi ml) rfl ?_
    refine Go.callV (As := [gi 0]) (b := 148) (st := []) (mc1 := 0) (mc := 0) (ms1 := 0) (ms := 0) (by rfl) rfl (c := 11) (N := 46) (by rfl) (by decide) (by rfl) (gcn 154 (by decide)).1 (gcn 154 (by decide)).2 rfl (Nat.le_of_ble_eq_true rfl) (by omega) (cM_finds hsz (n := n - 1) (by omega) mi ml 0 (by decide) (by decide)) ?_
    rintro _ _ ⟨rfl, rfl⟩
    refine Go.run hsz hn1 0 (pc' := 13) (lv' := [some (gr 148), some (gi a), none]) (st' := [gi (-1000001)]) (M' := gw (mFd mi 0) ml) rfl ?_
    first | exact Go.iret (by rfl) (Or.inl ⟨by omega, rfl, rfl⟩) | exact Go.iret (by rfl) (Or.inr (Or.inl ⟨by omega, rfl, rfl⟩))
set_option maxHeartbeats 4000000 in
theorem op_says {G : gG} (hsz : G.2.2.2.2.2.2 = true) : gOp G Inv 121 213 2 := by
  intro t mi ml xs hlen hr ht hI
  match xs, hlen, hr with
  | [l, a], _, hr =>
    have r_l := hr l (by simp)
    have r_a := hr a (by simp)
    have hrep := hI.2.1
    have e3 : mi 1 3 = mi 148 6 := hrep.1.2.2.2.1
    refine ⟨_, pC_says hsz (n := 399) (by decide) mi ml l a r_l r_a hI.CV t hrep hI.SV, ?_⟩
    rintro r M1 (⟨c, rfl, rfl⟩ | ⟨c, m, rfl, rfl, hm, hmR⟩)
    · have f6 : (cFd mi 0) 148 6 = mi 148 6 := rfl
      refine ⟨_, rfl, (rB _ (by decide) (by decide)), _, _, rfl, _, pM_says hsz (n := 399) (by decide) (cFd mi 0) ml l a r_l r_a (SV.cFd hI ht (by decide)) (hI.lawM a), ?_⟩
      rintro r2 M2 (⟨c2, rfl, rfl⟩ | ⟨c2, -⟩)
      · exact ⟨rfl, _, _, rfl, hI.find ht (by decide)⟩
      · exfalso; omega
    · have hIm : Inv t m ml := hI.scr hmR (fun c j h1 h2 h3 _ => hm c j h1 h2 h3)
      have f6 : m 148 6 = mi 148 6 := hm 148 6 (by decide) (by decide) (by decide)
      have hsb := mSays_b (hI.SV.2.2.2.2.1 a (by omega) (by omega)) l.toNat
      have es : mSays m l.toNat a = mSays mi l.toNat a := mSays_c (fun c j h1 _ _ _ _ => hm c j (by omega) (by omega) (by omega)) (fun a w => hm _ _ (by decide) (by decide) (by decide)) _ _
      refine ⟨_, rfl, (by split at hsb <;> exact ⟨by omega, by omega⟩), _, _, rfl, _, pM_says hsz (n := 399) (by decide) m ml l a r_l r_a hIm.SV (hIm.lawM a), ?_⟩
      rintro r2 M2 (⟨c2, rfl, rfl⟩ | ⟨c2, m2, rfl, rfl, hm2, hm2R⟩)
      · exfalso; omega
      · exact ⟨congrArg (fun z => some (gi z)) es, _, _, rfl, (hIm.scr hm2R (fun c j _ _ _ h4 => hm2 c j h4)).mono⟩
set_option maxHeartbeats 4000000 in
theorem op_pay {G : gG} (hsz : G.2.2.2.2.2.2 = true) : gOp G Inv 122 214 1 := by
  intro t mi ml xs hlen hr ht hI
  match xs, hlen, hr with
  | [a], _, hr =>
    have r_a := hr a (by simp)
    have hrep := hI.2.1
    have e3 : mi 1 3 = mi 148 6 := hrep.1.2.2.2.1
    have b6 : 0 ≤ mi 148 6 ∧ mi 148 6 ≤ 24 := hrep.1.2.2.2.2.2.2.1
    refine ⟨_, pC_pay hsz (n := 399) (by decide) mi ml a r_a hI.CV t hrep hI.SV, ?_⟩
    rintro r M1 (⟨c, rfl, rfl⟩ | ⟨c, rfl, rfl⟩ | ⟨c, m, rfl, rfl, hm, hmR⟩)
    · have f6 : (cFd mi 0) 148 6 = mi 148 6 := rfl
      refine ⟨_, rfl, (rB _ (by decide) (by decide)), _, _, rfl, _, pM_pay hsz (n := 399) (by decide) (cFd mi 0) ml a r_a (SV.cFd hI ht (by decide)) (hI.lawM a), ?_⟩
      rintro r2 M2 (⟨c2, rfl, rfl⟩ | ⟨c2, rfl, rfl⟩ | ⟨c2, -⟩)
      · exact ⟨rfl, _, _, rfl, hI.find ht (by decide)⟩
      all_goals exfalso; omega
    · have f6 : (cFd mi 4) 148 6 = mi 148 6 := rfl
      obtain ⟨-, -, -, -, -, -, q8, -, q10, -⟩ := hrep.cA (a := a) (by omega) (by omega)
      have g6 : mOf (cFd mi 4) a 6 = mOf mi a 6 := rfl
      have g8 : mOf (cFd mi 4) a 8 = mOf mi a 8 := rfl
      have hpd := (hI.SV.2.2.2.2.1 a (by omega) (by omega)).2.2.2.2.2.2.2.2.2.1
      refine ⟨_, rfl, (rB _ (by decide) (by decide)), _, _, rfl, _, pM_pay hsz (n := 399) (by decide) (cFd mi 4) ml a r_a (SV.cFd hI ht (by decide)) (hI.lawM a), ?_⟩
      rintro r2 M2 (⟨c2, rfl, rfl⟩ | ⟨c2, rfl, rfl⟩ | ⟨c2, -⟩)
      · exfalso; omega
      · exact ⟨rfl, _, _, rfl, hI.find ht (by decide)⟩
      · exfalso; omega
    · obtain ⟨-, -, -, -, -, q5, q8, -, q10, -⟩ := hrep.cA (a := a) (by omega) (by omega)
      have hpv := hI.SV.2.2.2.2.1 a (by omega) (by omega)
      have hpd := hpv.2.2.2.2.2.2.2.2.2.1
      have hsb : 0 ≤ mSays mi 0 a ∧ mSays mi 0 a ≤ 9999 := mSays_b hpv 0
      have hn5 := hpv.2.2.2.2.2.1
      have hmb := mul_b (x := mOf mi a 5) (y := mSays mi 0 a) (X := 30) (Y := 9999) (by omega) (by omega) hsb.1 hsb.2
      rw [q5]
      generalize hvd : mOf mi a 5 * mSays mi 0 a = v at hmb
      have m11 : m 1 1 = mi 1 1 := hm 1 1 (by decide) (by decide) (by decide)
      have t11 : mi 1 1 = mi 148 1 := hrep.1.2.1
      have bt : -(299970 * (t : Int)) ≤ mi 148 1 ∧ mi 148 1 ≤ 299970 * t := hrep.1.2.2.2.2.2.2.2
      have hi' : ∀ c j : Nat, 148 ≤ c → gu (gu m (24 + a.toNat) 10 v) 1 1 (m 1 1 + v) c j = mi c j := fun c j hc => by rw [gu_other (by omega), gu_other (by omega)]; exact hm c j (by omega) (by omega) (by omega)
      have hR1 : gR32 (gu (gu m (24 + a.toNat) 10 v) 1 1 (m 1 1 + v)) := gR32_gu (gR32_gu hmR ⟨by omega, by omega⟩) ⟨by omega, by omega⟩
      have f6 := hi' 148 6 (by decide)
      have g5 : mOf (gu (gu m (24 + a.toNat) 10 v) 1 1 (m 1 1 + v)) a 5 = mOf mi a 5 := hi' _ _ (by decide)
      have g6 : mOf (gu (gu m (24 + a.toNat) 10 v) 1 1 (m 1 1 + v)) a 6 = mOf mi a 6 := hi' _ _ (by decide)
      have g8 : mOf (gu (gu m (24 + a.toNat) 10 v) 1 1 (m 1 1 + v)) a 8 = mOf mi a 8 := hi' _ _ (by decide)
      have es : mSays (gu (gu m (24 + a.toNat) 10 v) 1 1 (m 1 1 + v)) 0 a = mSays mi 0 a := mSays_c (fun c j h1 _ _ _ _ => hi' c j h1) (fun a w => hi' _ _ (by decide)) _ _
      have hl : ∀ l : Int, 0 ≤ l → l ≤ 1 → (0 ≤ (gu (gu m (24 + a.toNat) 10 v) 1 1 (m 1 1 + v)) 157 l.toNat ∧ (gu (gu m (24 + a.toNat) 10 v) 1 1 (m 1 1 + v)) 157 l.toNat ≤ 120) ∧ (0 < (gu (gu m (24 + a.toNat) 10 v) 1 1 (m 1 1 + v)) 157 l.toNat → eOK (eq_ (gu (gu m (24 + a.toNat) 10 v) 1 1 (m 1 1 + v)) l.toNat) (en_ (gu (gu m (24 + a.toNat) 10 v) 1 1 (m 1 1 + v)) a) ((gu (gu m (24 + a.toNat) 10 v) 1 1 (m 1 1 + v)) 157 l.toNat).toNat) := fun l l0 l1 => by
        have e1 : eq_ (gu (gu m (24 + a.toNat) 10 v) 1 1 (m 1 1 + v)) l.toNat = eq_ mi l.toNat := by funext i; exact hi' _ _ (by decide)
        have e2 : en_ (gu (gu m (24 + a.toNat) 10 v) 1 1 (m 1 1 + v)) a = en_ mi a := by
          funext x
          have hO' : ∀ b w, mOf (gu (gu m (24 + a.toNat) 10 v) 1 1 (m 1 1 + v)) b w = mOf mi b w := fun b w => hi' _ _ (by decide)
          unfold en_ mNm mOthers mStays
          simp only [hO', hi' 148 0 (by decide), hi' 148 6 (by decide)]
        rw [e1, e2, hi' 157 _ (by decide)]
        exact hI.lawM a l l0 l1
      refine ⟨_, rfl, ⟨by omega, by omega⟩, _, _, rfl, _, pM_pay hsz (n := 399) (by decide) (gu (gu m (24 + a.toNat) 10 v) 1 1 (m 1 1 + v)) ml a r_a (hI.SV.low hR1 (fun c j h => hi' c j h)) hl, ?_⟩
      rintro r2 M2 (⟨c2, rfl, rfl⟩ | ⟨c2, rfl, rfl⟩ | ⟨c2, m2, rfl, rfl, hm2, hm2R⟩)
      · exfalso; omega
      · exfalso; omega
      · rw [g5, es, hvd]
        refine ⟨rfl, _, _, rfl, ?_⟩
        have h1 := inv_pay hI ht (a := a) (v := v) (by omega) (by omega) (by omega)
        have e148 : m2 148 1 = mi 148 1 := (hm2 148 1 (by decide)).trans (hi' 148 1 (by decide))
        rw [e148]
        refine h1.scr (gR32_gu (gR32_gu hm2R ⟨by omega, by omega⟩) ⟨by omega, by omega⟩) (fun c j n1 n2 n3 n4 => ?_)
        unfold stT stA
        simp only [gu_eq]
        rw [hm2 c j n4]
        simp only [gu_eq]
        rw [hm c j n1 n2 n3]
        (repeat' split) <;> first | rfl | omega
set_option maxHeartbeats 4000000 in
theorem op_cancel {G : gG} (hsz : G.2.2.2.2.2.2 = true) : gOp G Inv 123 215 1 := by
  intro t mi ml xs hlen hr ht hI
  match xs, hlen, hr with
  | [a], _, hr =>
    have r_a := hr a (by simp)
    have hrep := hI.2.1
    have e0 : mi 1 0 = mi 148 0 := hrep.1.1
    have e3 : mi 1 3 = mi 148 6 := hrep.1.2.2.2.1
    have b6 : 0 ≤ mi 148 6 ∧ mi 148 6 ≤ 24 := hrep.1.2.2.2.2.2.2.1
    refine ⟨_, pC_cancel hsz (n := 399) (by decide) mi ml a r_a hI.CV t hrep hI.SV, ?_⟩
    rintro r M1 (⟨c, rfl, rfl⟩ | ⟨c, rfl, rfl⟩ | ⟨c, m, v, hvv, rfl, rfl, hm, hmR⟩)
    · have f6 : (cFd mi 0) 148 6 = mi 148 6 := rfl
      refine ⟨_, rfl, (rB _ (by decide) (by decide)), _, _, rfl, _, pM_cancel hsz (n := 399) (by decide) (cFd mi 0) ml a r_a (SV.cFd hI ht (by decide)) (hI.lawM a), ?_⟩
      rintro r2 M2 (⟨c2, rfl, rfl⟩ | ⟨c2, rfl, rfl⟩ | ⟨c2, -⟩)
      · exact ⟨rfl, _, _, rfl, hI.find ht (by decide)⟩
      all_goals exfalso; omega
    · have f6 : (cFd mi 4) 148 6 = mi 148 6 := rfl
      have f0 : (cFd mi 4) 148 0 = mi 148 0 := rfl
      obtain ⟨-, -, -, -, q4, -, q8, -⟩ := hrep.cA (a := a) (by omega) (by omega)
      have g6 : mOf (cFd mi 4) a 6 = mOf mi a 6 := rfl
      have g4 : mOf (cFd mi 4) a 4 = mOf mi a 4 := rfl
      refine ⟨_, rfl, (rB _ (by decide) (by decide)), _, _, rfl, _, pM_cancel hsz (n := 399) (by decide) (cFd mi 4) ml a r_a (SV.cFd hI ht (by decide)) (hI.lawM a), ?_⟩
      rintro r2 M2 (⟨c2, rfl, rfl⟩ | ⟨c2, rfl, rfl⟩ | ⟨c2, -⟩)
      · exfalso; omega
      · exact ⟨rfl, _, _, rfl, hI.find ht (by decide)⟩
      · exfalso; omega
    · obtain ⟨-, -, -, -, q4, -, q8, -, q10, -⟩ := hrep.cA (a := a) (by omega) (by omega)
      have hpv := hI.SV.2.2.2.2.1 a (by omega) (by omega)
      have hpd := hpv.2.2.2.2.2.2.2.2.2.1
      have hsb : 0 ≤ mSays mi 1 a ∧ mSays mi 1 a ≤ 100 := mSays_b hpv 1
      rw [q10] at hvv
      have hvb : 0 ≤ v ∧ v ≤ 299970 := by
        rcases hvv with q | ⟨q1, q2⟩
        · omega
        · have hmb := mul_b (x := mOf mi a 8) (y := mSays mi 1 a) (X := 299970) (Y := 100) (by omega) (by omega) hsb.1 hsb.2
          omega
      have hv2 : (¬ 0 < mOf mi a 8 ∧ v = 0) ∨ (0 < mOf mi a 8 ∧ v = ((mOf mi a 8) * (mSays mi 1 a)) / 100) := by
        rcases hvv with q | ⟨q1, q2⟩
        · exact Or.inl (by omega)
        · by_cases z : 0 < mOf mi a 8
          · exact Or.inr ⟨z, q2⟩
          · refine Or.inl ⟨z, ?_⟩
            rw [q2, show mOf mi a 8 = 0 by omega, Int.zero_mul]
            rfl
      have m11 : m 1 1 = mi 1 1 := hm 1 1 (by decide) (by decide) (by decide)
      have t11 : mi 1 1 = mi 148 1 := hrep.1.2.1
      have bt : -(299970 * (t : Int)) ≤ mi 148 1 ∧ mi 148 1 ≤ 299970 * t := hrep.1.2.2.2.2.2.2.2
      have hi' : ∀ c j : Nat, 148 ≤ c → gu (gu m (24 + a.toNat) 8 (-2)) 1 1 (m 1 1 - v) c j = mi c j := fun c j hc => by rw [gu_other (by omega), gu_other (by omega)]; exact hm c j (by omega) (by omega) (by omega)
      have hR1 : gR32 (gu (gu m (24 + a.toNat) 8 (-2)) 1 1 (m 1 1 - v)) := gR32_gu (gR32_gu hmR ⟨by omega, by omega⟩) ⟨by omega, by omega⟩
      have f6 := hi' 148 6 (by decide)
      have f0 := hi' 148 0 (by decide)
      have g4 : mOf (gu (gu m (24 + a.toNat) 8 (-2)) 1 1 (m 1 1 - v)) a 4 = mOf mi a 4 := hi' _ _ (by decide)
      have g6 : mOf (gu (gu m (24 + a.toNat) 8 (-2)) 1 1 (m 1 1 - v)) a 6 = mOf mi a 6 := hi' _ _ (by decide)
      have g8 : mOf (gu (gu m (24 + a.toNat) 8 (-2)) 1 1 (m 1 1 - v)) a 8 = mOf mi a 8 := hi' _ _ (by decide)
      have es : mSays (gu (gu m (24 + a.toNat) 8 (-2)) 1 1 (m 1 1 - v)) 1 a = mSays mi 1 a := mSays_c (fun c j h1 _ _ _ _ => hi' c j h1) (fun a w => hi' _ _ (by decide)) _ _
      have hl : ∀ l : Int, 0 ≤ l → l ≤ 1 → (0 ≤ (gu (gu m (24 + a.toNat) 8 (-2)) 1 1 (m 1 1 - v)) 157 l.toNat ∧ (gu (gu m (24 + a.toNat) 8 (-2)) 1 1 (m 1 1 - v)) 157 l.toNat ≤ 120) ∧ (0 < (gu (gu m (24 + a.toNat) 8 (-2)) 1 1 (m 1 1 - v)) 157 l.toNat → eOK (eq_ (gu (gu m (24 + a.toNat) 8 (-2)) 1 1 (m 1 1 - v)) l.toNat) (en_ (gu (gu m (24 + a.toNat) 8 (-2)) 1 1 (m 1 1 - v)) a) ((gu (gu m (24 + a.toNat) 8 (-2)) 1 1 (m 1 1 - v)) 157 l.toNat).toNat) := fun l l0 l1 => by
        have e1 : eq_ (gu (gu m (24 + a.toNat) 8 (-2)) 1 1 (m 1 1 - v)) l.toNat = eq_ mi l.toNat := by funext i; exact hi' _ _ (by decide)
        have e2 : en_ (gu (gu m (24 + a.toNat) 8 (-2)) 1 1 (m 1 1 - v)) a = en_ mi a := by
          funext x
          have hO' : ∀ b w, mOf (gu (gu m (24 + a.toNat) 8 (-2)) 1 1 (m 1 1 - v)) b w = mOf mi b w := fun b w => hi' _ _ (by decide)
          unfold en_ mNm mOthers mStays
          simp only [hO', hi' 148 0 (by decide), hi' 148 6 (by decide)]
        rw [e1, e2, hi' 157 _ (by decide)]
        exact hI.lawM a l l0 l1
      refine ⟨_, rfl, ⟨by omega, by omega⟩, _, _, rfl, _, pM_cancel hsz (n := 399) (by decide) (gu (gu m (24 + a.toNat) 8 (-2)) 1 1 (m 1 1 - v)) ml a r_a (hI.SV.low hR1 (fun c j h => hi' c j h)) hl, ?_⟩
      rintro r2 M2 (⟨c2, rfl, rfl⟩ | ⟨c2, rfl, rfl⟩ | ⟨c2, m2, v2, hw, rfl, rfl, hm2, hm2R⟩)
      · exfalso; omega
      · exfalso; omega
      · rw [g8, es] at hw
        have ev : v2 = v := by omega
        subst ev
        refine ⟨rfl, _, _, rfl, ?_⟩
        have h1 := inv_cancel hI ht (a := a) (v := v2) (by omega) (by omega) (by omega)
        have e148 : m2 148 1 = mi 148 1 := (hm2 148 1 (by decide)).trans (hi' 148 1 (by decide))
        rw [e148]
        refine h1.scr (gR32_gu (gR32_gu hm2R ⟨by omega, by omega⟩) ⟨by omega, by omega⟩) (fun c j n1 n2 n3 n4 => ?_)
        unfold stT stA
        simp only [gu_eq]
        rw [hm2 c j n4]
        simp only [gu_eq]
        rw [hm c j n1 n2 n3]
        (repeat' split) <;> first | rfl | omega

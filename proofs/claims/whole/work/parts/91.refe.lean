theorem rSq_ext {can : Nat → Nat → Bool} {w k : Nat} {al g : Int} {zs : Nat → Int} (h : rSq can w al zs k) (hg : rGoal can w k (sS zs k) (sL zs al k) g) : ∃ zs', rSq can w al zs' (k + 1) ∧ zs' k = g ∧ sS zs' (k + 1) = (if g < 0 then sS zs k else orI (sS zs k) (shlI 1 g)) := by
  have hc : ∀ j, j < k → (fun j => if j = k then g else zs j) j = zs j := fun j hj => if_neg (by omega)
  refine ⟨fun j => if j = k then g else zs j, fun i hi => ?_, if_pos rfl, ?_⟩
  · by_cases e : i = k
    · subst e
      rw [sS_c hc, sL_c hc]
      simp only [if_true]
      exact hg
    · rw [sS_c (fun j hj => hc j (by omega)), sL_c (fun j hj => hc j (by omega)), hc i (by omega)]
      exact h i (by omega)
  · show (if (if k = k then g else zs k) < 0 then sS (fun j => if j = k then g else zs j) k else orI (sS (fun j => if j = k then g else zs j) k) (shlI 1 (if k = k then g else zs k))) = _
    rw [sS_c hc]
    simp only [if_true]
theorem rSq_uN {can can' : Nat → Nat → Bool} {w N : Nat} {al : Int} {zs zs' : Nat → Int} (hN : N ≤ w) (hc : ∀ i p, i < w → p < 12 → can i p = can' i p) (h : rSq can w al zs N) (h' : rSq can' w al zs' N) : ∀ k, k ≤ N → ∀ j, j < k → zs j = zs' j
  | 0, _, j, hj => absurd hj (by omega)
  | k + 1, hk, j, hj => by
    have ih := rSq_uN hN hc h h' k (by omega)
    by_cases e : j = k
    · subst e
      have a := h j (by omega)
      have b := h' j (by omega)
      rw [← sS_c ih, ← sL_c ih] at b
      have cv : ∀ p, p < 12 → (rCh can' w j (sS zs j) (sL zs al j) p ↔ rCh can w j (sS zs j) (sL zs al j) p) := fun p hp => by
        unfold rCh
        rw [hc j p (by omega) hp]
        constructor
        · rintro ⟨x1, x2, d, x3, x4⟩
          exact ⟨x1, x2, d, mMax_can (fun i p hi hp => (hc i p hi hp).symm) x3, x4⟩
        · rintro ⟨x1, x2, d, x3, x4⟩
          exact ⟨x1, x2, d, mMax_can hc x3, x4⟩
      refine rGoal_u a ?_
      rcases b with ⟨b1, b2⟩ | ⟨b1, b2, b3⟩
      · exact Or.inl ⟨b1, fun p hp q => b2 p hp ((cv p hp).mpr q)⟩
      · exact Or.inr ⟨b1, (cv _ (by omega)).mp b2, fun p hp q => b3 p hp ((cv p (by omega)).mpr q)⟩
    · exact ih j (by omega)
def rAns2 (can : Nat → Nat → Bool) (mi : Nat → Nat → Int) (ml : Nat → Nat → Int64) (w a al : Int) (wt : Nat → Int) (r : Option gV) (M : gMe) : Prop := ∃ m, rMo m mi ∧ gR32 m ∧ ((a = -1 ∧ r = some (gi al) ∧ M = gw m ml) ∨ (¬ a = -1 ∧ ((∃ (i : Nat) (zs : Nat → Int), (i : Int) < w ∧ wt i = a ∧ rSq can w.toNat al zs (i + 1) ∧ ((zs i < 0 ∧ r = some (gi (-1000004)) ∧ M = gw (mFd m 3) ml) ∨ (0 ≤ zs i ∧ r = some (gi (zs i)) ∧ M = gw m ml))) ∨ ((∀ j : Nat, (j : Int) < w → ¬ wt j = a) ∧ r = some (gi (-1000004)) ∧ M = gw (mFd m 3) ml))))
theorem rTb_goal {can : Nat → Nat → Bool} {w : Nat} {m : Nat → Nat → Int} {al : Int} {zs : Nat → Int} {k : Int} {g : Int} {z : Nat} (hal : al = z) (h0 : mMax can w 0 (ib 0) z) (hk : 0 ≤ k) (hkw : k.toNat < w) (hq : rSq can w al zs k.toNat) (ht : rTb can w m k (sS zs k.toNat)) (hg : rGb (rCh can w k.toNat (sS zs k.toNat) (m 168 (4096 * k + sS zs k.toNat).toNat)) (-1) g) : rGoal can w k.toNat (sS zs k.toNat) (sL zs al k.toNat) g := by
  obtain ⟨d, d1, d2⟩ := rSq_max hal h0 k.toNat (by omega) hq
  obtain ⟨e, e1, e2⟩ := ht
  have := mMax_u d2 e2
  have h9 := rGb_end hg
  rw [show m 168 (4096 * k + sS zs k.toNat).toNat = sL zs al k.toNat by omega] at h9
  exact h9
set_option maxRecDepth 100000 in
set_option maxHeartbeats 4000000 in
theorem lM_rk {G : gG} (hsz : G.2.2.2.2.2.2 = true) {n : Nat} (hn : 5 ≤ n) (mi : Nat → Nat → Int) (ml : Nat → Nat → Int64) (x a w D : Int) (r_x : rng x) (r_a : rng a) (wt : Nat → Int) (hw : 0 ≤ w ∧ w ≤ 12) (hwt : ∀ i : Nat, (i : Int) < w → 0 ≤ wt i ∧ wt i < mi 148 6) (hv : SV mi) (hna : ¬ a = -1) (m : Nat → Nat → Int) (hm : rMo m mi) (hmR : gR32 m) (h69 : ∀ i : Nat, (i : Int) < w → m 169 i = wt i) (hall : ∀ k1 s1 : Int, 0 ≤ k1 → k1 ≤ w → 0 ≤ s1 → s1 < ((2 ^ (mi 148 2).toNat : Nat) : Int) → rTb (mCn mi D wt) w.toNat m k1 s1) (z : Nat) (hz : m 168 0 = z) (hmx : mMax (mCn mi D wt) w.toNat 0 (ib 0) z) : ∀ (f : Nat) (q : Int) (S : Int) (zs : Nat → Int) (hsq : rSq (mCn mi D wt) w.toNat (m 168 0) zs q.toNat) (hSe : S = sS zs q.toNat) (hS : 0 ≤ S ∧ S < ((2 ^ (mi 148 2).toNat : Nat) : Int)) (hno : ∀ j : Nat, (j : Int) < q → ¬ wt j = a), 0 ≤ q → q ≤ w → w - q < f → Go G mX12_rescue n 0 0 329 [some (gr 148), some (gi x), some (gi a), some (gi w), some (gi D), some (gi S), some (gi q), none, none, none, none] [] (gw m ml) (fun r M => rAns2 (mCn mi D wt) mi ml w a (m 168 0) wt r M) := by
  have hn1 : 1 ≤ n := by omega
  obtain ⟨hR, ht, hp, hq, hP, hQ⟩ := id hv
  have e2 : m 148 2 = mi 148 2 := hm 148 2 (by decide) (by decide)
  have hpl := pow_le12 (mi 148 2).toNat (by omega)
  intro f
  induction f with
  | zero => intros; omega
  | succ f ih =>
    intro q S zs hsq hSe hS hno q0 q1 q2
    have hq6 : q < w → m 169 q.toNat = wt q.toNat := fun z => h69 q.toNat (by omega)
    have hSr : rng S := ⟨by omega, by omega⟩
    refine Go.run hsz hn1 2 (pc' := 332) (lv' := [some (gr 148), some (gi x), some (gi a), some (gi w), some (gi D), some (gi S), some (gi q), none, none, none, none]) (st' := [gi w, gi q]) (M' := gw m ml) rfl ?_
    refine Go.icmp_ge (by rfl) ⟨by omega, by omega⟩ ⟨by omega, by omega⟩ (fun kq1 => ?_) (fun kq1 => ?_)
    · refine Go.run hsz hn1 2 (pc' := 510) (lv' := [some (gr 148), some (gi x), some (gi a), some (gi w), some (gi D), some (gi S), some (gi q), none, none, none, none]) (st' := [gi 3, gr 148]) (M' := gw m ml) rfl ?_
      refine Go.callV (As := [gi 3]) (b := 148) (st := []) (mc1 := 0) (mc := 0) (ms1 := 0) (ms := 0) (by rfl) rfl (c := 11) (N := 46) (by rfl) (by decide) (by rfl) (gcn 154 (by decide)).1 (gcn 154 (by decide)).2 rfl (Nat.le_of_ble_eq_true rfl) (by omega) (cM_finds hsz (n := n - 1) (by omega) m ml 3 (by decide) (by decide)) ?_
      rintro _ _ ⟨rfl, rfl⟩
      refine Go.run hsz hn1 0 (pc' := 513) (lv' := [some (gr 148), some (gi x), some (gi a), some (gi w), some (gi D), some (gi S), some (gi q), none, none, none, none]) (st' := [gi (-1000004)]) (M' := gw (mFd m 3) ml) rfl ?_
      exact Go.iret (by rfl) ⟨m, hm, hmR, Or.inr ⟨hna, Or.inr ⟨fun j hj => hno j (by omega), rfl, rfl⟩⟩⟩
    · refine Go.run hsz hn1 7 (pc' := 346) (lv' := [some (gr 148), some (gi x), some (gi a), some (gi w), some (gi D), some (gi S), some (gi q), some (gi (-1)), some (gi ((m 148 2) - 1)), none, none]) (st' := []) (M' := gw m ml) rfl ?_
      rw [e2]
      refine lM_rg hsz (n := n) (by omega) mi ml x a w D r_x r_a wt hw hwt hv q S (by omega) (by omega) hS.1 hS.2 m hm hmR h69 hall _ (fun g9 hg9 => ?_) ((mi 148 2).toNat + 1) (mi 148 2 - 1) (-1) (Or.inl ⟨rfl, fun p a b => (fun ⟨z1, _⟩ => by unfold mCn at z1; rw [Bool.and_eq_true, decide_eq_true_eq] at z1; omega)⟩) (by omega) (by omega) (by omega)
      rw [hSe] at hg9
      have hgo := rTb_goal hz hmx q0 (by omega) hsq (hall q (sS zs q.toNat) (by omega) (by omega) (by omega) (by omega)) hg9
      have hg8 : -1 ≤ g9 ∧ g9 < mi 148 2 := (by
        rcases hgo with ⟨z1, _⟩ | ⟨z1, ⟨z2, _⟩, _⟩
        · omega
        · unfold mCn at z2; rw [Bool.and_eq_true, decide_eq_true_eq] at z2; omega)
      clear hg9
      obtain ⟨zs9, hs9, hz9, hS9⟩ := rSq_ext hsq hgo
      clear hgo
      refine Go.run hsz hn1 3 (pc' := 463) (lv' := [some (gr 148), some (gi x), some (gi a), some (gi w), some (gi D), some (gi S), some (gi q), some (gi g9), none, none, none]) (st' := [gi q, gr 169]) (M' := gw m ml) rfl ?_
      refine Go.iald (by rfl) (N := 12) (by rfl) (by omega) (by omega) (by decide) ?_
      refine Go.run hsz hn1 1 (pc' := 465) (lv' := [some (gr 148), some (gi x), some (gi a), some (gi w), some (gi D), some (gi S), some (gi q), some (gi g9), none, none, none]) (st' := [gi a, gi (m 169 q.toNat)]) (M' := gw m ml) rfl ?_
      refine Go.icmp_ne (by rfl) (hmR _ _) r_a (fun kq2 => ?_) (fun kq2 => ?_)
      · refine Go.run hsz hn1 2 (pc' := 488) (lv' := [some (gr 148), some (gi x), some (gi a), some (gi w), some (gi D), some (gi S), some (gi q), some (gi g9), none, none, none]) (st' := [gi g9, gi S]) (M' := gw m ml) rfl ?_
        refine Go.if_ge (by rfl) ⟨by omega, by omega⟩ (fun kq3 => ?_) (fun kq3 => ?_)
        · refine Go.run hsz hn1 7 (pc' := 329) (lv' := [some (gr 148), some (gi x), some (gi a), some (gi w), some (gi D), some (gi (orI S (shlI 1 g9))), some (gi (q + 1)), some (gi g9), none, none, none]) (st' := []) (M' := gw m ml) rfl ?_
          refine Go.dropl 7 ?_
          refine Go.run hsz hn1 0 (pc' := 329) (lv' := [some (gr 148), some (gi x), some (gi a), some (gi w), some (gi D), some (gi (orI S (shlI 1 g9))), some (gi (q + 1)), none, none, none, none]) (st' := []) (M' := gw m ml) rfl ?_
          have hor := or_set (n := (mi 148 2).toNat) (p := g9.toNat) hS.1 hS.2 (by omega) (by omega)
          rw [show ((g9.toNat : Nat) : Int) = g9 by omega] at hor
          rw [if_neg (by omega), ← hSe] at hS9
          exact ih (q + 1) _ zs9 (by rw [show (q + 1).toNat = q.toNat + 1 by omega]; exact hs9) (by rw [show (q + 1).toNat = q.toNat + 1 by omega, hS9]) hor (fun j hj => (by by_cases e : (j : Int) = q; (· rw [show j = q.toNat by omega]; omega); (· exact hno j (by omega)))) (by omega) (by omega) (by omega)
        · refine Go.run hsz hn1 6 (pc' := 329) (lv' := [some (gr 148), some (gi x), some (gi a), some (gi w), some (gi D), some (gi (orI S 0)), some (gi (q + 1)), some (gi g9), none, none, none]) (st' := []) (M' := gw m ml) rfl ?_
          refine Go.dropl 7 ?_
          refine Go.run hsz hn1 0 (pc' := 329) (lv' := [some (gr 148), some (gi x), some (gi a), some (gi w), some (gi D), some (gi (orI S 0)), some (gi (q + 1)), none, none, none, none]) (st' := []) (M' := gw m ml) rfl ?_
          rw [if_pos (by omega), ← hSe] at hS9
          rw [orI_zero hSr]
          exact ih (q + 1) S zs9 (by rw [show (q + 1).toNat = q.toNat + 1 by omega]; exact hs9) (by rw [show (q + 1).toNat = q.toNat + 1 by omega, hS9]) hS (fun j hj => (by by_cases e : (j : Int) = q; (· rw [show j = q.toNat by omega]; omega); (· exact hno j (by omega)))) (by omega) (by omega) (by omega)
      · refine Go.run hsz hn1 1 (pc' := 470) (lv' := [some (gr 148), some (gi x), some (gi a), some (gi w), some (gi D), some (gi S), some (gi q), some (gi g9), none, none, none]) (st' := [gi g9]) (M' := gw m ml) rfl ?_
        refine Go.if_ge (by rfl) ⟨by omega, by omega⟩ (fun kq4 => ?_) (fun kq4 => ?_)
        · refine Go.run hsz hn1 1 (pc' := 483) (lv' := [some (gr 148), some (gi x), some (gi a), some (gi w), some (gi D), some (gi S), some (gi q), some (gi g9), none, none, none]) (st' := [gi g9]) (M' := gw m ml) rfl ?_
          exact Go.iret (by rfl) ⟨m, hm, hmR, Or.inr ⟨hna, Or.inl ⟨q.toNat, zs9, by omega, by omega, hs9, Or.inr ⟨by omega, by rw [hz9], rfl⟩⟩⟩⟩
        · refine Go.run hsz hn1 2 (pc' := 475) (lv' := [some (gr 148), some (gi x), some (gi a), some (gi w), some (gi D), some (gi S), some (gi q), some (gi g9), none, none, none]) (st' := [gi 3, gr 148]) (M' := gw m ml) rfl ?_
          refine Go.callV (As := [gi 3]) (b := 148) (st := []) (mc1 := 0) (mc := 0) (ms1 := 0) (ms := 0) (by rfl) rfl (c := 11) (N := 46) (by rfl) (by decide) (by rfl) (gcn 154 (by decide)).1 (gcn 154 (by decide)).2 rfl (Nat.le_of_ble_eq_true rfl) (by omega) (cM_finds hsz (n := n - 1) (by omega) m ml 3 (by decide) (by decide)) ?_
          rintro _ _ ⟨rfl, rfl⟩
          refine Go.run hsz hn1 1 (pc' := 483) (lv' := [some (gr 148), some (gi x), some (gi a), some (gi w), some (gi D), some (gi S), some (gi q), some (gi g9), none, none, none]) (st' := [gi (-1000004)]) (M' := gw (mFd m 3) ml) rfl ?_
          exact Go.iret (by rfl) ⟨m, hm, hmR, Or.inr ⟨hna, Or.inl ⟨q.toNat, zs9, by omega, by omega, hs9, Or.inl ⟨by omega, rfl, rfl⟩⟩⟩⟩
set_option maxRecDepth 100000 in
set_option maxHeartbeats 4000000 in
theorem lM_rt {G : gG} (hsz : G.2.2.2.2.2.2 = true) {n : Nat} (hn : 6 ≤ n) (mi : Nat → Nat → Int) (ml : Nat → Nat → Int64) (x a w D : Int) (r_x : rng x) (r_a : rng a) (wt : Nat → Int) (hw : 0 ≤ w ∧ w ≤ 12) (hwt : ∀ i : Nat, (i : Int) < w → 0 ≤ wt i ∧ wt i < mi 148 6) (hv : SV mi) (hsh : shlI 1 (mi 148 2) = ((2 ^ (mi 148 2).toNat : Nat) : Int)) : ∀ (f : Nat) (q : Int) (m : Nat → Nat → Int) (hm : rMo m mi) (hmR : gR32 m) (h69 : ∀ i : Nat, (i : Int) < w → m 169 i = wt i) (hup : ∀ k1 s1 : Int, q < k1 → k1 ≤ w → 0 ≤ s1 → s1 < ((2 ^ (mi 148 2).toNat : Nat) : Int) → rTb (mCn mi D wt) w.toNat m k1 s1), -1 ≤ q → q ≤ w → q + 1 < f → Go G mX12_rescue n 0 0 114 [some (gr 148), some (gi x), some (gi a), some (gi w), some (gi D), some (gi q), none, none, none, none, none] [] (gw m ml) (fun r M => ∃ al : Int, (∃ z : Nat, al = z ∧ mMax (mCn mi D wt) w.toNat 0 (ib 0) z) ∧ rAns2 (mCn mi D wt) mi ml w a al wt r M) := by
  have hn1 : 1 ≤ n := by omega
  obtain ⟨hR, ht, hp, hq, hP, hQ⟩ := id hv
  intro f
  induction f with
  | zero => intros; omega
  | succ f ih =>
    intro q m hm hmR h69 hup q0 q1 q2
    have e2 : m 148 2 = mi 148 2 := hm 148 2 (by decide) (by decide)
    refine Go.run hsz hn1 1 (pc' := 116) (lv' := [some (gr 148), some (gi x), some (gi a), some (gi w), some (gi D), some (gi q), none, none, none, none, none]) (st' := [gi q]) (M' := gw m ml) rfl ?_
    refine Go.if_lt (by rfl) ⟨by omega, by omega⟩ (fun kq1 => ?_) (fun kq1 => ?_)
    · refine Go.dropl 5 ?_
      refine Go.run hsz hn1 0 (pc' := 311) (lv' := [some (gr 148), some (gi x), some (gi a), some (gi w), some (gi D), none, none, none, none, none, none]) (st' := []) (M' := gw m ml) rfl ?_
      have hq : q = -1 := by omega
      have hall : ∀ k1 s1 : Int, 0 ≤ k1 → k1 ≤ w → 0 ≤ s1 → s1 < ((2 ^ (mi 148 2).toNat : Nat) : Int) → rTb (mCn mi D wt) w.toNat m k1 s1 := fun k1 s1 a1 a2 a3 a4 => hup k1 s1 (by omega) a2 a3 a4
      have hpp : 0 < 2 ^ (mi 148 2).toNat := Nat.two_pow_pos _
      obtain ⟨z9, hz9, hx9⟩ := hall 0 0 (by omega) (by omega) (by omega) (by omega)
      have hz9 : m 168 0 = z9 := hz9
      refine Go.run hsz hn1 2 (pc' := 313) (lv' := [some (gr 148), some (gi x), some (gi a), some (gi w), some (gi D), none, none, none, none, none, none]) (st' := [gi (-1), gi a]) (M' := gw m ml) rfl ?_
      refine Go.icmp_ne (by rfl) r_a ⟨by decide, by decide⟩ (fun kq2 => ?_) (fun kq2 => ?_)
      · refine Go.run hsz hn1 4 (pc' := 329) (lv' := [some (gr 148), some (gi x), some (gi a), some (gi w), some (gi D), some (gi 0), some (gi 0), none, none, none, none]) (st' := []) (M' := gw m ml) rfl ?_
        exact Go.imp (fun r M h => ⟨m 168 0, ⟨z9, hz9, hx9⟩, h⟩) (lM_rk hsz (n := n) (by omega) mi ml x a w D r_x r_a wt hw hwt hv (by omega) m hm hmR h69 hall z9 hz9 hx9 (w.toNat + 1) 0 0 (fun _ => 0) (fun i hi => absurd hi (by show ¬ i < 0; omega)) rfl ⟨by omega, by omega⟩ (fun j hj => by omega) (by omega) (by omega) (by omega))
      · refine Go.run hsz hn1 3 (pc' := 321) (lv' := [some (gr 148), some (gi x), some (gi a), some (gi w), some (gi D), none, none, none, none, none, none]) (st' := [gi 0, gr 168]) (M' := gw m ml) rfl ?_
        refine Go.iald (by rfl) (N := 53248) (by rfl) (by omega) (by omega) (by decide) ?_
        refine Go.run hsz hn1 0 (pc' := 322) (lv' := [some (gr 148), some (gi x), some (gi a), some (gi w), some (gi D), none, none, none, none, none, none]) (st' := [gi (m 168 0)]) (M' := gw m ml) rfl ?_
        exact Go.iret (by rfl) ⟨m 168 0, ⟨z9, hz9, hx9⟩, m, hm, hmR, Or.inl ⟨by omega, rfl, rfl⟩⟩
    · refine Go.run hsz hn1 2 (pc' := 122) (lv' := [some (gr 148), some (gi x), some (gi a), some (gi w), some (gi D), some (gi q), some (gi 0), none, none, none, none]) (st' := []) (M' := gw m ml) rfl ?_
      have hpp : 0 < 2 ^ (mi 148 2).toNat := Nat.two_pow_pos _
      refine lM_rs hsz (n := n) (by omega) mi ml x a w D r_x r_a wt hw hwt hv q (by omega) (by omega) hsh _ (fun m1 b1 b2 b3 b4 => ?_) ((2 ^ (mi 148 2).toNat) + 1) 0 m hm hmR h69 hup (fun s1 a1 a2 => by omega) (by omega) (by omega) (by omega)
      exact ih (q - 1) m1 b1 b2 b3 b4 (by omega) (by omega) (by omega)
set_option maxRecDepth 100000 in
set_option maxHeartbeats 4000000 in
theorem lM_rd {G : gG} (hsz : G.2.2.2.2.2.2 = true) {n : Nat} (hn : 6 ≤ n) (mi : Nat → Nat → Int) (ml : Nat → Nat → Int64) (x a w : Int) (r_x : rng x) (r_a : rng a) (wt : Nat → Int) (hw : 0 ≤ w ∧ w ≤ 12) (hwt : ∀ i : Nat, (i : Int) < w → 0 ≤ wt i ∧ wt i < mi 148 6) (hv : SV mi) (m : Nat → Nat → Int) (hm : rMo m mi) (hmR : gR32 m) (h69 : ∀ i : Nat, (i : Int) < w → m 169 i = wt i) : ∀ (f : Nat) (q : Int), 0 ≤ q → q ≤ mi 148 2 → mi 148 2 - q < f → Go G mX12_rescue n 0 0 73 [some (gr 148), some (gi x), some (gi a), some (gi w), some (gi (mDry mi x q.toNat)), some (gi q), none, none, none, none, none] [] (gw m ml) (fun r M => ∃ al : Int, (∃ z : Nat, al = z ∧ mMax (mCn mi (mDry mi x (mi 148 2).toNat) wt) w.toNat 0 (ib 0) z) ∧ rAns2 (mCn mi (mDry mi x (mi 148 2).toNat) wt) mi ml w a al wt r M) := by
  have hn1 : 1 ≤ n := by omega
  obtain ⟨hR, ht, hp, hq, hP, hQ⟩ := id hv
  have e2 : m 148 2 = mi 148 2 := hm 148 2 (by decide) (by decide)
  intro f
  induction f with
  | zero => intros; omega
  | succ f ih =>
    intro q q0 q1 q2
    refine Go.run hsz hn1 3 (pc' := 79) (lv' := [some (gr 148), some (gi x), some (gi a), some (gi w), some (gi (mDry mi x q.toNat)), some (gi q), none, none, none, none, none]) (st' := [gi (m 148 2), gi q]) (M' := gw m ml) rfl ?_
    refine Go.icmp_ge (by rfl) ⟨by omega, by omega⟩ (hmR _ _) (fun kq1 => ?_) (fun kq1 => ?_)
    · refine Go.run hsz hn1 2 (pc' := 114) (lv' := [some (gr 148), some (gi x), some (gi a), some (gi w), some (gi (mDry mi x q.toNat)), some (gi w), none, none, none, none, none]) (st' := []) (M' := gw m ml) rfl ?_
      have hq : q = mi 148 2 := by omega
      subst hq
      have hsh := shl_pow (mi 148 2).toNat (by omega)
      rw [show (((mi 148 2).toNat : Nat) : Int) = mi 148 2 by omega] at hsh
      exact lM_rt hsz (n := n) (by omega) mi ml x a w (mDry mi x (mi 148 2).toNat) r_x r_a wt hw hwt hv hsh (w.toNat + 2) w m hm hmR h69 (fun k1 s1 a1 a2 => by omega) (by omega) (by omega) (by omega)
    · refine Go.run hsz hn1 4 (pc' := 88) (lv' := [some (gr 148), some (gi x), some (gi a), some (gi w), some (gi (mDry mi x q.toNat)), some (gi q), none, none, none, none, none]) (st' := [gi x, gi q, gr 148, gi (mDry mi x q.toNat)]) (M' := gw m ml) rfl ?_
      refine Go.callV (As := [gi q, gi x]) (b := 148) (st := [gi (mDry mi x q.toNat)]) (mc1 := 0) (mc := 0) (ms1 := 0) (ms := 0) (by rfl) rfl (c := 11) (N := 46) (by rfl) (by decide) (by rfl) (gcn 229 (by decide)).1 (gcn 229 (by decide)).2 rfl (Nat.le_of_ble_eq_true rfl) (by omega) (cM_isOpen hsz (n := n - 1) (by omega) m ml q x (by omega) (by omega) r_x (hv.oR hmR hm)) ?_
      rintro _ _ ⟨rfl, rfl⟩
      rw [show mPi m q 3 = mPi mi q 3 from hm _ _ (by decide) (by decide), mWho_c hm, hm 148 0 (by decide) (by decide), hm 148 6 (by decide) (by decide)]
      refine Go.run hsz hn1 0 (pc' := 91) (lv' := [some (gr 148), some (gi x), some (gi a), some (gi w), some (gi (mDry mi x q.toNat)), some (gi q), none, none, none, none, none]) (st' := [gi (b2 (¬ mPi mi q 3 < x ∧ mWho mi q (mi 148 0) (mi 148 6).toNat < 0)), gi (mDry mi x q.toNat)]) (M' := gw m ml) rfl ?_
      refine Go.if_eq (by rfl) (b2_rng _) (fun kq2 => ?_) (fun kq2 => ?_)
      · replace kq2 := b2_neg kq2
        refine Go.run hsz hn1 5 (pc' := 73) (lv' := [some (gr 148), some (gi x), some (gi a), some (gi w), some (gi (orI (mDry mi x q.toNat) 0)), some (gi (q + 1)), none, none, none, none, none]) (st' := []) (M' := gw m ml) rfl ?_
        have h9 := ih (q + 1) (by omega) (by omega) (by omega)
        rw [show mDry mi x (q + 1).toNat = _ from gfold_s q0] at h9
        (try dsimp only at h9)
        (repeat' split at h9) <;> first | exact h9 | (exfalso; omega)
      · replace kq2 := b2_pos kq2
        refine Go.run hsz hn1 8 (pc' := 73) (lv' := [some (gr 148), some (gi x), some (gi a), some (gi w), some (gi (orI (mDry mi x q.toNat) (shlI 1 q))), some (gi (q + 1)), none, none, none, none, none]) (st' := []) (M' := gw m ml) rfl ?_
        have h9 := ih (q + 1) (by omega) (by omega) (by omega)
        rw [show mDry mi x (q + 1).toNat = _ from gfold_s q0] at h9
        (try dsimp only at h9)
        (repeat' split at h9) <;> first | exact h9 | (exfalso; omega)
def rWm (mi m : Nat → Nat → Int) (x : Int) (k : Nat) : Prop := (∀ c j : Nat, c ≠ 169 → m c j = mi c j) ∧ gR32 m ∧ ∀ b : Nat, b < k → ¬ mWet mi b x = 0 → m 169 (mRWn mi x b) = b
theorem rWm_skip {mi m : Nat → Nat → Int} {x : Int} {k : Nat} (h : rWm mi m x k) (hw : mWet mi k x = 0) : rWm mi m x (k + 1) ∧ mRWn mi x (k + 1) = mRWn mi x k := by
  refine ⟨⟨h.1, h.2.1, fun b hb hwb => ?_⟩, ?_⟩
  · by_cases e : b = k
    · subst e; exact absurd hw hwb
    · exact h.2.2 b (by omega) hwb
  · show mRWn mi x k + (decide (¬ mWet mi k x = 0)).toNat = _
    rw [decide_eq_false (fun q => q hw)]; rfl
theorem rWm_add {mi m : Nat → Nat → Int} {x : Int} {k : Nat} (h : rWm mi m x k) (hw : ¬ mWet mi k x = 0) (hk : k < 24) : rWm mi (gu m 169 (mRWn mi x k) k) x (k + 1) ∧ mRWn mi x (k + 1) = mRWn mi x k + 1 := by
  refine ⟨⟨fun c j hc => (gu_other hc).trans (h.1 c j hc), gR32_gu h.2.1 ⟨by omega, by omega⟩, fun b hb hwb => ?_⟩, ?_⟩
  · by_cases e : b = k
    · subst e; exact gu_self _ _ _ _
    · have := mRWn_lt hwb (k := k) (by omega)
      rw [gu_ne (Or.inr (by omega))]
      exact h.2.2 b (by omega) hwb
  · show mRWn mi x k + (decide (¬ mWet mi k x = 0)).toNat = _
    rw [decide_eq_true hw]; rfl
set_option maxRecDepth 100000 in
set_option maxHeartbeats 4000000 in
theorem lM_rw {G : gG} (hsz : G.2.2.2.2.2.2 = true) {n : Nat} (hn : 6 ≤ n) (mi : Nat → Nat → Int) (ml : Nat → Nat → Int64) (x a : Int) (r_x : rng x) (r_a : rng a) (hv : SV mi) (hu : mUni mi x) : ∀ (f : Nat) (q : Int) (m : Nat → Nat → Int) (hm : rWm mi m x q.toNat), 0 ≤ q → q ≤ mi 148 6 → mi 148 6 - q < f → Go G mX12_rescue n 0 0 31 [some (gr 148), some (gi x), some (gi a), some (gi ((mRWn mi x q.toNat : Nat) : Int)), some (gi q), none, none, none, none, none, none] [] (gw m ml) (fun r M => ∃ (wt : Nat → Int) (al : Int), (∀ b : Nat, b < (mi 148 6).toNat → ¬ mWet mi b x = 0 → wt (mRWn mi x b) = b) ∧ (∃ z : Nat, al = z ∧ mMax (mCn mi (mDry mi x (mi 148 2).toNat) wt) (mRWn mi x (mi 148 6).toNat) 0 (ib 0) z) ∧ rAns2 (mCn mi (mDry mi x (mi 148 2).toNat) wt) mi ml ((mRWn mi x (mi 148 6).toNat : Nat) : Int) a al wt r M) := by
  have hn1 : 1 ≤ n := by omega
  obtain ⟨hR, ht, hp, hq, hP, hQ⟩ := id hv
  intro f
  induction f with
  | zero => intros; omega
  | succ f ih =>
    intro q m hm q0 q1 q2
    have e6 : m 148 6 = mi 148 6 := hm.1 148 6 (by decide)
    have e2 : m 148 2 = mi 148 2 := hm.1 148 2 (by decide)
    have hvm := hv.oR hm.2.1 (fun c j _ h => hm.1 c j h)
    refine Go.run hsz hn1 3 (pc' := 37) (lv' := [some (gr 148), some (gi x), some (gi a), some (gi ((mRWn mi x q.toNat : Nat) : Int)), some (gi q), none, none, none, none, none, none]) (st' := [gi (m 148 6), gi q]) (M' := gw m ml) rfl ?_
    refine Go.icmp_ge (by rfl) ⟨by omega, by omega⟩ (hm.2.1 _ _) (fun kq1 => ?_) (fun kq1 => ?_)
    · refine Go.run hsz hn1 4 (pc' := 73) (lv' := [some (gr 148), some (gi x), some (gi a), some (gi ((mRWn mi x q.toNat : Nat) : Int)), some (gi 0), some (gi 0), none, none, none, none, none]) (st' := []) (M' := gw m ml) rfl ?_
      have hq : q = mi 148 6 := by omega
      subst hq
      have hl := mRWn_12 hv hu (k := (mi 148 6).toNat) (by omega)
      refine Go.imp ?_ (lM_rd hsz (n := n) (by omega) mi ml x a ((mRWn mi x (mi 148 6).toNat : Nat) : Int) r_x r_a (fun i => m 169 i) (by omega) (fun i hi => ?_) hv m (fun c j _ h => hm.1 c j h) hm.2.1 (fun i _ => rfl) ((mi 148 2).toNat + 1) 0 (by omega) (by omega) (by omega))
      · rintro r M ⟨al, ⟨z, z1, z2⟩, h⟩
        rw [show (((mRWn mi x (mi 148 6).toNat : Nat) : Int)).toNat = mRWn mi x (mi 148 6).toNat by omega] at z2
        exact ⟨fun i => m 169 i, al, hm.2.2, ⟨z, z1, z2⟩, h⟩
      · obtain ⟨b, b1, b2, b3⟩ := mRWn_at i (by omega : i < mRWn mi x (mi 148 6).toNat)
        have h9 := hm.2.2 b b1 b2
        rw [b3] at h9
        show 0 ≤ m 169 i ∧ m 169 i < mi 148 6
        omega
    · refine Go.run hsz hn1 3 (pc' := 44) (lv' := [some (gr 148), some (gi x), some (gi a), some (gi ((mRWn mi x q.toNat : Nat) : Int)), some (gi q), none, none, none, none, none, none]) (st' := [gi x, gi q, gr 148]) (M' := gw m ml) rfl ?_
      refine Go.callV (As := [gi q, gi x]) (b := 148) (st := []) (mc1 := 0) (mc := 0) (ms1 := 0) (ms := 0) (by rfl) rfl (c := 11) (N := 46) (by rfl) (by decide) (by rfl) (gcn 227 (by decide)).1 (gcn 227 (by decide)).2 rfl (Nat.le_of_ble_eq_true rfl) (by omega) (cM_isWet hsz (n := n - 1) (by omega) m ml q x (by omega) (by omega) hm.2.1 r_x (hvm.2.2.2.2.1 q (by omega) (by omega)) (by omega)) ?_
      rintro _ _ ⟨rfl, rfl⟩
      rw [mWet_c (fun c j _ h => hm.1 c j h)]
      refine Go.run hsz hn1 0 (pc' := 47) (lv' := [some (gr 148), some (gi x), some (gi a), some (gi ((mRWn mi x q.toNat : Nat) : Int)), some (gi q), none, none, none, none, none, none]) (st' := [gi (mWet mi q x)]) (M' := gw m ml) rfl ?_
      refine Go.if_eq (by rfl) (b2_rng _) (fun kq2 => ?_) (fun kq2 => ?_)
      · refine Go.run hsz hn1 2 (pc' := 31) (lv' := [some (gr 148), some (gi x), some (gi a), some (gi ((mRWn mi x q.toNat : Nat) : Int)), some (gi (q + 1)), none, none, none, none, none, none]) (st' := []) (M' := gw m ml) rfl ?_
        have hB := rWm_skip hm (show mWet mi ((q.toNat : Nat) : Int) x = 0 by rw [show ((q.toNat : Nat) : Int) = q by omega]; assumption)
        have h9 := ih (q + 1) m (by rw [show (q + 1).toNat = q.toNat + 1 by omega]; exact hB.1) (by omega) (by omega) (by omega)
        rw [show (q + 1).toNat = q.toNat + 1 by omega, hB.2] at h9
        exact h9
      · refine Go.run hsz hn1 0 (pc' := 50) (lv' := [some (gr 148), some (gi x), some (gi a), some (gi ((mRWn mi x q.toNat : Nat) : Int)), some (gi q), none, none, none, none, none, none]) (st' := []) (M' := gw m ml) rfl ?_
        have hwq : ¬ mWet mi ((q.toNat : Nat) : Int) x = 0 := by rw [show ((q.toNat : Nat) : Int) = q by omega]; assumption
        have hl12 := mRWn_lt hwq (k := q.toNat + 1) (by omega)
        have hl13 := mRWn_12 hv hu (k := q.toNat + 1) (by omega)
        refine Go.run hsz hn1 4 (pc' := 57) (lv' := [some (gr 148), some (gi x), some (gi a), some (gi ((mRWn mi x q.toNat : Nat) : Int)), some (gi q), none, none, none, none, none, none]) (st' := [gi q, gi ((mRWn mi x q.toNat : Nat) : Int), gr 169]) (M' := gw m ml) rfl ?_
        refine Go.iast (by rfl) (N := 12) (by rfl) (by omega) (by omega) (by decide) ?_
        refine Go.run hsz hn1 3 (pc' := 31) (lv' := [some (gr 148), some (gi x), some (gi a), some (gi (((mRWn mi x q.toNat : Nat) : Int) + 1)), some (gi (q + 1)), none, none, none, none, none, none]) (st' := []) (M' := gw (gu m 169 (((mRWn mi x q.toNat : Nat) : Int).toNat) q) ml) rfl ?_
        have hB := rWm_add hm (show ¬ mWet mi ((q.toNat : Nat) : Int) x = 0 by rw [show ((q.toNat : Nat) : Int) = q by omega]; assumption) (by omega)
        rw [show ((q.toNat : Nat) : Int) = q by omega] at hB
        have h9 := ih (q + 1) _ (by rw [show (q + 1).toNat = q.toNat + 1 by omega]; exact hB.1) (by omega) (by omega) (by omega)
        rw [show (q + 1).toNat = q.toNat + 1 by omega, hB.2, show ((mRWn mi x q.toNat + 1 : Nat) : Int) = ((mRWn mi x q.toNat : Nat) : Int) + 1 by omega] at h9
        rw [show (((mRWn mi x q.toNat : Nat) : Int)).toNat = mRWn mi x q.toNat by omega]
        exact h9
set_option maxRecDepth 100000 in
set_option maxHeartbeats 4000000 in
theorem pM_rescue {G : gG} (hsz : G.2.2.2.2.2.2 = true) {n : Nat} (hn : 6 ≤ n) (mi : Nat → Nat → Int) (ml : Nat → Nat → Int64) (x a : Int) (r_x : rng x) (r_a : rng a) (hv : SV mi) (hu : mUni mi x) : gM G 230 n 0 0 [gr 148, gi x, gi a] (gw mi ml) (fun r M => gE (¬ ((0 ≤ x ∧ x ≤ 99) ∧ (a = -1 ∨ (0 ≤ a ∧ a ≤ mi 148 6 - 1)))) (-1000001) (mFd mi 0) ml r M ∨ (((0 ≤ x ∧ x ≤ 99) ∧ (a = -1 ∨ (0 ≤ a ∧ a ≤ mi 148 6 - 1))) ∧ (fun r M => ∃ (wt : Nat → Int) (al : Int), (∀ b : Nat, b < (mi 148 6).toNat → ¬ mWet mi b x = 0 → wt (mRWn mi x b) = b) ∧ (∃ z : Nat, al = z ∧ mMax (mCn mi (mDry mi x (mi 148 2).toNat) wt) (mRWn mi x (mi 148 6).toNat) 0 (ib 0) z) ∧ rAns2 (mCn mi (mDry mi x (mi 148 2).toNat) wt) mi ml ((mRWn mi x (mi 148 6).toNat : Nat) : Int) a al wt r M) r M)) := by
  have hn1 : 1 ≤ n := by omega
  obtain ⟨hR, ht, hp, hq, hP, hQ⟩ := id hv
  refine gM.of mX12_rescue okX12_rescue (gcp 230 (by decide)).1 (gcp 230 (by decide)).2 (Nat.le_of_ble_eq_true rfl) ?_
  refine Go.run hsz hn1 1 (pc' := 1) (lv' := [some (gr 148), some (gi x), some (gi a), none, none, none, none, none, none, none, none]) (st' := [gi x]) (M' := gw mi ml) rfl ?_
  refine Go.callS (As := [gi x]) (st := []) (mc1 := 0) (mc := 0) (ms1 := 0) (ms := 0) (by rfl) rfl (gcn 157 (by decide)).1 (gcn 157 (by decide)).2 (Nat.le_of_ble_eq_true rfl) (by omega) (cM_isNight hsz (n := n - 1) (by omega) mi ml x r_x) ?_
  rintro _ _ ⟨rfl, rfl⟩
  refine Go.run hsz hn1 0 (pc' := 4) (lv' := [some (gr 148), some (gi x), some (gi a), none, none, none, none, none, none, none, none]) (st' := [gi (b2 (0 ≤ x ∧ x ≤ 99))]) (M' := gw mi ml) rfl ?_
  refine Go.if_eq (by rfl) (b2_rng _) (fun kq1 => ?_) (fun kq1 => ?_)
  · replace kq1 := b2_neg kq1
    refine Go.run hsz hn1 2 (pc' := 22) (lv' := [some (gr 148), some (gi x), some (gi a), none, none, none, none, none, none, none, none]) (st' := [gi 0, gr 148]) (M' := gw mi ml) rfl ?_
    refine Go.callV (As := [gi 0]) (b := 148) (st := []) (mc1 := 0) (mc := 0) (ms1 := 0) (ms := 0) (by rfl) rfl (c := 11) (N := 46) (by rfl) (by decide) (by rfl) (gcn 154 (by decide)).1 (gcn 154 (by decide)).2 rfl (Nat.le_of_ble_eq_true rfl) (by omega) (cM_finds hsz (n := n - 1) (by omega) mi ml 0 (by decide) (by decide)) ?_
    rintro _ _ ⟨rfl, rfl⟩
    refine Go.run hsz hn1 0 (pc' := 25) (lv' := [some (gr 148), some (gi x), some (gi a), none, none, none, none, none, none, none, none]) (st' := [gi (-1000001)]) (M' := gw (mFd mi 0) ml) rfl ?_
    exact Go.iret (by rfl) (Or.inl ⟨by omega, rfl, rfl⟩)
  · replace kq1 := b2_pos kq1
    refine Go.run hsz hn1 2 (pc' := 9) (lv' := [some (gr 148), some (gi x), some (gi a), none, none, none, none, none, none, none, none]) (st' := [gi (-1), gi a]) (M' := gw mi ml) rfl ?_
    refine Go.icmp_eq (by rfl) r_a ⟨by decide, by decide⟩ (fun kq2 => ?_) (fun kq2 => ?_)
    · refine Go.run hsz hn1 4 (pc' := 31) (lv' := [some (gr 148), some (gi x), some (gi a), some (gi 0), some (gi 0), none, none, none, none, none, none]) (st' := []) (M' := gw mi ml) rfl ?_
      exact Go.imp (fun r M h => Or.inr ⟨by omega, h⟩) (lM_rw hsz (n := n) (by omega) mi ml x a r_x r_a hv hu ((mi 148 6).toNat + 1) 0 mi ⟨fun _ _ _ => rfl, hR, fun b hb => absurd hb (by show ¬ b < 0; omega)⟩ (by omega) (by omega) (by omega))
    · refine Go.run hsz hn1 2 (pc' := 14) (lv' := [some (gr 148), some (gi x), some (gi a), none, none, none, none, none, none, none, none]) (st' := [gi a, gr 148]) (M' := gw mi ml) rfl ?_
      refine Go.callV (As := [gi a]) (b := 148) (st := []) (mc1 := 0) (mc := 0) (ms1 := 0) (ms := 0) (by rfl) rfl (c := 11) (N := 46) (by rfl) (by decide) (by rfl) (gcn 156 (by decide)).1 (gcn 156 (by decide)).2 rfl (Nat.le_of_ble_eq_true rfl) (by omega) (cM_isParty hsz (n := n - 1) (by omega) mi ml a r_a hq.1 hq.2) ?_
      rintro _ _ ⟨rfl, rfl⟩
      refine Go.run hsz hn1 0 (pc' := 17) (lv' := [some (gr 148), some (gi x), some (gi a), none, none, none, none, none, none, none, none]) (st' := [gi (b2 (0 ≤ a ∧ a ≤ mi 148 6 - 1))]) (M' := gw mi ml) rfl ?_
      refine Go.if_ne (by rfl) (b2_rng _) (fun kq3 => ?_) (fun kq3 => ?_)
      · replace kq3 := b2_pos kq3
        refine Go.run hsz hn1 4 (pc' := 31) (lv' := [some (gr 148), some (gi x), some (gi a), some (gi 0), some (gi 0), none, none, none, none, none, none]) (st' := []) (M' := gw mi ml) rfl ?_
        exact Go.imp (fun r M h => Or.inr ⟨by omega, h⟩) (lM_rw hsz (n := n) (by omega) mi ml x a r_x r_a hv hu ((mi 148 6).toNat + 1) 0 mi ⟨fun _ _ _ => rfl, hR, fun b hb => absurd hb (by show ¬ b < 0; omega)⟩ (by omega) (by omega) (by omega))
      · replace kq3 := b2_neg kq3
        refine Go.run hsz hn1 2 (pc' := 22) (lv' := [some (gr 148), some (gi x), some (gi a), none, none, none, none, none, none, none, none]) (st' := [gi 0, gr 148]) (M' := gw mi ml) rfl ?_
        refine Go.callV (As := [gi 0]) (b := 148) (st := []) (mc1 := 0) (mc := 0) (ms1 := 0) (ms := 0) (by rfl) rfl (c := 11) (N := 46) (by rfl) (by decide) (by rfl) (gcn 154 (by decide)).1 (gcn 154 (by decide)).2 rfl (Nat.le_of_ble_eq_true rfl) (by omega) (cM_finds hsz (n := n - 1) (by omega) mi ml 0 (by decide) (by decide)) ?_
        rintro _ _ ⟨rfl, rfl⟩
        refine Go.run hsz hn1 0 (pc' := 25) (lv' := [some (gr 148), some (gi x), some (gi a), none, none, none, none, none, none, none, none]) (st' := [gi (-1000001)]) (M' := gw (mFd mi 0) ml) rfl ?_
        exact Go.iret (by rfl) (Or.inl ⟨by omega, rfl, rfl⟩)

/-! ===== the first hour from which n hours hold ===== -/
def gAll (H : Int → Prop) (h n : Int) : Prop := ∀ i : Int, h ≤ i → i < h + n → H i
def gFst (H : Int → Prop) (hour n z : Int) : Prop := hour ≤ z ∧ z + n ≤ 24 ∧ gAll H z n ∧ ∀ h : Int, hour ≤ h → h < z → ¬ gAll H h n
def gNon (H : Int → Prop) (hour n : Int) : Prop := ∀ h : Int, hour ≤ h → h + n ≤ 24 → ¬ gAll H h n
section MAY
variable {H : Int → Prop} {hour n k j : Int}
theorem may_ret (hA : ∀ i : Int, k - j ≤ i → i < k → H i) (hB : ∀ h : Int, hour ≤ h → h + n ≤ k → ¬ gAll H h n) (hk : H k) (hj : j + 1 = n) (h1 : hour ≤ k - j) (h2 : k < 24) : gFst H hour n (k - n + 1) := by
  refine ⟨by omega, by omega, fun i i0 i1 => ?_, fun h h0 h3 => hB h h0 (by omega)⟩
  by_cases e : i = k
  · rw [e]; exact hk
  · exact hA i (by omega) (by omega)
theorem may_on (hB : ∀ h : Int, hour ≤ h → h + n ≤ k → ¬ gAll H h n) (hC : k - j = hour ∨ ¬ H (k - j - 1)) (hj : j + 1 < n) (j0 : 0 ≤ j) (h1 : hour ≤ k - j) : ∀ h : Int, hour ≤ h → h + n ≤ k + 1 → ¬ gAll H h n := by
  intro h h0 h2 ha
  by_cases e : h + n ≤ k
  · exact hB h h0 e ha
  · rcases hC with c | c
    · omega
    · exact c (ha (k - j - 1) (by omega) (by omega))
theorem may_off (hB : ∀ h : Int, hour ≤ h → h + n ≤ k → ¬ gAll H h n) (hk : ¬ H k) (n0 : 0 < n) : ∀ h : Int, hour ≤ h → h + n ≤ k + 1 → ¬ gAll H h n := by
  intro h h0 h2 ha
  by_cases e : h + n ≤ k
  · exact hB h h0 e ha
  · exact hk (ha k (by omega) (by omega))
theorem gFst_u {z z' : Int} (h : gFst H hour n z) (h' : gFst H hour n z') : z = z' := by
  obtain ⟨a1, a2, a3, a4⟩ := h
  obtain ⟨b1, b2, b3, b4⟩ := h'
  rcases (show z < z' ∨ z = z' ∨ z' < z by omega) with c | c | c
  · exact absurd a3 (b4 z a1 c)
  · exact c
  · exact absurd b3 (a4 z' b1 c)
theorem gFst_n {z : Int} (h : gFst H hour n z) (h' : gNon H hour n) : False := h' z h.1 h.2.1 h.2.2.1
theorem gFst_c {H' : Int → Prop} (he : ∀ i, H i ↔ H' i) {z : Int} (h : gFst H hour n z) : gFst H' hour n z := by
  have : H = H' := funext (fun i => propext (he i))
  rw [← this]; exact h
theorem gNon_c {H' : Int → Prop} (he : ∀ i, H i ↔ H' i) (h : gNon H hour n) : gNon H' hour n := by
  have : H = H' := funext (fun i => propext (he i))
  rw [← this]; exact h
end MAY
def cHd (mi : Nat → Nat → Int) (post v h : Int) : Prop := cLoad mi post h (mi 1 3).toNat + v ≤ mi 4 post.toNat
def mHd (mi : Nat → Nat → Int) (post v h : Int) : Prop := mLoad mi post h (mi 148 6).toNat + v ≤ mi 153 post.toNat
theorem cLoad_bb {mi : Nat → Nat → Int} (hv : CV mi) (post h : Int) : 0 ≤ cLoad mi post h (mi 1 3).toNat ∧ cLoad mi post h (mi 1 3).toNat ≤ 960 := by
  have := hv.2.2.2.1
  have := cLoad_b hv post h (mi 1 3).toNat (by omega)
  omega
theorem mLoad_bb {mi : Nat → Nat → Int} (hv : SV mi) (post h : Int) : 0 ≤ mLoad mi post h (mi 148 6).toNat ∧ mLoad mi post h (mi 148 6).toNat ≤ 960 := by
  have := hv.2.2.2.1
  have := mLoad_b hv post h (mi 148 6).toNat (by omega)
  omega
set_option maxRecDepth 100000 in
set_option maxHeartbeats 4000000 in
theorem lC_may {G : gG} (hsz : G.2.2.2.2.2.2 = true) {n : Nat} (hn : 6 ≤ n) (mi : Nat → Nat → Int) (ml : Nat → Nat → Int64) (a hour n_ v post : Int) (ra : rng a) (hh : 0 ≤ hour ∧ hour ≤ 23) (hn_ : 1 ≤ n_ ∧ n_ ≤ 24) (hv_ : 0 ≤ v ∧ v ≤ 40) (hp_ : 0 ≤ post ∧ post ≤ 3) (hv : CV mi) (hli : ∀ i : Nat, i < 4 → 0 ≤ mi 4 i ∧ mi 4 i ≤ 200) : ∀ (f : Nat) (k : Int) (j : Int) (hA : ∀ i : Int, k - j ≤ i → i < k → cHd mi post v i) (hB : ∀ h : Int, hour ≤ h → h + n_ ≤ k → ¬ gAll (cHd mi post v) h n_) (hC : k - j = hour ∨ ¬ cHd mi post v (k - j - 1)) (hj : 0 ≤ j ∧ j < n_ ∧ hour ≤ k - j), 0 ≤ k → k ≤ 24 → 24 - k < f → Go G mX11_may n 0 0 110 [some (gr 0), some (gi a), some (gi hour), some (gi n_), some (gi v), none, some (gi post), some (gi j), some (gi k), none] [] (gw mi ml) (fun r M => (∃ z, gFst (cHd mi post v) hour n_ z ∧ r = some (gi z) ∧ M = gw mi ml) ∨ (gNon (cHd mi post v) hour n_ ∧ gE True (-1000004) (cFd mi 3) ml r M)) := by
  have hn1 : 1 ≤ n := by omega
  obtain ⟨hR, ht, hp, hq, hP, hQ⟩ := id hv
  have hl4 := hli post.toNat (by omega)
  intro f
  induction f with
  | zero => intros; omega
  | succ f ih =>
    intro k j hA hB hC hj k0 k1 k2
    refine Go.run hsz hn1 2 (pc' := 114) (lv' := [some (gr 0), some (gi a), some (gi hour), some (gi n_), some (gi v), none, some (gi post), some (gi j), some (gi k), none]) (st' := [gi 24, gi k]) (M' := gw mi ml) rfl ?_
    refine Go.icmp_ge (by rfl) ⟨by omega, by omega⟩ ⟨by decide, by decide⟩ (fun kq1 => ?_) (fun kq1 => ?_)
    · refine Go.run hsz hn1 2 (pc' := 188) (lv' := [some (gr 0), some (gi a), some (gi hour), some (gi n_), some (gi v), none, some (gi post), some (gi j), some (gi k), none]) (st' := [gi (-1000004), gr 0]) (M' := gw mi ml) rfl ?_
      refine Go.callV (As := [gi (-1000004)]) (b := 0) (st := []) (mc1 := 0) (mc := 0) (ms1 := 0) (ms := 0) (by rfl) rfl (c := 10) (N := 9) (by rfl) (by decide) (by rfl) (gcn 147 (by decide)).1 (gcn 147 (by decide)).2 rfl (Nat.le_of_ble_eq_true rfl) (by omega) (cC_finding hsz (n := n - 1) (by omega) mi ml (-1000004) (by decide) (by decide)) ?_
      rintro _ _ ⟨rfl, rfl⟩
      refine Go.run hsz hn1 0 (pc' := 191) (lv' := [some (gr 0), some (gi a), some (gi hour), some (gi n_), some (gi v), none, some (gi post), some (gi j), some (gi k), none]) (st' := [gi (-1000004)]) (M' := gw (cFd mi 3) ml) rfl ?_
      exact Go.iret (by rfl) (Or.inr ⟨fun h h0 h1 => hB h h0 (by omega), trivial, rfl, rfl⟩)
    · refine Go.run hsz hn1 4 (pc' := 125) (lv' := [some (gr 0), some (gi a), some (gi hour), some (gi n_), some (gi v), none, some (gi post), some (gi j), some (gi k), none]) (st' := [gi k, gi post, gr 1]) (M' := gw mi ml) rfl ?_
      refine Go.callV (As := [gi post, gi k]) (b := 1) (st := []) (mc1 := 0) (mc := 0) (ms1 := 0) (ms := 0) (by rfl) rfl (c := 7) (N := 11) (by rfl) (by decide) (by rfl) (gcn 72 (by decide)).1 (gcn 72 (by decide)).2 rfl (Nat.le_of_ble_eq_true rfl) (by omega) (cS_load hsz (n := n - 1) (by omega) mi ml post k ⟨by omega, by omega⟩ hv) ?_
      rintro _ _ ⟨rfl, rfl⟩
      have hb2 := cLoad_bb hv post k
      refine Go.run hsz hn1 6 (pc' := 140) (lv' := [some (gr 0), some (gi a), some (gi hour), some (gi n_), some (gi v), none, some (gi post), some (gi j), some (gi k), none]) (st' := [gi post, gr 4, gi ((cLoad mi post k (mi 1 3).toNat) + v)]) (M' := gw mi ml) rfl ?_
      refine Go.iald (by rfl) (N := 4) (by rfl) (by omega) (by omega) (by decide) ?_
      refine Go.run hsz hn1 0 (pc' := 141) (lv' := [some (gr 0), some (gi a), some (gi hour), some (gi n_), some (gi v), none, some (gi post), some (gi j), some (gi k), none]) (st' := [gi (mi 4 post.toNat), gi ((cLoad mi post k (mi 1 3).toNat) + v)]) (M' := gw mi ml) rfl ?_
      refine Go.icmp_gt (by rfl) ⟨by omega, by omega⟩ (hR _ _) (fun kq3 => ?_) (fun kq3 => ?_)
      · refine Go.run hsz hn1 3 (pc' := 153) (lv' := [some (gr 0), some (gi a), some (gi hour), some (gi n_), some (gi v), none, some (gi post), some (gi j), some (gi k), some (gi 0)]) (st' := [gi 0]) (M' := gw mi ml) rfl ?_
        refine Go.if_eq (by rfl) ⟨by decide, by decide⟩ (fun kq4 => ?_) (fun kq4 => ?_)
        · refine Go.run hsz hn1 4 (pc' := 169) (lv' := [some (gr 0), some (gi a), some (gi hour), some (gi n_), some (gi v), none, some (gi post), some (gi 0), some (gi k), some (gi 0)]) (st' := [gi n_, gi 0]) (M' := gw mi ml) rfl ?_
          refine Go.icmp_ne (by rfl) ⟨by decide, by decide⟩ ⟨by omega, by omega⟩ (fun kq5 => ?_) (fun kq5 => ?_)
          · refine Go.run hsz hn1 2 (pc' := 110) (lv' := [some (gr 0), some (gi a), some (gi hour), some (gi n_), some (gi v), none, some (gi post), some (gi 0), some (gi (k + 1)), some (gi 0)]) (st' := []) (M' := gw mi ml) rfl ?_
            refine Go.dropl 9 ?_
            refine Go.run hsz hn1 0 (pc' := 110) (lv' := [some (gr 0), some (gi a), some (gi hour), some (gi n_), some (gi v), none, some (gi post), some (gi 0), some (gi (k + 1)), none]) (st' := []) (M' := gw mi ml) rfl ?_
            exact ih (k + 1) 0 (fun i i0 i1 => by omega) (may_off hB (fun q => by unfold cHd at q; omega) (by omega)) (Or.inr (fun q => by unfold cHd at q; rw [show k + 1 - 0 - 1 = k by omega] at q; omega)) (by omega) (by omega) (by omega) (by omega)
          · refine Go.run hsz hn1 5 (pc' := 178) (lv' := [some (gr 0), some (gi a), some (gi hour), some (gi n_), some (gi v), none, some (gi post), some (gi 0), some (gi k), some (gi 0)]) (st' := [gi ((k - n_) + 1)]) (M' := gw mi ml) rfl ?_
            first | exact Go.iret (by rfl) (Or.inl ⟨_, may_ret hA hB (show cHd mi post v k by unfold cHd; omega) (by omega) (by omega) (by omega), rfl, rfl⟩) | (exfalso; omega)
        · exact absurd kq4 (by decide)
      · refine Go.run hsz hn1 4 (pc' := 153) (lv' := [some (gr 0), some (gi a), some (gi hour), some (gi n_), some (gi v), none, some (gi post), some (gi j), some (gi k), some (gi 1)]) (st' := [gi 1]) (M' := gw mi ml) rfl ?_
        refine Go.if_eq (by rfl) ⟨by decide, by decide⟩ (fun kq6 => ?_) (fun kq6 => ?_)
        · exact absurd kq6 (by decide)
        · refine Go.run hsz hn1 7 (pc' := 169) (lv' := [some (gr 0), some (gi a), some (gi hour), some (gi n_), some (gi v), none, some (gi post), some (gi (j + 1)), some (gi k), some (gi 1)]) (st' := [gi n_, gi (j + 1)]) (M' := gw mi ml) rfl ?_
          refine Go.icmp_ne (by rfl) ⟨by omega, by omega⟩ ⟨by omega, by omega⟩ (fun kq7 => ?_) (fun kq7 => ?_)
          · refine Go.run hsz hn1 2 (pc' := 110) (lv' := [some (gr 0), some (gi a), some (gi hour), some (gi n_), some (gi v), none, some (gi post), some (gi (j + 1)), some (gi (k + 1)), some (gi 1)]) (st' := []) (M' := gw mi ml) rfl ?_
            refine Go.dropl 9 ?_
            refine Go.run hsz hn1 0 (pc' := 110) (lv' := [some (gr 0), some (gi a), some (gi hour), some (gi n_), some (gi v), none, some (gi post), some (gi (j + 1)), some (gi (k + 1)), none]) (st' := []) (M' := gw mi ml) rfl ?_
            have hk : cHd mi post v k := by unfold cHd; omega
            exact ih (k + 1) (j + 1) (fun i i0 i1 => (by
              by_cases e : i = k
              · rw [e]; exact hk
              · exact hA i (by omega) (by omega))) (may_on hB hC (by omega) (by omega) (by omega)) (by rw [show k + 1 - (j + 1) = k - j by omega]; exact hC) (by omega) (by omega) (by omega) (by omega)
          · refine Go.run hsz hn1 5 (pc' := 178) (lv' := [some (gr 0), some (gi a), some (gi hour), some (gi n_), some (gi v), none, some (gi post), some (gi (j + 1)), some (gi k), some (gi 1)]) (st' := [gi ((k - n_) + 1)]) (M' := gw mi ml) rfl ?_
            first | exact Go.iret (by rfl) (Or.inl ⟨_, may_ret hA hB (show cHd mi post v k by unfold cHd; omega) (by omega) (by omega) (by omega), rfl, rfl⟩) | (exfalso; omega)
set_option maxRecDepth 100000 in
set_option maxHeartbeats 4000000 in
theorem pC_may {G : gG} (hsz : G.2.2.2.2.2.2 = true) {n : Nat} (hn : 6 ≤ n) (mi : Nat → Nat → Int) (ml : Nat → Nat → Int64) (a hour n_ v : Int) (r_a : rng a) (r_hour : rng hour) (r_n_ : rng n_) (r_v : rng v) (hv : CV mi) (hli : ∀ i : Nat, i < 4 → 0 ≤ mi 4 i ∧ mi 4 i ≤ 200) : gM G 130 n 0 0 [gr 0, gi a, gi hour, gi n_, gi v] (gw mi ml) (fun r M => gE (¬ ((0 ≤ a ∧ a < mi 1 3) ∧ (0 ≤ hour ∧ hour ≤ 23) ∧ (1 ≤ n_ ∧ n_ ≤ 24) ∧ (0 ≤ v ∧ v ≤ 40))) (-1000001) (cFd mi 0) ml r M ∨ gE (((0 ≤ a ∧ a < mi 1 3) ∧ (0 ≤ hour ∧ hour ≤ 23) ∧ (1 ≤ n_ ∧ n_ ≤ 24) ∧ (0 ≤ v ∧ v ≤ 40)) ∧ cHere mi a = 0) (-1000005) (cFd mi 4) ml r M ∨ ((((0 ≤ a ∧ a < mi 1 3) ∧ (0 ≤ hour ∧ hour ≤ 23) ∧ (1 ≤ n_ ∧ n_ ≤ 24) ∧ (0 ≤ v ∧ v ≤ 40)) ∧ ¬ cHere mi a = 0) ∧ (fun r M => (∃ z, gFst (cHd mi (cP mi (cA mi a 8) 7) v) hour n_ z ∧ r = some (gi z) ∧ M = gw mi ml) ∨ (gNon (cHd mi (cP mi (cA mi a 8) 7) v) hour n_ ∧ gE True (-1000004) (cFd mi 3) ml r M)) r M)) := by
  have hn1 : 1 ≤ n := by omega
  obtain ⟨hR, ht, hp, hq, hP, hQ⟩ := id hv
  refine gM.of mX11_may okX11_may (gcp 130 (by decide)).1 (gcp 130 (by decide)).2 (Nat.le_of_ble_eq_true rfl) ?_
  refine Go.run hsz hn1 3 (pc' := 5) (lv' := [some (gr 0), some (gi a), some (gi hour), some (gi n_), some (gi v), none, none, none, none, none]) (st' := [gi a, gr 1]) (M' := gw mi ml) rfl ?_
  refine Go.callV (As := [gi a]) (b := 1) (st := []) (mc1 := 0) (mc := 0) (ms1 := 0) (ms := 0) (by rfl) rfl (c := 7) (N := 11) (by rfl) (by decide) (by rfl) (gcn 60 (by decide)).1 (gcn 60 (by decide)).2 rfl (Nat.le_of_ble_eq_true rfl) (by omega) (cS_isParty hsz (n := n - 1) (by omega) mi ml a r_a hR) ?_
  rintro _ _ ⟨rfl, rfl⟩
  refine Go.run hsz hn1 0 (pc' := 8) (lv' := [some (gr 0), some (gi a), some (gi hour), some (gi n_), some (gi v), none, none, none, none, none]) (st' := [gi (b2 (0 ≤ a ∧ a < mi 1 3))]) (M' := gw mi ml) rfl ?_
  refine Go.if_eq (by rfl) (b2_rng _) (fun kq1 => ?_) (fun kq1 => ?_)
  · replace kq1 := b2_neg kq1
    refine Go.run hsz hn1 3 (pc' := 51) (lv' := [some (gr 0), some (gi a), some (gi hour), some (gi n_), some (gi v), some (gi 0), none, none, none, none]) (st' := [gi 0]) (M' := gw mi ml) rfl ?_
    refine Go.if_ne (by rfl) ⟨by decide, by decide⟩ (fun kq2 => ?_) (fun kq2 => ?_)
    · exact absurd kq2 (by decide)
    · refine Go.run hsz hn1 2 (pc' := 57) (lv' := [some (gr 0), some (gi a), some (gi hour), some (gi n_), some (gi v), some (gi 0), none, none, none, none]) (st' := [gi (-1000001), gr 0]) (M' := gw mi ml) rfl ?_
      refine Go.callV (As := [gi (-1000001)]) (b := 0) (st := []) (mc1 := 0) (mc := 0) (ms1 := 0) (ms := 0) (by rfl) rfl (c := 10) (N := 9) (by rfl) (by decide) (by rfl) (gcn 147 (by decide)).1 (gcn 147 (by decide)).2 rfl (Nat.le_of_ble_eq_true rfl) (by omega) (cC_finding hsz (n := n - 1) (by omega) mi ml (-1000001) (by decide) (by decide)) ?_
      rintro _ _ ⟨rfl, rfl⟩
      refine Go.run hsz hn1 0 (pc' := 60) (lv' := [some (gr 0), some (gi a), some (gi hour), some (gi n_), some (gi v), some (gi 0), none, none, none, none]) (st' := [gi (-1000001)]) (M' := gw (cFd mi 0) ml) rfl ?_
      first | exact Go.iret (by rfl) (Or.inl ⟨by omega, rfl, rfl⟩) | exact Go.iret (by rfl) (Or.inr (Or.inl ⟨by omega, rfl, rfl⟩))
  · replace kq1 := b2_pos kq1
    refine Go.run hsz hn1 3 (pc' := 15) (lv' := [some (gr 0), some (gi a), some (gi hour), some (gi n_), some (gi v), none, none, none, none, none]) (st' := [gi 23, gi 0, gi hour]) (M' := gw mi ml) rfl ?_
    refine Go.callS (As := [gi hour, gi 0, gi 23]) (st := []) (mc1 := 0) (mc := 0) (ms1 := 0) (ms := 0) (by rfl) rfl (gcn 150 (by decide)).1 (gcn 150 (by decide)).2 (Nat.le_of_ble_eq_true rfl) (by omega) (cC_isIn hsz (n := n - 1) (by omega) mi ml hour 0 23 r_hour ⟨by decide, by decide⟩ ⟨by decide, by decide⟩) ?_
    rintro _ _ ⟨rfl, rfl⟩
    refine Go.run hsz hn1 0 (pc' := 18) (lv' := [some (gr 0), some (gi a), some (gi hour), some (gi n_), some (gi v), none, none, none, none, none]) (st' := [gi (b2 (0 ≤ hour ∧ hour ≤ 23))]) (M' := gw mi ml) rfl ?_
    refine Go.if_eq (by rfl) (b2_rng _) (fun kq3 => ?_) (fun kq3 => ?_)
    · replace kq3 := b2_neg kq3
      refine Go.run hsz hn1 3 (pc' := 51) (lv' := [some (gr 0), some (gi a), some (gi hour), some (gi n_), some (gi v), some (gi 0), none, none, none, none]) (st' := [gi 0]) (M' := gw mi ml) rfl ?_
      refine Go.if_ne (by rfl) ⟨by decide, by decide⟩ (fun kq4 => ?_) (fun kq4 => ?_)
      · exact absurd kq4 (by decide)
      · refine Go.run hsz hn1 2 (pc' := 57) (lv' := [some (gr 0), some (gi a), some (gi hour), some (gi n_), some (gi v), some (gi 0), none, none, none, none]) (st' := [gi (-1000001), gr 0]) (M' := gw mi ml) rfl ?_
        refine Go.callV (As := [gi (-1000001)]) (b := 0) (st := []) (mc1 := 0) (mc := 0) (ms1 := 0) (ms := 0) (by rfl) rfl (c := 10) (N := 9) (by rfl) (by decide) (by rfl) (gcn 147 (by decide)).1 (gcn 147 (by decide)).2 rfl (Nat.le_of_ble_eq_true rfl) (by omega) (cC_finding hsz (n := n - 1) (by omega) mi ml (-1000001) (by decide) (by decide)) ?_
        rintro _ _ ⟨rfl, rfl⟩
        refine Go.run hsz hn1 0 (pc' := 60) (lv' := [some (gr 0), some (gi a), some (gi hour), some (gi n_), some (gi v), some (gi 0), none, none, none, none]) (st' := [gi (-1000001)]) (M' := gw (cFd mi 0) ml) rfl ?_
        first | exact Go.iret (by rfl) (Or.inl ⟨by omega, rfl, rfl⟩) | exact Go.iret (by rfl) (Or.inr (Or.inl ⟨by omega, rfl, rfl⟩))
    · replace kq3 := b2_pos kq3
      refine Go.run hsz hn1 3 (pc' := 25) (lv' := [some (gr 0), some (gi a), some (gi hour), some (gi n_), some (gi v), none, none, none, none, none]) (st' := [gi 24, gi 1, gi n_]) (M' := gw mi ml) rfl ?_
      refine Go.callS (As := [gi n_, gi 1, gi 24]) (st := []) (mc1 := 0) (mc := 0) (ms1 := 0) (ms := 0) (by rfl) rfl (gcn 150 (by decide)).1 (gcn 150 (by decide)).2 (Nat.le_of_ble_eq_true rfl) (by omega) (cC_isIn hsz (n := n - 1) (by omega) mi ml n_ 1 24 r_n_ ⟨by decide, by decide⟩ ⟨by decide, by decide⟩) ?_
      rintro _ _ ⟨rfl, rfl⟩
      refine Go.run hsz hn1 0 (pc' := 28) (lv' := [some (gr 0), some (gi a), some (gi hour), some (gi n_), some (gi v), none, none, none, none, none]) (st' := [gi (b2 (1 ≤ n_ ∧ n_ ≤ 24))]) (M' := gw mi ml) rfl ?_
      refine Go.if_eq (by rfl) (b2_rng _) (fun kq5 => ?_) (fun kq5 => ?_)
      · replace kq5 := b2_neg kq5
        refine Go.run hsz hn1 3 (pc' := 51) (lv' := [some (gr 0), some (gi a), some (gi hour), some (gi n_), some (gi v), some (gi 0), none, none, none, none]) (st' := [gi 0]) (M' := gw mi ml) rfl ?_
        refine Go.if_ne (by rfl) ⟨by decide, by decide⟩ (fun kq6 => ?_) (fun kq6 => ?_)
        · exact absurd kq6 (by decide)
        · refine Go.run hsz hn1 2 (pc' := 57) (lv' := [some (gr 0), some (gi a), some (gi hour), some (gi n_), some (gi v), some (gi 0), none, none, none, none]) (st' := [gi (-1000001), gr 0]) (M' := gw mi ml) rfl ?_
          refine Go.callV (As := [gi (-1000001)]) (b := 0) (st := []) (mc1 := 0) (mc := 0) (ms1 := 0) (ms := 0) (by rfl) rfl (c := 10) (N := 9) (by rfl) (by decide) (by rfl) (gcn 147 (by decide)).1 (gcn 147 (by decide)).2 rfl (Nat.le_of_ble_eq_true rfl) (by omega) (cC_finding hsz (n := n - 1) (by omega) mi ml (-1000001) (by decide) (by decide)) ?_
          rintro _ _ ⟨rfl, rfl⟩
          refine Go.run hsz hn1 0 (pc' := 60) (lv' := [some (gr 0), some (gi a), some (gi hour), some (gi n_), some (gi v), some (gi 0), none, none, none, none]) (st' := [gi (-1000001)]) (M' := gw (cFd mi 0) ml) rfl ?_
          first | exact Go.iret (by rfl) (Or.inl ⟨by omega, rfl, rfl⟩) | exact Go.iret (by rfl) (Or.inr (Or.inl ⟨by omega, rfl, rfl⟩))
      · replace kq5 := b2_pos kq5
        refine Go.run hsz hn1 3 (pc' := 36) (lv' := [some (gr 0), some (gi a), some (gi hour), some (gi n_), some (gi v), none, none, none, none, none]) (st' := [gi 40, gi 0, gi v]) (M' := gw mi ml) rfl ?_
        refine Go.callS (As := [gi v, gi 0, gi 40]) (st := []) (mc1 := 0) (mc := 0) (ms1 := 0) (ms := 0) (by rfl) rfl (gcn 150 (by decide)).1 (gcn 150 (by decide)).2 (Nat.le_of_ble_eq_true rfl) (by omega) (cC_isIn hsz (n := n - 1) (by omega) mi ml v 0 40 r_v ⟨by decide, by decide⟩ ⟨by decide, by decide⟩) ?_
        rintro _ _ ⟨rfl, rfl⟩
        refine Go.run hsz hn1 0 (pc' := 39) (lv' := [some (gr 0), some (gi a), some (gi hour), some (gi n_), some (gi v), none, none, none, none, none]) (st' := [gi (b2 (0 ≤ v ∧ v ≤ 40))]) (M' := gw mi ml) rfl ?_
        refine Go.if_eq (by rfl) (b2_rng _) (fun kq7 => ?_) (fun kq7 => ?_)
        · replace kq7 := b2_neg kq7
          refine Go.run hsz hn1 3 (pc' := 51) (lv' := [some (gr 0), some (gi a), some (gi hour), some (gi n_), some (gi v), some (gi 0), none, none, none, none]) (st' := [gi 0]) (M' := gw mi ml) rfl ?_
          refine Go.if_ne (by rfl) ⟨by decide, by decide⟩ (fun kq8 => ?_) (fun kq8 => ?_)
          · exact absurd kq8 (by decide)
          · refine Go.run hsz hn1 2 (pc' := 57) (lv' := [some (gr 0), some (gi a), some (gi hour), some (gi n_), some (gi v), some (gi 0), none, none, none, none]) (st' := [gi (-1000001), gr 0]) (M' := gw mi ml) rfl ?_
            refine Go.callV (As := [gi (-1000001)]) (b := 0) (st := []) (mc1 := 0) (mc := 0) (ms1 := 0) (ms := 0) (by rfl) rfl (c := 10) (N := 9) (by rfl) (by decide) (by rfl) (gcn 147 (by decide)).1 (gcn 147 (by decide)).2 rfl (Nat.le_of_ble_eq_true rfl) (by omega) (cC_finding hsz (n := n - 1) (by omega) mi ml (-1000001) (by decide) (by decide)) ?_
            rintro _ _ ⟨rfl, rfl⟩
            refine Go.run hsz hn1 0 (pc' := 60) (lv' := [some (gr 0), some (gi a), some (gi hour), some (gi n_), some (gi v), some (gi 0), none, none, none, none]) (st' := [gi (-1000001)]) (M' := gw (cFd mi 0) ml) rfl ?_
            first | exact Go.iret (by rfl) (Or.inl ⟨by omega, rfl, rfl⟩) | exact Go.iret (by rfl) (Or.inr (Or.inl ⟨by omega, rfl, rfl⟩))
        · replace kq7 := b2_pos kq7
          refine Go.run hsz hn1 4 (pc' := 51) (lv' := [some (gr 0), some (gi a), some (gi hour), some (gi n_), some (gi v), some (gi 1), none, none, none, none]) (st' := [gi 1]) (M' := gw mi ml) rfl ?_
          refine Go.if_ne (by rfl) ⟨by decide, by decide⟩ (fun kq9 => ?_) (fun kq9 => ?_)
          · refine Go.run hsz hn1 3 (pc' := 66) (lv' := [some (gr 0), some (gi a), some (gi hour), some (gi n_), some (gi v), some (gi 1), none, none, none, none]) (st' := [gi a, gr 1]) (M' := gw mi ml) rfl ?_
            refine Go.callV (As := [gi a]) (b := 1) (st := []) (mc1 := 0) (mc := 0) (ms1 := 0) (ms := 0) (by rfl) rfl (c := 7) (N := 11) (by rfl) (by decide) (by rfl) (gcn 65 (by decide)).1 (gcn 65 (by decide)).2 rfl (Nat.le_of_ble_eq_true rfl) (by omega) (cS_isHere hsz (n := n - 1) (by omega) mi ml a (by omega) (by omega) (hP a (by omega) (by omega)) hR) ?_
            rintro _ _ ⟨rfl, rfl⟩
            refine Go.run hsz hn1 0 (pc' := 69) (lv' := [some (gr 0), some (gi a), some (gi hour), some (gi n_), some (gi v), some (gi 1), none, none, none, none]) (st' := [gi (cHere mi a)]) (M' := gw mi ml) rfl ?_
            refine Go.if_ne (by rfl) (b2_rng _) (fun kq10 => ?_) (fun kq10 => ?_)
            · refine Go.run hsz hn1 7 (pc' := 94) (lv' := [some (gr 0), some (gi a), some (gi hour), some (gi n_), some (gi v), some (gi 1), none, none, none, none]) (st' := [gi a, gr 3, gr 2]) (M' := gw mi ml) rfl ?_
              refine Go.aaldR 4 (by rfl) (N := 24) (by rfl) ⟨by decide, by decide⟩ (by omega) (by omega) (by decide) (gMR_3 (by omega) (by omega)) ?_
              refine Go.run hsz hn1 0 (pc' := 95) (lv' := [some (gr 0), some (gi a), some (gi hour), some (gi n_), some (gi v), some (gi 1), none, none, none, none]) (st' := [gr (24 + a.toNat), gr 2]) (M' := gw mi ml) rfl ?_
              refine Go.getf (by rfl) (c := 2) (N := 14) (shA (i := a) (by omega)) ?_
              refine Go.run hsz hn1 0 (pc' := 98) (lv' := [some (gr 0), some (gi a), some (gi hour), some (gi n_), some (gi v), some (gi 1), none, none, none, none]) (st' := [gi (cA mi a 8), gr 2]) (M' := gw mi ml) rfl ?_
              have hc8 : 0 ≤ cA mi a 8 ∧ cA mi a 8 < mi 1 2 := ⟨cHere_on (mi := mi) (a := a) (by assumption), ((hP a (by omega) (by omega)).2.2.2.2.2.2.2.1).2⟩
              refine Go.aaldR 3 (by rfl) (N := 12) (by rfl) ⟨by decide, by decide⟩ (by have := hc8; omega) (by have := hc8; omega) (by decide) (gMR_2 (by have := hc8; omega) (by have := hc8; omega)) ?_
              refine Go.run hsz hn1 0 (pc' := 99) (lv' := [some (gr 0), some (gi a), some (gi hour), some (gi n_), some (gi v), some (gi 1), none, none, none, none]) (st' := [gr (12 + (cA mi a 8).toNat)]) (M' := gw mi ml) rfl ?_
              refine Go.getf (by rfl) (c := 3) (N := 10) (shP (i := cA mi a 8) (by have := hc8; omega)) ?_
              refine Go.run hsz hn1 5 (pc' := 110) (lv' := [some (gr 0), some (gi a), some (gi hour), some (gi n_), some (gi v), some (gi 1), some (gi (cP mi (cA mi a 8) 7)), some (gi 0), some (gi hour), none]) (st' := []) (M' := gw mi ml) rfl ?_
              refine Go.dropl 5 ?_
              refine Go.run hsz hn1 0 (pc' := 110) (lv' := [some (gr 0), some (gi a), some (gi hour), some (gi n_), some (gi v), none, some (gi (cP mi (cA mi a 8) 7)), some (gi 0), some (gi hour), none]) (st' := []) (M' := gw mi ml) rfl ?_
              refine Go.imp (fun r M h => Or.inr (Or.inr ⟨by omega, h⟩)) (lC_may hsz (n := n) (by omega) mi ml a hour n_ v (cP mi (cA mi a 8) 7) r_a (by omega) (by omega) (by omega) (by have := (hQ (cA mi a 8) hc8.1 hc8.2).2.2.2.2.2.2.2; omega) hv hli 25 hour 0 (fun i i0 i1 => by omega) (fun h h0 h1 => by omega) (Or.inl (by omega)) (by omega) (by omega) (by omega) (by omega))
            · refine Go.run hsz hn1 2 (pc' := 75) (lv' := [some (gr 0), some (gi a), some (gi hour), some (gi n_), some (gi v), some (gi 1), none, none, none, none]) (st' := [gi (-1000005), gr 0]) (M' := gw mi ml) rfl ?_
              refine Go.callV (As := [gi (-1000005)]) (b := 0) (st := []) (mc1 := 0) (mc := 0) (ms1 := 0) (ms := 0) (by rfl) rfl (c := 10) (N := 9) (by rfl) (by decide) (by rfl) (gcn 147 (by decide)).1 (gcn 147 (by decide)).2 rfl (Nat.le_of_ble_eq_true rfl) (by omega) (cC_finding hsz (n := n - 1) (by omega) mi ml (-1000005) (by decide) (by decide)) ?_
              rintro _ _ ⟨rfl, rfl⟩
              refine Go.run hsz hn1 0 (pc' := 78) (lv' := [some (gr 0), some (gi a), some (gi hour), some (gi n_), some (gi v), some (gi 1), none, none, none, none]) (st' := [gi (-1000005)]) (M' := gw (cFd mi 4) ml) rfl ?_
              first | exact Go.iret (by rfl) (Or.inl ⟨by omega, rfl, rfl⟩) | exact Go.iret (by rfl) (Or.inr (Or.inl ⟨by omega, rfl, rfl⟩))
          · exact absurd kq9 (by decide)
set_option maxRecDepth 100000 in
set_option maxHeartbeats 4000000 in
theorem lM_may1 {G : gG} (hsz : G.2.2.2.2.2.2 = true) {n : Nat} (hn : 6 ≤ n) (mi : Nat → Nat → Int) (ml : Nat → Nat → Int64) (a hour n_ v post : Int) (ra : rng a) (hh : 0 ≤ hour ∧ hour ≤ 23) (hn_ : 1 ≤ n_ ∧ n_ ≤ 24) (hv_ : 0 ≤ v ∧ v ≤ 40) (hp_ : 0 ≤ post ∧ post ≤ 3) (hv : SV mi) (hli : ∀ i : Nat, i < 4 → 0 ≤ mi 153 i ∧ mi 153 i ≤ 200) (h : Int) (h0 : hour ≤ h) (h1 : h + n_ ≤ 24) (hB : ∀ q : Int, hour ≤ q → q < h → ¬ gAll (mHd mi post v) q n_) (kk : ¬ gAll (mHd mi post v) h n_ → Go G mX12_may n 0 0 69 [some (gr 148), some (gi a), some (gi hour), some (gi n_), some (gi v), some (gi post), some (gi (h + 1)), none] [] (gw mi ml) (fun r M => (∃ z, gFst (mHd mi post v) hour n_ z ∧ r = some (gi z) ∧ M = gw mi ml) ∨ (gNon (mHd mi post v) hour n_ ∧ gE True (-1000004) (mFd mi 3) ml r M))) : ∀ (f : Nat) (k : Int) (hA : ∀ i : Int, h ≤ i → i < h + k → mHd mi post v i), 0 ≤ k → k ≤ n_ → n_ - k < f → Go G mX12_may n 0 0 81 [some (gr 148), some (gi a), some (gi hour), some (gi n_), some (gi v), some (gi post), some (gi h), some (gi k)] [] (gw mi ml) (fun r M => (∃ z, gFst (mHd mi post v) hour n_ z ∧ r = some (gi z) ∧ M = gw mi ml) ∨ (gNon (mHd mi post v) hour n_ ∧ gE True (-1000004) (mFd mi 3) ml r M)) := by
  have hn1 : 1 ≤ n := by omega
  obtain ⟨hR, ht, hp, hq, hP, hQ⟩ := id hv
  have hl4 := hli post.toNat (by omega)
  intro f
  induction f with
  | zero => intros; omega
  | succ f ih =>
    intro k hA k0 k1 k2
    refine Go.run hsz hn1 2 (pc' := 84) (lv' := [some (gr 148), some (gi a), some (gi hour), some (gi n_), some (gi v), some (gi post), some (gi h), some (gi k)]) (st' := [gi n_, gi k]) (M' := gw mi ml) rfl ?_
    refine Go.icmp_ge (by rfl) ⟨by omega, by omega⟩ ⟨by omega, by omega⟩ (fun kq1 => ?_) (fun kq1 => ?_)
    · refine Go.run hsz hn1 2 (pc' := 120) (lv' := [some (gr 148), some (gi a), some (gi hour), some (gi n_), some (gi v), some (gi post), some (gi h), some (gi k)]) (st' := [gi n_, gi k]) (M' := gw mi ml) rfl ?_
      refine Go.icmp_ne (by rfl) ⟨by omega, by omega⟩ ⟨by omega, by omega⟩ (fun kq2 => ?_) (fun kq2 => ?_)
      · refine Go.run hsz hn1 2 (pc' := 69) (lv' := [some (gr 148), some (gi a), some (gi hour), some (gi n_), some (gi v), some (gi post), some (gi (h + 1)), some (gi k)]) (st' := []) (M' := gw mi ml) rfl ?_
        refine Go.dropl 7 ?_
        refine Go.run hsz hn1 0 (pc' := 69) (lv' := [some (gr 148), some (gi a), some (gi hour), some (gi n_), some (gi v), some (gi post), some (gi (h + 1)), none]) (st' := []) (M' := gw mi ml) rfl ?_
        first | exact kk (fun ha => absurd (ha (h + k) (by omega) (by omega)) (by unfold mHd; omega)) | (exfalso; omega)
      · refine Go.run hsz hn1 1 (pc' := 125) (lv' := [some (gr 148), some (gi a), some (gi hour), some (gi n_), some (gi v), some (gi post), some (gi h), some (gi k)]) (st' := [gi h]) (M' := gw mi ml) rfl ?_
        first | exact Go.iret (by rfl) (Or.inl ⟨h, ⟨by omega, by omega, fun i i0 i1 => hA i i0 (by omega), hB⟩, rfl, rfl⟩) | (exfalso; omega)
    · refine Go.run hsz hn1 5 (pc' := 95) (lv' := [some (gr 148), some (gi a), some (gi hour), some (gi n_), some (gi v), some (gi post), some (gi h), some (gi k)]) (st' := [gi (h + k), gi post, gr 148]) (M' := gw mi ml) rfl ?_
      refine Go.callV (As := [gi post, gi (h + k)]) (b := 148) (st := []) (mc1 := 0) (mc := 0) (ms1 := 0) (ms := 0) (by rfl) rfl (c := 11) (N := 46) (by rfl) (by decide) (by rfl) (gcn 223 (by decide)).1 (gcn 223 (by decide)).2 rfl (Nat.le_of_ble_eq_true rfl) (by omega) (cM_loadOf hsz (n := n - 1) (by omega) mi ml post (h + k) ⟨by omega, by omega⟩ hv) ?_
      rintro _ _ ⟨rfl, rfl⟩
      have hb3 := mLoad_bb hv post (h + k)
      refine Go.run hsz hn1 5 (pc' := 107) (lv' := [some (gr 148), some (gi a), some (gi hour), some (gi n_), some (gi v), some (gi post), some (gi h), some (gi k)]) (st' := [gi post, gr 153, gi ((mLoad mi post (h + k) (mi 148 6).toNat) + v)]) (M' := gw mi ml) rfl ?_
      refine Go.iald (by rfl) (N := 4) (by rfl) (by omega) (by omega) (by decide) ?_
      refine Go.run hsz hn1 0 (pc' := 108) (lv' := [some (gr 148), some (gi a), some (gi hour), some (gi n_), some (gi v), some (gi post), some (gi h), some (gi k)]) (st' := [gi (mi 153 post.toNat), gi ((mLoad mi post (h + k) (mi 148 6).toNat) + v)]) (M' := gw mi ml) rfl ?_
      refine Go.icmp_gt (by rfl) ⟨by omega, by omega⟩ (hR _ _) (fun kq4 => ?_) (fun kq4 => ?_)
      · refine Go.run hsz hn1 2 (pc' := 120) (lv' := [some (gr 148), some (gi a), some (gi hour), some (gi n_), some (gi v), some (gi post), some (gi h), some (gi k)]) (st' := [gi n_, gi k]) (M' := gw mi ml) rfl ?_
        refine Go.icmp_ne (by rfl) ⟨by omega, by omega⟩ ⟨by omega, by omega⟩ (fun kq5 => ?_) (fun kq5 => ?_)
        · refine Go.run hsz hn1 2 (pc' := 69) (lv' := [some (gr 148), some (gi a), some (gi hour), some (gi n_), some (gi v), some (gi post), some (gi (h + 1)), some (gi k)]) (st' := []) (M' := gw mi ml) rfl ?_
          refine Go.dropl 7 ?_
          refine Go.run hsz hn1 0 (pc' := 69) (lv' := [some (gr 148), some (gi a), some (gi hour), some (gi n_), some (gi v), some (gi post), some (gi (h + 1)), none]) (st' := []) (M' := gw mi ml) rfl ?_
          first | exact kk (fun ha => absurd (ha (h + k) (by omega) (by omega)) (by unfold mHd; omega)) | (exfalso; omega)
        · refine Go.run hsz hn1 1 (pc' := 125) (lv' := [some (gr 148), some (gi a), some (gi hour), some (gi n_), some (gi v), some (gi post), some (gi h), some (gi k)]) (st' := [gi h]) (M' := gw mi ml) rfl ?_
          first | exact Go.iret (by rfl) (Or.inl ⟨h, ⟨by omega, by omega, fun i i0 i1 => hA i i0 (by omega), hB⟩, rfl, rfl⟩) | (exfalso; omega)
      · refine Go.run hsz hn1 2 (pc' := 81) (lv' := [some (gr 148), some (gi a), some (gi hour), some (gi n_), some (gi v), some (gi post), some (gi h), some (gi (k + 1))]) (st' := []) (M' := gw mi ml) rfl ?_
        exact ih (k + 1) (fun i i0 i1 => (by
          by_cases e : i = h + k
          · rw [e]; unfold mHd; omega
          · exact hA i (by omega) (by omega))) (by omega) (by omega) (by omega)
set_option maxRecDepth 100000 in
set_option maxHeartbeats 4000000 in
theorem lM_may0 {G : gG} (hsz : G.2.2.2.2.2.2 = true) {n : Nat} (hn : 6 ≤ n) (mi : Nat → Nat → Int) (ml : Nat → Nat → Int64) (a hour n_ v post : Int) (ra : rng a) (hh : 0 ≤ hour ∧ hour ≤ 23) (hn_ : 1 ≤ n_ ∧ n_ ≤ 24) (hv_ : 0 ≤ v ∧ v ≤ 40) (hp_ : 0 ≤ post ∧ post ≤ 3) (hv : SV mi) (hli : ∀ i : Nat, i < 4 → 0 ≤ mi 153 i ∧ mi 153 i ≤ 200) : ∀ (f : Nat) (k : Int) (hB : ∀ q : Int, hour ≤ q → q < k → ¬ gAll (mHd mi post v) q n_), hour ≤ k → k ≤ 25 → 25 - k < f → Go G mX12_may n 0 0 69 [some (gr 148), some (gi a), some (gi hour), some (gi n_), some (gi v), some (gi post), some (gi k), none] [] (gw mi ml) (fun r M => (∃ z, gFst (mHd mi post v) hour n_ z ∧ r = some (gi z) ∧ M = gw mi ml) ∨ (gNon (mHd mi post v) hour n_ ∧ gE True (-1000004) (mFd mi 3) ml r M)) := by
  have hn1 : 1 ≤ n := by omega
  obtain ⟨hR, ht, hp, hq, hP, hQ⟩ := id hv
  intro f
  induction f with
  | zero => intros; omega
  | succ f ih =>
    intro k hB k0 k1 k2
    refine Go.run hsz hn1 4 (pc' := 75) (lv' := [some (gr 148), some (gi a), some (gi hour), some (gi n_), some (gi v), some (gi post), some (gi k), none]) (st' := [gi 24, gi (k + n_)]) (M' := gw mi ml) rfl ?_
    refine Go.icmp_gt (by rfl) ⟨by omega, by omega⟩ ⟨by decide, by decide⟩ (fun kq1 => ?_) (fun kq1 => ?_)
    · refine Go.run hsz hn1 2 (pc' := 134) (lv' := [some (gr 148), some (gi a), some (gi hour), some (gi n_), some (gi v), some (gi post), some (gi k), none]) (st' := [gi 3, gr 148]) (M' := gw mi ml) rfl ?_
      refine Go.callV (As := [gi 3]) (b := 148) (st := []) (mc1 := 0) (mc := 0) (ms1 := 0) (ms := 0) (by rfl) rfl (c := 11) (N := 46) (by rfl) (by decide) (by rfl) (gcn 154 (by decide)).1 (gcn 154 (by decide)).2 rfl (Nat.le_of_ble_eq_true rfl) (by omega) (cM_finds hsz (n := n - 1) (by omega) mi ml 3 (by decide) (by decide)) ?_
      rintro _ _ ⟨rfl, rfl⟩
      refine Go.run hsz hn1 0 (pc' := 137) (lv' := [some (gr 148), some (gi a), some (gi hour), some (gi n_), some (gi v), some (gi post), some (gi k), none]) (st' := [gi (-1000004)]) (M' := gw (mFd mi 3) ml) rfl ?_
      exact Go.iret (by rfl) (Or.inr ⟨fun q q0 q1 => hB q q0 (by omega), trivial, rfl, rfl⟩)
    · refine Go.run hsz hn1 2 (pc' := 81) (lv' := [some (gr 148), some (gi a), some (gi hour), some (gi n_), some (gi v), some (gi post), some (gi k), some (gi 0)]) (st' := []) (M' := gw mi ml) rfl ?_
      exact lM_may1 hsz (n := n) (by omega) mi ml a hour n_ v post ra hh hn_ hv_ hp_ hv hli k (by omega) (by omega) hB (fun hnot => ih (k + 1) (fun q q0 q1 => (by
        by_cases e : q = k
        · rw [e]; exact hnot
        · exact hB q q0 (by omega))) (by omega) (by omega) (by omega)) (n_.toNat + 1) 0 (fun i i0 i1 => by omega) (by omega) (by omega) (by omega)
set_option maxRecDepth 100000 in
set_option maxHeartbeats 4000000 in
theorem pM_may {G : gG} (hsz : G.2.2.2.2.2.2 = true) {n : Nat} (hn : 6 ≤ n) (mi : Nat → Nat → Int) (ml : Nat → Nat → Int64) (a hour n_ v : Int) (r_a : rng a) (r_hour : rng hour) (r_n_ : rng n_) (r_v : rng v) (hv : SV mi) (hli : ∀ i : Nat, i < 4 → 0 ≤ mi 153 i ∧ mi 153 i ≤ 200) : gM G 226 n 0 0 [gr 148, gi a, gi hour, gi n_, gi v] (gw mi ml) (fun r M => gE (¬ ((0 ≤ a ∧ a ≤ mi 148 6 - 1) ∧ (0 ≤ hour ∧ hour ≤ 23) ∧ (1 ≤ n_ ∧ n_ ≤ 24) ∧ (0 ≤ v ∧ v ≤ 40))) (-1000001) (mFd mi 0) ml r M ∨ gE (((0 ≤ a ∧ a ≤ mi 148 6 - 1) ∧ (0 ≤ hour ∧ hour ≤ 23) ∧ (1 ≤ n_ ∧ n_ ≤ 24) ∧ (0 ≤ v ∧ v ≤ 40)) ∧ mHere mi a = 0) (-1000005) (mFd mi 4) ml r M ∨ ((((0 ≤ a ∧ a ≤ mi 148 6 - 1) ∧ (0 ≤ hour ∧ hour ≤ 23) ∧ (1 ≤ n_ ∧ n_ ≤ 24) ∧ (0 ≤ v ∧ v ≤ 40)) ∧ ¬ mHere mi a = 0) ∧ (fun r M => (∃ z, gFst (mHd mi (mPost mi a) v) hour n_ z ∧ r = some (gi z) ∧ M = gw mi ml) ∨ (gNon (mHd mi (mPost mi a) v) hour n_ ∧ gE True (-1000004) (mFd mi 3) ml r M)) r M)) := by
  have hn1 : 1 ≤ n := by omega
  obtain ⟨hR, ht, hp, hq, hP, hQ⟩ := id hv
  refine gM.of mX12_may okX12_may (gcp 226 (by decide)).1 (gcp 226 (by decide)).2 (Nat.le_of_ble_eq_true rfl) ?_
  refine Go.run hsz hn1 2 (pc' := 2) (lv' := [some (gr 148), some (gi a), some (gi hour), some (gi n_), some (gi v), none, none, none]) (st' := [gi a, gr 148]) (M' := gw mi ml) rfl ?_
  refine Go.callV (As := [gi a]) (b := 148) (st := []) (mc1 := 0) (mc := 0) (ms1 := 0) (ms := 0) (by rfl) rfl (c := 11) (N := 46) (by rfl) (by decide) (by rfl) (gcn 156 (by decide)).1 (gcn 156 (by decide)).2 rfl (Nat.le_of_ble_eq_true rfl) (by omega) (cM_isParty hsz (n := n - 1) (by omega) mi ml a r_a hq.1 hq.2) ?_
  rintro _ _ ⟨rfl, rfl⟩
  refine Go.run hsz hn1 0 (pc' := 5) (lv' := [some (gr 148), some (gi a), some (gi hour), some (gi n_), some (gi v), none, none, none]) (st' := [gi (b2 (0 ≤ a ∧ a ≤ mi 148 6 - 1))]) (M' := gw mi ml) rfl ?_
  refine Go.if_eq (by rfl) (b2_rng _) (fun kq1 => ?_) (fun kq1 => ?_)
  · replace kq1 := b2_neg kq1
    refine Go.run hsz hn1 2 (pc' := 41) (lv' := [some (gr 148), some (gi a), some (gi hour), some (gi n_), some (gi v), none, none, none]) (st' := [gi 0, gr 148]) (M' := gw mi ml) rfl ?_
    refine Go.callV (As := [gi 0]) (b := 148) (st := []) (mc1 := 0) (mc := 0) (ms1 := 0) (ms := 0) (by rfl) rfl (c := 11) (N := 46) (by rfl) (by decide) (by rfl) (gcn 154 (by decide)).1 (gcn 154 (by decide)).2 rfl (Nat.le_of_ble_eq_true rfl) (by omega) (cM_finds hsz (n := n - 1) (by omega) mi ml 0 (by decide) (by decide)) ?_
    rintro _ _ ⟨rfl, rfl⟩
    refine Go.run hsz hn1 0 (pc' := 44) (lv' := [some (gr 148), some (gi a), some (gi hour), some (gi n_), some (gi v), none, none, none]) (st' := [gi (-1000001)]) (M' := gw (mFd mi 0) ml) rfl ?_
    first | exact Go.iret (by rfl) (Or.inl ⟨by omega, rfl, rfl⟩) | exact Go.iret (by rfl) (Or.inr (Or.inl ⟨by omega, rfl, rfl⟩))
  · replace kq1 := b2_pos kq1
    refine Go.run hsz hn1 3 (pc' := 12) (lv' := [some (gr 148), some (gi a), some (gi hour), some (gi n_), some (gi v), none, none, none]) (st' := [gi 23, gi 0, gi hour]) (M' := gw mi ml) rfl ?_
    refine Go.callS (As := [gi hour, gi 0, gi 23]) (st := []) (mc1 := 0) (mc := 0) (ms1 := 0) (ms := 0) (by rfl) rfl (gcn 153 (by decide)).1 (gcn 153 (by decide)).2 (Nat.le_of_ble_eq_true rfl) (by omega) (cM_in hsz (n := n - 1) (by omega) mi ml hour 0 23 r_hour ⟨by decide, by decide⟩ ⟨by decide, by decide⟩) ?_
    rintro _ _ ⟨rfl, rfl⟩
    refine Go.run hsz hn1 0 (pc' := 15) (lv' := [some (gr 148), some (gi a), some (gi hour), some (gi n_), some (gi v), none, none, none]) (st' := [gi (b2 (0 ≤ hour ∧ hour ≤ 23))]) (M' := gw mi ml) rfl ?_
    refine Go.if_eq (by rfl) (b2_rng _) (fun kq2 => ?_) (fun kq2 => ?_)
    · replace kq2 := b2_neg kq2
      refine Go.run hsz hn1 2 (pc' := 41) (lv' := [some (gr 148), some (gi a), some (gi hour), some (gi n_), some (gi v), none, none, none]) (st' := [gi 0, gr 148]) (M' := gw mi ml) rfl ?_
      refine Go.callV (As := [gi 0]) (b := 148) (st := []) (mc1 := 0) (mc := 0) (ms1 := 0) (ms := 0) (by rfl) rfl (c := 11) (N := 46) (by rfl) (by decide) (by rfl) (gcn 154 (by decide)).1 (gcn 154 (by decide)).2 rfl (Nat.le_of_ble_eq_true rfl) (by omega) (cM_finds hsz (n := n - 1) (by omega) mi ml 0 (by decide) (by decide)) ?_
      rintro _ _ ⟨rfl, rfl⟩
      refine Go.run hsz hn1 0 (pc' := 44) (lv' := [some (gr 148), some (gi a), some (gi hour), some (gi n_), some (gi v), none, none, none]) (st' := [gi (-1000001)]) (M' := gw (mFd mi 0) ml) rfl ?_
      first | exact Go.iret (by rfl) (Or.inl ⟨by omega, rfl, rfl⟩) | exact Go.iret (by rfl) (Or.inr (Or.inl ⟨by omega, rfl, rfl⟩))
    · replace kq2 := b2_pos kq2
      refine Go.run hsz hn1 3 (pc' := 22) (lv' := [some (gr 148), some (gi a), some (gi hour), some (gi n_), some (gi v), none, none, none]) (st' := [gi 24, gi 1, gi n_]) (M' := gw mi ml) rfl ?_
      refine Go.callS (As := [gi n_, gi 1, gi 24]) (st := []) (mc1 := 0) (mc := 0) (ms1 := 0) (ms := 0) (by rfl) rfl (gcn 153 (by decide)).1 (gcn 153 (by decide)).2 (Nat.le_of_ble_eq_true rfl) (by omega) (cM_in hsz (n := n - 1) (by omega) mi ml n_ 1 24 r_n_ ⟨by decide, by decide⟩ ⟨by decide, by decide⟩) ?_
      rintro _ _ ⟨rfl, rfl⟩
      refine Go.run hsz hn1 0 (pc' := 25) (lv' := [some (gr 148), some (gi a), some (gi hour), some (gi n_), some (gi v), none, none, none]) (st' := [gi (b2 (1 ≤ n_ ∧ n_ ≤ 24))]) (M' := gw mi ml) rfl ?_
      refine Go.if_eq (by rfl) (b2_rng _) (fun kq3 => ?_) (fun kq3 => ?_)
      · replace kq3 := b2_neg kq3
        refine Go.run hsz hn1 2 (pc' := 41) (lv' := [some (gr 148), some (gi a), some (gi hour), some (gi n_), some (gi v), none, none, none]) (st' := [gi 0, gr 148]) (M' := gw mi ml) rfl ?_
        refine Go.callV (As := [gi 0]) (b := 148) (st := []) (mc1 := 0) (mc := 0) (ms1 := 0) (ms := 0) (by rfl) rfl (c := 11) (N := 46) (by rfl) (by decide) (by rfl) (gcn 154 (by decide)).1 (gcn 154 (by decide)).2 rfl (Nat.le_of_ble_eq_true rfl) (by omega) (cM_finds hsz (n := n - 1) (by omega) mi ml 0 (by decide) (by decide)) ?_
        rintro _ _ ⟨rfl, rfl⟩
        refine Go.run hsz hn1 0 (pc' := 44) (lv' := [some (gr 148), some (gi a), some (gi hour), some (gi n_), some (gi v), none, none, none]) (st' := [gi (-1000001)]) (M' := gw (mFd mi 0) ml) rfl ?_
        first | exact Go.iret (by rfl) (Or.inl ⟨by omega, rfl, rfl⟩) | exact Go.iret (by rfl) (Or.inr (Or.inl ⟨by omega, rfl, rfl⟩))
      · replace kq3 := b2_pos kq3
        refine Go.run hsz hn1 3 (pc' := 33) (lv' := [some (gr 148), some (gi a), some (gi hour), some (gi n_), some (gi v), none, none, none]) (st' := [gi 40, gi 0, gi v]) (M' := gw mi ml) rfl ?_
        refine Go.callS (As := [gi v, gi 0, gi 40]) (st := []) (mc1 := 0) (mc := 0) (ms1 := 0) (ms := 0) (by rfl) rfl (gcn 153 (by decide)).1 (gcn 153 (by decide)).2 (Nat.le_of_ble_eq_true rfl) (by omega) (cM_in hsz (n := n - 1) (by omega) mi ml v 0 40 r_v ⟨by decide, by decide⟩ ⟨by decide, by decide⟩) ?_
        rintro _ _ ⟨rfl, rfl⟩
        refine Go.run hsz hn1 0 (pc' := 36) (lv' := [some (gr 148), some (gi a), some (gi hour), some (gi n_), some (gi v), none, none, none]) (st' := [gi (b2 (0 ≤ v ∧ v ≤ 40))]) (M' := gw mi ml) rfl ?_
        refine Go.if_ne (by rfl) (b2_rng _) (fun kq4 => ?_) (fun kq4 => ?_)
        · replace kq4 := b2_pos kq4
          refine Go.run hsz hn1 2 (pc' := 47) (lv' := [some (gr 148), some (gi a), some (gi hour), some (gi n_), some (gi v), none, none, none]) (st' := [gi a, gr 148]) (M' := gw mi ml) rfl ?_
          refine Go.callV (As := [gi a]) (b := 148) (st := []) (mc1 := 0) (mc := 0) (ms1 := 0) (ms := 0) (by rfl) rfl (c := 11) (N := 46) (by rfl) (by decide) (by rfl) (gcn 221 (by decide)).1 (gcn 221 (by decide)).2 rfl (Nat.le_of_ble_eq_true rfl) (by omega) (cM_isHere hsz (n := n - 1) (by omega) mi ml a (by omega) (by omega) hR (hP a (by omega) (by omega))) ?_
          rintro _ _ ⟨rfl, rfl⟩
          refine Go.run hsz hn1 0 (pc' := 50) (lv' := [some (gr 148), some (gi a), some (gi hour), some (gi n_), some (gi v), none, none, none]) (st' := [gi (mHere mi a)]) (M' := gw mi ml) rfl ?_
          refine Go.if_ne (by rfl) (b2_rng _) (fun kq5 => ?_) (fun kq5 => ?_)
          · refine Go.run hsz hn1 2 (pc' := 61) (lv' := [some (gr 148), some (gi a), some (gi hour), some (gi n_), some (gi v), none, none, none]) (st' := [gi a, gr 148]) (M' := gw mi ml) rfl ?_
            refine Go.callV (As := [gi a]) (b := 148) (st := []) (mc1 := 0) (mc := 0) (ms1 := 0) (ms := 0) (by rfl) rfl (c := 11) (N := 46) (by rfl) (by decide) (by rfl) (gcn 222 (by decide)).1 (gcn 222 (by decide)).2 rfl (Nat.le_of_ble_eq_true rfl) (by omega) (cM_postOf hsz (n := n - 1) (by omega) mi ml a (by omega) (by omega) (mHere_on (by assumption)) (by have := (hP a (by omega) (by omega)).2.2.2.2.2.2.2.1.2; omega)) ?_
            rintro _ _ ⟨rfl, rfl⟩
            refine Go.run hsz hn1 3 (pc' := 69) (lv' := [some (gr 148), some (gi a), some (gi hour), some (gi n_), some (gi v), some (gi (mPost mi a)), some (gi hour), none]) (st' := []) (M' := gw mi ml) rfl ?_
            refine Go.imp (fun r M h => Or.inr (Or.inr ⟨by omega, h⟩)) (lM_may0 hsz (n := n) (by omega) mi ml a hour n_ v (mPost mi a) r_a (by omega) (by omega) (by omega) (by have h6 := (hP a (by omega) (by omega)).2.2.2.2.2.2.2.1; have := (hQ (mOf mi a 6) (mHere_on (by assumption)) h6.2).2.2.2.2.2.2.2; exact this) hv hli 26 hour (fun q q0 q1 => by omega) (by omega) (by omega) (by omega))
          · refine Go.run hsz hn1 2 (pc' := 55) (lv' := [some (gr 148), some (gi a), some (gi hour), some (gi n_), some (gi v), none, none, none]) (st' := [gi 4, gr 148]) (M' := gw mi ml) rfl ?_
            refine Go.callV (As := [gi 4]) (b := 148) (st := []) (mc1 := 0) (mc := 0) (ms1 := 0) (ms := 0) (by rfl) rfl (c := 11) (N := 46) (by rfl) (by decide) (by rfl) (gcn 154 (by decide)).1 (gcn 154 (by decide)).2 rfl (Nat.le_of_ble_eq_true rfl) (by omega) (cM_finds hsz (n := n - 1) (by omega) mi ml 4 (by decide) (by decide)) ?_
            rintro _ _ ⟨rfl, rfl⟩
            refine Go.run hsz hn1 0 (pc' := 58) (lv' := [some (gr 148), some (gi a), some (gi hour), some (gi n_), some (gi v), none, none, none]) (st' := [gi (-1000005)]) (M' := gw (mFd mi 4) ml) rfl ?_
            first | exact Go.iret (by rfl) (Or.inl ⟨by omega, rfl, rfl⟩) | exact Go.iret (by rfl) (Or.inr (Or.inl ⟨by omega, rfl, rfl⟩))
        · replace kq4 := b2_neg kq4
          refine Go.run hsz hn1 2 (pc' := 41) (lv' := [some (gr 148), some (gi a), some (gi hour), some (gi n_), some (gi v), none, none, none]) (st' := [gi 0, gr 148]) (M' := gw mi ml) rfl ?_
          refine Go.callV (As := [gi 0]) (b := 148) (st := []) (mc1 := 0) (mc := 0) (ms1 := 0) (ms := 0) (by rfl) rfl (c := 11) (N := 46) (by rfl) (by decide) (by rfl) (gcn 154 (by decide)).1 (gcn 154 (by decide)).2 rfl (Nat.le_of_ble_eq_true rfl) (by omega) (cM_finds hsz (n := n - 1) (by omega) mi ml 0 (by decide) (by decide)) ?_
          rintro _ _ ⟨rfl, rfl⟩
          refine Go.run hsz hn1 0 (pc' := 44) (lv' := [some (gr 148), some (gi a), some (gi hour), some (gi n_), some (gi v), none, none, none]) (st' := [gi (-1000001)]) (M' := gw (mFd mi 0) ml) rfl ?_
          first | exact Go.iret (by rfl) (Or.inl ⟨by omega, rfl, rfl⟩) | exact Go.iret (by rfl) (Or.inr (Or.inl ⟨by omega, rfl, rfl⟩))
theorem Inv.limC {t : Nat} {mi : Nat → Nat → Int} {ml : Nat → Nat → Int64} (h : Inv t mi ml) : ∀ i : Nat, i < 4 → 0 ≤ mi 4 i ∧ mi 4 i ≤ 200 := fun i hi => by
  have := h.2.1.2.2.2.2.1 i hi
  have this : mi 4 i = mi 153 i ∧ 0 ≤ mi 153 i ∧ mi 153 i ≤ 200 := this
  omega
theorem Inv.limM {t : Nat} {mi : Nat → Nat → Int} {ml : Nat → Nat → Int64} (h : Inv t mi ml) : ∀ i : Nat, i < 4 → 0 ≤ mi 153 i ∧ mi 153 i ≤ 200 := fun i hi => (h.2.1.2.2.2.2.1 i hi).2
set_option maxHeartbeats 4000000 in
theorem op_may {G : gG} (hsz : G.2.2.2.2.2.2 = true) : gOp G Inv 130 226 4 := by
  intro t mi ml xs hlen hr ht hI
  match xs, hlen, hr with
  | [a, hour, n_, v], _, hr =>
    have r_a := hr a (by simp)
    have r_hour := hr hour (by simp)
    have r_n_ := hr n_ (by simp)
    have r_v := hr v (by simp)
    have hrep := hI.2.1
    have e3 : mi 1 3 = mi 148 6 := hrep.1.2.2.2.1
    refine ⟨_, pC_may hsz (n := 399) (by decide) mi ml a hour n_ v r_a r_hour r_n_ r_v hI.CV hI.limC, ?_⟩
    rintro r M1 (⟨c, rfl, rfl⟩ | ⟨c, rfl, rfl⟩ | ⟨⟨c, ch⟩, hres⟩)
    · have f6 : (cFd mi 0) 148 6 = mi 148 6 := rfl
      refine ⟨_, rfl, (rB _ (by decide) (by decide)), _, _, rfl, _, pM_may hsz (n := 399) (by decide) (cFd mi 0) ml a hour n_ v r_a r_hour r_n_ r_v (SV.cFd hI ht (by decide)) hI.limM, ?_⟩
      rintro r2 M2 (⟨c2, rfl, rfl⟩ | ⟨c2, rfl, rfl⟩ | ⟨⟨c2, -⟩, -⟩)
      · exact ⟨rfl, _, _, rfl, hI.find ht (by decide)⟩
      · exfalso; omega
      · exfalso; omega
    · have f6 : (cFd mi 4) 148 6 = mi 148 6 := rfl
      have eh := eq_here hrep (a := a) (by omega) (by omega)
      have fh : mHere (cFd mi 4) a = mHere mi a := rfl
      refine ⟨_, rfl, (rB _ (by decide) (by decide)), _, _, rfl, _, pM_may hsz (n := 399) (by decide) (cFd mi 4) ml a hour n_ v r_a r_hour r_n_ r_v (SV.cFd hI ht (by decide)) hI.limM, ?_⟩
      rintro r2 M2 (⟨c2, rfl, rfl⟩ | ⟨c2, rfl, rfl⟩ | ⟨⟨c2, c3⟩, -⟩)
      · exfalso; omega
      · exact ⟨rfl, _, _, rfl, hI.find ht (by decide)⟩
      · exfalso; omega
    · have eh := eq_here hrep (a := a) (by omega) (by omega)
      have on := mHere_on (mi := mi) (a := a) (by omega)
      have e8 : cA mi a 8 = mOf mi a 6 := (hrep.cA (a := a) (by omega) (by omega)).2.2.2.2.2.2.1
      have h6 := (hI.SV.2.2.2.2.1 a (by omega) (by omega)).2.2.2.2.2.2.2.1
      have ep : cP mi (cA mi a 8) 7 = mPost mi a := by rw [e8]; exact (hrep.cP on h6.2).1 7 (by decide)
      have hpb := (hI.SV.2.2.2.2.2 (mOf mi a 6) on h6.2).2.2.2.2.2.2.2
      have hpb : 0 ≤ mPost mi a ∧ mPost mi a ≤ 3 := hpb
      have el : mi 4 (mPost mi a).toNat = mi 153 (mPost mi a).toNat := (hrep.2.2.2.2.1 (mPost mi a).toNat (by omega)).1
      have hH : ∀ h, cHd mi (cP mi (cA mi a 8) 7) v h ↔ mHd mi (mPost mi a) v h := fun h => by
        unfold cHd mHd
        rw [ep, eq_load hrep, el]
      rcases hres with ⟨z, hz, rfl, rfl⟩ | ⟨hz, -, rfl, rfl⟩
      · have hz := gFst_c hH hz
        refine ⟨_, rfl, (by have h1 := hz.1; have h2 := hz.2.1; exact ⟨by omega, by omega⟩), _, _, rfl, _, pM_may hsz (n := 399) (by decide) mi ml a hour n_ v r_a r_hour r_n_ r_v hI.SV hI.limM, ?_⟩
        rintro r2 M2 (⟨c2, rfl, rfl⟩ | ⟨c2, rfl, rfl⟩ | ⟨-, ⟨z', hz', rfl, rfl⟩ | ⟨hz', -, rfl, rfl⟩⟩)
        · exfalso; omega
        · exfalso; omega
        · exact ⟨congrArg (fun z => some (gi z)) (gFst_u hz' hz), _, _, rfl, hI.mono⟩
        · exact absurd hz' (fun q => gFst_n hz q)
      · have hz := gNon_c hH hz
        have f6 : (cFd mi 3) 148 6 = mi 148 6 := rfl
        have fh : mHere (cFd mi 3) a = mHere mi a := rfl
        refine ⟨_, rfl, (rB _ (by decide) (by decide)), _, _, rfl, _, pM_may hsz (n := 399) (by decide) (cFd mi 3) ml a hour n_ v r_a r_hour r_n_ r_v (SV.cFd hI ht (by decide)) hI.limM, ?_⟩
        rintro r2 M2 (⟨c2, rfl, rfl⟩ | ⟨c2, rfl, rfl⟩ | ⟨-, ⟨z', hz', rfl, rfl⟩ | ⟨hz', -, rfl, rfl⟩⟩)
        · exfalso; omega
        · exfalso; omega
        · exact absurd hz (fun q => gFst_n hz' q)
        · exact ⟨rfl, _, _, rfl, hI.find ht (by decide)⟩

/-! ===== law: the class cuts the whole tape ===== -/
set_option maxRecDepth 100000 in
set_option maxHeartbeats 4000000 in
theorem lT_cut {G : gG} (hsz : G.2.2.2.2.2.2 = true) {n : Nat} (hn : 5 ≤ n) (ml : Nat → Nat → Int64) (mi : Nat → Nat → Int) (hz : 0 ≤ mi 132 0 ∧ mi 132 0 ≤ 120) (hb : ∀ i : Nat, (i : Int) < mi 132 0 → 0 ≤ mi 134 i ∧ mi 134 i ≤ 255) : ∀ (f : Nat) (q : Int) (c : Nat) (m : Nat → Nat → Int) (hm : cX mi m c q.toNat), 0 ≤ q → q ≤ m 132 0 → m 132 0 - q < f → Go G mX9_cutIntoTokens n 0 0 7 [some (gr 132), some (gi q), none] [] (gw m ml) (fun r M => r = none ∧ ∃ (m : Nat → Nat → Int) (E : Nat → Nat) (T : Nat), M = gw m ml ∧ cXf mi m ∧ tBs m E T) := by
  have hn1 : 1 ≤ n := by omega

  intro f
  induction f with
  | zero => intros; omega
  | succ f ih =>
    intro q c m hm q0 q1 q2
    have hz0 := hm.2.1.2 0 (by decide)
    have h9 := hm.2.2.1
    obtain ⟨E0, hE0⟩ := id hm.2.2.2
    have hc1 := hE0.2.1
    have hbm : ∀ i : Nat, (i : Int) < m 132 0 → 0 ≤ m 134 i ∧ m 134 i ≤ 255 := fun i hi => (by rw [hm.2.1.1 134 i (by decide) (by decide) (by decide) (by decide)]; exact hb i (by omega))
    have hbq := hbm q.toNat
    clear hE0
    refine Go.run hsz hn1 3 (pc' := 12) (lv' := [some (gr 132), some (gi q), none]) (st' := [gi (m 132 0), gi q]) (M' := gw m ml) rfl ?_
    refine Go.icmp_ge (by rfl) ⟨by omega, by omega⟩ (hm.1 _ _) (fun kq1 => ?_) (fun kq1 => ?_)
    · refine Go.run hsz hn1 5 (pc' := 118) (lv' := [some (gr 132), some (gi q), none]) (st' := [gi (m 132 0), gi 0, gi 0, gr 132]) (M' := gw m ml) rfl ?_
      refine Go.callV (As := [gi 0, gi 0, gi (m 132 0)]) (b := 132) (st := []) (mc1 := 0) (mc := 0) (ms1 := 0) (ms := 0) (by rfl) rfl (c := 8) (N := 11) (by rfl) (by decide) (by rfl) (gcn 81 (by decide)).1 (gcn 81 (by decide)).2 rfl (Nat.le_of_ble_eq_true rfl) (by omega) (cT_add hsz (n := n - 1) (by omega) m ml 0 0 (m 132 0) (by omega) (by omega)) ?_
      rintro _ _ ⟨rfl, rfl⟩
      refine Go.run hsz hn1 0 (pc' := 121) (lv' := [some (gr 132), some (gi q), none]) (st' := []) (M' := gw (mAdd m 0 0 (m 132 0)) ml) rfl ?_
      have hq9 : q = m 132 0 := (by omega)
      subst hq9
      obtain ⟨h7, E, T, h8⟩ := cX_end (by omega) hm
      exact Go.vret (by rfl) ⟨rfl, _, E, T, rfl, h7, h8⟩
    · refine Go.run hsz hn1 7 (pc' := 24) (lv' := [some (gr 132), some (gi q), some (gi (q + 1))]) (st' := [gi q, gr 134]) (M' := gw m ml) rfl ?_
      refine Go.iald (by rfl) (N := 120) (by rfl) (by omega) (by omega) (by decide) ?_
      refine Go.run hsz hn1 0 (pc' := 25) (lv' := [some (gr 132), some (gi q), some (gi (q + 1))]) (st' := [gi (m 134 q.toNat)]) (M' := gw m ml) rfl ?_
      refine Go.callS (As := [gi (m 134 q.toNat)]) (st := []) (mc1 := 0) (mc := 0) (ms1 := 0) (ms := 0) (by rfl) rfl (gcn 85 (by decide)).1 (gcn 85 (by decide)).2 (Nat.le_of_ble_eq_true rfl) (by omega) (cT_isD hsz (n := n - 1) (by omega) m ml (m 134 q.toNat) (hm.1 _ _)) ?_
      rintro _ _ ⟨rfl, rfl⟩
      refine Go.run hsz hn1 0 (pc' := 28) (lv' := [some (gr 132), some (gi q), some (gi (q + 1))]) (st' := [gi (b2 (lD (m 134 q.toNat)))]) (M' := gw m ml) rfl ?_
      refine Go.if_eq (by rfl) (b2_rng _) (fun kq2 => ?_) (fun kq2 => ?_)
      · replace kq2 := b2_neg kq2
        refine Go.run hsz hn1 3 (pc' := 45) (lv' := [some (gr 132), some (gi q), some (gi (q + 1))]) (st' := [gi q, gr 134]) (M' := gw m ml) rfl ?_
        refine Go.iald (by rfl) (N := 120) (by rfl) (by omega) (by omega) (by decide) ?_
        refine Go.run hsz hn1 0 (pc' := 46) (lv' := [some (gr 132), some (gi q), some (gi (q + 1))]) (st' := [gi (m 134 q.toNat)]) (M' := gw m ml) rfl ?_
        refine Go.callS (As := [gi (m 134 q.toNat)]) (st := []) (mc1 := 0) (mc := 0) (ms1 := 0) (ms := 0) (by rfl) rfl (gcn 86 (by decide)).1 (gcn 86 (by decide)).2 (Nat.le_of_ble_eq_true rfl) (by omega) (cT_isA hsz (n := n - 1) (by omega) m ml (m 134 q.toNat) (hm.1 _ _)) ?_
        rintro _ _ ⟨rfl, rfl⟩
        refine Go.run hsz hn1 0 (pc' := 49) (lv' := [some (gr 132), some (gi q), some (gi (q + 1))]) (st' := [gi (b2 (lA (m 134 q.toNat)))]) (M' := gw m ml) rfl ?_
        refine Go.if_eq (by rfl) (b2_rng _) (fun kq3 => ?_) (fun kq3 => ?_)
        · replace kq3 := b2_neg kq3
          refine Go.run hsz hn1 3 (pc' := 66) (lv' := [some (gr 132), some (gi q), some (gi (q + 1))]) (st' := [gi q, gr 134]) (M' := gw m ml) rfl ?_
          refine Go.iald (by rfl) (N := 120) (by rfl) (by omega) (by omega) (by decide) ?_
          refine Go.run hsz hn1 1 (pc' := 69) (lv' := [some (gr 132), some (gi q), some (gi (q + 1))]) (st' := [gi 32, gi (m 134 q.toNat)]) (M' := gw m ml) rfl ?_
          refine Go.icmp_eq (by rfl) (hm.1 _ _) ⟨by decide, by decide⟩ (fun kq4 => ?_) (fun kq4 => ?_)
          · refine Go.run hsz hn1 4 (pc' := 104) (lv' := [some (gr 132), some (gi q), some (gi (q + 1))]) (st' := [gi (q + 1), gi (q + 1)]) (M' := gw m ml) rfl ?_
            refine Go.mmax (by rfl) hn1 (Nat.le_of_ble_eq_true rfl) ⟨by omega, by omega⟩ ⟨by omega, by omega⟩ ?_
            refine Go.run hsz hn1 2 (pc' := 7) (lv' := [some (gr 132), some (gi (if q + 1 < q + 1 then q + 1 else q + 1)), some (gi (q + 1))]) (st' := []) (M' := gw m ml) rfl ?_
            refine Go.dropl 2 ?_
            refine Go.run hsz hn1 0 (pc' := 7) (lv' := [some (gr 132), some (gi (if q + 1 < q + 1 then q + 1 else q + 1)), none]) (st' := []) (M' := gw m ml) rfl ?_
            rw [show (if q + 1 < q + 1 then q + 1 else q + 1) = q + 1 from by split <;> omega]
            exact ih (q + 1) c m (by rw [show (q + 1).toNat = q.toNat + 1 by omega]; exact cX_blank hm (by omega) (by omega)) (by omega) (by omega) (by omega)
          · refine Go.run hsz hn1 4 (pc' := 78) (lv' := [some (gr 132), some (gi q), some (gi (q + 1))]) (st' := [gi q, gr 134, gr 132]) (M' := gw m ml) rfl ?_
            refine Go.iald (by rfl) (N := 120) (by rfl) (by omega) (by omega) (by decide) ?_
            refine Go.run hsz hn1 0 (pc' := 79) (lv' := [some (gr 132), some (gi q), some (gi (q + 1))]) (st' := [gi (m 134 q.toNat), gr 132]) (M' := gw m ml) rfl ?_
            refine Go.callS (As := [gi (m 134 q.toNat)]) (st := [gr 132]) (mc1 := 0) (mc := 0) (ms1 := 0) (ms := 0) (by rfl) rfl (gcn 87 (by decide)).1 (gcn 87 (by decide)).2 (Nat.le_of_ble_eq_true rfl) (by omega) (cT_isS hsz (n := n - 1) (by omega) m ml (m 134 q.toNat) (hm.1 _ _)) ?_
            rintro _ _ ⟨rfl, rfl⟩
            refine Go.run hsz hn1 0 (pc' := 82) (lv' := [some (gr 132), some (gi q), some (gi (q + 1))]) (st' := [gi (b2 (isSg (m 134 q.toNat))), gr 132]) (M' := gw m ml) rfl ?_
            refine Go.if_eq (by rfl) (b2_rng _) (fun kq5 => ?_) (fun kq5 => ?_)
            · replace kq5 := b2_neg kq5
              refine Go.run hsz hn1 3 (pc' := 97) (lv' := [some (gr 132), some (gi q), some (gi (q + 1))]) (st' := [gi q, gi 0, gi 3, gr 132]) (M' := gw m ml) rfl ?_
              refine Go.callV (As := [gi 3, gi 0, gi q]) (b := 132) (st := []) (mc1 := 0) (mc := 0) (ms1 := 0) (ms := 0) (by rfl) rfl (c := 8) (N := 11) (by rfl) (by decide) (by rfl) (gcn 81 (by decide)).1 (gcn 81 (by decide)).2 rfl (Nat.le_of_ble_eq_true rfl) (by omega) (cT_add hsz (n := n - 1) (by omega) m ml 3 0 q (by omega) (by omega)) ?_
              rintro _ _ ⟨rfl, rfl⟩
              refine Go.run hsz hn1 4 (pc' := 104) (lv' := [some (gr 132), some (gi q), some (gi (q + 1))]) (st' := [gi (q + 1), gi (q + 1)]) (M' := gw (mAdd m 3 0 q) ml) rfl ?_
              refine Go.mmax (by rfl) hn1 (Nat.le_of_ble_eq_true rfl) ⟨by omega, by omega⟩ ⟨by omega, by omega⟩ ?_
              refine Go.run hsz hn1 2 (pc' := 7) (lv' := [some (gr 132), some (gi (if q + 1 < q + 1 then q + 1 else q + 1)), some (gi (q + 1))]) (st' := []) (M' := gw (mAdd m 3 0 q) ml) rfl ?_
              refine Go.dropl 2 ?_
              refine Go.run hsz hn1 0 (pc' := 7) (lv' := [some (gr 132), some (gi (if q + 1 < q + 1 then q + 1 else q + 1)), none]) (st' := []) (M' := gw (mAdd m 3 0 q) ml) rfl ?_
              rw [show (if q + 1 < q + 1 then q + 1 else q + 1) = q + 1 from by split <;> omega]
              refine ih (q + 1) (c + 1) _ ?_ (by omega) (by rw [mAdd_132 (by decide)]; omega) (by rw [mAdd_132 (by decide)]; omega)
              rw [show (q + 1).toNat = q.toNat + 1 by omega]
              exact cX_add hm (by omega) (by omega) (Or.inr (Or.inr ⟨by assumption, by assumption, by omega, rfl, rfl, (by first | rw [if_pos (by assumption)] | rw [if_neg (by assumption)])⟩)) (by omega) (by omega) ⟨by omega, by omega⟩ ⟨by decide, by decide⟩
            · replace kq5 := b2_pos kq5
              refine Go.run hsz hn1 3 (pc' := 90) (lv' := [some (gr 132), some (gi q), some (gi (q + 1))]) (st' := [gi q, gr 134, gr 132]) (M' := gw m ml) rfl ?_
              refine Go.iald (by rfl) (N := 120) (by rfl) (by omega) (by omega) (by decide) ?_
              refine Go.run hsz hn1 3 (pc' := 97) (lv' := [some (gr 132), some (gi q), some (gi (q + 1))]) (st' := [gi q, gi 0, gi (m 134 q.toNat), gr 132]) (M' := gw m ml) rfl ?_
              refine Go.callV (As := [gi (m 134 q.toNat), gi 0, gi q]) (b := 132) (st := []) (mc1 := 0) (mc := 0) (ms1 := 0) (ms := 0) (by rfl) rfl (c := 8) (N := 11) (by rfl) (by decide) (by rfl) (gcn 81 (by decide)).1 (gcn 81 (by decide)).2 rfl (Nat.le_of_ble_eq_true rfl) (by omega) (cT_add hsz (n := n - 1) (by omega) m ml (m 134 q.toNat) 0 q (by omega) (by omega)) ?_
              rintro _ _ ⟨rfl, rfl⟩
              refine Go.run hsz hn1 4 (pc' := 104) (lv' := [some (gr 132), some (gi q), some (gi (q + 1))]) (st' := [gi (q + 1), gi (q + 1)]) (M' := gw (mAdd m (m 134 q.toNat) 0 q) ml) rfl ?_
              refine Go.mmax (by rfl) hn1 (Nat.le_of_ble_eq_true rfl) ⟨by omega, by omega⟩ ⟨by omega, by omega⟩ ?_
              refine Go.run hsz hn1 2 (pc' := 7) (lv' := [some (gr 132), some (gi (if q + 1 < q + 1 then q + 1 else q + 1)), some (gi (q + 1))]) (st' := []) (M' := gw (mAdd m (m 134 q.toNat) 0 q) ml) rfl ?_
              refine Go.dropl 2 ?_
              refine Go.run hsz hn1 0 (pc' := 7) (lv' := [some (gr 132), some (gi (if q + 1 < q + 1 then q + 1 else q + 1)), none]) (st' := []) (M' := gw (mAdd m (m 134 q.toNat) 0 q) ml) rfl ?_
              rw [show (if q + 1 < q + 1 then q + 1 else q + 1) = q + 1 from by split <;> omega]
              refine ih (q + 1) (c + 1) _ ?_ (by omega) (by rw [mAdd_132 (by decide)]; omega) (by rw [mAdd_132 (by decide)]; omega)
              rw [show (q + 1).toNat = q.toNat + 1 by omega]
              exact cX_add hm (by omega) (by omega) (Or.inr (Or.inr ⟨by assumption, by assumption, by omega, rfl, rfl, (by first | rw [if_pos (by assumption)] | rw [if_neg (by assumption)])⟩)) (by omega) (by omega) ⟨by omega, by omega⟩ ⟨by decide, by decide⟩
        · replace kq3 := b2_pos kq3
          refine Go.run hsz hn1 2 (pc' := 54) (lv' := [some (gr 132), some (gi q), some (gi (q + 1))]) (st' := [gi q, gr 132]) (M' := gw m ml) rfl ?_
          refine Go.callV (As := [gi q]) (b := 132) (st := []) (mc1 := 0) (mc := 0) (ms1 := 0) (ms := 0) (by rfl) rfl (c := 8) (N := 11) (by rfl) (by decide) (by rfl) (gcn 83 (by decide)).1 (gcn 83 (by decide)).2 rfl (Nat.le_of_ble_eq_true rfl) (by omega) (cT_word hsz (n := n - 1) (by omega) ml m hm.1 (by omega) hbm (by omega) (by omega) q (by omega) (by omega)) ?_
          rintro _ _ ⟨e, he, rfl, rfl⟩
          refine Go.run hsz hn1 6 (pc' := 104) (lv' := [some (gr 132), some (gi q), some (gi ((e : Nat) : Int))]) (st' := [gi (q + 1), gi ((e : Nat) : Int)]) (M' := gw (mAdd m (if e = q.toNat + 1 ∧ 0 ≤ nmI (m 134 q.toNat) then 2 else 3) (nmI (m 134 q.toNat)) q) ml) rfl ?_
          refine Go.mmax (by rfl) hn1 (Nat.le_of_ble_eq_true rfl) (by have := he.2.1; exact ⟨by omega, by omega⟩) ⟨by omega, by omega⟩ ?_
          refine Go.run hsz hn1 2 (pc' := 7) (lv' := [some (gr 132), some (gi (if ((e : Nat) : Int) < q + 1 then q + 1 else ((e : Nat) : Int))), some (gi ((e : Nat) : Int))]) (st' := []) (M' := gw (mAdd m (if e = q.toNat + 1 ∧ 0 ≤ nmI (m 134 q.toNat) then 2 else 3) (nmI (m 134 q.toNat)) q) ml) rfl ?_
          refine Go.dropl 2 ?_
          refine Go.run hsz hn1 0 (pc' := 7) (lv' := [some (gr 132), some (gi (if ((e : Nat) : Int) < q + 1 then q + 1 else ((e : Nat) : Int))), none]) (st' := []) (M' := gw (mAdd m (if e = q.toNat + 1 ∧ 0 ≤ nmI (m 134 q.toNat) then 2 else 3) (nmI (m 134 q.toNat)) q) ml) rfl ?_
          have he1 := lEnd_one he (by omega) (by assumption)
          have he2 := he.2.1
          have hnn := nmI_nm (m 134 q.toNat)
          rw [show (if ((e : Nat) : Int) < q + 1 then q + 1 else ((e : Nat) : Int)) = ((e : Nat) : Int) from by split <;> omega]
          refine ih ((e : Nat) : Int) (c + 1) _ ?_ (by omega) (by rw [mAdd_132 (by decide)]; omega) (by rw [mAdd_132 (by decide)]; omega)
          rw [show ((e : Nat) : Int).toNat = e by omega]
          exact cX_add hm (by omega) (by omega) (Or.inr (Or.inl ⟨by assumption, he, rfl, rfl⟩)) (fun h32 => (by have hd9 : lA (m 134 q.toNat) := (by assumption); unfold lA at hd9; omega)) (by omega) (by split <;> exact ⟨by decide, by decide⟩) ⟨by omega, by omega⟩
      · replace kq2 := b2_pos kq2
        refine Go.run hsz hn1 2 (pc' := 33) (lv' := [some (gr 132), some (gi q), some (gi (q + 1))]) (st' := [gi q, gr 132]) (M' := gw m ml) rfl ?_
        refine Go.callV (As := [gi q]) (b := 132) (st := []) (mc1 := 0) (mc := 0) (ms1 := 0) (ms := 0) (by rfl) rfl (c := 8) (N := 11) (by rfl) (by decide) (by rfl) (gcn 82 (by decide)).1 (gcn 82 (by decide)).2 rfl (Nat.le_of_ble_eq_true rfl) (by omega) (cT_num hsz (n := n - 1) (by omega) ml m hm.1 (by omega) hbm (by omega) (by omega) q (by omega) (by omega)) ?_
        rintro _ _ ⟨e, he, rfl, rfl⟩
        refine Go.run hsz hn1 6 (pc' := 104) (lv' := [some (gr 132), some (gi q), some (gi ((e : Nat) : Int))]) (st' := [gi (q + 1), gi ((e : Nat) : Int)]) (M' := gw (mAdd m (if 9999 < nV (m 134) q.toNat (e - q.toNat) then 3 else 1) (nV (m 134) q.toNat (e - q.toNat)) q) ml) rfl ?_
        refine Go.mmax (by rfl) hn1 (Nat.le_of_ble_eq_true rfl) (by have := he.2.1; exact ⟨by omega, by omega⟩) ⟨by omega, by omega⟩ ?_
        refine Go.run hsz hn1 2 (pc' := 7) (lv' := [some (gr 132), some (gi (if ((e : Nat) : Int) < q + 1 then q + 1 else ((e : Nat) : Int))), some (gi ((e : Nat) : Int))]) (st' := []) (M' := gw (mAdd m (if 9999 < nV (m 134) q.toNat (e - q.toNat) then 3 else 1) (nV (m 134) q.toNat (e - q.toNat)) q) ml) rfl ?_
        refine Go.dropl 2 ?_
        refine Go.run hsz hn1 0 (pc' := 7) (lv' := [some (gr 132), some (gi (if ((e : Nat) : Int) < q + 1 then q + 1 else ((e : Nat) : Int))), none]) (st' := []) (M' := gw (mAdd m (if 9999 < nV (m 134) q.toNat (e - q.toNat) then 3 else 1) (nV (m 134) q.toNat (e - q.toNat)) q) ml) rfl ?_
        have he1 := lEnd_one he (by omega) (by assumption)
        have he2 := he.2.1
        have hnv := nV_b (b := m 134) (i := q.toNat) (m := e - q.toNat) (fun j a1 a2 => he.2.2.1 j a1 (by omega))
        rw [show (if ((e : Nat) : Int) < q + 1 then q + 1 else ((e : Nat) : Int)) = ((e : Nat) : Int) from by split <;> omega]
        refine ih ((e : Nat) : Int) (c + 1) _ ?_ (by omega) (by rw [mAdd_132 (by decide)]; omega) (by rw [mAdd_132 (by decide)]; omega)
        rw [show ((e : Nat) : Int).toNat = e by omega]
        exact cX_add hm (by omega) (by omega) (Or.inl ⟨by assumption, he, rfl, rfl⟩) (fun h32 => (by have hd9 : lD (m 134 q.toNat) := (by assumption); unfold lD at hd9; omega)) (by omega) (by split <;> exact ⟨by decide, by decide⟩) ⟨by omega, by omega⟩
set_option maxRecDepth 100000 in
set_option maxHeartbeats 4000000 in
theorem cT_cut {G : gG} (hsz : G.2.2.2.2.2.2 = true) {n : Nat} (hn : 6 ≤ n) (ml : Nat → Nat → Int64) (mi : Nat → Nat → Int) (hz : 0 ≤ mi 132 0 ∧ mi 132 0 ≤ 120) (hb : ∀ i : Nat, (i : Int) < mi 132 0 → 0 ≤ mi 134 i ∧ mi 134 i ≤ 255) (hR : gR32 mi) : gM G 80 n 0 0 [gr 132] (gw mi ml) (fun r M => r = none ∧ ∃ (m : Nat → Nat → Int) (E : Nat → Nat) (T : Nat), M = gw m ml ∧ cXf mi m ∧ tBs m E T) := by
  have hn1 : 1 ≤ n := by omega
  refine gM.of mX9_cutIntoTokens okX9_cutIntoTokens (gcp 80 (by decide)).1 (gcp 80 (by decide)).2 (Nat.le_of_ble_eq_true rfl) ?_
  refine Go.run hsz hn1 5 (pc' := 7) (lv' := [some (gr 132), some (gi 0), none]) (st' := []) (M' := gw (gu mi 132 9 0) ml) rfl ?_
  exact lT_cut hsz (n := n) (by omega) ml mi hz hb ((mi 132 0).toNat + 1) 0 0 (gu mi 132 9 0) ⟨gR32_gu hR ⟨by decide, by decide⟩, ⟨fun a k h1 _ _ _ => gu_other h1, fun k hk => gu_ne (Or.inr hk)⟩, gu_self _ _ _ _, _, lxI_0 _ _ _ _ _⟩ (by omega) (by rw [gu_ne (by decide)]; omega) (by rw [gu_ne (by decide)]; omega)
/-! ===== law: the class reads the tokens ===== -/
set_option maxRecDepth 100000 in
set_option maxHeartbeats 4000000 in
theorem cT_isAt {G : gG} (hsz : G.2.2.2.2.2.2 = true) {n : Nat} (hn : 1 ≤ n) (ml : Nat → Nat → Int64) (mi : Nat → Nat → Int) (E : Nat → Nat) (T : Nat) (hB : tBs mi E T) (m : Nat → Nat → Int) (k : Nat) (cc : List Int) (sd : Int) (hm : cL mi m k cc sd) (hk : k ≤ T) (a b : Int) (ra : rng a) (rb : rng b) : gM G 88 n 0 0 [gr 132, gi a, gi b] (gw m ml) (gret (b2 (mi 135 k = a ∨ mi 135 k = b)) (gw m ml)) := by
  have hT := hB.ok.2
  have e10 : m 132 10 = k := hm.2.2.1.1
  have e3 : m 132 3 = cc.length := hm.2.2.1.2.2
  have e2 : m 132 2 = sd := hm.2.2.1.2.1
  have e135 : m 135 (m 132 10).toNat = mi 135 k := (by rw [hm.2.1.1 135 _ (by decide) (by decide), e10]; rfl)
  have e137 : m 137 (m 132 10).toNat = mi 137 k := (by rw [hm.2.1.1 137 _ (by decide) (by decide), e10]; rfl)
  have hR := hm.1
  refine gM.of mX9_isAt okX9_isAt (gcp 88 (by decide)).1 (gcp 88 (by decide)).2 (Nat.le_of_ble_eq_true rfl) ?_
  refine Go.run hsz hn 4 (pc' := 8) (lv' := [some (gr 132), some (gi a), some (gi b)]) (st' := [gi (m 132 10), gr 135]) (M' := gw m ml) rfl ?_
  refine Go.iald (by rfl) (N := 121) (by rfl) (by omega) (by omega) (by decide) ?_
  refine Go.run hsz hn 1 (pc' := 10) (lv' := [some (gr 132), some (gi a), some (gi b)]) (st' := [gi a, gi (m 135 ((m 132 10).toNat))]) (M' := gw m ml) rfl ?_
  refine Go.icmp_eq (by rfl) (hR _ _) ra (fun kq1 => ?_) (fun kq1 => ?_)
  · refine Go.run hsz hn 2 (pc' := 31) (lv' := [some (gr 132), some (gi a), some (gi b)]) (st' := [gi 1]) (M' := gw m ml) rfl ?_
    exact Go.zret (by rfl) (Or.inr rfl) ⟨congrArg (fun z => some (gi z)) (by unfold b2; split <;> omega), rfl⟩
  · refine Go.run hsz hn 4 (pc' := 21) (lv' := [some (gr 132), some (gi a), some (gi b)]) (st' := [gi (m 132 10), gr 135]) (M' := gw m ml) rfl ?_
    refine Go.iald (by rfl) (N := 121) (by rfl) (by omega) (by omega) (by decide) ?_
    refine Go.run hsz hn 1 (pc' := 23) (lv' := [some (gr 132), some (gi a), some (gi b)]) (st' := [gi b, gi (m 135 ((m 132 10).toNat))]) (M' := gw m ml) rfl ?_
    refine Go.icmp_ne (by rfl) (hR _ _) rb (fun kq2 => ?_) (fun kq2 => ?_)
    · refine Go.run hsz hn 1 (pc' := 31) (lv' := [some (gr 132), some (gi a), some (gi b)]) (st' := [gi 0]) (M' := gw m ml) rfl ?_
      exact Go.zret (by rfl) (Or.inl rfl) ⟨congrArg (fun z => some (gi z)) (by unfold b2; split <;> omega), rfl⟩
    · refine Go.run hsz hn 2 (pc' := 31) (lv' := [some (gr 132), some (gi a), some (gi b)]) (st' := [gi 1]) (M' := gw m ml) rfl ?_
      exact Go.zret (by rfl) (Or.inr rfl) ⟨congrArg (fun z => some (gi z)) (by unfold b2; split <;> omega), rfl⟩
set_option maxRecDepth 100000 in
set_option maxHeartbeats 4000000 in
theorem cT_pass {G : gG} (hsz : G.2.2.2.2.2.2 = true) {n : Nat} (hn : 1 ≤ n) (ml : Nat → Nat → Int64) (mi : Nat → Nat → Int) (E : Nat → Nat) (T : Nat) (hB : tBs mi E T) (m : Nat → Nat → Int) (k : Nat) (cc : List Int) (sd : Int) (hm : cL mi m k cc sd) (hk : k < T) : gM G 89 n 0 0 [gr 132] (gw m ml) (fun r M => ∃ m1 : Nat → Nat → Int, M = gw m1 ml ∧ r = some (gi (mi 135 k)) ∧ cL mi m1 (k + 1) cc sd) := by
  have hT := hB.ok.2
  have e10 : m 132 10 = k := hm.2.2.1.1
  have e3 : m 132 3 = cc.length := hm.2.2.1.2.2
  have e2 : m 132 2 = sd := hm.2.2.1.2.1
  have e135 : m 135 (m 132 10).toNat = mi 135 k := (by rw [hm.2.1.1 135 _ (by decide) (by decide), e10]; rfl)
  have e137 : m 137 (m 132 10).toNat = mi 137 k := (by rw [hm.2.1.1 137 _ (by decide) (by decide), e10]; rfl)
  have hR := hm.1
  have hne := hB.ok.1.ne hk
  refine gM.of mX9_passToken okX9_passToken (gcp 89 (by decide)).1 (gcp 89 (by decide)).2 (Nat.le_of_ble_eq_true rfl) ?_
  refine Go.run hsz hn 4 (pc' := 8) (lv' := [some (gr 132), none]) (st' := [gi (m 132 10), gr 135]) (M' := gw m ml) rfl ?_
  refine Go.iald (by rfl) (N := 121) (by rfl) (by omega) (by omega) (by decide) ?_
  refine Go.run hsz hn 2 (pc' := 11) (lv' := [some (gr 132), some (gi (m 135 ((m 132 10).toNat)))]) (st' := [gi (m 135 ((m 132 10).toNat))]) (M' := gw m ml) rfl ?_
  refine Go.if_eq (by rfl) (hR _ _) (fun kq1 => ?_) (fun kq1 => ?_)
  · refine Go.run hsz hn 1 (pc' := 34) (lv' := [some (gr 132), some (gi (m 135 ((m 132 10).toNat)))]) (st' := [gi (m 135 ((m 132 10).toNat))]) (M' := gw m ml) rfl ?_
    exfalso; omega
  · refine Go.run hsz hn 3 (pc' := 20) (lv' := [some (gr 132), some (gi (m 135 ((m 132 10).toNat)))]) (st' := [gi 120, gi (m 132 10)]) (M' := gw m ml) rfl ?_
    refine Go.icmp_ge (by rfl) (hR _ _) ⟨by decide, by decide⟩ (fun kq2 => ?_) (fun kq2 => ?_)
    · refine Go.run hsz hn 1 (pc' := 34) (lv' := [some (gr 132), some (gi (m 135 ((m 132 10).toNat)))]) (st' := [gi (m 135 ((m 132 10).toNat))]) (M' := gw m ml) rfl ?_
      exfalso; omega
    · refine Go.run hsz hn 7 (pc' := 34) (lv' := [some (gr 132), some (gi (m 135 ((m 132 10).toNat)))]) (st' := [gi (m 135 ((m 132 10).toNat))]) (M' := gw (gu m 132 10 ((m 132 10) + 1)) ml) rfl ?_
      exact Go.iret (by rfl) ⟨_, rfl, congrArg (fun z => some (gi z)) e135, cL_at hm (by omega) (by omega)⟩
set_option maxRecDepth 100000 in
set_option maxHeartbeats 4000000 in
theorem cT_fault {G : gG} (hsz : G.2.2.2.2.2.2 = true) {n : Nat} (hn : 1 ≤ n) (ml : Nat → Nat → Int64) (mi : Nat → Nat → Int) (E : Nat → Nat) (T : Nat) (hB : tBs mi E T) (m : Nat → Nat → Int) (k : Nat) (cc : List Int) (sd : Int) (hm : cL mi m k cc sd) (hk : k ≤ T) : gM G 90 n 0 0 [gr 132] (gw m ml) (fun r M => ∃ m1 : Nat → Nat → Int, M = gw m1 ml ∧ r = some (gi 0) ∧ m1 132 1 = mi 137 k ∧ cL mi m1 k cc sd) := by
  have hT := hB.ok.2
  have e10 : m 132 10 = k := hm.2.2.1.1
  have e3 : m 132 3 = cc.length := hm.2.2.1.2.2
  have e2 : m 132 2 = sd := hm.2.2.1.2.1
  have e135 : m 135 (m 132 10).toNat = mi 135 k := (by rw [hm.2.1.1 135 _ (by decide) (by decide), e10]; rfl)
  have e137 : m 137 (m 132 10).toNat = mi 137 k := (by rw [hm.2.1.1 137 _ (by decide) (by decide), e10]; rfl)
  have hR := hm.1
  refine gM.of mX9_isFault okX9_isFault (gcp 90 (by decide)).1 (gcp 90 (by decide)).2 (Nat.le_of_ble_eq_true rfl) ?_
  refine Go.run hsz hn 5 (pc' := 9) (lv' := [some (gr 132)]) (st' := [gi (m 132 10), gr 137, gr 132]) (M' := gw m ml) rfl ?_
  refine Go.iald (by rfl) (N := 121) (by rfl) (by omega) (by omega) (by decide) ?_
  refine Go.run hsz hn 2 (pc' := 14) (lv' := [some (gr 132)]) (st' := [gi 0]) (M' := gw (gu m 132 1 (m 137 ((m 132 10).toNat))) ml) rfl ?_
  exact Go.zret (by rfl) (Or.inl rfl) ⟨_, rfl, rfl, (by rw [gu_self]; exact e137), cL_fa hm (hR _ _)⟩
set_option maxRecDepth 100000 in
set_option maxHeartbeats 4000000 in
theorem cT_emit {G : gG} (hsz : G.2.2.2.2.2.2 = true) {n : Nat} (hn : 1 ≤ n) (ml : Nat → Nat → Int64) (mi : Nat → Nat → Int) (E : Nat → Nat) (T : Nat) (hB : tBs mi E T) (m : Nat → Nat → Int) (k : Nat) (cc : List Int) (sd : Int) (hm : cL mi m k cc sd) (hk : k ≤ T) (c : Int) (hr : rng c) (hc : cc.length < 120) : gM G 91 n 0 0 [gr 132, gi c] (gw m ml) (fun r M => ∃ m1 : Nat → Nat → Int, M = gw m1 ml ∧ r = some (gi 1) ∧ cL mi m1 k (cc ++ [c]) sd) := by
  have hT := hB.ok.2
  have e10 : m 132 10 = k := hm.2.2.1.1
  have e3 : m 132 3 = cc.length := hm.2.2.1.2.2
  have e2 : m 132 2 = sd := hm.2.2.1.2.1
  have e135 : m 135 (m 132 10).toNat = mi 135 k := (by rw [hm.2.1.1 135 _ (by decide) (by decide), e10]; rfl)
  have e137 : m 137 (m 132 10).toNat = mi 137 k := (by rw [hm.2.1.1 137 _ (by decide) (by decide), e10]; rfl)
  have hR := hm.1
  refine gM.of mX9_emit okX9_emit (gcp 91 (by decide)).1 (gcp 91 (by decide)).2 (Nat.le_of_ble_eq_true rfl) ?_
  refine Go.run hsz hn 3 (pc' := 6) (lv' := [some (gr 132), some (gi c)]) (st' := [gi 120, gi (m 132 3)]) (M' := gw m ml) rfl ?_
  refine Go.icmp_ge (by rfl) (hR _ _) ⟨by decide, by decide⟩ (fun kq1 => ?_) (fun kq1 => ?_)
  · refine Go.run hsz hn 1 (pc' := 30) (lv' := [some (gr 132), some (gi c)]) (st' := [gi 1]) (M' := gw m ml) rfl ?_
    exfalso; omega
  · refine Go.run hsz hn 5 (pc' := 18) (lv' := [some (gr 132), some (gi c)]) (st' := [gi c, gi (m 132 3), gr 133]) (M' := gw m ml) rfl ?_
    refine Go.iast (by rfl) (N := 120) (by rfl) (by omega) (by omega) (by decide) ?_
    refine Go.run hsz hn 3 (pc' := 24) (lv' := [some (gr 132), some (gi c)]) (st' := [gi ((gu m 133 ((m 132 3).toNat) c) 132 3), gr 132]) (M' := gw (gu m 133 ((m 132 3).toNat) c) ml) rfl ?_
    refine Go.run hsz hn 0 (pc' := 24) (lv' := [some (gr 132), some (gi c)]) (st' := [gi ((gu m 133 ((m 132 3).toNat) c) 132 3), gr 132]) (M' := gw (gu m 133 ((m 132 3).toNat) c) ml) rfl ?_
    rw [show (gu m 133 ((m 132 3).toNat) c) 132 3 = m 132 3 from gu_ne (Or.inl (by decide))]
    refine Go.run hsz hn 4 (pc' := 30) (lv' := [some (gr 132), some (gi c)]) (st' := [gi 1]) (M' := gw (gu (gu m 133 ((m 132 3).toNat) c) 132 3 ((m 132 3) + 1)) ml) rfl ?_
    have h9 := cL_emit hm hr (i := (m 132 3).toNat) (by omega) hc
    rw [show (((m 132 3).toNat : Nat) : Int) = m 132 3 by omega] at h9
    exact Go.zret (by rfl) (Or.inr rfl) ⟨_, rfl, rfl, h9⟩

set_option maxRecDepth 100000 in
set_option maxHeartbeats 4000000 in
theorem lM_ly2 {G : gG} (hsz : G.2.2.2.2.2.2 = true) {n : Nat} (hn : 5 ≤ n) (mi : Nat → Nat → Int) (ml : Nat → Nat → Int64) (mem : Nat → Nat) (z : Nat) (hb : pBs mi mem z) (c : Int) (d : Nat → Int) (hd : inr (mi 148 2).toNat d z) (m : Nat → Nat → Int) (hm : pMo mi mem z d m) : ∀ (f : Nat) (q : Int) (hall : ∀ k : Nat, (k : Int) < q → 0 ≤ d k → wOk mi mem (wAs mem (pOn mi) d z) k (d k)), 0 ≤ q → q ≤ z → z - q < f → Go G mX12_lays n 0 0 75 [some (gr 148), some (gi c), none, some (gi (wO d q.toNat)), some (gi q), none] [] (gw m ml) (fun r M => ∃ m, pMo mi mem z d m ∧ M = gw m ml ∧ ((r = some (gi (-1)) ∧ ¬ wV mi mem (pOn mi) z d) ∨ (r = some (gi (wO d z)) ∧ wV mi mem (pOn mi) z d))) := by
  have hn1 : 1 ≤ n := by omega
  obtain ⟨hv, hz4, hz, hmem, hinj⟩ := id hb
  obtain ⟨hR, ht, hp, hq, hP, hQ⟩ := id hv
  have hvm := hm.SV hb hd
  have e6m : m 148 6 = mi 148 6 := hm.2.1 148 6 (by decide) (by decide)
  have e20 : m 148 20 = mi 148 20 := hm.2.1 148 20 (by decide) (by decide)
  intro f
  induction f with
  | zero => intros; omega
  | succ f ih =>
    intro q hall q0 q1 q2
    refine Go.run hsz hn1 3 (pc' := 81) (lv' := [some (gr 148), some (gi c), none, some (gi (wO d q.toNat)), some (gi q), none]) (st' := [gi (m 148 20), gi q]) (M' := gw m ml) rfl ?_
    refine Go.icmp_ge (by rfl) ⟨by omega, by omega⟩ (hm.1 _ _) (fun kq1 => ?_) (fun kq1 => ?_)
    · refine Go.run hsz hn1 1 (pc' := 158) (lv' := [some (gr 148), some (gi c), none, some (gi (wO d q.toNat)), some (gi q), none]) (st' := [gi (wO d q.toNat)]) (M' := gw m ml) rfl ?_
      have hq9 : q = z := (by omega)
      subst hq9
      exact Go.iret (by rfl) ⟨m, hm, rfl, Or.inr ⟨rfl, (wV_full hb.wM).mpr (fun k hk h0 => hall k (by omega) h0)⟩⟩
    · have e61 : m 161 q.toNat = ((mem q.toNat : Nat) : Int) ∧ ((mem q.toNat : Nat) : Int) < mi 148 6 := ⟨(hm.2.1 161 _ (by decide) (by decide)).trans (hmem q.toNat (by omega)).1, (hmem q.toNat (by omega)).2.1⟩
      have eon : mOf m ((mem q.toNat : Nat) : Int) 6 = d q.toNat := (hm.on hb).trans (wAs_at hb.wM (Nat.le_refl _) (by omega))
      have hdq := hd q.toNat (by omega)
      refine Go.run hsz hn1 4 (pc' := 91) (lv' := [some (gr 148), some (gi c), none, some (gi (wO d q.toNat)), some (gi q), none]) (st' := [gi q, gr 161, gr 148]) (M' := gw m ml) rfl ?_
      refine Go.iald (by rfl) (N := 4) (by rfl) (by omega) (by omega) (by decide) ?_
      refine Go.run hsz hn1 1 (pc' := 94) (lv' := [some (gr 148), some (gi c), none, some (gi (wO d q.toNat)), some (gi q), none]) (st' := [gi 6, gi (m 161 q.toNat), gr 148]) (M' := gw m ml) rfl ?_
      rw [e61.1]
      refine Go.callV (As := [gi ((mem q.toNat : Nat) : Int), gi 6]) (b := 148) (st := []) (mc1 := 0) (mc := 0) (ms1 := 0) (ms := 0) (by rfl) rfl (c := 11) (N := 46) (by rfl) (by decide) (by rfl) (gcn 165 (by decide)).1 (gcn 165 (by decide)).2 rfl (Nat.le_of_ble_eq_true rfl) (by omega) (cM_of hsz (n := n - 1) (by omega) m ml ((mem q.toNat : Nat) : Int) 6 (by omega) (by omega) (by omega) (by omega)) ?_
      rintro _ _ ⟨rfl, rfl⟩
      rw [eon]
      refine Go.run hsz hn1 2 (pc' := 101) (lv' := [some (gr 148), some (gi c), none, some (gi (wO d q.toNat)), some (gi q), some (gi (d q.toNat))]) (st' := [gi (d q.toNat)]) (M' := gw m ml) rfl ?_
      refine Go.if_lt (by rfl) ⟨by omega, by omega⟩ (fun kq2 => ?_) (fun kq2 => ?_)
      · refine Go.run hsz hn1 2 (pc' := 141) (lv' := [some (gr 148), some (gi c), none, some (gi (wO d q.toNat)), some (gi q), some (gi (d q.toNat))]) (st' := [gi (d q.toNat), gi (wO d q.toNat)]) (M' := gw m ml) rfl ?_
        refine Go.if_lt (by rfl) ⟨by omega, by omega⟩ (fun kq3 => ?_) (fun kq3 => ?_)
        · refine Go.run hsz hn1 5 (pc' := 75) (lv' := [some (gr 148), some (gi c), none, some (gi ((wO d q.toNat) + 0)), some (gi (q + 1)), some (gi (d q.toNat))]) (st' := []) (M' := gw m ml) rfl ?_
          refine Go.dropl 5 ?_
          refine Go.run hsz hn1 0 (pc' := 75) (lv' := [some (gr 148), some (gi c), none, some (gi ((wO d q.toNat) + 0)), some (gi (q + 1)), none]) (st' := []) (M' := gw m ml) rfl ?_
          have hst : wO d (q + 1).toNat = wO d q.toNat + if 0 ≤ d q.toNat then 1 else 0 := by rw [show (q + 1).toNat = q.toNat + 1 by omega]; rfl
          first | (exfalso; omega) | skip
          all_goals have h9 := ih (q + 1) (fun k hk h0 => (by
            by_cases e : (k : Int) = q
            · have e9 : k = q.toNat := (by omega)
              subst e9
              first | (exfalso; omega) | exact ⟨by assumption, (hm.free hb).mp (by assumption)⟩ | exact ⟨by omega, (hm.free hb).mp (by omega)⟩
            · exact hall k (by omega) h0)) (by omega) (by omega) (by omega)
          all_goals rw [hst] at h9
          all_goals first | (rw [if_pos (by omega)] at h9; exact h9) | (rw [if_neg (by omega)] at h9; exact h9)
        · refine Go.run hsz hn1 6 (pc' := 75) (lv' := [some (gr 148), some (gi c), none, some (gi ((wO d q.toNat) + 1)), some (gi (q + 1)), some (gi (d q.toNat))]) (st' := []) (M' := gw m ml) rfl ?_
          refine Go.dropl 5 ?_
          refine Go.run hsz hn1 0 (pc' := 75) (lv' := [some (gr 148), some (gi c), none, some (gi ((wO d q.toNat) + 1)), some (gi (q + 1)), none]) (st' := []) (M' := gw m ml) rfl ?_
          have hst : wO d (q + 1).toNat = wO d q.toNat + if 0 ≤ d q.toNat then 1 else 0 := by rw [show (q + 1).toNat = q.toNat + 1 by omega]; rfl
          first | (exfalso; omega) | skip
          all_goals have h9 := ih (q + 1) (fun k hk h0 => (by
            by_cases e : (k : Int) = q
            · have e9 : k = q.toNat := (by omega)
              subst e9
              first | (exfalso; omega) | exact ⟨by assumption, (hm.free hb).mp (by assumption)⟩ | exact ⟨by omega, (hm.free hb).mp (by omega)⟩
            · exact hall k (by omega) h0)) (by omega) (by omega) (by omega)
          all_goals rw [hst] at h9
          all_goals first | (rw [if_pos (by omega)] at h9; exact h9) | (rw [if_neg (by omega)] at h9; exact h9)
      · refine Go.run hsz hn1 4 (pc' := 111) (lv' := [some (gr 148), some (gi c), none, some (gi (wO d q.toNat)), some (gi q), some (gi (d q.toNat))]) (st' := [gi q, gr 161, gr 148]) (M' := gw m ml) rfl ?_
        refine Go.iald (by rfl) (N := 4) (by rfl) (by omega) (by omega) (by decide) ?_
        refine Go.run hsz hn1 1 (pc' := 114) (lv' := [some (gr 148), some (gi c), none, some (gi (wO d q.toNat)), some (gi q), some (gi (d q.toNat))]) (st' := [gi (d q.toNat), gi (m 161 q.toNat), gr 148]) (M' := gw m ml) rfl ?_
        rw [e61.1]
        refine Go.callV (As := [gi ((mem q.toNat : Nat) : Int), gi (d q.toNat)]) (b := 148) (st := []) (mc1 := 0) (mc := 0) (ms1 := 0) (ms := 0) (by rfl) rfl (c := 11) (N := 46) (by rfl) (by decide) (by rfl) (gcn 169 (by decide)).1 (gcn 169 (by decide)).2 rfl (Nat.le_of_ble_eq_true rfl) (by omega) (cM_whyNot hsz (n := n - 1) (by omega) m ml ((mem q.toNat : Nat) : Int) (d q.toNat) (by omega) (by omega) (by omega) (by omega) hm.1 (hvm.2.2.2.2.1 _ (by omega) (by omega))) ?_
        rintro _ _ ⟨rfl, rfl⟩
        rw [hm.why (by omega)]
        have hwb := mWhy_b mi ((mem q.toNat : Nat) : Int) (d q.toNat)
        refine Go.run hsz hn1 0 (pc' := 117) (lv' := [some (gr 148), some (gi c), none, some (gi (wO d q.toNat)), some (gi q), some (gi (d q.toNat))]) (st' := [gi (mWhy mi ((mem q.toNat : Nat) : Int) (d q.toNat))]) (M' := gw m ml) rfl ?_
        refine Go.if_ne (by rfl) ⟨by omega, by omega⟩ (fun kq4 => ?_) (fun kq4 => ?_)
        · refine Go.run hsz hn1 1 (pc' := 137) (lv' := [some (gr 148), some (gi c), none, some (gi (wO d q.toNat)), some (gi q), some (gi (d q.toNat))]) (st' := [gi (-1)]) (M' := gw m ml) rfl ?_
          refine Go.iret (by rfl) ⟨m, hm, rfl, Or.inl ⟨rfl, fun hV => ?_⟩⟩
          have h9 := (wV_full hb.wM).mp hV q.toNat (by omega) (by omega)
          have h8 := h9.1
          have h7 := (hm.free hb).mpr h9.2
          omega
        · refine Go.run hsz hn1 4 (pc' := 127) (lv' := [some (gr 148), some (gi c), none, some (gi (wO d q.toNat)), some (gi q), some (gi (d q.toNat))]) (st' := [gi q, gr 161, gr 148]) (M' := gw m ml) rfl ?_
          refine Go.iald (by rfl) (N := 4) (by rfl) (by omega) (by omega) (by decide) ?_
          refine Go.run hsz hn1 1 (pc' := 130) (lv' := [some (gr 148), some (gi c), none, some (gi (wO d q.toNat)), some (gi q), some (gi (d q.toNat))]) (st' := [gi (d q.toNat), gi (m 161 q.toNat), gr 148]) (M' := gw m ml) rfl ?_
          rw [e61.1]
          refine Go.callV (As := [gi ((mem q.toNat : Nat) : Int), gi (d q.toNat)]) (b := 148) (st := []) (mc1 := 0) (mc := 0) (ms1 := 0) (ms := 0) (by rfl) rfl (c := 11) (N := 46) (by rfl) (by decide) (by rfl) (gcn 174 (by decide)).1 (gcn 174 (by decide)).2 rfl (Nat.le_of_ble_eq_true rfl) (by omega) (cM_isFreeFor hsz (n := n - 1) (by omega) m ml ((mem q.toNat : Nat) : Int) (d q.toNat) (by omega) (by omega) ⟨by omega, by omega⟩ hvm) ?_
          rintro _ _ ⟨rfl, rfl⟩
          refine Go.run hsz hn1 0 (pc' := 133) (lv' := [some (gr 148), some (gi c), none, some (gi (wO d q.toNat)), some (gi q), some (gi (d q.toNat))]) (st' := [gi (mFree m ((mem q.toNat : Nat) : Int) (d q.toNat))]) (M' := gw m ml) rfl ?_
          refine Go.if_ne (by rfl) (b2_rng _) (fun kq5 => ?_) (fun kq5 => ?_)
          · refine Go.run hsz hn1 2 (pc' := 141) (lv' := [some (gr 148), some (gi c), none, some (gi (wO d q.toNat)), some (gi q), some (gi (d q.toNat))]) (st' := [gi (d q.toNat), gi (wO d q.toNat)]) (M' := gw m ml) rfl ?_
            refine Go.if_lt (by rfl) ⟨by omega, by omega⟩ (fun kq6 => ?_) (fun kq6 => ?_)
            · refine Go.run hsz hn1 5 (pc' := 75) (lv' := [some (gr 148), some (gi c), none, some (gi ((wO d q.toNat) + 0)), some (gi (q + 1)), some (gi (d q.toNat))]) (st' := []) (M' := gw m ml) rfl ?_
              refine Go.dropl 5 ?_
              refine Go.run hsz hn1 0 (pc' := 75) (lv' := [some (gr 148), some (gi c), none, some (gi ((wO d q.toNat) + 0)), some (gi (q + 1)), none]) (st' := []) (M' := gw m ml) rfl ?_
              have hst : wO d (q + 1).toNat = wO d q.toNat + if 0 ≤ d q.toNat then 1 else 0 := by rw [show (q + 1).toNat = q.toNat + 1 by omega]; rfl
              first | (exfalso; omega) | skip
              all_goals have h9 := ih (q + 1) (fun k hk h0 => (by
                by_cases e : (k : Int) = q
                · have e9 : k = q.toNat := (by omega)
                  subst e9
                  first | (exfalso; omega) | exact ⟨by assumption, (hm.free hb).mp (by assumption)⟩ | exact ⟨by omega, (hm.free hb).mp (by omega)⟩
                · exact hall k (by omega) h0)) (by omega) (by omega) (by omega)
              all_goals rw [hst] at h9
              all_goals first | (rw [if_pos (by omega)] at h9; exact h9) | (rw [if_neg (by omega)] at h9; exact h9)
            · refine Go.run hsz hn1 6 (pc' := 75) (lv' := [some (gr 148), some (gi c), none, some (gi ((wO d q.toNat) + 1)), some (gi (q + 1)), some (gi (d q.toNat))]) (st' := []) (M' := gw m ml) rfl ?_
              refine Go.dropl 5 ?_
              refine Go.run hsz hn1 0 (pc' := 75) (lv' := [some (gr 148), some (gi c), none, some (gi ((wO d q.toNat) + 1)), some (gi (q + 1)), none]) (st' := []) (M' := gw m ml) rfl ?_
              have hst : wO d (q + 1).toNat = wO d q.toNat + if 0 ≤ d q.toNat then 1 else 0 := by rw [show (q + 1).toNat = q.toNat + 1 by omega]; rfl
              first | (exfalso; omega) | skip
              all_goals have h9 := ih (q + 1) (fun k hk h0 => (by
                by_cases e : (k : Int) = q
                · have e9 : k = q.toNat := (by omega)
                  subst e9
                  first | (exfalso; omega) | exact ⟨by assumption, (hm.free hb).mp (by assumption)⟩ | exact ⟨by omega, (hm.free hb).mp (by omega)⟩
                · exact hall k (by omega) h0)) (by omega) (by omega) (by omega)
              all_goals rw [hst] at h9
              all_goals first | (rw [if_pos (by omega)] at h9; exact h9) | (rw [if_neg (by omega)] at h9; exact h9)
          · refine Go.run hsz hn1 1 (pc' := 137) (lv' := [some (gr 148), some (gi c), none, some (gi (wO d q.toNat)), some (gi q), some (gi (d q.toNat))]) (st' := [gi (-1)]) (M' := gw m ml) rfl ?_
            refine Go.iret (by rfl) ⟨m, hm, rfl, Or.inl ⟨rfl, fun hV => ?_⟩⟩
            have h9 := (wV_full hb.wM).mp hV q.toNat (by omega) (by omega)
            have h8 := h9.1
            have h7 := (hm.free hb).mpr h9.2
            omega
theorem wO_b (d : Nat → Int) : ∀ k : Nat, 0 ≤ wO d k ∧ wO d k ≤ k
  | 0 => by show (0 : Int) ≤ 0 ∧ (0 : Int) ≤ 0; omega
  | k + 1 => by
    have ih := wO_b d k
    show 0 ≤ wO d k + (if 0 ≤ d k then 1 else 0) ∧ wO d k + (if 0 ≤ d k then 1 else 0) ≤ ((k + 1 : Nat) : Int)
    split <;> omega
set_option maxRecDepth 100000 in
set_option maxHeartbeats 4000000 in
theorem cM_lays {G : gG} (hsz : G.2.2.2.2.2.2 = true) {n : Nat} (hn : 5 ≤ n) (mi : Nat → Nat → Int) (ml : Nat → Nat → Int64) (mem : Nat → Nat) (z : Nat) (hb : pBs mi mem z) (c : Nat) (hc : c < 2147483648) (d0 : Nat → Int) (m : Nat → Nat → Int) (hm : pMo mi mem z d0 m) : gM G 185 n 0 0 [gr 148, gi ((c : Nat) : Int)] (gw m ml) (fun r M => ∃ m, pMo mi mem z (cdg ((mi 148 2).toNat + 1) c z) m ∧ M = gw m ml ∧ ((r = some (gi (-1)) ∧ ¬ wV mi mem (pOn mi) z (cdg ((mi 148 2).toNat + 1) c z)) ∨ (r = some (gi (wO (cdg ((mi 148 2).toNat + 1) c z) z)) ∧ wV mi mem (pOn mi) z (cdg ((mi 148 2).toNat + 1) c z)))) := by
  have hn1 : 1 ≤ n := by omega
  have e20 : m 148 20 = mi 148 20 := hm.2.1 148 20 (by decide) (by decide)
  have hz : mi 148 20 = z := hb.2.2.1
  have hz4 := hb.2.1
  refine gM.of mX12_lays okX12_lays (gcp 185 (by decide)).1 (gcp 185 (by decide)).2 (Nat.le_of_ble_eq_true rfl) ?_
  refine Go.run hsz hn1 7 (pc' := 9) (lv' := [some (gr 148), some (gi ((c : Nat) : Int)), some (gi ((c : Nat) : Int)), some (gi ((m 148 20) - 1)), none, none]) (st' := []) (M' := gw m ml) rfl ?_
  rw [show m 148 20 - 1 = (z : Int) - 1 by omega]
  refine lM_ly1 hsz (n := n) (by omega) mi ml mem z hb c hc _ (fun m1 h1 => ?_) (z + 1) ((z : Int) - 1) c m ⟨hc, fun _ => ?_⟩ (lyM_start hm) (by omega) (by omega) (by omega)
  · have hm : pMo mi mem z (cdg ((mi 148 2).toNat + 1) c z) m1 := h1
    refine Go.run hsz hn1 4 (pc' := 75) (lv' := [some (gr 148), some (gi ((c : Nat) : Int)), none, some (gi 0), some (gi 0), none]) (st' := []) (M' := gw m1 ml) rfl ?_
    exact lM_ly2 hsz (n := n) (by omega) mi ml mem z hb ((c : Nat) : Int) (cdg ((mi 148 2).toNat + 1) c z) (cdg_in _ _ _) m1 h1 (z + 1) 0 (fun k hk _ => by omega) (by omega) (by omega) (by omega)
  · rw [show z - 1 - ((z : Int) - 1).toNat = 0 by omega, Nat.pow_zero, Nat.div_one]

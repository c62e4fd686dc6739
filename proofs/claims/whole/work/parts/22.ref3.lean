def mWho (mi : Nat → Nat → Int) (p x : Int) (k : Nat) : Int := gfold (fun a acc => if mOf mi a 6 = p ∧ ¬ mStays mi a x = 0 then a else acc) (-1) k
set_option maxRecDepth 100000 in
set_option maxHeartbeats 4000000 in
theorem lM_whoIn {G : gG} (hsz : G.2.2.2.2.2.2 = true) {n : Nat} (hn : 3 ≤ n) (mi : Nat → Nat → Int) (ml : Nat → Nat → Int64) (p x : Int) (hp0 : rng p) (hx : rng x) (hv : SV mi) : ∀ (f : Nat) (k : Int), 0 ≤ k → k ≤ mi 148 6 → mi 148 6 - k < f → Go G mX12_whoIn n 0 0 5 [some (gr 148), some (gi p), some (gi x), some (gi (mWho mi p x k.toNat)), some (gi k)] [] (gw mi ml) (gret (mWho mi p x (mi 148 6).toNat) (gw mi ml)) := by
  have hn1 : 1 ≤ n := by omega
  obtain ⟨hR, ht, hp, hq, hP, hQ⟩ := id hv
  intro f
  induction f with
  | zero => intros; omega
  | succ f ih =>
    intro k k0 k1 k2
    refine Go.run hsz hn1 3 (pc' := 11) (lv' := [some (gr 148), some (gi p), some (gi x), some (gi (mWho mi p x k.toNat)), some (gi k)]) (st' := [gi (mi 148 6), gi k]) (M' := gw mi ml) rfl ?_
    refine Go.icmp_ge (by rfl) ⟨by omega, by omega⟩ (hR _ _) (fun kq1 => ?_) (fun kq1 => ?_)
    · refine Go.run hsz hn1 1 (pc' := 50) (lv' := [some (gr 148), some (gi p), some (gi x), some (gi (mWho mi p x k.toNat)), some (gi k)]) (st' := [gi (mWho mi p x k.toNat)]) (M' := gw mi ml) rfl ?_
      exact Go.iret (by rfl) ⟨by rw [show mi 148 6 = k by omega], rfl⟩
    · refine Go.run hsz hn1 3 (pc' := 19) (lv' := [some (gr 148), some (gi p), some (gi x), some (gi (mWho mi p x k.toNat)), some (gi k)]) (st' := [gi 6, gi k, gr 148]) (M' := gw mi ml) rfl ?_
      refine Go.callV (As := [gi k, gi 6]) (b := 148) (st := []) (mc1 := 0) (mc := 0) (ms1 := 0) (ms := 0) (by rfl) rfl (c := 11) (N := 46) (by rfl) (by decide) (by rfl) (gcn 165 (by decide)).1 (gcn 165 (by decide)).2 rfl (Nat.le_of_ble_eq_true rfl) (by omega) (cM_of hsz (n := n - 1) (by omega) mi ml k 6 (by omega) (by omega) (by omega) (by omega)) ?_
      rintro _ _ ⟨rfl, rfl⟩
      refine Go.run hsz hn1 1 (pc' := 23) (lv' := [some (gr 148), some (gi p), some (gi x), some (gi (mWho mi p x k.toNat)), some (gi k)]) (st' := [gi p, gi (mOf mi k 6)]) (M' := gw mi ml) rfl ?_
      refine Go.icmp_ne (by rfl) (hR _ _) hp0 (fun kq2 => ?_) (fun kq2 => ?_)
      · refine Go.run hsz hn1 4 (pc' := 5) (lv' := [some (gr 148), some (gi p), some (gi x), some (gi (mWho mi p x k.toNat)), some (gi (k + 1))]) (st' := []) (M' := gw mi ml) rfl ?_
        have h9 := ih (k + 1) (by omega) (by omega) (by omega)
        rw [show mWho mi p x (k + 1).toNat = _ from gfold_s k0] at h9
        (try dsimp only at h9)
        (repeat' split at h9) <;> first | exact h9 | (exfalso; omega)
      · refine Go.run hsz hn1 3 (pc' := 30) (lv' := [some (gr 148), some (gi p), some (gi x), some (gi (mWho mi p x k.toNat)), some (gi k)]) (st' := [gi x, gi k, gr 148]) (M' := gw mi ml) rfl ?_
        refine Go.callV (As := [gi k, gi x]) (b := 148) (st := []) (mc1 := 0) (mc := 0) (ms1 := 0) (ms := 0) (by rfl) rfl (c := 11) (N := 46) (by rfl) (by decide) (by rfl) (gcn 172 (by decide)).1 (gcn 172 (by decide)).2 rfl (Nat.le_of_ble_eq_true rfl) (by omega) (cM_staysIn hsz (n := n - 1) (by omega) mi ml k x (by omega) (by omega) hR hx (hP k (by omega) (by omega))) ?_
        rintro _ _ ⟨rfl, rfl⟩
        refine Go.run hsz hn1 0 (pc' := 33) (lv' := [some (gr 148), some (gi p), some (gi x), some (gi (mWho mi p x k.toNat)), some (gi k)]) (st' := [gi (mStays mi k x)]) (M' := gw mi ml) rfl ?_
        refine Go.if_eq (by rfl) (b2_rng _) (fun kq3 => ?_) (fun kq3 => ?_)
        · refine Go.run hsz hn1 4 (pc' := 5) (lv' := [some (gr 148), some (gi p), some (gi x), some (gi (mWho mi p x k.toNat)), some (gi (k + 1))]) (st' := []) (M' := gw mi ml) rfl ?_
          have h9 := ih (k + 1) (by omega) (by omega) (by omega)
          rw [show mWho mi p x (k + 1).toNat = _ from gfold_s k0] at h9
          (try dsimp only at h9)
          (repeat' split at h9) <;> first | exact h9 | (exfalso; omega)
        · refine Go.run hsz hn1 5 (pc' := 5) (lv' := [some (gr 148), some (gi p), some (gi x), some (gi k), some (gi (k + 1))]) (st' := []) (M' := gw mi ml) rfl ?_
          have h9 := ih (k + 1) (by omega) (by omega) (by omega)
          rw [show mWho mi p x (k + 1).toNat = _ from gfold_s k0] at h9
          (try dsimp only at h9)
          (repeat' split at h9) <;> first | exact h9 | (exfalso; omega)
set_option maxRecDepth 100000 in
set_option maxHeartbeats 4000000 in
theorem cM_whoIn {G : gG} (hsz : G.2.2.2.2.2.2 = true) {n : Nat} (hn : 3 ≤ n) (mi : Nat → Nat → Int) (ml : Nat → Nat → Int64) (p x : Int) (hp0 : rng p) (hx : rng x) (hv : SV mi) : gM G 177 n 0 0 [gr 148, gi p, gi x] (gw mi ml) (gret (mWho mi p x (mi 148 6).toNat) (gw mi ml)) := by
  have hn1 : 1 ≤ n := by omega
  refine gM.of mX12_whoIn okX12_whoIn (gcp 177 (by decide)).1 (gcp 177 (by decide)).2 (Nat.le_of_ble_eq_true rfl) ?_
  refine Go.run hsz hn1 4 (pc' := 5) (lv' := [some (gr 148), some (gi p), some (gi x), some (gi (-1)), some (gi 0)]) (st' := []) (M' := gw mi ml) rfl ?_
  exact lM_whoIn hsz hn mi ml p x hp0 hx hv ((mi 148 6).toNat + 1) 0 (by omega) (by have := hv.2.2.2.1.1; omega) (by omega)

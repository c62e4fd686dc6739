set_option maxRecDepth 100000 in
set_option maxHeartbeats 4000000 in
theorem lM_mvk177 {G : gG} (hsz : G.2.2.2.2.2.2 = true) {n : Nat} (hn : 1 ≤ n) (mi : Nat → Nat → Int) (ml : Nat → Nat → Int64)  : ∀ (f : Nat) (k : Int), 0 ≤ k → k ≤ 5 → 5 - k < f → Go G mX12_move n 0 0 3 [some (gr 148), some (gr 177), some (gi 5), some (gi 1), some (gi k)] [] (gw (gu (gcpy mi 177 0 176 0 k.toNat) 148 44 (0 + k)) ml) (gvd (gw (gu (gcpy mi 177 0 176 0 5) 148 44 5) ml)) := by
  have hn1 : 1 ≤ n := by omega

  intro f
  induction f with
  | zero => intros; omega
  | succ f ih =>
    intro k k0 k1 k2
    refine Go.run hsz hn1 2 (pc' := 6) (lv' := [some (gr 148), some (gr 177), some (gi 5), some (gi 1), some (gi k)]) (st' := [gi 5, gi k]) (M' := gw (gu (gcpy mi 177 0 176 0 k.toNat) 148 44 (0 + k)) ml) rfl ?_
    refine Go.icmp_ge (by rfl) ⟨by omega, by omega⟩ ⟨by decide, by decide⟩ (fun kq1 => ?_) (fun kq1 => ?_)
    · obtain rfl : k = 5 := by omega
      exact Go.vret (by rfl) ⟨rfl, rfl⟩
    · refine Go.run hsz hn1 1 (pc' := 10) (lv' := [some (gr 148), some (gr 177), some (gi 5), some (gi 1), some (gi k)]) (st' := [gi 1]) (M' := gw (gu (gcpy mi 177 0 176 0 k.toNat) 148 44 (0 + k)) ml) rfl ?_
      refine Go.if_eq (by rfl) ⟨by decide, by decide⟩ (fun kq2 => ?_) (fun kq2 => ?_)
      · exact absurd kq2 (by decide)
      · refine Go.run hsz hn1 6 (pc' := 24) (lv' := [some (gr 148), some (gr 177), some (gi 5), some (gi 1), some (gi k)]) (st' := [gi k, gr 177, gi (0 + k), gr 176]) (M' := gw (gu (gcpy mi 177 0 176 0 k.toNat) 148 44 (0 + k)) ml) rfl ?_
        refine Go.iald (by rfl) (N := 5) (by rfl) (by omega) (by omega) (by decide) ?_
        refine Go.run hsz hn1 0 (pc' := 25) (lv' := [some (gr 148), some (gr 177), some (gi 5), some (gi 1), some (gi k)]) (st' := [gi ((gu (gcpy mi 177 0 176 0 k.toNat) 148 44 (0 + k)) 177 k.toNat), gi (0 + k), gr 176]) (M' := gw (gu (gcpy mi 177 0 176 0 k.toNat) 148 44 (0 + k)) ml) rfl ?_
        rw [show (gu (gcpy mi 177 0 176 0 k.toNat) 148 44 (0 + k)) 177 k.toNat = (gcpy mi 177 0 176 0 k.toNat) 177 k.toNat from gu_ne (Or.inl (by decide))]
        refine Go.run hsz hn1 0 (pc' := 25) (lv' := [some (gr 148), some (gr 177), some (gi 5), some (gi 1), some (gi k)]) (st' := [gi ((gcpy mi 177 0 176 0 k.toNat) 177 k.toNat), gi (0 + k), gr 176]) (M' := gw (gu (gcpy mi 177 0 176 0 k.toNat) 148 44 (0 + k)) ml) rfl ?_
        refine Go.iast (by rfl) (N := 760) (by rfl) (by omega) (by omega) (by decide) ?_
        refine Go.run hsz hn1 4 (pc' := 47) (lv' := [some (gr 148), some (gr 177), some (gi 5), some (gi 1), some (gi k)]) (st' := [gi ((gu (gu (gcpy mi 177 0 176 0 k.toNat) 148 44 (0 + k)) 176 ((0 + k).toNat) ((gcpy mi 177 0 176 0 k.toNat) 177 k.toNat)) 148 44), gr 148]) (M' := gw (gu (gu (gcpy mi 177 0 176 0 k.toNat) 148 44 (0 + k)) 176 ((0 + k).toNat) ((gcpy mi 177 0 176 0 k.toNat) 177 k.toNat)) ml) rfl ?_
        refine Go.run hsz hn1 0 (pc' := 47) (lv' := [some (gr 148), some (gr 177), some (gi 5), some (gi 1), some (gi k)]) (st' := [gi ((gu (gu (gcpy mi 177 0 176 0 k.toNat) 148 44 (0 + k)) 176 ((0 + k).toNat) ((gcpy mi 177 0 176 0 k.toNat) 177 k.toNat)) 148 44), gr 148]) (M' := gw (gu (gu (gcpy mi 177 0 176 0 k.toNat) 148 44 (0 + k)) 176 ((0 + k).toNat) ((gcpy mi 177 0 176 0 k.toNat) 177 k.toNat)) ml) rfl ?_
        rw [show (gu (gu (gcpy mi 177 0 176 0 k.toNat) 148 44 (0 + k)) 176 ((0 + k).toNat) ((gcpy mi 177 0 176 0 k.toNat) 177 k.toNat)) 148 44 = 0 + k from (gu_ne (Or.inl (by decide))).trans (gu_self _ _ _ _)]
        refine Go.run hsz hn1 5 (pc' := 3) (lv' := [some (gr 148), some (gr 177), some (gi 5), some (gi 1), some (gi (k + 1))]) (st' := []) (M' := gw (gu (gu (gu (gcpy mi 177 0 176 0 k.toNat) 148 44 (0 + k)) 176 ((0 + k).toNat) ((gcpy mi 177 0 176 0 k.toNat) 177 k.toNat)) 148 44 ((0 + k) + 1)) ml) rfl ?_
        have h9 := ih (k + 1) (by omega) (by omega) (by omega)
        rw [show gu (gcpy mi 177 0 176 0 (k + 1).toNat) 148 44 (0 + (k + 1)) = gu (gu (gu (gcpy mi 177 0 176 0 k.toNat) 148 44 (0 + k)) 176 ((0 + k).toNat) ((gcpy mi 177 0 176 0 k.toNat) 177 k.toNat)) 148 44 ((0 + k) + 1) from ?_] at h9
        · exact h9
        · rw [show (k + 1).toNat = k.toNat + 1 by omega, ← gcpy_s, show (0 + k).toNat = 0 + k.toNat by omega]
          funext b j
          simp only [gu_eq, Nat.zero_add]
          rw [gcpy_off (b := 177) (j := k.toNat) (Or.inl (by decide))]
          (repeat' split) <;> first | rfl | omega | (exfalso; omega)
set_option maxRecDepth 100000 in
set_option maxHeartbeats 4000000 in
theorem cM_mvk177 {G : gG} (hsz : G.2.2.2.2.2.2 = true) {n : Nat} (hn : 1 ≤ n) (mi : Nat → Nat → Int) (ml : Nat → Nat → Int64) (hq : mi 148 44 = 0) : gM G 241 n 0 0 [gr 148, gr 177, gi 5, gi 1] (gw mi ml) (gvd (gw (gu (gcpy mi 177 0 176 0 5) 148 44 5) ml)) := by
  refine gM.of mX12_move okX12_move (gcp 241 (by decide)).1 (gcp 241 (by decide)).2 (Nat.le_of_ble_eq_true rfl) ?_
  refine Go.run hsz hn 2 (pc' := 3) (lv' := [some (gr 148), some (gr 177), some (gi 5), some (gi 1), some (gi 0)]) (st' := []) (M' := gw mi ml) rfl ?_
  have h9 := lM_mvk177 hsz hn mi ml 6 0 (by omega) (by omega) (by omega)
  rw [show gu (gcpy mi 177 0 176 0 (0 : Int).toNat) 148 44 (0 + 0) = mi from ?_] at h9
  · exact h9
  · rw [show (0 : Int).toNat = 0 from rfl, gcpy_0, show ((0 : Int) + 0) = mi 148 44 from hq.symm, gu_id]
set_option maxRecDepth 100000 in
set_option maxHeartbeats 4000000 in
theorem lM_mvk149 {G : gG} (hsz : G.2.2.2.2.2.2 = true) {n : Nat} (hn : 1 ≤ n) (mi : Nat → Nat → Int) (ml : Nat → Nat → Int64)  : ∀ (f : Nat) (k : Int), 0 ≤ k → k ≤ 96 → 96 - k < f → Go G mX12_move n 0 0 3 [some (gr 148), some (gr 149), some (gi 96), some (gi 1), some (gi k)] [] (gw (gu (gcpy mi 149 0 176 5 k.toNat) 148 44 (5 + k)) ml) (gvd (gw (gu (gcpy mi 149 0 176 5 96) 148 44 101) ml)) := by
  have hn1 : 1 ≤ n := by omega

  intro f
  induction f with
  | zero => intros; omega
  | succ f ih =>
    intro k k0 k1 k2
    refine Go.run hsz hn1 2 (pc' := 6) (lv' := [some (gr 148), some (gr 149), some (gi 96), some (gi 1), some (gi k)]) (st' := [gi 96, gi k]) (M' := gw (gu (gcpy mi 149 0 176 5 k.toNat) 148 44 (5 + k)) ml) rfl ?_
    refine Go.icmp_ge (by rfl) ⟨by omega, by omega⟩ ⟨by decide, by decide⟩ (fun kq1 => ?_) (fun kq1 => ?_)
    · obtain rfl : k = 96 := by omega
      exact Go.vret (by rfl) ⟨rfl, rfl⟩
    · refine Go.run hsz hn1 1 (pc' := 10) (lv' := [some (gr 148), some (gr 149), some (gi 96), some (gi 1), some (gi k)]) (st' := [gi 1]) (M' := gw (gu (gcpy mi 149 0 176 5 k.toNat) 148 44 (5 + k)) ml) rfl ?_
      refine Go.if_eq (by rfl) ⟨by decide, by decide⟩ (fun kq2 => ?_) (fun kq2 => ?_)
      · exact absurd kq2 (by decide)
      · refine Go.run hsz hn1 6 (pc' := 24) (lv' := [some (gr 148), some (gr 149), some (gi 96), some (gi 1), some (gi k)]) (st' := [gi k, gr 149, gi (5 + k), gr 176]) (M' := gw (gu (gcpy mi 149 0 176 5 k.toNat) 148 44 (5 + k)) ml) rfl ?_
        refine Go.iald (by rfl) (N := 96) (by rfl) (by omega) (by omega) (by decide) ?_
        refine Go.run hsz hn1 0 (pc' := 25) (lv' := [some (gr 148), some (gr 149), some (gi 96), some (gi 1), some (gi k)]) (st' := [gi ((gu (gcpy mi 149 0 176 5 k.toNat) 148 44 (5 + k)) 149 k.toNat), gi (5 + k), gr 176]) (M' := gw (gu (gcpy mi 149 0 176 5 k.toNat) 148 44 (5 + k)) ml) rfl ?_
        rw [show (gu (gcpy mi 149 0 176 5 k.toNat) 148 44 (5 + k)) 149 k.toNat = (gcpy mi 149 0 176 5 k.toNat) 149 k.toNat from gu_ne (Or.inl (by decide))]
        refine Go.run hsz hn1 0 (pc' := 25) (lv' := [some (gr 148), some (gr 149), some (gi 96), some (gi 1), some (gi k)]) (st' := [gi ((gcpy mi 149 0 176 5 k.toNat) 149 k.toNat), gi (5 + k), gr 176]) (M' := gw (gu (gcpy mi 149 0 176 5 k.toNat) 148 44 (5 + k)) ml) rfl ?_
        refine Go.iast (by rfl) (N := 760) (by rfl) (by omega) (by omega) (by decide) ?_
        refine Go.run hsz hn1 4 (pc' := 47) (lv' := [some (gr 148), some (gr 149), some (gi 96), some (gi 1), some (gi k)]) (st' := [gi ((gu (gu (gcpy mi 149 0 176 5 k.toNat) 148 44 (5 + k)) 176 ((5 + k).toNat) ((gcpy mi 149 0 176 5 k.toNat) 149 k.toNat)) 148 44), gr 148]) (M' := gw (gu (gu (gcpy mi 149 0 176 5 k.toNat) 148 44 (5 + k)) 176 ((5 + k).toNat) ((gcpy mi 149 0 176 5 k.toNat) 149 k.toNat)) ml) rfl ?_
        refine Go.run hsz hn1 0 (pc' := 47) (lv' := [some (gr 148), some (gr 149), some (gi 96), some (gi 1), some (gi k)]) (st' := [gi ((gu (gu (gcpy mi 149 0 176 5 k.toNat) 148 44 (5 + k)) 176 ((5 + k).toNat) ((gcpy mi 149 0 176 5 k.toNat) 149 k.toNat)) 148 44), gr 148]) (M' := gw (gu (gu (gcpy mi 149 0 176 5 k.toNat) 148 44 (5 + k)) 176 ((5 + k).toNat) ((gcpy mi 149 0 176 5 k.toNat) 149 k.toNat)) ml) rfl ?_
        rw [show (gu (gu (gcpy mi 149 0 176 5 k.toNat) 148 44 (5 + k)) 176 ((5 + k).toNat) ((gcpy mi 149 0 176 5 k.toNat) 149 k.toNat)) 148 44 = 5 + k from (gu_ne (Or.inl (by decide))).trans (gu_self _ _ _ _)]
        refine Go.run hsz hn1 5 (pc' := 3) (lv' := [some (gr 148), some (gr 149), some (gi 96), some (gi 1), some (gi (k + 1))]) (st' := []) (M' := gw (gu (gu (gu (gcpy mi 149 0 176 5 k.toNat) 148 44 (5 + k)) 176 ((5 + k).toNat) ((gcpy mi 149 0 176 5 k.toNat) 149 k.toNat)) 148 44 ((5 + k) + 1)) ml) rfl ?_
        have h9 := ih (k + 1) (by omega) (by omega) (by omega)
        rw [show gu (gcpy mi 149 0 176 5 (k + 1).toNat) 148 44 (5 + (k + 1)) = gu (gu (gu (gcpy mi 149 0 176 5 k.toNat) 148 44 (5 + k)) 176 ((5 + k).toNat) ((gcpy mi 149 0 176 5 k.toNat) 149 k.toNat)) 148 44 ((5 + k) + 1) from ?_] at h9
        · exact h9
        · rw [show (k + 1).toNat = k.toNat + 1 by omega, ← gcpy_s, show (5 + k).toNat = 5 + k.toNat by omega]
          funext b j
          simp only [gu_eq, Nat.zero_add]
          rw [gcpy_off (b := 149) (j := k.toNat) (Or.inl (by decide))]
          (repeat' split) <;> first | rfl | omega | (exfalso; omega)
set_option maxRecDepth 100000 in
set_option maxHeartbeats 4000000 in
theorem cM_mvk149 {G : gG} (hsz : G.2.2.2.2.2.2 = true) {n : Nat} (hn : 1 ≤ n) (mi : Nat → Nat → Int) (ml : Nat → Nat → Int64) (hq : mi 148 44 = 5) : gM G 241 n 0 0 [gr 148, gr 149, gi 96, gi 1] (gw mi ml) (gvd (gw (gu (gcpy mi 149 0 176 5 96) 148 44 101) ml)) := by
  refine gM.of mX12_move okX12_move (gcp 241 (by decide)).1 (gcp 241 (by decide)).2 (Nat.le_of_ble_eq_true rfl) ?_
  refine Go.run hsz hn 2 (pc' := 3) (lv' := [some (gr 148), some (gr 149), some (gi 96), some (gi 1), some (gi 0)]) (st' := []) (M' := gw mi ml) rfl ?_
  have h9 := lM_mvk149 hsz hn mi ml 97 0 (by omega) (by omega) (by omega)
  rw [show gu (gcpy mi 149 0 176 5 (0 : Int).toNat) 148 44 (5 + 0) = mi from ?_] at h9
  · exact h9
  · rw [show (0 : Int).toNat = 0 from rfl, gcpy_0, show ((5 : Int) + 0) = mi 148 44 from hq.symm, gu_id]
set_option maxRecDepth 100000 in
set_option maxHeartbeats 4000000 in
theorem lM_mvk150 {G : gG} (hsz : G.2.2.2.2.2.2 = true) {n : Nat} (hn : 1 ≤ n) (mi : Nat → Nat → Int) (ml : Nat → Nat → Int64)  : ∀ (f : Nat) (k : Int), 0 ≤ k → k ≤ 12 → 12 - k < f → Go G mX12_move n 0 0 3 [some (gr 148), some (gr 150), some (gi 12), some (gi 1), some (gi k)] [] (gw (gu (gcpy mi 150 0 176 101 k.toNat) 148 44 (101 + k)) ml) (gvd (gw (gu (gcpy mi 150 0 176 101 12) 148 44 113) ml)) := by
  have hn1 : 1 ≤ n := by omega

  intro f
  induction f with
  | zero => intros; omega
  | succ f ih =>
    intro k k0 k1 k2
    refine Go.run hsz hn1 2 (pc' := 6) (lv' := [some (gr 148), some (gr 150), some (gi 12), some (gi 1), some (gi k)]) (st' := [gi 12, gi k]) (M' := gw (gu (gcpy mi 150 0 176 101 k.toNat) 148 44 (101 + k)) ml) rfl ?_
    refine Go.icmp_ge (by rfl) ⟨by omega, by omega⟩ ⟨by decide, by decide⟩ (fun kq1 => ?_) (fun kq1 => ?_)
    · obtain rfl : k = 12 := by omega
      exact Go.vret (by rfl) ⟨rfl, rfl⟩
    · refine Go.run hsz hn1 1 (pc' := 10) (lv' := [some (gr 148), some (gr 150), some (gi 12), some (gi 1), some (gi k)]) (st' := [gi 1]) (M' := gw (gu (gcpy mi 150 0 176 101 k.toNat) 148 44 (101 + k)) ml) rfl ?_
      refine Go.if_eq (by rfl) ⟨by decide, by decide⟩ (fun kq2 => ?_) (fun kq2 => ?_)
      · exact absurd kq2 (by decide)
      · refine Go.run hsz hn1 6 (pc' := 24) (lv' := [some (gr 148), some (gr 150), some (gi 12), some (gi 1), some (gi k)]) (st' := [gi k, gr 150, gi (101 + k), gr 176]) (M' := gw (gu (gcpy mi 150 0 176 101 k.toNat) 148 44 (101 + k)) ml) rfl ?_
        refine Go.iald (by rfl) (N := 12) (by rfl) (by omega) (by omega) (by decide) ?_
        refine Go.run hsz hn1 0 (pc' := 25) (lv' := [some (gr 148), some (gr 150), some (gi 12), some (gi 1), some (gi k)]) (st' := [gi ((gu (gcpy mi 150 0 176 101 k.toNat) 148 44 (101 + k)) 150 k.toNat), gi (101 + k), gr 176]) (M' := gw (gu (gcpy mi 150 0 176 101 k.toNat) 148 44 (101 + k)) ml) rfl ?_
        rw [show (gu (gcpy mi 150 0 176 101 k.toNat) 148 44 (101 + k)) 150 k.toNat = (gcpy mi 150 0 176 101 k.toNat) 150 k.toNat from gu_ne (Or.inl (by decide))]
        refine Go.run hsz hn1 0 (pc' := 25) (lv' := [some (gr 148), some (gr 150), some (gi 12), some (gi 1), some (gi k)]) (st' := [gi ((gcpy mi 150 0 176 101 k.toNat) 150 k.toNat), gi (101 + k), gr 176]) (M' := gw (gu (gcpy mi 150 0 176 101 k.toNat) 148 44 (101 + k)) ml) rfl ?_
        refine Go.iast (by rfl) (N := 760) (by rfl) (by omega) (by omega) (by decide) ?_
        refine Go.run hsz hn1 4 (pc' := 47) (lv' := [some (gr 148), some (gr 150), some (gi 12), some (gi 1), some (gi k)]) (st' := [gi ((gu (gu (gcpy mi 150 0 176 101 k.toNat) 148 44 (101 + k)) 176 ((101 + k).toNat) ((gcpy mi 150 0 176 101 k.toNat) 150 k.toNat)) 148 44), gr 148]) (M' := gw (gu (gu (gcpy mi 150 0 176 101 k.toNat) 148 44 (101 + k)) 176 ((101 + k).toNat) ((gcpy mi 150 0 176 101 k.toNat) 150 k.toNat)) ml) rfl ?_
        refine Go.run hsz hn1 0 (pc' := 47) (lv' := [some (gr 148), some (gr 150), some (gi 12), some (gi 1), some (gi k)]) (st' := [gi ((gu (gu (gcpy mi 150 0 176 101 k.toNat) 148 44 (101 + k)) 176 ((101 + k).toNat) ((gcpy mi 150 0 176 101 k.toNat) 150 k.toNat)) 148 44), gr 148]) (M' := gw (gu (gu (gcpy mi 150 0 176 101 k.toNat) 148 44 (101 + k)) 176 ((101 + k).toNat) ((gcpy mi 150 0 176 101 k.toNat) 150 k.toNat)) ml) rfl ?_
        rw [show (gu (gu (gcpy mi 150 0 176 101 k.toNat) 148 44 (101 + k)) 176 ((101 + k).toNat) ((gcpy mi 150 0 176 101 k.toNat) 150 k.toNat)) 148 44 = 101 + k from (gu_ne (Or.inl (by decide))).trans (gu_self _ _ _ _)]
        refine Go.run hsz hn1 5 (pc' := 3) (lv' := [some (gr 148), some (gr 150), some (gi 12), some (gi 1), some (gi (k + 1))]) (st' := []) (M' := gw (gu (gu (gu (gcpy mi 150 0 176 101 k.toNat) 148 44 (101 + k)) 176 ((101 + k).toNat) ((gcpy mi 150 0 176 101 k.toNat) 150 k.toNat)) 148 44 ((101 + k) + 1)) ml) rfl ?_
        have h9 := ih (k + 1) (by omega) (by omega) (by omega)
        rw [show gu (gcpy mi 150 0 176 101 (k + 1).toNat) 148 44 (101 + (k + 1)) = gu (gu (gu (gcpy mi 150 0 176 101 k.toNat) 148 44 (101 + k)) 176 ((101 + k).toNat) ((gcpy mi 150 0 176 101 k.toNat) 150 k.toNat)) 148 44 ((101 + k) + 1) from ?_] at h9
        · exact h9
        · rw [show (k + 1).toNat = k.toNat + 1 by omega, ← gcpy_s, show (101 + k).toNat = 101 + k.toNat by omega]
          funext b j
          simp only [gu_eq, Nat.zero_add]
          rw [gcpy_off (b := 150) (j := k.toNat) (Or.inl (by decide))]
          (repeat' split) <;> first | rfl | omega | (exfalso; omega)
set_option maxRecDepth 100000 in
set_option maxHeartbeats 4000000 in
theorem cM_mvk150 {G : gG} (hsz : G.2.2.2.2.2.2 = true) {n : Nat} (hn : 1 ≤ n) (mi : Nat → Nat → Int) (ml : Nat → Nat → Int64) (hq : mi 148 44 = 101) : gM G 241 n 0 0 [gr 148, gr 150, gi 12, gi 1] (gw mi ml) (gvd (gw (gu (gcpy mi 150 0 176 101 12) 148 44 113) ml)) := by
  refine gM.of mX12_move okX12_move (gcp 241 (by decide)).1 (gcp 241 (by decide)).2 (Nat.le_of_ble_eq_true rfl) ?_
  refine Go.run hsz hn 2 (pc' := 3) (lv' := [some (gr 148), some (gr 150), some (gi 12), some (gi 1), some (gi 0)]) (st' := []) (M' := gw mi ml) rfl ?_
  have h9 := lM_mvk150 hsz hn mi ml 13 0 (by omega) (by omega) (by omega)
  rw [show gu (gcpy mi 150 0 176 101 (0 : Int).toNat) 148 44 (101 + 0) = mi from ?_] at h9
  · exact h9
  · rw [show (0 : Int).toNat = 0 from rfl, gcpy_0, show ((101 : Int) + 0) = mi 148 44 from hq.symm, gu_id]
set_option maxRecDepth 100000 in
set_option maxHeartbeats 4000000 in
theorem lM_mvk151 {G : gG} (hsz : G.2.2.2.2.2.2 = true) {n : Nat} (hn : 1 ≤ n) (mi : Nat → Nat → Int) (ml : Nat → Nat → Int64)  : ∀ (f : Nat) (k : Int), 0 ≤ k → k ≤ 12 → 12 - k < f → Go G mX12_move n 0 0 3 [some (gr 148), some (gr 151), some (gi 12), some (gi 1), some (gi k)] [] (gw (gu (gcpy mi 151 0 176 113 k.toNat) 148 44 (113 + k)) ml) (gvd (gw (gu (gcpy mi 151 0 176 113 12) 148 44 125) ml)) := by
  have hn1 : 1 ≤ n := by omega

  intro f
  induction f with
  | zero => intros; omega
  | succ f ih =>
    intro k k0 k1 k2
    refine Go.run hsz hn1 2 (pc' := 6) (lv' := [some (gr 148), some (gr 151), some (gi 12), some (gi 1), some (gi k)]) (st' := [gi 12, gi k]) (M' := gw (gu (gcpy mi 151 0 176 113 k.toNat) 148 44 (113 + k)) ml) rfl ?_
    refine Go.icmp_ge (by rfl) ⟨by omega, by omega⟩ ⟨by decide, by decide⟩ (fun kq1 => ?_) (fun kq1 => ?_)
    · obtain rfl : k = 12 := by omega
      exact Go.vret (by rfl) ⟨rfl, rfl⟩
    · refine Go.run hsz hn1 1 (pc' := 10) (lv' := [some (gr 148), some (gr 151), some (gi 12), some (gi 1), some (gi k)]) (st' := [gi 1]) (M' := gw (gu (gcpy mi 151 0 176 113 k.toNat) 148 44 (113 + k)) ml) rfl ?_
      refine Go.if_eq (by rfl) ⟨by decide, by decide⟩ (fun kq2 => ?_) (fun kq2 => ?_)
      · exact absurd kq2 (by decide)
      · refine Go.run hsz hn1 6 (pc' := 24) (lv' := [some (gr 148), some (gr 151), some (gi 12), some (gi 1), some (gi k)]) (st' := [gi k, gr 151, gi (113 + k), gr 176]) (M' := gw (gu (gcpy mi 151 0 176 113 k.toNat) 148 44 (113 + k)) ml) rfl ?_
        refine Go.iald (by rfl) (N := 12) (by rfl) (by omega) (by omega) (by decide) ?_
        refine Go.run hsz hn1 0 (pc' := 25) (lv' := [some (gr 148), some (gr 151), some (gi 12), some (gi 1), some (gi k)]) (st' := [gi ((gu (gcpy mi 151 0 176 113 k.toNat) 148 44 (113 + k)) 151 k.toNat), gi (113 + k), gr 176]) (M' := gw (gu (gcpy mi 151 0 176 113 k.toNat) 148 44 (113 + k)) ml) rfl ?_
        rw [show (gu (gcpy mi 151 0 176 113 k.toNat) 148 44 (113 + k)) 151 k.toNat = (gcpy mi 151 0 176 113 k.toNat) 151 k.toNat from gu_ne (Or.inl (by decide))]
        refine Go.run hsz hn1 0 (pc' := 25) (lv' := [some (gr 148), some (gr 151), some (gi 12), some (gi 1), some (gi k)]) (st' := [gi ((gcpy mi 151 0 176 113 k.toNat) 151 k.toNat), gi (113 + k), gr 176]) (M' := gw (gu (gcpy mi 151 0 176 113 k.toNat) 148 44 (113 + k)) ml) rfl ?_
        refine Go.iast (by rfl) (N := 760) (by rfl) (by omega) (by omega) (by decide) ?_
        refine Go.run hsz hn1 4 (pc' := 47) (lv' := [some (gr 148), some (gr 151), some (gi 12), some (gi 1), some (gi k)]) (st' := [gi ((gu (gu (gcpy mi 151 0 176 113 k.toNat) 148 44 (113 + k)) 176 ((113 + k).toNat) ((gcpy mi 151 0 176 113 k.toNat) 151 k.toNat)) 148 44), gr 148]) (M' := gw (gu (gu (gcpy mi 151 0 176 113 k.toNat) 148 44 (113 + k)) 176 ((113 + k).toNat) ((gcpy mi 151 0 176 113 k.toNat) 151 k.toNat)) ml) rfl ?_
        refine Go.run hsz hn1 0 (pc' := 47) (lv' := [some (gr 148), some (gr 151), some (gi 12), some (gi 1), some (gi k)]) (st' := [gi ((gu (gu (gcpy mi 151 0 176 113 k.toNat) 148 44 (113 + k)) 176 ((113 + k).toNat) ((gcpy mi 151 0 176 113 k.toNat) 151 k.toNat)) 148 44), gr 148]) (M' := gw (gu (gu (gcpy mi 151 0 176 113 k.toNat) 148 44 (113 + k)) 176 ((113 + k).toNat) ((gcpy mi 151 0 176 113 k.toNat) 151 k.toNat)) ml) rfl ?_
        rw [show (gu (gu (gcpy mi 151 0 176 113 k.toNat) 148 44 (113 + k)) 176 ((113 + k).toNat) ((gcpy mi 151 0 176 113 k.toNat) 151 k.toNat)) 148 44 = 113 + k from (gu_ne (Or.inl (by decide))).trans (gu_self _ _ _ _)]
        refine Go.run hsz hn1 5 (pc' := 3) (lv' := [some (gr 148), some (gr 151), some (gi 12), some (gi 1), some (gi (k + 1))]) (st' := []) (M' := gw (gu (gu (gu (gcpy mi 151 0 176 113 k.toNat) 148 44 (113 + k)) 176 ((113 + k).toNat) ((gcpy mi 151 0 176 113 k.toNat) 151 k.toNat)) 148 44 ((113 + k) + 1)) ml) rfl ?_
        have h9 := ih (k + 1) (by omega) (by omega) (by omega)
        rw [show gu (gcpy mi 151 0 176 113 (k + 1).toNat) 148 44 (113 + (k + 1)) = gu (gu (gu (gcpy mi 151 0 176 113 k.toNat) 148 44 (113 + k)) 176 ((113 + k).toNat) ((gcpy mi 151 0 176 113 k.toNat) 151 k.toNat)) 148 44 ((113 + k) + 1) from ?_] at h9
        · exact h9
        · rw [show (k + 1).toNat = k.toNat + 1 by omega, ← gcpy_s, show (113 + k).toNat = 113 + k.toNat by omega]
          funext b j
          simp only [gu_eq, Nat.zero_add]
          rw [gcpy_off (b := 151) (j := k.toNat) (Or.inl (by decide))]
          (repeat' split) <;> first | rfl | omega | (exfalso; omega)
set_option maxRecDepth 100000 in
set_option maxHeartbeats 4000000 in
theorem cM_mvk151 {G : gG} (hsz : G.2.2.2.2.2.2 = true) {n : Nat} (hn : 1 ≤ n) (mi : Nat → Nat → Int) (ml : Nat → Nat → Int64) (hq : mi 148 44 = 113) : gM G 241 n 0 0 [gr 148, gr 151, gi 12, gi 1] (gw mi ml) (gvd (gw (gu (gcpy mi 151 0 176 113 12) 148 44 125) ml)) := by
  refine gM.of mX12_move okX12_move (gcp 241 (by decide)).1 (gcp 241 (by decide)).2 (Nat.le_of_ble_eq_true rfl) ?_
  refine Go.run hsz hn 2 (pc' := 3) (lv' := [some (gr 148), some (gr 151), some (gi 12), some (gi 1), some (gi 0)]) (st' := []) (M' := gw mi ml) rfl ?_
  have h9 := lM_mvk151 hsz hn mi ml 13 0 (by omega) (by omega) (by omega)
  rw [show gu (gcpy mi 151 0 176 113 (0 : Int).toNat) 148 44 (113 + 0) = mi from ?_] at h9
  · exact h9
  · rw [show (0 : Int).toNat = 0 from rfl, gcpy_0, show ((113 : Int) + 0) = mi 148 44 from hq.symm, gu_id]
set_option maxRecDepth 100000 in
set_option maxHeartbeats 4000000 in
theorem lM_mvk152 {G : gG} (hsz : G.2.2.2.2.2.2 = true) {n : Nat} (hn : 1 ≤ n) (mi : Nat → Nat → Int) (ml : Nat → Nat → Int64)  : ∀ (f : Nat) (k : Int), 0 ≤ k → k ≤ 288 → 288 - k < f → Go G mX12_move n 0 0 3 [some (gr 148), some (gr 152), some (gi 288), some (gi 1), some (gi k)] [] (gw (gu (gcpy mi 152 0 176 125 k.toNat) 148 44 (125 + k)) ml) (gvd (gw (gu (gcpy mi 152 0 176 125 288) 148 44 413) ml)) := by
  have hn1 : 1 ≤ n := by omega

  intro f
  induction f with
  | zero => intros; omega
  | succ f ih =>
    intro k k0 k1 k2
    refine Go.run hsz hn1 2 (pc' := 6) (lv' := [some (gr 148), some (gr 152), some (gi 288), some (gi 1), some (gi k)]) (st' := [gi 288, gi k]) (M' := gw (gu (gcpy mi 152 0 176 125 k.toNat) 148 44 (125 + k)) ml) rfl ?_
    refine Go.icmp_ge (by rfl) ⟨by omega, by omega⟩ ⟨by decide, by decide⟩ (fun kq1 => ?_) (fun kq1 => ?_)
    · obtain rfl : k = 288 := by omega
      exact Go.vret (by rfl) ⟨rfl, rfl⟩
    · refine Go.run hsz hn1 1 (pc' := 10) (lv' := [some (gr 148), some (gr 152), some (gi 288), some (gi 1), some (gi k)]) (st' := [gi 1]) (M' := gw (gu (gcpy mi 152 0 176 125 k.toNat) 148 44 (125 + k)) ml) rfl ?_
      refine Go.if_eq (by rfl) ⟨by decide, by decide⟩ (fun kq2 => ?_) (fun kq2 => ?_)
      · exact absurd kq2 (by decide)
      · refine Go.run hsz hn1 6 (pc' := 24) (lv' := [some (gr 148), some (gr 152), some (gi 288), some (gi 1), some (gi k)]) (st' := [gi k, gr 152, gi (125 + k), gr 176]) (M' := gw (gu (gcpy mi 152 0 176 125 k.toNat) 148 44 (125 + k)) ml) rfl ?_
        refine Go.iald (by rfl) (N := 288) (by rfl) (by omega) (by omega) (by decide) ?_
        refine Go.run hsz hn1 0 (pc' := 25) (lv' := [some (gr 148), some (gr 152), some (gi 288), some (gi 1), some (gi k)]) (st' := [gi ((gu (gcpy mi 152 0 176 125 k.toNat) 148 44 (125 + k)) 152 k.toNat), gi (125 + k), gr 176]) (M' := gw (gu (gcpy mi 152 0 176 125 k.toNat) 148 44 (125 + k)) ml) rfl ?_
        rw [show (gu (gcpy mi 152 0 176 125 k.toNat) 148 44 (125 + k)) 152 k.toNat = (gcpy mi 152 0 176 125 k.toNat) 152 k.toNat from gu_ne (Or.inl (by decide))]
        refine Go.run hsz hn1 0 (pc' := 25) (lv' := [some (gr 148), some (gr 152), some (gi 288), some (gi 1), some (gi k)]) (st' := [gi ((gcpy mi 152 0 176 125 k.toNat) 152 k.toNat), gi (125 + k), gr 176]) (M' := gw (gu (gcpy mi 152 0 176 125 k.toNat) 148 44 (125 + k)) ml) rfl ?_
        refine Go.iast (by rfl) (N := 760) (by rfl) (by omega) (by omega) (by decide) ?_
        refine Go.run hsz hn1 4 (pc' := 47) (lv' := [some (gr 148), some (gr 152), some (gi 288), some (gi 1), some (gi k)]) (st' := [gi ((gu (gu (gcpy mi 152 0 176 125 k.toNat) 148 44 (125 + k)) 176 ((125 + k).toNat) ((gcpy mi 152 0 176 125 k.toNat) 152 k.toNat)) 148 44), gr 148]) (M' := gw (gu (gu (gcpy mi 152 0 176 125 k.toNat) 148 44 (125 + k)) 176 ((125 + k).toNat) ((gcpy mi 152 0 176 125 k.toNat) 152 k.toNat)) ml) rfl ?_
        refine Go.run hsz hn1 0 (pc' := 47) (lv' := [some (gr 148), some (gr 152), some (gi 288), some (gi 1), some (gi k)]) (st' := [gi ((gu (gu (gcpy mi 152 0 176 125 k.toNat) 148 44 (125 + k)) 176 ((125 + k).toNat) ((gcpy mi 152 0 176 125 k.toNat) 152 k.toNat)) 148 44), gr 148]) (M' := gw (gu (gu (gcpy mi 152 0 176 125 k.toNat) 148 44 (125 + k)) 176 ((125 + k).toNat) ((gcpy mi 152 0 176 125 k.toNat) 152 k.toNat)) ml) rfl ?_
        rw [show (gu (gu (gcpy mi 152 0 176 125 k.toNat) 148 44 (125 + k)) 176 ((125 + k).toNat) ((gcpy mi 152 0 176 125 k.toNat) 152 k.toNat)) 148 44 = 125 + k from (gu_ne (Or.inl (by decide))).trans (gu_self _ _ _ _)]
        refine Go.run hsz hn1 5 (pc' := 3) (lv' := [some (gr 148), some (gr 152), some (gi 288), some (gi 1), some (gi (k + 1))]) (st' := []) (M' := gw (gu (gu (gu (gcpy mi 152 0 176 125 k.toNat) 148 44 (125 + k)) 176 ((125 + k).toNat) ((gcpy mi 152 0 176 125 k.toNat) 152 k.toNat)) 148 44 ((125 + k) + 1)) ml) rfl ?_
        have h9 := ih (k + 1) (by omega) (by omega) (by omega)
        rw [show gu (gcpy mi 152 0 176 125 (k + 1).toNat) 148 44 (125 + (k + 1)) = gu (gu (gu (gcpy mi 152 0 176 125 k.toNat) 148 44 (125 + k)) 176 ((125 + k).toNat) ((gcpy mi 152 0 176 125 k.toNat) 152 k.toNat)) 148 44 ((125 + k) + 1) from ?_] at h9
        · exact h9
        · rw [show (k + 1).toNat = k.toNat + 1 by omega, ← gcpy_s, show (125 + k).toNat = 125 + k.toNat by omega]
          funext b j
          simp only [gu_eq, Nat.zero_add]
          rw [gcpy_off (b := 152) (j := k.toNat) (Or.inl (by decide))]
          (repeat' split) <;> first | rfl | omega | (exfalso; omega)
set_option maxRecDepth 100000 in
set_option maxHeartbeats 4000000 in
theorem cM_mvk152 {G : gG} (hsz : G.2.2.2.2.2.2 = true) {n : Nat} (hn : 1 ≤ n) (mi : Nat → Nat → Int) (ml : Nat → Nat → Int64) (hq : mi 148 44 = 125) : gM G 241 n 0 0 [gr 148, gr 152, gi 288, gi 1] (gw mi ml) (gvd (gw (gu (gcpy mi 152 0 176 125 288) 148 44 413) ml)) := by
  refine gM.of mX12_move okX12_move (gcp 241 (by decide)).1 (gcp 241 (by decide)).2 (Nat.le_of_ble_eq_true rfl) ?_
  refine Go.run hsz hn 2 (pc' := 3) (lv' := [some (gr 148), some (gr 152), some (gi 288), some (gi 1), some (gi 0)]) (st' := []) (M' := gw mi ml) rfl ?_
  have h9 := lM_mvk152 hsz hn mi ml 289 0 (by omega) (by omega) (by omega)
  rw [show gu (gcpy mi 152 0 176 125 (0 : Int).toNat) 148 44 (125 + 0) = mi from ?_] at h9
  · exact h9
  · rw [show (0 : Int).toNat = 0 from rfl, gcpy_0, show ((125 : Int) + 0) = mi 148 44 from hq.symm, gu_id]
set_option maxRecDepth 100000 in
set_option maxHeartbeats 4000000 in
theorem lM_mvk153 {G : gG} (hsz : G.2.2.2.2.2.2 = true) {n : Nat} (hn : 1 ≤ n) (mi : Nat → Nat → Int) (ml : Nat → Nat → Int64)  : ∀ (f : Nat) (k : Int), 0 ≤ k → k ≤ 4 → 4 - k < f → Go G mX12_move n 0 0 3 [some (gr 148), some (gr 153), some (gi 4), some (gi 1), some (gi k)] [] (gw (gu (gcpy mi 153 0 176 413 k.toNat) 148 44 (413 + k)) ml) (gvd (gw (gu (gcpy mi 153 0 176 413 4) 148 44 417) ml)) := by
  have hn1 : 1 ≤ n := by omega

  intro f
  induction f with
  | zero => intros; omega
  | succ f ih =>
    intro k k0 k1 k2
    refine Go.run hsz hn1 2 (pc' := 6) (lv' := [some (gr 148), some (gr 153), some (gi 4), some (gi 1), some (gi k)]) (st' := [gi 4, gi k]) (M' := gw (gu (gcpy mi 153 0 176 413 k.toNat) 148 44 (413 + k)) ml) rfl ?_
    refine Go.icmp_ge (by rfl) ⟨by omega, by omega⟩ ⟨by decide, by decide⟩ (fun kq1 => ?_) (fun kq1 => ?_)
    · obtain rfl : k = 4 := by omega
      exact Go.vret (by rfl) ⟨rfl, rfl⟩
    · refine Go.run hsz hn1 1 (pc' := 10) (lv' := [some (gr 148), some (gr 153), some (gi 4), some (gi 1), some (gi k)]) (st' := [gi 1]) (M' := gw (gu (gcpy mi 153 0 176 413 k.toNat) 148 44 (413 + k)) ml) rfl ?_
      refine Go.if_eq (by rfl) ⟨by decide, by decide⟩ (fun kq2 => ?_) (fun kq2 => ?_)
      · exact absurd kq2 (by decide)
      · refine Go.run hsz hn1 6 (pc' := 24) (lv' := [some (gr 148), some (gr 153), some (gi 4), some (gi 1), some (gi k)]) (st' := [gi k, gr 153, gi (413 + k), gr 176]) (M' := gw (gu (gcpy mi 153 0 176 413 k.toNat) 148 44 (413 + k)) ml) rfl ?_
        refine Go.iald (by rfl) (N := 4) (by rfl) (by omega) (by omega) (by decide) ?_
        refine Go.run hsz hn1 0 (pc' := 25) (lv' := [some (gr 148), some (gr 153), some (gi 4), some (gi 1), some (gi k)]) (st' := [gi ((gu (gcpy mi 153 0 176 413 k.toNat) 148 44 (413 + k)) 153 k.toNat), gi (413 + k), gr 176]) (M' := gw (gu (gcpy mi 153 0 176 413 k.toNat) 148 44 (413 + k)) ml) rfl ?_
        rw [show (gu (gcpy mi 153 0 176 413 k.toNat) 148 44 (413 + k)) 153 k.toNat = (gcpy mi 153 0 176 413 k.toNat) 153 k.toNat from gu_ne (Or.inl (by decide))]
        refine Go.run hsz hn1 0 (pc' := 25) (lv' := [some (gr 148), some (gr 153), some (gi 4), some (gi 1), some (gi k)]) (st' := [gi ((gcpy mi 153 0 176 413 k.toNat) 153 k.toNat), gi (413 + k), gr 176]) (M' := gw (gu (gcpy mi 153 0 176 413 k.toNat) 148 44 (413 + k)) ml) rfl ?_
        refine Go.iast (by rfl) (N := 760) (by rfl) (by omega) (by omega) (by decide) ?_
        refine Go.run hsz hn1 4 (pc' := 47) (lv' := [some (gr 148), some (gr 153), some (gi 4), some (gi 1), some (gi k)]) (st' := [gi ((gu (gu (gcpy mi 153 0 176 413 k.toNat) 148 44 (413 + k)) 176 ((413 + k).toNat) ((gcpy mi 153 0 176 413 k.toNat) 153 k.toNat)) 148 44), gr 148]) (M' := gw (gu (gu (gcpy mi 153 0 176 413 k.toNat) 148 44 (413 + k)) 176 ((413 + k).toNat) ((gcpy mi 153 0 176 413 k.toNat) 153 k.toNat)) ml) rfl ?_
        refine Go.run hsz hn1 0 (pc' := 47) (lv' := [some (gr 148), some (gr 153), some (gi 4), some (gi 1), some (gi k)]) (st' := [gi ((gu (gu (gcpy mi 153 0 176 413 k.toNat) 148 44 (413 + k)) 176 ((413 + k).toNat) ((gcpy mi 153 0 176 413 k.toNat) 153 k.toNat)) 148 44), gr 148]) (M' := gw (gu (gu (gcpy mi 153 0 176 413 k.toNat) 148 44 (413 + k)) 176 ((413 + k).toNat) ((gcpy mi 153 0 176 413 k.toNat) 153 k.toNat)) ml) rfl ?_
        rw [show (gu (gu (gcpy mi 153 0 176 413 k.toNat) 148 44 (413 + k)) 176 ((413 + k).toNat) ((gcpy mi 153 0 176 413 k.toNat) 153 k.toNat)) 148 44 = 413 + k from (gu_ne (Or.inl (by decide))).trans (gu_self _ _ _ _)]
        refine Go.run hsz hn1 5 (pc' := 3) (lv' := [some (gr 148), some (gr 153), some (gi 4), some (gi 1), some (gi (k + 1))]) (st' := []) (M' := gw (gu (gu (gu (gcpy mi 153 0 176 413 k.toNat) 148 44 (413 + k)) 176 ((413 + k).toNat) ((gcpy mi 153 0 176 413 k.toNat) 153 k.toNat)) 148 44 ((413 + k) + 1)) ml) rfl ?_
        have h9 := ih (k + 1) (by omega) (by omega) (by omega)
        rw [show gu (gcpy mi 153 0 176 413 (k + 1).toNat) 148 44 (413 + (k + 1)) = gu (gu (gu (gcpy mi 153 0 176 413 k.toNat) 148 44 (413 + k)) 176 ((413 + k).toNat) ((gcpy mi 153 0 176 413 k.toNat) 153 k.toNat)) 148 44 ((413 + k) + 1) from ?_] at h9
        · exact h9
        · rw [show (k + 1).toNat = k.toNat + 1 by omega, ← gcpy_s, show (413 + k).toNat = 413 + k.toNat by omega]
          funext b j
          simp only [gu_eq, Nat.zero_add]
          rw [gcpy_off (b := 153) (j := k.toNat) (Or.inl (by decide))]
          (repeat' split) <;> first | rfl | omega | (exfalso; omega)
set_option maxRecDepth 100000 in
set_option maxHeartbeats 4000000 in
theorem cM_mvk153 {G : gG} (hsz : G.2.2.2.2.2.2 = true) {n : Nat} (hn : 1 ≤ n) (mi : Nat → Nat → Int) (ml : Nat → Nat → Int64) (hq : mi 148 44 = 413) : gM G 241 n 0 0 [gr 148, gr 153, gi 4, gi 1] (gw mi ml) (gvd (gw (gu (gcpy mi 153 0 176 413 4) 148 44 417) ml)) := by
  refine gM.of mX12_move okX12_move (gcp 241 (by decide)).1 (gcp 241 (by decide)).2 (Nat.le_of_ble_eq_true rfl) ?_
  refine Go.run hsz hn 2 (pc' := 3) (lv' := [some (gr 148), some (gr 153), some (gi 4), some (gi 1), some (gi 0)]) (st' := []) (M' := gw mi ml) rfl ?_
  have h9 := lM_mvk153 hsz hn mi ml 5 0 (by omega) (by omega) (by omega)
  rw [show gu (gcpy mi 153 0 176 413 (0 : Int).toNat) 148 44 (413 + 0) = mi from ?_] at h9
  · exact h9
  · rw [show (0 : Int).toNat = 0 from rfl, gcpy_0, show ((413 : Int) + 0) = mi 148 44 from hq.symm, gu_id]
set_option maxRecDepth 100000 in
set_option maxHeartbeats 4000000 in
theorem lM_mvk154 {G : gG} (hsz : G.2.2.2.2.2.2 = true) {n : Nat} (hn : 1 ≤ n) (mi : Nat → Nat → Int) (ml : Nat → Nat → Int64)  : ∀ (f : Nat) (k : Int), 0 ≤ k → k ≤ 20 → 20 - k < f → Go G mX12_move n 0 0 3 [some (gr 148), some (gr 154), some (gi 20), some (gi 1), some (gi k)] [] (gw (gu (gcpy mi 154 0 176 417 k.toNat) 148 44 (417 + k)) ml) (gvd (gw (gu (gcpy mi 154 0 176 417 20) 148 44 437) ml)) := by
  have hn1 : 1 ≤ n := by omega

  intro f
  induction f with
  | zero => intros; omega
  | succ f ih =>
    intro k k0 k1 k2
    refine Go.run hsz hn1 2 (pc' := 6) (lv' := [some (gr 148), some (gr 154), some (gi 20), some (gi 1), some (gi k)]) (st' := [gi 20, gi k]) (M' := gw (gu (gcpy mi 154 0 176 417 k.toNat) 148 44 (417 + k)) ml) rfl ?_
    refine Go.icmp_ge (by rfl) ⟨by omega, by omega⟩ ⟨by decide, by decide⟩ (fun kq1 => ?_) (fun kq1 => ?_)
    · obtain rfl : k = 20 := by omega
      exact Go.vret (by rfl) ⟨rfl, rfl⟩
    · refine Go.run hsz hn1 1 (pc' := 10) (lv' := [some (gr 148), some (gr 154), some (gi 20), some (gi 1), some (gi k)]) (st' := [gi 1]) (M' := gw (gu (gcpy mi 154 0 176 417 k.toNat) 148 44 (417 + k)) ml) rfl ?_
      refine Go.if_eq (by rfl) ⟨by decide, by decide⟩ (fun kq2 => ?_) (fun kq2 => ?_)
      · exact absurd kq2 (by decide)
      · refine Go.run hsz hn1 6 (pc' := 24) (lv' := [some (gr 148), some (gr 154), some (gi 20), some (gi 1), some (gi k)]) (st' := [gi k, gr 154, gi (417 + k), gr 176]) (M' := gw (gu (gcpy mi 154 0 176 417 k.toNat) 148 44 (417 + k)) ml) rfl ?_
        refine Go.iald (by rfl) (N := 20) (by rfl) (by omega) (by omega) (by decide) ?_
        refine Go.run hsz hn1 0 (pc' := 25) (lv' := [some (gr 148), some (gr 154), some (gi 20), some (gi 1), some (gi k)]) (st' := [gi ((gu (gcpy mi 154 0 176 417 k.toNat) 148 44 (417 + k)) 154 k.toNat), gi (417 + k), gr 176]) (M' := gw (gu (gcpy mi 154 0 176 417 k.toNat) 148 44 (417 + k)) ml) rfl ?_
        rw [show (gu (gcpy mi 154 0 176 417 k.toNat) 148 44 (417 + k)) 154 k.toNat = (gcpy mi 154 0 176 417 k.toNat) 154 k.toNat from gu_ne (Or.inl (by decide))]
        refine Go.run hsz hn1 0 (pc' := 25) (lv' := [some (gr 148), some (gr 154), some (gi 20), some (gi 1), some (gi k)]) (st' := [gi ((gcpy mi 154 0 176 417 k.toNat) 154 k.toNat), gi (417 + k), gr 176]) (M' := gw (gu (gcpy mi 154 0 176 417 k.toNat) 148 44 (417 + k)) ml) rfl ?_
        refine Go.iast (by rfl) (N := 760) (by rfl) (by omega) (by omega) (by decide) ?_
        refine Go.run hsz hn1 4 (pc' := 47) (lv' := [some (gr 148), some (gr 154), some (gi 20), some (gi 1), some (gi k)]) (st' := [gi ((gu (gu (gcpy mi 154 0 176 417 k.toNat) 148 44 (417 + k)) 176 ((417 + k).toNat) ((gcpy mi 154 0 176 417 k.toNat) 154 k.toNat)) 148 44), gr 148]) (M' := gw (gu (gu (gcpy mi 154 0 176 417 k.toNat) 148 44 (417 + k)) 176 ((417 + k).toNat) ((gcpy mi 154 0 176 417 k.toNat) 154 k.toNat)) ml) rfl ?_
        refine Go.run hsz hn1 0 (pc' := 47) (lv' := [some (gr 148), some (gr 154), some (gi 20), some (gi 1), some (gi k)]) (st' := [gi ((gu (gu (gcpy mi 154 0 176 417 k.toNat) 148 44 (417 + k)) 176 ((417 + k).toNat) ((gcpy mi 154 0 176 417 k.toNat) 154 k.toNat)) 148 44), gr 148]) (M' := gw (gu (gu (gcpy mi 154 0 176 417 k.toNat) 148 44 (417 + k)) 176 ((417 + k).toNat) ((gcpy mi 154 0 176 417 k.toNat) 154 k.toNat)) ml) rfl ?_
        rw [show (gu (gu (gcpy mi 154 0 176 417 k.toNat) 148 44 (417 + k)) 176 ((417 + k).toNat) ((gcpy mi 154 0 176 417 k.toNat) 154 k.toNat)) 148 44 = 417 + k from (gu_ne (Or.inl (by decide))).trans (gu_self _ _ _ _)]
        refine Go.run hsz hn1 5 (pc' := 3) (lv' := [some (gr 148), some (gr 154), some (gi 20), some (gi 1), some (gi (k + 1))]) (st' := []) (M' := gw (gu (gu (gu (gcpy mi 154 0 176 417 k.toNat) 148 44 (417 + k)) 176 ((417 + k).toNat) ((gcpy mi 154 0 176 417 k.toNat) 154 k.toNat)) 148 44 ((417 + k) + 1)) ml) rfl ?_
        have h9 := ih (k + 1) (by omega) (by omega) (by omega)
        rw [show gu (gcpy mi 154 0 176 417 (k + 1).toNat) 148 44 (417 + (k + 1)) = gu (gu (gu (gcpy mi 154 0 176 417 k.toNat) 148 44 (417 + k)) 176 ((417 + k).toNat) ((gcpy mi 154 0 176 417 k.toNat) 154 k.toNat)) 148 44 ((417 + k) + 1) from ?_] at h9
        · exact h9
        · rw [show (k + 1).toNat = k.toNat + 1 by omega, ← gcpy_s, show (417 + k).toNat = 417 + k.toNat by omega]
          funext b j
          simp only [gu_eq, Nat.zero_add]
          rw [gcpy_off (b := 154) (j := k.toNat) (Or.inl (by decide))]
          (repeat' split) <;> first | rfl | omega | (exfalso; omega)
set_option maxRecDepth 100000 in
set_option maxHeartbeats 4000000 in
theorem cM_mvk154 {G : gG} (hsz : G.2.2.2.2.2.2 = true) {n : Nat} (hn : 1 ≤ n) (mi : Nat → Nat → Int) (ml : Nat → Nat → Int64) (hq : mi 148 44 = 417) : gM G 241 n 0 0 [gr 148, gr 154, gi 20, gi 1] (gw mi ml) (gvd (gw (gu (gcpy mi 154 0 176 417 20) 148 44 437) ml)) := by
  refine gM.of mX12_move okX12_move (gcp 241 (by decide)).1 (gcp 241 (by decide)).2 (Nat.le_of_ble_eq_true rfl) ?_
  refine Go.run hsz hn 2 (pc' := 3) (lv' := [some (gr 148), some (gr 154), some (gi 20), some (gi 1), some (gi 0)]) (st' := []) (M' := gw mi ml) rfl ?_
  have h9 := lM_mvk154 hsz hn mi ml 21 0 (by omega) (by omega) (by omega)
  rw [show gu (gcpy mi 154 0 176 417 (0 : Int).toNat) 148 44 (417 + 0) = mi from ?_] at h9
  · exact h9
  · rw [show (0 : Int).toNat = 0 from rfl, gcpy_0, show ((417 : Int) + 0) = mi 148 44 from hq.symm, gu_id]
set_option maxRecDepth 100000 in
set_option maxHeartbeats 4000000 in
theorem lM_mvk155 {G : gG} (hsz : G.2.2.2.2.2.2 = true) {n : Nat} (hn : 1 ≤ n) (mi : Nat → Nat → Int) (ml : Nat → Nat → Int64)  : ∀ (f : Nat) (k : Int), 0 ≤ k → k ≤ 20 → 20 - k < f → Go G mX12_move n 0 0 3 [some (gr 148), some (gr 155), some (gi 20), some (gi 1), some (gi k)] [] (gw (gu (gcpy mi 155 0 176 437 k.toNat) 148 44 (437 + k)) ml) (gvd (gw (gu (gcpy mi 155 0 176 437 20) 148 44 457) ml)) := by
  have hn1 : 1 ≤ n := by omega

  intro f
  induction f with
  | zero => intros; omega
  | succ f ih =>
    intro k k0 k1 k2
    refine Go.run hsz hn1 2 (pc' := 6) (lv' := [some (gr 148), some (gr 155), some (gi 20), some (gi 1), some (gi k)]) (st' := [gi 20, gi k]) (M' := gw (gu (gcpy mi 155 0 176 437 k.toNat) 148 44 (437 + k)) ml) rfl ?_
    refine Go.icmp_ge (by rfl) ⟨by omega, by omega⟩ ⟨by decide, by decide⟩ (fun kq1 => ?_) (fun kq1 => ?_)
    · obtain rfl : k = 20 := by omega
      exact Go.vret (by rfl) ⟨rfl, rfl⟩
    · refine Go.run hsz hn1 1 (pc' := 10) (lv' := [some (gr 148), some (gr 155), some (gi 20), some (gi 1), some (gi k)]) (st' := [gi 1]) (M' := gw (gu (gcpy mi 155 0 176 437 k.toNat) 148 44 (437 + k)) ml) rfl ?_
      refine Go.if_eq (by rfl) ⟨by decide, by decide⟩ (fun kq2 => ?_) (fun kq2 => ?_)
      · exact absurd kq2 (by decide)
      · refine Go.run hsz hn1 6 (pc' := 24) (lv' := [some (gr 148), some (gr 155), some (gi 20), some (gi 1), some (gi k)]) (st' := [gi k, gr 155, gi (437 + k), gr 176]) (M' := gw (gu (gcpy mi 155 0 176 437 k.toNat) 148 44 (437 + k)) ml) rfl ?_
        refine Go.iald (by rfl) (N := 20) (by rfl) (by omega) (by omega) (by decide) ?_
        refine Go.run hsz hn1 0 (pc' := 25) (lv' := [some (gr 148), some (gr 155), some (gi 20), some (gi 1), some (gi k)]) (st' := [gi ((gu (gcpy mi 155 0 176 437 k.toNat) 148 44 (437 + k)) 155 k.toNat), gi (437 + k), gr 176]) (M' := gw (gu (gcpy mi 155 0 176 437 k.toNat) 148 44 (437 + k)) ml) rfl ?_
        rw [show (gu (gcpy mi 155 0 176 437 k.toNat) 148 44 (437 + k)) 155 k.toNat = (gcpy mi 155 0 176 437 k.toNat) 155 k.toNat from gu_ne (Or.inl (by decide))]
        refine Go.run hsz hn1 0 (pc' := 25) (lv' := [some (gr 148), some (gr 155), some (gi 20), some (gi 1), some (gi k)]) (st' := [gi ((gcpy mi 155 0 176 437 k.toNat) 155 k.toNat), gi (437 + k), gr 176]) (M' := gw (gu (gcpy mi 155 0 176 437 k.toNat) 148 44 (437 + k)) ml) rfl ?_
        refine Go.iast (by rfl) (N := 760) (by rfl) (by omega) (by omega) (by decide) ?_
        refine Go.run hsz hn1 4 (pc' := 47) (lv' := [some (gr 148), some (gr 155), some (gi 20), some (gi 1), some (gi k)]) (st' := [gi ((gu (gu (gcpy mi 155 0 176 437 k.toNat) 148 44 (437 + k)) 176 ((437 + k).toNat) ((gcpy mi 155 0 176 437 k.toNat) 155 k.toNat)) 148 44), gr 148]) (M' := gw (gu (gu (gcpy mi 155 0 176 437 k.toNat) 148 44 (437 + k)) 176 ((437 + k).toNat) ((gcpy mi 155 0 176 437 k.toNat) 155 k.toNat)) ml) rfl ?_
        refine Go.run hsz hn1 0 (pc' := 47) (lv' := [some (gr 148), some (gr 155), some (gi 20), some (gi 1), some (gi k)]) (st' := [gi ((gu (gu (gcpy mi 155 0 176 437 k.toNat) 148 44 (437 + k)) 176 ((437 + k).toNat) ((gcpy mi 155 0 176 437 k.toNat) 155 k.toNat)) 148 44), gr 148]) (M' := gw (gu (gu (gcpy mi 155 0 176 437 k.toNat) 148 44 (437 + k)) 176 ((437 + k).toNat) ((gcpy mi 155 0 176 437 k.toNat) 155 k.toNat)) ml) rfl ?_
        rw [show (gu (gu (gcpy mi 155 0 176 437 k.toNat) 148 44 (437 + k)) 176 ((437 + k).toNat) ((gcpy mi 155 0 176 437 k.toNat) 155 k.toNat)) 148 44 = 437 + k from (gu_ne (Or.inl (by decide))).trans (gu_self _ _ _ _)]
        refine Go.run hsz hn1 5 (pc' := 3) (lv' := [some (gr 148), some (gr 155), some (gi 20), some (gi 1), some (gi (k + 1))]) (st' := []) (M' := gw (gu (gu (gu (gcpy mi 155 0 176 437 k.toNat) 148 44 (437 + k)) 176 ((437 + k).toNat) ((gcpy mi 155 0 176 437 k.toNat) 155 k.toNat)) 148 44 ((437 + k) + 1)) ml) rfl ?_
        have h9 := ih (k + 1) (by omega) (by omega) (by omega)
        rw [show gu (gcpy mi 155 0 176 437 (k + 1).toNat) 148 44 (437 + (k + 1)) = gu (gu (gu (gcpy mi 155 0 176 437 k.toNat) 148 44 (437 + k)) 176 ((437 + k).toNat) ((gcpy mi 155 0 176 437 k.toNat) 155 k.toNat)) 148 44 ((437 + k) + 1) from ?_] at h9
        · exact h9
        · rw [show (k + 1).toNat = k.toNat + 1 by omega, ← gcpy_s, show (437 + k).toNat = 437 + k.toNat by omega]
          funext b j
          simp only [gu_eq, Nat.zero_add]
          rw [gcpy_off (b := 155) (j := k.toNat) (Or.inl (by decide))]
          (repeat' split) <;> first | rfl | omega | (exfalso; omega)
set_option maxRecDepth 100000 in
set_option maxHeartbeats 4000000 in
theorem cM_mvk155 {G : gG} (hsz : G.2.2.2.2.2.2 = true) {n : Nat} (hn : 1 ≤ n) (mi : Nat → Nat → Int) (ml : Nat → Nat → Int64) (hq : mi 148 44 = 437) : gM G 241 n 0 0 [gr 148, gr 155, gi 20, gi 1] (gw mi ml) (gvd (gw (gu (gcpy mi 155 0 176 437 20) 148 44 457) ml)) := by
  refine gM.of mX12_move okX12_move (gcp 241 (by decide)).1 (gcp 241 (by decide)).2 (Nat.le_of_ble_eq_true rfl) ?_
  refine Go.run hsz hn 2 (pc' := 3) (lv' := [some (gr 148), some (gr 155), some (gi 20), some (gi 1), some (gi 0)]) (st' := []) (M' := gw mi ml) rfl ?_
  have h9 := lM_mvk155 hsz hn mi ml 21 0 (by omega) (by omega) (by omega)
  rw [show gu (gcpy mi 155 0 176 437 (0 : Int).toNat) 148 44 (437 + 0) = mi from ?_] at h9
  · exact h9
  · rw [show (0 : Int).toNat = 0 from rfl, gcpy_0, show ((437 : Int) + 0) = mi 148 44 from hq.symm, gu_id]
set_option maxRecDepth 100000 in
set_option maxHeartbeats 4000000 in
theorem lM_mvk156 {G : gG} (hsz : G.2.2.2.2.2.2 = true) {n : Nat} (hn : 1 ≤ n) (mi : Nat → Nat → Int) (ml : Nat → Nat → Int64)  : ∀ (f : Nat) (k : Int), 0 ≤ k → k ≤ 10 → 10 - k < f → Go G mX12_move n 0 0 3 [some (gr 148), some (gr 156), some (gi 10), some (gi 1), some (gi k)] [] (gw (gu (gcpy mi 156 0 176 457 k.toNat) 148 44 (457 + k)) ml) (gvd (gw (gu (gcpy mi 156 0 176 457 10) 148 44 467) ml)) := by
  have hn1 : 1 ≤ n := by omega

  intro f
  induction f with
  | zero => intros; omega
  | succ f ih =>
    intro k k0 k1 k2
    refine Go.run hsz hn1 2 (pc' := 6) (lv' := [some (gr 148), some (gr 156), some (gi 10), some (gi 1), some (gi k)]) (st' := [gi 10, gi k]) (M' := gw (gu (gcpy mi 156 0 176 457 k.toNat) 148 44 (457 + k)) ml) rfl ?_
    refine Go.icmp_ge (by rfl) ⟨by omega, by omega⟩ ⟨by decide, by decide⟩ (fun kq1 => ?_) (fun kq1 => ?_)
    · obtain rfl : k = 10 := by omega
      exact Go.vret (by rfl) ⟨rfl, rfl⟩
    · refine Go.run hsz hn1 1 (pc' := 10) (lv' := [some (gr 148), some (gr 156), some (gi 10), some (gi 1), some (gi k)]) (st' := [gi 1]) (M' := gw (gu (gcpy mi 156 0 176 457 k.toNat) 148 44 (457 + k)) ml) rfl ?_
      refine Go.if_eq (by rfl) ⟨by decide, by decide⟩ (fun kq2 => ?_) (fun kq2 => ?_)
      · exact absurd kq2 (by decide)
      · refine Go.run hsz hn1 6 (pc' := 24) (lv' := [some (gr 148), some (gr 156), some (gi 10), some (gi 1), some (gi k)]) (st' := [gi k, gr 156, gi (457 + k), gr 176]) (M' := gw (gu (gcpy mi 156 0 176 457 k.toNat) 148 44 (457 + k)) ml) rfl ?_
        refine Go.iald (by rfl) (N := 10) (by rfl) (by omega) (by omega) (by decide) ?_
        refine Go.run hsz hn1 0 (pc' := 25) (lv' := [some (gr 148), some (gr 156), some (gi 10), some (gi 1), some (gi k)]) (st' := [gi ((gu (gcpy mi 156 0 176 457 k.toNat) 148 44 (457 + k)) 156 k.toNat), gi (457 + k), gr 176]) (M' := gw (gu (gcpy mi 156 0 176 457 k.toNat) 148 44 (457 + k)) ml) rfl ?_
        rw [show (gu (gcpy mi 156 0 176 457 k.toNat) 148 44 (457 + k)) 156 k.toNat = (gcpy mi 156 0 176 457 k.toNat) 156 k.toNat from gu_ne (Or.inl (by decide))]
        refine Go.run hsz hn1 0 (pc' := 25) (lv' := [some (gr 148), some (gr 156), some (gi 10), some (gi 1), some (gi k)]) (st' := [gi ((gcpy mi 156 0 176 457 k.toNat) 156 k.toNat), gi (457 + k), gr 176]) (M' := gw (gu (gcpy mi 156 0 176 457 k.toNat) 148 44 (457 + k)) ml) rfl ?_
        refine Go.iast (by rfl) (N := 760) (by rfl) (by omega) (by omega) (by decide) ?_
        refine Go.run hsz hn1 4 (pc' := 47) (lv' := [some (gr 148), some (gr 156), some (gi 10), some (gi 1), some (gi k)]) (st' := [gi ((gu (gu (gcpy mi 156 0 176 457 k.toNat) 148 44 (457 + k)) 176 ((457 + k).toNat) ((gcpy mi 156 0 176 457 k.toNat) 156 k.toNat)) 148 44), gr 148]) (M' := gw (gu (gu (gcpy mi 156 0 176 457 k.toNat) 148 44 (457 + k)) 176 ((457 + k).toNat) ((gcpy mi 156 0 176 457 k.toNat) 156 k.toNat)) ml) rfl ?_
        refine Go.run hsz hn1 0 (pc' := 47) (lv' := [some (gr 148), some (gr 156), some (gi 10), some (gi 1), some (gi k)]) (st' := [gi ((gu (gu (gcpy mi 156 0 176 457 k.toNat) 148 44 (457 + k)) 176 ((457 + k).toNat) ((gcpy mi 156 0 176 457 k.toNat) 156 k.toNat)) 148 44), gr 148]) (M' := gw (gu (gu (gcpy mi 156 0 176 457 k.toNat) 148 44 (457 + k)) 176 ((457 + k).toNat) ((gcpy mi 156 0 176 457 k.toNat) 156 k.toNat)) ml) rfl ?_
        rw [show (gu (gu (gcpy mi 156 0 176 457 k.toNat) 148 44 (457 + k)) 176 ((457 + k).toNat) ((gcpy mi 156 0 176 457 k.toNat) 156 k.toNat)) 148 44 = 457 + k from (gu_ne (Or.inl (by decide))).trans (gu_self _ _ _ _)]
        refine Go.run hsz hn1 5 (pc' := 3) (lv' := [some (gr 148), some (gr 156), some (gi 10), some (gi 1), some (gi (k + 1))]) (st' := []) (M' := gw (gu (gu (gu (gcpy mi 156 0 176 457 k.toNat) 148 44 (457 + k)) 176 ((457 + k).toNat) ((gcpy mi 156 0 176 457 k.toNat) 156 k.toNat)) 148 44 ((457 + k) + 1)) ml) rfl ?_
        have h9 := ih (k + 1) (by omega) (by omega) (by omega)
        rw [show gu (gcpy mi 156 0 176 457 (k + 1).toNat) 148 44 (457 + (k + 1)) = gu (gu (gu (gcpy mi 156 0 176 457 k.toNat) 148 44 (457 + k)) 176 ((457 + k).toNat) ((gcpy mi 156 0 176 457 k.toNat) 156 k.toNat)) 148 44 ((457 + k) + 1) from ?_] at h9
        · exact h9
        · rw [show (k + 1).toNat = k.toNat + 1 by omega, ← gcpy_s, show (457 + k).toNat = 457 + k.toNat by omega]
          funext b j
          simp only [gu_eq, Nat.zero_add]
          rw [gcpy_off (b := 156) (j := k.toNat) (Or.inl (by decide))]
          (repeat' split) <;> first | rfl | omega | (exfalso; omega)
set_option maxRecDepth 100000 in
set_option maxHeartbeats 4000000 in
theorem cM_mvk156 {G : gG} (hsz : G.2.2.2.2.2.2 = true) {n : Nat} (hn : 1 ≤ n) (mi : Nat → Nat → Int) (ml : Nat → Nat → Int64) (hq : mi 148 44 = 457) : gM G 241 n 0 0 [gr 148, gr 156, gi 10, gi 1] (gw mi ml) (gvd (gw (gu (gcpy mi 156 0 176 457 10) 148 44 467) ml)) := by
  refine gM.of mX12_move okX12_move (gcp 241 (by decide)).1 (gcp 241 (by decide)).2 (Nat.le_of_ble_eq_true rfl) ?_
  refine Go.run hsz hn 2 (pc' := 3) (lv' := [some (gr 148), some (gr 156), some (gi 10), some (gi 1), some (gi 0)]) (st' := []) (M' := gw mi ml) rfl ?_
  have h9 := lM_mvk156 hsz hn mi ml 11 0 (by omega) (by omega) (by omega)
  rw [show gu (gcpy mi 156 0 176 457 (0 : Int).toNat) 148 44 (457 + 0) = mi from ?_] at h9
  · exact h9
  · rw [show (0 : Int).toNat = 0 from rfl, gcpy_0, show ((457 : Int) + 0) = mi 148 44 from hq.symm, gu_id]
set_option maxRecDepth 100000 in
set_option maxHeartbeats 4000000 in
theorem lM_mvk157 {G : gG} (hsz : G.2.2.2.2.2.2 = true) {n : Nat} (hn : 1 ≤ n) (mi : Nat → Nat → Int) (ml : Nat → Nat → Int64)  : ∀ (f : Nat) (k : Int), 0 ≤ k → k ≤ 2 → 2 - k < f → Go G mX12_move n 0 0 3 [some (gr 148), some (gr 157), some (gi 2), some (gi 1), some (gi k)] [] (gw (gu (gcpy mi 157 0 176 467 k.toNat) 148 44 (467 + k)) ml) (gvd (gw (gu (gcpy mi 157 0 176 467 2) 148 44 469) ml)) := by
  have hn1 : 1 ≤ n := by omega

  intro f
  induction f with
  | zero => intros; omega
  | succ f ih =>
    intro k k0 k1 k2
    refine Go.run hsz hn1 2 (pc' := 6) (lv' := [some (gr 148), some (gr 157), some (gi 2), some (gi 1), some (gi k)]) (st' := [gi 2, gi k]) (M' := gw (gu (gcpy mi 157 0 176 467 k.toNat) 148 44 (467 + k)) ml) rfl ?_
    refine Go.icmp_ge (by rfl) ⟨by omega, by omega⟩ ⟨by decide, by decide⟩ (fun kq1 => ?_) (fun kq1 => ?_)
    · obtain rfl : k = 2 := by omega
      exact Go.vret (by rfl) ⟨rfl, rfl⟩
    · refine Go.run hsz hn1 1 (pc' := 10) (lv' := [some (gr 148), some (gr 157), some (gi 2), some (gi 1), some (gi k)]) (st' := [gi 1]) (M' := gw (gu (gcpy mi 157 0 176 467 k.toNat) 148 44 (467 + k)) ml) rfl ?_
      refine Go.if_eq (by rfl) ⟨by decide, by decide⟩ (fun kq2 => ?_) (fun kq2 => ?_)
      · exact absurd kq2 (by decide)
      · refine Go.run hsz hn1 6 (pc' := 24) (lv' := [some (gr 148), some (gr 157), some (gi 2), some (gi 1), some (gi k)]) (st' := [gi k, gr 157, gi (467 + k), gr 176]) (M' := gw (gu (gcpy mi 157 0 176 467 k.toNat) 148 44 (467 + k)) ml) rfl ?_
        refine Go.iald (by rfl) (N := 2) (by rfl) (by omega) (by omega) (by decide) ?_
        refine Go.run hsz hn1 0 (pc' := 25) (lv' := [some (gr 148), some (gr 157), some (gi 2), some (gi 1), some (gi k)]) (st' := [gi ((gu (gcpy mi 157 0 176 467 k.toNat) 148 44 (467 + k)) 157 k.toNat), gi (467 + k), gr 176]) (M' := gw (gu (gcpy mi 157 0 176 467 k.toNat) 148 44 (467 + k)) ml) rfl ?_
        rw [show (gu (gcpy mi 157 0 176 467 k.toNat) 148 44 (467 + k)) 157 k.toNat = (gcpy mi 157 0 176 467 k.toNat) 157 k.toNat from gu_ne (Or.inl (by decide))]
        refine Go.run hsz hn1 0 (pc' := 25) (lv' := [some (gr 148), some (gr 157), some (gi 2), some (gi 1), some (gi k)]) (st' := [gi ((gcpy mi 157 0 176 467 k.toNat) 157 k.toNat), gi (467 + k), gr 176]) (M' := gw (gu (gcpy mi 157 0 176 467 k.toNat) 148 44 (467 + k)) ml) rfl ?_
        refine Go.iast (by rfl) (N := 760) (by rfl) (by omega) (by omega) (by decide) ?_
        refine Go.run hsz hn1 4 (pc' := 47) (lv' := [some (gr 148), some (gr 157), some (gi 2), some (gi 1), some (gi k)]) (st' := [gi ((gu (gu (gcpy mi 157 0 176 467 k.toNat) 148 44 (467 + k)) 176 ((467 + k).toNat) ((gcpy mi 157 0 176 467 k.toNat) 157 k.toNat)) 148 44), gr 148]) (M' := gw (gu (gu (gcpy mi 157 0 176 467 k.toNat) 148 44 (467 + k)) 176 ((467 + k).toNat) ((gcpy mi 157 0 176 467 k.toNat) 157 k.toNat)) ml) rfl ?_
        refine Go.run hsz hn1 0 (pc' := 47) (lv' := [some (gr 148), some (gr 157), some (gi 2), some (gi 1), some (gi k)]) (st' := [gi ((gu (gu (gcpy mi 157 0 176 467 k.toNat) 148 44 (467 + k)) 176 ((467 + k).toNat) ((gcpy mi 157 0 176 467 k.toNat) 157 k.toNat)) 148 44), gr 148]) (M' := gw (gu (gu (gcpy mi 157 0 176 467 k.toNat) 148 44 (467 + k)) 176 ((467 + k).toNat) ((gcpy mi 157 0 176 467 k.toNat) 157 k.toNat)) ml) rfl ?_
        rw [show (gu (gu (gcpy mi 157 0 176 467 k.toNat) 148 44 (467 + k)) 176 ((467 + k).toNat) ((gcpy mi 157 0 176 467 k.toNat) 157 k.toNat)) 148 44 = 467 + k from (gu_ne (Or.inl (by decide))).trans (gu_self _ _ _ _)]
        refine Go.run hsz hn1 5 (pc' := 3) (lv' := [some (gr 148), some (gr 157), some (gi 2), some (gi 1), some (gi (k + 1))]) (st' := []) (M' := gw (gu (gu (gu (gcpy mi 157 0 176 467 k.toNat) 148 44 (467 + k)) 176 ((467 + k).toNat) ((gcpy mi 157 0 176 467 k.toNat) 157 k.toNat)) 148 44 ((467 + k) + 1)) ml) rfl ?_
        have h9 := ih (k + 1) (by omega) (by omega) (by omega)
        rw [show gu (gcpy mi 157 0 176 467 (k + 1).toNat) 148 44 (467 + (k + 1)) = gu (gu (gu (gcpy mi 157 0 176 467 k.toNat) 148 44 (467 + k)) 176 ((467 + k).toNat) ((gcpy mi 157 0 176 467 k.toNat) 157 k.toNat)) 148 44 ((467 + k) + 1) from ?_] at h9
        · exact h9
        · rw [show (k + 1).toNat = k.toNat + 1 by omega, ← gcpy_s, show (467 + k).toNat = 467 + k.toNat by omega]
          funext b j
          simp only [gu_eq, Nat.zero_add]
          rw [gcpy_off (b := 157) (j := k.toNat) (Or.inl (by decide))]
          (repeat' split) <;> first | rfl | omega | (exfalso; omega)
set_option maxRecDepth 100000 in
set_option maxHeartbeats 4000000 in
theorem cM_mvk157 {G : gG} (hsz : G.2.2.2.2.2.2 = true) {n : Nat} (hn : 1 ≤ n) (mi : Nat → Nat → Int) (ml : Nat → Nat → Int64) (hq : mi 148 44 = 467) : gM G 241 n 0 0 [gr 148, gr 157, gi 2, gi 1] (gw mi ml) (gvd (gw (gu (gcpy mi 157 0 176 467 2) 148 44 469) ml)) := by
  refine gM.of mX12_move okX12_move (gcp 241 (by decide)).1 (gcp 241 (by decide)).2 (Nat.le_of_ble_eq_true rfl) ?_
  refine Go.run hsz hn 2 (pc' := 3) (lv' := [some (gr 148), some (gr 157), some (gi 2), some (gi 1), some (gi 0)]) (st' := []) (M' := gw mi ml) rfl ?_
  have h9 := lM_mvk157 hsz hn mi ml 3 0 (by omega) (by omega) (by omega)
  rw [show gu (gcpy mi 157 0 176 467 (0 : Int).toNat) 148 44 (467 + 0) = mi from ?_] at h9
  · exact h9
  · rw [show (0 : Int).toNat = 0 from rfl, gcpy_0, show ((467 : Int) + 0) = mi 148 44 from hq.symm, gu_id]
set_option maxRecDepth 100000 in
set_option maxHeartbeats 4000000 in
theorem lM_mvk158 {G : gG} (hsz : G.2.2.2.2.2.2 = true) {n : Nat} (hn : 1 ≤ n) (mi : Nat → Nat → Int) (ml : Nat → Nat → Int64)  : ∀ (f : Nat) (k : Int), 0 ≤ k → k ≤ 240 → 240 - k < f → Go G mX12_move n 0 0 3 [some (gr 148), some (gr 158), some (gi 240), some (gi 1), some (gi k)] [] (gw (gu (gcpy mi 158 0 176 469 k.toNat) 148 44 (469 + k)) ml) (gvd (gw (gu (gcpy mi 158 0 176 469 240) 148 44 709) ml)) := by
  have hn1 : 1 ≤ n := by omega

  intro f
  induction f with
  | zero => intros; omega
  | succ f ih =>
    intro k k0 k1 k2
    refine Go.run hsz hn1 2 (pc' := 6) (lv' := [some (gr 148), some (gr 158), some (gi 240), some (gi 1), some (gi k)]) (st' := [gi 240, gi k]) (M' := gw (gu (gcpy mi 158 0 176 469 k.toNat) 148 44 (469 + k)) ml) rfl ?_
    refine Go.icmp_ge (by rfl) ⟨by omega, by omega⟩ ⟨by decide, by decide⟩ (fun kq1 => ?_) (fun kq1 => ?_)
    · obtain rfl : k = 240 := by omega
      exact Go.vret (by rfl) ⟨rfl, rfl⟩
    · refine Go.run hsz hn1 1 (pc' := 10) (lv' := [some (gr 148), some (gr 158), some (gi 240), some (gi 1), some (gi k)]) (st' := [gi 1]) (M' := gw (gu (gcpy mi 158 0 176 469 k.toNat) 148 44 (469 + k)) ml) rfl ?_
      refine Go.if_eq (by rfl) ⟨by decide, by decide⟩ (fun kq2 => ?_) (fun kq2 => ?_)
      · exact absurd kq2 (by decide)
      · refine Go.run hsz hn1 6 (pc' := 24) (lv' := [some (gr 148), some (gr 158), some (gi 240), some (gi 1), some (gi k)]) (st' := [gi k, gr 158, gi (469 + k), gr 176]) (M' := gw (gu (gcpy mi 158 0 176 469 k.toNat) 148 44 (469 + k)) ml) rfl ?_
        refine Go.iald (by rfl) (N := 240) (by rfl) (by omega) (by omega) (by decide) ?_
        refine Go.run hsz hn1 0 (pc' := 25) (lv' := [some (gr 148), some (gr 158), some (gi 240), some (gi 1), some (gi k)]) (st' := [gi ((gu (gcpy mi 158 0 176 469 k.toNat) 148 44 (469 + k)) 158 k.toNat), gi (469 + k), gr 176]) (M' := gw (gu (gcpy mi 158 0 176 469 k.toNat) 148 44 (469 + k)) ml) rfl ?_
        rw [show (gu (gcpy mi 158 0 176 469 k.toNat) 148 44 (469 + k)) 158 k.toNat = (gcpy mi 158 0 176 469 k.toNat) 158 k.toNat from gu_ne (Or.inl (by decide))]
        refine Go.run hsz hn1 0 (pc' := 25) (lv' := [some (gr 148), some (gr 158), some (gi 240), some (gi 1), some (gi k)]) (st' := [gi ((gcpy mi 158 0 176 469 k.toNat) 158 k.toNat), gi (469 + k), gr 176]) (M' := gw (gu (gcpy mi 158 0 176 469 k.toNat) 148 44 (469 + k)) ml) rfl ?_
        refine Go.iast (by rfl) (N := 760) (by rfl) (by omega) (by omega) (by decide) ?_
        refine Go.run hsz hn1 4 (pc' := 47) (lv' := [some (gr 148), some (gr 158), some (gi 240), some (gi 1), some (gi k)]) (st' := [gi ((gu (gu (gcpy mi 158 0 176 469 k.toNat) 148 44 (469 + k)) 176 ((469 + k).toNat) ((gcpy mi 158 0 176 469 k.toNat) 158 k.toNat)) 148 44), gr 148]) (M' := gw (gu (gu (gcpy mi 158 0 176 469 k.toNat) 148 44 (469 + k)) 176 ((469 + k).toNat) ((gcpy mi 158 0 176 469 k.toNat) 158 k.toNat)) ml) rfl ?_
        refine Go.run hsz hn1 0 (pc' := 47) (lv' := [some (gr 148), some (gr 158), some (gi 240), some (gi 1), some (gi k)]) (st' := [gi ((gu (gu (gcpy mi 158 0 176 469 k.toNat) 148 44 (469 + k)) 176 ((469 + k).toNat) ((gcpy mi 158 0 176 469 k.toNat) 158 k.toNat)) 148 44), gr 148]) (M' := gw (gu (gu (gcpy mi 158 0 176 469 k.toNat) 148 44 (469 + k)) 176 ((469 + k).toNat) ((gcpy mi 158 0 176 469 k.toNat) 158 k.toNat)) ml) rfl ?_
        rw [show (gu (gu (gcpy mi 158 0 176 469 k.toNat) 148 44 (469 + k)) 176 ((469 + k).toNat) ((gcpy mi 158 0 176 469 k.toNat) 158 k.toNat)) 148 44 = 469 + k from (gu_ne (Or.inl (by decide))).trans (gu_self _ _ _ _)]
        refine Go.run hsz hn1 5 (pc' := 3) (lv' := [some (gr 148), some (gr 158), some (gi 240), some (gi 1), some (gi (k + 1))]) (st' := []) (M' := gw (gu (gu (gu (gcpy mi 158 0 176 469 k.toNat) 148 44 (469 + k)) 176 ((469 + k).toNat) ((gcpy mi 158 0 176 469 k.toNat) 158 k.toNat)) 148 44 ((469 + k) + 1)) ml) rfl ?_
        have h9 := ih (k + 1) (by omega) (by omega) (by omega)
        rw [show gu (gcpy mi 158 0 176 469 (k + 1).toNat) 148 44 (469 + (k + 1)) = gu (gu (gu (gcpy mi 158 0 176 469 k.toNat) 148 44 (469 + k)) 176 ((469 + k).toNat) ((gcpy mi 158 0 176 469 k.toNat) 158 k.toNat)) 148 44 ((469 + k) + 1) from ?_] at h9
        · exact h9
        · rw [show (k + 1).toNat = k.toNat + 1 by omega, ← gcpy_s, show (469 + k).toNat = 469 + k.toNat by omega]
          funext b j
          simp only [gu_eq, Nat.zero_add]
          rw [gcpy_off (b := 158) (j := k.toNat) (Or.inl (by decide))]
          (repeat' split) <;> first | rfl | omega | (exfalso; omega)
set_option maxRecDepth 100000 in
set_option maxHeartbeats 4000000 in
theorem cM_mvk158 {G : gG} (hsz : G.2.2.2.2.2.2 = true) {n : Nat} (hn : 1 ≤ n) (mi : Nat → Nat → Int) (ml : Nat → Nat → Int64) (hq : mi 148 44 = 469) : gM G 241 n 0 0 [gr 148, gr 158, gi 240, gi 1] (gw mi ml) (gvd (gw (gu (gcpy mi 158 0 176 469 240) 148 44 709) ml)) := by
  refine gM.of mX12_move okX12_move (gcp 241 (by decide)).1 (gcp 241 (by decide)).2 (Nat.le_of_ble_eq_true rfl) ?_
  refine Go.run hsz hn 2 (pc' := 3) (lv' := [some (gr 148), some (gr 158), some (gi 240), some (gi 1), some (gi 0)]) (st' := []) (M' := gw mi ml) rfl ?_
  have h9 := lM_mvk158 hsz hn mi ml 241 0 (by omega) (by omega) (by omega)
  rw [show gu (gcpy mi 158 0 176 469 (0 : Int).toNat) 148 44 (469 + 0) = mi from ?_] at h9
  · exact h9
  · rw [show (0 : Int).toNat = 0 from rfl, gcpy_0, show ((469 : Int) + 0) = mi 148 44 from hq.symm, gu_id]
set_option maxRecDepth 100000 in
set_option maxHeartbeats 4000000 in
theorem lM_mvu177 {G : gG} (hsz : G.2.2.2.2.2.2 = true) {n : Nat} (hn : 1 ≤ n) (mi : Nat → Nat → Int) (ml : Nat → Nat → Int64)  : ∀ (f : Nat) (k : Int), 0 ≤ k → k ≤ 5 → 5 - k < f → Go G mX12_move n 0 0 3 [some (gr 148), some (gr 177), some (gi 5), some (gi 0), some (gi k)] [] (gw (gu (gcpy mi 176 0 177 0 k.toNat) 148 44 (0 + k)) ml) (gvd (gw (gu (gcpy mi 176 0 177 0 5) 148 44 5) ml)) := by
  have hn1 : 1 ≤ n := by omega

  intro f
  induction f with
  | zero => intros; omega
  | succ f ih =>
    intro k k0 k1 k2
    refine Go.run hsz hn1 2 (pc' := 6) (lv' := [some (gr 148), some (gr 177), some (gi 5), some (gi 0), some (gi k)]) (st' := [gi 5, gi k]) (M' := gw (gu (gcpy mi 176 0 177 0 k.toNat) 148 44 (0 + k)) ml) rfl ?_
    refine Go.icmp_ge (by rfl) ⟨by omega, by omega⟩ ⟨by decide, by decide⟩ (fun kq1 => ?_) (fun kq1 => ?_)
    · obtain rfl : k = 5 := by omega
      exact Go.vret (by rfl) ⟨rfl, rfl⟩
    · refine Go.run hsz hn1 1 (pc' := 10) (lv' := [some (gr 148), some (gr 177), some (gi 5), some (gi 0), some (gi k)]) (st' := [gi 0]) (M' := gw (gu (gcpy mi 176 0 177 0 k.toNat) 148 44 (0 + k)) ml) rfl ?_
      refine Go.if_eq (by rfl) ⟨by decide, by decide⟩ (fun kq2 => ?_) (fun kq2 => ?_)
      · refine Go.run hsz hn1 6 (pc' := 40) (lv' := [some (gr 148), some (gr 177), some (gi 5), some (gi 0), some (gi k)]) (st' := [gi (0 + k), gr 176, gi k, gr 177]) (M' := gw (gu (gcpy mi 176 0 177 0 k.toNat) 148 44 (0 + k)) ml) rfl ?_
        refine Go.iald (by rfl) (N := 760) (by rfl) (by omega) (by omega) (by decide) ?_
        refine Go.run hsz hn1 0 (pc' := 41) (lv' := [some (gr 148), some (gr 177), some (gi 5), some (gi 0), some (gi k)]) (st' := [gi ((gu (gcpy mi 176 0 177 0 k.toNat) 148 44 (0 + k)) 176 ((0 + k).toNat)), gi k, gr 177]) (M' := gw (gu (gcpy mi 176 0 177 0 k.toNat) 148 44 (0 + k)) ml) rfl ?_
        rw [show (gu (gcpy mi 176 0 177 0 k.toNat) 148 44 (0 + k)) 176 ((0 + k).toNat) = (gcpy mi 176 0 177 0 k.toNat) 176 ((0 + k).toNat) from gu_ne (Or.inl (by decide))]
        refine Go.run hsz hn1 0 (pc' := 41) (lv' := [some (gr 148), some (gr 177), some (gi 5), some (gi 0), some (gi k)]) (st' := [gi ((gcpy mi 176 0 177 0 k.toNat) 176 ((0 + k).toNat)), gi k, gr 177]) (M' := gw (gu (gcpy mi 176 0 177 0 k.toNat) 148 44 (0 + k)) ml) rfl ?_
        refine Go.iast (by rfl) (N := 5) (by rfl) (by omega) (by omega) (by decide) ?_
        refine Go.run hsz hn1 3 (pc' := 47) (lv' := [some (gr 148), some (gr 177), some (gi 5), some (gi 0), some (gi k)]) (st' := [gi ((gu (gu (gcpy mi 176 0 177 0 k.toNat) 148 44 (0 + k)) 177 k.toNat ((gcpy mi 176 0 177 0 k.toNat) 176 ((0 + k).toNat))) 148 44), gr 148]) (M' := gw (gu (gu (gcpy mi 176 0 177 0 k.toNat) 148 44 (0 + k)) 177 k.toNat ((gcpy mi 176 0 177 0 k.toNat) 176 ((0 + k).toNat))) ml) rfl ?_
        refine Go.run hsz hn1 0 (pc' := 47) (lv' := [some (gr 148), some (gr 177), some (gi 5), some (gi 0), some (gi k)]) (st' := [gi ((gu (gu (gcpy mi 176 0 177 0 k.toNat) 148 44 (0 + k)) 177 k.toNat ((gcpy mi 176 0 177 0 k.toNat) 176 ((0 + k).toNat))) 148 44), gr 148]) (M' := gw (gu (gu (gcpy mi 176 0 177 0 k.toNat) 148 44 (0 + k)) 177 k.toNat ((gcpy mi 176 0 177 0 k.toNat) 176 ((0 + k).toNat))) ml) rfl ?_
        rw [show (gu (gu (gcpy mi 176 0 177 0 k.toNat) 148 44 (0 + k)) 177 k.toNat ((gcpy mi 176 0 177 0 k.toNat) 176 ((0 + k).toNat))) 148 44 = 0 + k from (gu_ne (Or.inl (by decide))).trans (gu_self _ _ _ _)]
        refine Go.run hsz hn1 5 (pc' := 3) (lv' := [some (gr 148), some (gr 177), some (gi 5), some (gi 0), some (gi (k + 1))]) (st' := []) (M' := gw (gu (gu (gu (gcpy mi 176 0 177 0 k.toNat) 148 44 (0 + k)) 177 k.toNat ((gcpy mi 176 0 177 0 k.toNat) 176 ((0 + k).toNat))) 148 44 ((0 + k) + 1)) ml) rfl ?_
        have h9 := ih (k + 1) (by omega) (by omega) (by omega)
        rw [show gu (gcpy mi 176 0 177 0 (k + 1).toNat) 148 44 (0 + (k + 1)) = gu (gu (gu (gcpy mi 176 0 177 0 k.toNat) 148 44 (0 + k)) 177 k.toNat ((gcpy mi 176 0 177 0 k.toNat) 176 ((0 + k).toNat))) 148 44 ((0 + k) + 1) from ?_] at h9
        · exact h9
        · rw [show (k + 1).toNat = k.toNat + 1 by omega, ← gcpy_s, show (0 + k).toNat = 0 + k.toNat by omega]
          funext b j
          simp only [gu_eq, Nat.zero_add]
          rw [gcpy_off (b := 176) (j := k.toNat) (Or.inl (by decide))]
          (repeat' split) <;> first | rfl | omega | (exfalso; omega)
      · exact absurd kq2 (by decide)
set_option maxRecDepth 100000 in
set_option maxHeartbeats 4000000 in
theorem cM_mvu177 {G : gG} (hsz : G.2.2.2.2.2.2 = true) {n : Nat} (hn : 1 ≤ n) (mi : Nat → Nat → Int) (ml : Nat → Nat → Int64) (hq : mi 148 44 = 0) : gM G 241 n 0 0 [gr 148, gr 177, gi 5, gi 0] (gw mi ml) (gvd (gw (gu (gcpy mi 176 0 177 0 5) 148 44 5) ml)) := by
  refine gM.of mX12_move okX12_move (gcp 241 (by decide)).1 (gcp 241 (by decide)).2 (Nat.le_of_ble_eq_true rfl) ?_
  refine Go.run hsz hn 2 (pc' := 3) (lv' := [some (gr 148), some (gr 177), some (gi 5), some (gi 0), some (gi 0)]) (st' := []) (M' := gw mi ml) rfl ?_
  have h9 := lM_mvu177 hsz hn mi ml 6 0 (by omega) (by omega) (by omega)
  rw [show gu (gcpy mi 176 0 177 0 (0 : Int).toNat) 148 44 (0 + 0) = mi from ?_] at h9
  · exact h9
  · rw [show (0 : Int).toNat = 0 from rfl, gcpy_0, show ((0 : Int) + 0) = mi 148 44 from hq.symm, gu_id]
set_option maxRecDepth 100000 in
set_option maxHeartbeats 4000000 in
theorem lM_mvu149 {G : gG} (hsz : G.2.2.2.2.2.2 = true) {n : Nat} (hn : 1 ≤ n) (mi : Nat → Nat → Int) (ml : Nat → Nat → Int64)  : ∀ (f : Nat) (k : Int), 0 ≤ k → k ≤ 96 → 96 - k < f → Go G mX12_move n 0 0 3 [some (gr 148), some (gr 149), some (gi 96), some (gi 0), some (gi k)] [] (gw (gu (gcpy mi 176 5 149 0 k.toNat) 148 44 (5 + k)) ml) (gvd (gw (gu (gcpy mi 176 5 149 0 96) 148 44 101) ml)) := by
  have hn1 : 1 ≤ n := by omega

  intro f
  induction f with
  | zero => intros; omega
  | succ f ih =>
    intro k k0 k1 k2
    refine Go.run hsz hn1 2 (pc' := 6) (lv' := [some (gr 148), some (gr 149), some (gi 96), some (gi 0), some (gi k)]) (st' := [gi 96, gi k]) (M' := gw (gu (gcpy mi 176 5 149 0 k.toNat) 148 44 (5 + k)) ml) rfl ?_
    refine Go.icmp_ge (by rfl) ⟨by omega, by omega⟩ ⟨by decide, by decide⟩ (fun kq1 => ?_) (fun kq1 => ?_)
    · obtain rfl : k = 96 := by omega
      exact Go.vret (by rfl) ⟨rfl, rfl⟩
    · refine Go.run hsz hn1 1 (pc' := 10) (lv' := [some (gr 148), some (gr 149), some (gi 96), some (gi 0), some (gi k)]) (st' := [gi 0]) (M' := gw (gu (gcpy mi 176 5 149 0 k.toNat) 148 44 (5 + k)) ml) rfl ?_
      refine Go.if_eq (by rfl) ⟨by decide, by decide⟩ (fun kq2 => ?_) (fun kq2 => ?_)
      · refine Go.run hsz hn1 6 (pc' := 40) (lv' := [some (gr 148), some (gr 149), some (gi 96), some (gi 0), some (gi k)]) (st' := [gi (5 + k), gr 176, gi k, gr 149]) (M' := gw (gu (gcpy mi 176 5 149 0 k.toNat) 148 44 (5 + k)) ml) rfl ?_
        refine Go.iald (by rfl) (N := 760) (by rfl) (by omega) (by omega) (by decide) ?_
        refine Go.run hsz hn1 0 (pc' := 41) (lv' := [some (gr 148), some (gr 149), some (gi 96), some (gi 0), some (gi k)]) (st' := [gi ((gu (gcpy mi 176 5 149 0 k.toNat) 148 44 (5 + k)) 176 ((5 + k).toNat)), gi k, gr 149]) (M' := gw (gu (gcpy mi 176 5 149 0 k.toNat) 148 44 (5 + k)) ml) rfl ?_
        rw [show (gu (gcpy mi 176 5 149 0 k.toNat) 148 44 (5 + k)) 176 ((5 + k).toNat) = (gcpy mi 176 5 149 0 k.toNat) 176 ((5 + k).toNat) from gu_ne (Or.inl (by decide))]
        refine Go.run hsz hn1 0 (pc' := 41) (lv' := [some (gr 148), some (gr 149), some (gi 96), some (gi 0), some (gi k)]) (st' := [gi ((gcpy mi 176 5 149 0 k.toNat) 176 ((5 + k).toNat)), gi k, gr 149]) (M' := gw (gu (gcpy mi 176 5 149 0 k.toNat) 148 44 (5 + k)) ml) rfl ?_
        refine Go.iast (by rfl) (N := 96) (by rfl) (by omega) (by omega) (by decide) ?_
        refine Go.run hsz hn1 3 (pc' := 47) (lv' := [some (gr 148), some (gr 149), some (gi 96), some (gi 0), some (gi k)]) (st' := [gi ((gu (gu (gcpy mi 176 5 149 0 k.toNat) 148 44 (5 + k)) 149 k.toNat ((gcpy mi 176 5 149 0 k.toNat) 176 ((5 + k).toNat))) 148 44), gr 148]) (M' := gw (gu (gu (gcpy mi 176 5 149 0 k.toNat) 148 44 (5 + k)) 149 k.toNat ((gcpy mi 176 5 149 0 k.toNat) 176 ((5 + k).toNat))) ml) rfl ?_
        refine Go.run hsz hn1 0 (pc' := 47) (lv' := [some (gr 148), some (gr 149), some (gi 96), some (gi 0), some (gi k)]) (st' := [gi ((gu (gu (gcpy mi 176 5 149 0 k.toNat) 148 44 (5 + k)) 149 k.toNat ((gcpy mi 176 5 149 0 k.toNat) 176 ((5 + k).toNat))) 148 44), gr 148]) (M' := gw (gu (gu (gcpy mi 176 5 149 0 k.toNat) 148 44 (5 + k)) 149 k.toNat ((gcpy mi 176 5 149 0 k.toNat) 176 ((5 + k).toNat))) ml) rfl ?_
        rw [show (gu (gu (gcpy mi 176 5 149 0 k.toNat) 148 44 (5 + k)) 149 k.toNat ((gcpy mi 176 5 149 0 k.toNat) 176 ((5 + k).toNat))) 148 44 = 5 + k from (gu_ne (Or.inl (by decide))).trans (gu_self _ _ _ _)]
        refine Go.run hsz hn1 5 (pc' := 3) (lv' := [some (gr 148), some (gr 149), some (gi 96), some (gi 0), some (gi (k + 1))]) (st' := []) (M' := gw (gu (gu (gu (gcpy mi 176 5 149 0 k.toNat) 148 44 (5 + k)) 149 k.toNat ((gcpy mi 176 5 149 0 k.toNat) 176 ((5 + k).toNat))) 148 44 ((5 + k) + 1)) ml) rfl ?_
        have h9 := ih (k + 1) (by omega) (by omega) (by omega)
        rw [show gu (gcpy mi 176 5 149 0 (k + 1).toNat) 148 44 (5 + (k + 1)) = gu (gu (gu (gcpy mi 176 5 149 0 k.toNat) 148 44 (5 + k)) 149 k.toNat ((gcpy mi 176 5 149 0 k.toNat) 176 ((5 + k).toNat))) 148 44 ((5 + k) + 1) from ?_] at h9
        · exact h9
        · rw [show (k + 1).toNat = k.toNat + 1 by omega, ← gcpy_s, show (5 + k).toNat = 5 + k.toNat by omega]
          funext b j
          simp only [gu_eq, Nat.zero_add]
          rw [gcpy_off (b := 176) (j := 5 + k.toNat) (Or.inl (by decide))]
          (repeat' split) <;> first | rfl | omega | (exfalso; omega)
      · exact absurd kq2 (by decide)
set_option maxRecDepth 100000 in
set_option maxHeartbeats 4000000 in
theorem cM_mvu149 {G : gG} (hsz : G.2.2.2.2.2.2 = true) {n : Nat} (hn : 1 ≤ n) (mi : Nat → Nat → Int) (ml : Nat → Nat → Int64) (hq : mi 148 44 = 5) : gM G 241 n 0 0 [gr 148, gr 149, gi 96, gi 0] (gw mi ml) (gvd (gw (gu (gcpy mi 176 5 149 0 96) 148 44 101) ml)) := by
  refine gM.of mX12_move okX12_move (gcp 241 (by decide)).1 (gcp 241 (by decide)).2 (Nat.le_of_ble_eq_true rfl) ?_
  refine Go.run hsz hn 2 (pc' := 3) (lv' := [some (gr 148), some (gr 149), some (gi 96), some (gi 0), some (gi 0)]) (st' := []) (M' := gw mi ml) rfl ?_
  have h9 := lM_mvu149 hsz hn mi ml 97 0 (by omega) (by omega) (by omega)
  rw [show gu (gcpy mi 176 5 149 0 (0 : Int).toNat) 148 44 (5 + 0) = mi from ?_] at h9
  · exact h9
  · rw [show (0 : Int).toNat = 0 from rfl, gcpy_0, show ((5 : Int) + 0) = mi 148 44 from hq.symm, gu_id]
set_option maxRecDepth 100000 in
set_option maxHeartbeats 4000000 in
theorem lM_mvu150 {G : gG} (hsz : G.2.2.2.2.2.2 = true) {n : Nat} (hn : 1 ≤ n) (mi : Nat → Nat → Int) (ml : Nat → Nat → Int64)  : ∀ (f : Nat) (k : Int), 0 ≤ k → k ≤ 12 → 12 - k < f → Go G mX12_move n 0 0 3 [some (gr 148), some (gr 150), some (gi 12), some (gi 0), some (gi k)] [] (gw (gu (gcpy mi 176 101 150 0 k.toNat) 148 44 (101 + k)) ml) (gvd (gw (gu (gcpy mi 176 101 150 0 12) 148 44 113) ml)) := by
  have hn1 : 1 ≤ n := by omega

  intro f
  induction f with
  | zero => intros; omega
  | succ f ih =>
    intro k k0 k1 k2
    refine Go.run hsz hn1 2 (pc' := 6) (lv' := [some (gr 148), some (gr 150), some (gi 12), some (gi 0), some (gi k)]) (st' := [gi 12, gi k]) (M' := gw (gu (gcpy mi 176 101 150 0 k.toNat) 148 44 (101 + k)) ml) rfl ?_
    refine Go.icmp_ge (by rfl) ⟨by omega, by omega⟩ ⟨by decide, by decide⟩ (fun kq1 => ?_) (fun kq1 => ?_)
    · obtain rfl : k = 12 := by omega
      exact Go.vret (by rfl) ⟨rfl, rfl⟩
    · refine Go.run hsz hn1 1 (pc' := 10) (lv' := [some (gr 148), some (gr 150), some (gi 12), some (gi 0), some (gi k)]) (st' := [gi 0]) (M' := gw (gu (gcpy mi 176 101 150 0 k.toNat) 148 44 (101 + k)) ml) rfl ?_
      refine Go.if_eq (by rfl) ⟨by decide, by decide⟩ (fun kq2 => ?_) (fun kq2 => ?_)
      · refine Go.run hsz hn1 6 (pc' := 40) (lv' := [some (gr 148), some (gr 150), some (gi 12), some (gi 0), some (gi k)]) (st' := [gi (101 + k), gr 176, gi k, gr 150]) (M' := gw (gu (gcpy mi 176 101 150 0 k.toNat) 148 44 (101 + k)) ml) rfl ?_
        refine Go.iald (by rfl) (N := 760) (by rfl) (by omega) (by omega) (by decide) ?_
        refine Go.run hsz hn1 0 (pc' := 41) (lv' := [some (gr 148), some (gr 150), some (gi 12), some (gi 0), some (gi k)]) (st' := [gi ((gu (gcpy mi 176 101 150 0 k.toNat) 148 44 (101 + k)) 176 ((101 + k).toNat)), gi k, gr 150]) (M' := gw (gu (gcpy mi 176 101 150 0 k.toNat) 148 44 (101 + k)) ml) rfl ?_
        rw [show (gu (gcpy mi 176 101 150 0 k.toNat) 148 44 (101 + k)) 176 ((101 + k).toNat) = (gcpy mi 176 101 150 0 k.toNat) 176 ((101 + k).toNat) from gu_ne (Or.inl (by decide))]
        refine Go.run hsz hn1 0 (pc' := 41) (lv' := [some (gr 148), some (gr 150), some (gi 12), some (gi 0), some (gi k)]) (st' := [gi ((gcpy mi 176 101 150 0 k.toNat) 176 ((101 + k).toNat)), gi k, gr 150]) (M' := gw (gu (gcpy mi 176 101 150 0 k.toNat) 148 44 (101 + k)) ml) rfl ?_
        refine Go.iast (by rfl) (N := 12) (by rfl) (by omega) (by omega) (by decide) ?_
        refine Go.run hsz hn1 3 (pc' := 47) (lv' := [some (gr 148), some (gr 150), some (gi 12), some (gi 0), some (gi k)]) (st' := [gi ((gu (gu (gcpy mi 176 101 150 0 k.toNat) 148 44 (101 + k)) 150 k.toNat ((gcpy mi 176 101 150 0 k.toNat) 176 ((101 + k).toNat))) 148 44), gr 148]) (M' := gw (gu (gu (gcpy mi 176 101 150 0 k.toNat) 148 44 (101 + k)) 150 k.toNat ((gcpy mi 176 101 150 0 k.toNat) 176 ((101 + k).toNat))) ml) rfl ?_
        refine Go.run hsz hn1 0 (pc' := 47) (lv' := [some (gr 148), some (gr 150), some (gi 12), some (gi 0), some (gi k)]) (st' := [gi ((gu (gu (gcpy mi 176 101 150 0 k.toNat) 148 44 (101 + k)) 150 k.toNat ((gcpy mi 176 101 150 0 k.toNat) 176 ((101 + k).toNat))) 148 44), gr 148]) (M' := gw (gu (gu (gcpy mi 176 101 150 0 k.toNat) 148 44 (101 + k)) 150 k.toNat ((gcpy mi 176 101 150 0 k.toNat) 176 ((101 + k).toNat))) ml) rfl ?_
        rw [show (gu (gu (gcpy mi 176 101 150 0 k.toNat) 148 44 (101 + k)) 150 k.toNat ((gcpy mi 176 101 150 0 k.toNat) 176 ((101 + k).toNat))) 148 44 = 101 + k from (gu_ne (Or.inl (by decide))).trans (gu_self _ _ _ _)]
        refine Go.run hsz hn1 5 (pc' := 3) (lv' := [some (gr 148), some (gr 150), some (gi 12), some (gi 0), some (gi (k + 1))]) (st' := []) (M' := gw (gu (gu (gu (gcpy mi 176 101 150 0 k.toNat) 148 44 (101 + k)) 150 k.toNat ((gcpy mi 176 101 150 0 k.toNat) 176 ((101 + k).toNat))) 148 44 ((101 + k) + 1)) ml) rfl ?_
        have h9 := ih (k + 1) (by omega) (by omega) (by omega)
        rw [show gu (gcpy mi 176 101 150 0 (k + 1).toNat) 148 44 (101 + (k + 1)) = gu (gu (gu (gcpy mi 176 101 150 0 k.toNat) 148 44 (101 + k)) 150 k.toNat ((gcpy mi 176 101 150 0 k.toNat) 176 ((101 + k).toNat))) 148 44 ((101 + k) + 1) from ?_] at h9
        · exact h9
        · rw [show (k + 1).toNat = k.toNat + 1 by omega, ← gcpy_s, show (101 + k).toNat = 101 + k.toNat by omega]
          funext b j
          simp only [gu_eq, Nat.zero_add]
          rw [gcpy_off (b := 176) (j := 101 + k.toNat) (Or.inl (by decide))]
          (repeat' split) <;> first | rfl | omega | (exfalso; omega)
      · exact absurd kq2 (by decide)
set_option maxRecDepth 100000 in
set_option maxHeartbeats 4000000 in
theorem cM_mvu150 {G : gG} (hsz : G.2.2.2.2.2.2 = true) {n : Nat} (hn : 1 ≤ n) (mi : Nat → Nat → Int) (ml : Nat → Nat → Int64) (hq : mi 148 44 = 101) : gM G 241 n 0 0 [gr 148, gr 150, gi 12, gi 0] (gw mi ml) (gvd (gw (gu (gcpy mi 176 101 150 0 12) 148 44 113) ml)) := by
  refine gM.of mX12_move okX12_move (gcp 241 (by decide)).1 (gcp 241 (by decide)).2 (Nat.le_of_ble_eq_true rfl) ?_
  refine Go.run hsz hn 2 (pc' := 3) (lv' := [some (gr 148), some (gr 150), some (gi 12), some (gi 0), some (gi 0)]) (st' := []) (M' := gw mi ml) rfl ?_
  have h9 := lM_mvu150 hsz hn mi ml 13 0 (by omega) (by omega) (by omega)
  rw [show gu (gcpy mi 176 101 150 0 (0 : Int).toNat) 148 44 (101 + 0) = mi from ?_] at h9
  · exact h9
  · rw [show (0 : Int).toNat = 0 from rfl, gcpy_0, show ((101 : Int) + 0) = mi 148 44 from hq.symm, gu_id]
set_option maxRecDepth 100000 in
set_option maxHeartbeats 4000000 in
theorem lM_mvu151 {G : gG} (hsz : G.2.2.2.2.2.2 = true) {n : Nat} (hn : 1 ≤ n) (mi : Nat → Nat → Int) (ml : Nat → Nat → Int64)  : ∀ (f : Nat) (k : Int), 0 ≤ k → k ≤ 12 → 12 - k < f → Go G mX12_move n 0 0 3 [some (gr 148), some (gr 151), some (gi 12), some (gi 0), some (gi k)] [] (gw (gu (gcpy mi 176 113 151 0 k.toNat) 148 44 (113 + k)) ml) (gvd (gw (gu (gcpy mi 176 113 151 0 12) 148 44 125) ml)) := by
  have hn1 : 1 ≤ n := by omega

  intro f
  induction f with
  | zero => intros; omega
  | succ f ih =>
    intro k k0 k1 k2
    refine Go.run hsz hn1 2 (pc' := 6) (lv' := [some (gr 148), some (gr 151), some (gi 12), some (gi 0), some (gi k)]) (st' := [gi 12, gi k]) (M' := gw (gu (gcpy mi 176 113 151 0 k.toNat) 148 44 (113 + k)) ml) rfl ?_
    refine Go.icmp_ge (by rfl) ⟨by omega, by omega⟩ ⟨by decide, by decide⟩ (fun kq1 => ?_) (fun kq1 => ?_)
    · obtain rfl : k = 12 := by omega
      exact Go.vret (by rfl) ⟨rfl, rfl⟩
    · refine Go.run hsz hn1 1 (pc' := 10) (lv' := [some (gr 148), some (gr 151), some (gi 12), some (gi 0), some (gi k)]) (st' := [gi 0]) (M' := gw (gu (gcpy mi 176 113 151 0 k.toNat) 148 44 (113 + k)) ml) rfl ?_
      refine Go.if_eq (by rfl) ⟨by decide, by decide⟩ (fun kq2 => ?_) (fun kq2 => ?_)
      · refine Go.run hsz hn1 6 (pc' := 40) (lv' := [some (gr 148), some (gr 151), some (gi 12), some (gi 0), some (gi k)]) (st' := [gi (113 + k), gr 176, gi k, gr 151]) (M' := gw (gu (gcpy mi 176 113 151 0 k.toNat) 148 44 (113 + k)) ml) rfl ?_
        refine Go.iald (by rfl) (N := 760) (by rfl) (by omega) (by omega) (by decide) ?_
        refine Go.run hsz hn1 0 (pc' := 41) (lv' := [some (gr 148), some (gr 151), some (gi 12), some (gi 0), some (gi k)]) (st' := [gi ((gu (gcpy mi 176 113 151 0 k.toNat) 148 44 (113 + k)) 176 ((113 + k).toNat)), gi k, gr 151]) (M' := gw (gu (gcpy mi 176 113 151 0 k.toNat) 148 44 (113 + k)) ml) rfl ?_
        rw [show (gu (gcpy mi 176 113 151 0 k.toNat) 148 44 (113 + k)) 176 ((113 + k).toNat) = (gcpy mi 176 113 151 0 k.toNat) 176 ((113 + k).toNat) from gu_ne (Or.inl (by decide))]
        refine Go.run hsz hn1 0 (pc' := 41) (lv' := [some (gr 148), some (gr 151), some (gi 12), some (gi 0), some (gi k)]) (st' := [gi ((gcpy mi 176 113 151 0 k.toNat) 176 ((113 + k).toNat)), gi k, gr 151]) (M' := gw (gu (gcpy mi 176 113 151 0 k.toNat) 148 44 (113 + k)) ml) rfl ?_
        refine Go.iast (by rfl) (N := 12) (by rfl) (by omega) (by omega) (by decide) ?_
        refine Go.run hsz hn1 3 (pc' := 47) (lv' := [some (gr 148), some (gr 151), some (gi 12), some (gi 0), some (gi k)]) (st' := [gi ((gu (gu (gcpy mi 176 113 151 0 k.toNat) 148 44 (113 + k)) 151 k.toNat ((gcpy mi 176 113 151 0 k.toNat) 176 ((113 + k).toNat))) 148 44), gr 148]) (M' := gw (gu (gu (gcpy mi 176 113 151 0 k.toNat) 148 44 (113 + k)) 151 k.toNat ((gcpy mi 176 113 151 0 k.toNat) 176 ((113 + k).toNat))) ml) rfl ?_
        refine Go.run hsz hn1 0 (pc' := 47) (lv' := [some (gr 148), some (gr 151), some (gi 12), some (gi 0), some (gi k)]) (st' := [gi ((gu (gu (gcpy mi 176 113 151 0 k.toNat) 148 44 (113 + k)) 151 k.toNat ((gcpy mi 176 113 151 0 k.toNat) 176 ((113 + k).toNat))) 148 44), gr 148]) (M' := gw (gu (gu (gcpy mi 176 113 151 0 k.toNat) 148 44 (113 + k)) 151 k.toNat ((gcpy mi 176 113 151 0 k.toNat) 176 ((113 + k).toNat))) ml) rfl ?_
        rw [show (gu (gu (gcpy mi 176 113 151 0 k.toNat) 148 44 (113 + k)) 151 k.toNat ((gcpy mi 176 113 151 0 k.toNat) 176 ((113 + k).toNat))) 148 44 = 113 + k from (gu_ne (Or.inl (by decide))).trans (gu_self _ _ _ _)]
        refine Go.run hsz hn1 5 (pc' := 3) (lv' := [some (gr 148), some (gr 151), some (gi 12), some (gi 0), some (gi (k + 1))]) (st' := []) (M' := gw (gu (gu (gu (gcpy mi 176 113 151 0 k.toNat) 148 44 (113 + k)) 151 k.toNat ((gcpy mi 176 113 151 0 k.toNat) 176 ((113 + k).toNat))) 148 44 ((113 + k) + 1)) ml) rfl ?_
        have h9 := ih (k + 1) (by omega) (by omega) (by omega)
        rw [show gu (gcpy mi 176 113 151 0 (k + 1).toNat) 148 44 (113 + (k + 1)) = gu (gu (gu (gcpy mi 176 113 151 0 k.toNat) 148 44 (113 + k)) 151 k.toNat ((gcpy mi 176 113 151 0 k.toNat) 176 ((113 + k).toNat))) 148 44 ((113 + k) + 1) from ?_] at h9
        · exact h9
        · rw [show (k + 1).toNat = k.toNat + 1 by omega, ← gcpy_s, show (113 + k).toNat = 113 + k.toNat by omega]
          funext b j
          simp only [gu_eq, Nat.zero_add]
          rw [gcpy_off (b := 176) (j := 113 + k.toNat) (Or.inl (by decide))]
          (repeat' split) <;> first | rfl | omega | (exfalso; omega)
      · exact absurd kq2 (by decide)
set_option maxRecDepth 100000 in
set_option maxHeartbeats 4000000 in
theorem cM_mvu151 {G : gG} (hsz : G.2.2.2.2.2.2 = true) {n : Nat} (hn : 1 ≤ n) (mi : Nat → Nat → Int) (ml : Nat → Nat → Int64) (hq : mi 148 44 = 113) : gM G 241 n 0 0 [gr 148, gr 151, gi 12, gi 0] (gw mi ml) (gvd (gw (gu (gcpy mi 176 113 151 0 12) 148 44 125) ml)) := by
  refine gM.of mX12_move okX12_move (gcp 241 (by decide)).1 (gcp 241 (by decide)).2 (Nat.le_of_ble_eq_true rfl) ?_
  refine Go.run hsz hn 2 (pc' := 3) (lv' := [some (gr 148), some (gr 151), some (gi 12), some (gi 0), some (gi 0)]) (st' := []) (M' := gw mi ml) rfl ?_
  have h9 := lM_mvu151 hsz hn mi ml 13 0 (by omega) (by omega) (by omega)
  rw [show gu (gcpy mi 176 113 151 0 (0 : Int).toNat) 148 44 (113 + 0) = mi from ?_] at h9
  · exact h9
  · rw [show (0 : Int).toNat = 0 from rfl, gcpy_0, show ((113 : Int) + 0) = mi 148 44 from hq.symm, gu_id]
set_option maxRecDepth 100000 in
set_option maxHeartbeats 4000000 in
theorem lM_mvu152 {G : gG} (hsz : G.2.2.2.2.2.2 = true) {n : Nat} (hn : 1 ≤ n) (mi : Nat → Nat → Int) (ml : Nat → Nat → Int64)  : ∀ (f : Nat) (k : Int), 0 ≤ k → k ≤ 288 → 288 - k < f → Go G mX12_move n 0 0 3 [some (gr 148), some (gr 152), some (gi 288), some (gi 0), some (gi k)] [] (gw (gu (gcpy mi 176 125 152 0 k.toNat) 148 44 (125 + k)) ml) (gvd (gw (gu (gcpy mi 176 125 152 0 288) 148 44 413) ml)) := by
  have hn1 : 1 ≤ n := by omega

  intro f
  induction f with
  | zero => intros; omega
  | succ f ih =>
    intro k k0 k1 k2
    refine Go.run hsz hn1 2 (pc' := 6) (lv' := [some (gr 148), some (gr 152), some (gi 288), some (gi 0), some (gi k)]) (st' := [gi 288, gi k]) (M' := gw (gu (gcpy mi 176 125 152 0 k.toNat) 148 44 (125 + k)) ml) rfl ?_
    refine Go.icmp_ge (by rfl) ⟨by omega, by omega⟩ ⟨by decide, by decide⟩ (fun kq1 => ?_) (fun kq1 => ?_)
    · obtain rfl : k = 288 := by omega
      exact Go.vret (by rfl) ⟨rfl, rfl⟩
    · refine Go.run hsz hn1 1 (pc' := 10) (lv' := [some (gr 148), some (gr 152), some (gi 288), some (gi 0), some (gi k)]) (st' := [gi 0]) (M' := gw (gu (gcpy mi 176 125 152 0 k.toNat) 148 44 (125 + k)) ml) rfl ?_
      refine Go.if_eq (by rfl) ⟨by decide, by decide⟩ (fun kq2 => ?_) (fun kq2 => ?_)
      · refine Go.run hsz hn1 6 (pc' := 40) (lv' := [some (gr 148), some (gr 152), some (gi 288), some (gi 0), some (gi k)]) (st' := [gi (125 + k), gr 176, gi k, gr 152]) (M' := gw (gu (gcpy mi 176 125 152 0 k.toNat) 148 44 (125 + k)) ml) rfl ?_
        refine Go.iald (by rfl) (N := 760) (by rfl) (by omega) (by omega) (by decide) ?_
        refine Go.run hsz hn1 0 (pc' := 41) (lv' := [some (gr 148), some (gr 152), some (gi 288), some (gi 0), some (gi k)]) (st' := [gi ((gu (gcpy mi 176 125 152 0 k.toNat) 148 44 (125 + k)) 176 ((125 + k).toNat)), gi k, gr 152]) (M' := gw (gu (gcpy mi 176 125 152 0 k.toNat) 148 44 (125 + k)) ml) rfl ?_
        rw [show (gu (gcpy mi 176 125 152 0 k.toNat) 148 44 (125 + k)) 176 ((125 + k).toNat) = (gcpy mi 176 125 152 0 k.toNat) 176 ((125 + k).toNat) from gu_ne (Or.inl (by decide))]
        refine Go.run hsz hn1 0 (pc' := 41) (lv' := [some (gr 148), some (gr 152), some (gi 288), some (gi 0), some (gi k)]) (st' := [gi ((gcpy mi 176 125 152 0 k.toNat) 176 ((125 + k).toNat)), gi k, gr 152]) (M' := gw (gu (gcpy mi 176 125 152 0 k.toNat) 148 44 (125 + k)) ml) rfl ?_
        refine Go.iast (by rfl) (N := 288) (by rfl) (by omega) (by omega) (by decide) ?_
        refine Go.run hsz hn1 3 (pc' := 47) (lv' := [some (gr 148), some (gr 152), some (gi 288), some (gi 0), some (gi k)]) (st' := [gi ((gu (gu (gcpy mi 176 125 152 0 k.toNat) 148 44 (125 + k)) 152 k.toNat ((gcpy mi 176 125 152 0 k.toNat) 176 ((125 + k).toNat))) 148 44), gr 148]) (M' := gw (gu (gu (gcpy mi 176 125 152 0 k.toNat) 148 44 (125 + k)) 152 k.toNat ((gcpy mi 176 125 152 0 k.toNat) 176 ((125 + k).toNat))) ml) rfl ?_
        refine Go.run hsz hn1 0 (pc' := 47) (lv' := [some (gr 148), some (gr 152), some (gi 288), some (gi 0), some (gi k)]) (st' := [gi ((gu (gu (gcpy mi 176 125 152 0 k.toNat) 148 44 (125 + k)) 152 k.toNat ((gcpy mi 176 125 152 0 k.toNat) 176 ((125 + k).toNat))) 148 44), gr 148]) (M' := gw (gu (gu (gcpy mi 176 125 152 0 k.toNat) 148 44 (125 + k)) 152 k.toNat ((gcpy mi 176 125 152 0 k.toNat) 176 ((125 + k).toNat))) ml) rfl ?_
        rw [show (gu (gu (gcpy mi 176 125 152 0 k.toNat) 148 44 (125 + k)) 152 k.toNat ((gcpy mi 176 125 152 0 k.toNat) 176 ((125 + k).toNat))) 148 44 = 125 + k from (gu_ne (Or.inl (by decide))).trans (gu_self _ _ _ _)]
        refine Go.run hsz hn1 5 (pc' := 3) (lv' := [some (gr 148), some (gr 152), some (gi 288), some (gi 0), some (gi (k + 1))]) (st' := []) (M' := gw (gu (gu (gu (gcpy mi 176 125 152 0 k.toNat) 148 44 (125 + k)) 152 k.toNat ((gcpy mi 176 125 152 0 k.toNat) 176 ((125 + k).toNat))) 148 44 ((125 + k) + 1)) ml) rfl ?_
        have h9 := ih (k + 1) (by omega) (by omega) (by omega)
        rw [show gu (gcpy mi 176 125 152 0 (k + 1).toNat) 148 44 (125 + (k + 1)) = gu (gu (gu (gcpy mi 176 125 152 0 k.toNat) 148 44 (125 + k)) 152 k.toNat ((gcpy mi 176 125 152 0 k.toNat) 176 ((125 + k).toNat))) 148 44 ((125 + k) + 1) from ?_] at h9
        · exact h9
        · rw [show (k + 1).toNat = k.toNat + 1 by omega, ← gcpy_s, show (125 + k).toNat = 125 + k.toNat by omega]
          funext b j
          simp only [gu_eq, Nat.zero_add]
          rw [gcpy_off (b := 176) (j := 125 + k.toNat) (Or.inl (by decide))]
          (repeat' split) <;> first | rfl | omega | (exfalso; omega)
      · exact absurd kq2 (by decide)
set_option maxRecDepth 100000 in
set_option maxHeartbeats 4000000 in
theorem cM_mvu152 {G : gG} (hsz : G.2.2.2.2.2.2 = true) {n : Nat} (hn : 1 ≤ n) (mi : Nat → Nat → Int) (ml : Nat → Nat → Int64) (hq : mi 148 44 = 125) : gM G 241 n 0 0 [gr 148, gr 152, gi 288, gi 0] (gw mi ml) (gvd (gw (gu (gcpy mi 176 125 152 0 288) 148 44 413) ml)) := by
  refine gM.of mX12_move okX12_move (gcp 241 (by decide)).1 (gcp 241 (by decide)).2 (Nat.le_of_ble_eq_true rfl) ?_
  refine Go.run hsz hn 2 (pc' := 3) (lv' := [some (gr 148), some (gr 152), some (gi 288), some (gi 0), some (gi 0)]) (st' := []) (M' := gw mi ml) rfl ?_
  have h9 := lM_mvu152 hsz hn mi ml 289 0 (by omega) (by omega) (by omega)
  rw [show gu (gcpy mi 176 125 152 0 (0 : Int).toNat) 148 44 (125 + 0) = mi from ?_] at h9
  · exact h9
  · rw [show (0 : Int).toNat = 0 from rfl, gcpy_0, show ((125 : Int) + 0) = mi 148 44 from hq.symm, gu_id]
set_option maxRecDepth 100000 in
set_option maxHeartbeats 4000000 in
theorem lM_mvu153 {G : gG} (hsz : G.2.2.2.2.2.2 = true) {n : Nat} (hn : 1 ≤ n) (mi : Nat → Nat → Int) (ml : Nat → Nat → Int64)  : ∀ (f : Nat) (k : Int), 0 ≤ k → k ≤ 4 → 4 - k < f → Go G mX12_move n 0 0 3 [some (gr 148), some (gr 153), some (gi 4), some (gi 0), some (gi k)] [] (gw (gu (gcpy mi 176 413 153 0 k.toNat) 148 44 (413 + k)) ml) (gvd (gw (gu (gcpy mi 176 413 153 0 4) 148 44 417) ml)) := by
  have hn1 : 1 ≤ n := by omega

  intro f
  induction f with
  | zero => intros; omega
  | succ f ih =>
    intro k k0 k1 k2
    refine Go.run hsz hn1 2 (pc' := 6) (lv' := [some (gr 148), some (gr 153), some (gi 4), some (gi 0), some (gi k)]) (st' := [gi 4, gi k]) (M' := gw (gu (gcpy mi 176 413 153 0 k.toNat) 148 44 (413 + k)) ml) rfl ?_
    refine Go.icmp_ge (by rfl) ⟨by omega, by omega⟩ ⟨by decide, by decide⟩ (fun kq1 => ?_) (fun kq1 => ?_)
    · obtain rfl : k = 4 := by omega
      exact Go.vret (by rfl) ⟨rfl, rfl⟩
    · refine Go.run hsz hn1 1 (pc' := 10) (lv' := [some (gr 148), some (gr 153), some (gi 4), some (gi 0), some (gi k)]) (st' := [gi 0]) (M' := gw (gu (gcpy mi 176 413 153 0 k.toNat) 148 44 (413 + k)) ml) rfl ?_
      refine Go.if_eq (by rfl) ⟨by decide, by decide⟩ (fun kq2 => ?_) (fun kq2 => ?_)
      · refine Go.run hsz hn1 6 (pc' := 40) (lv' := [some (gr 148), some (gr 153), some (gi 4), some (gi 0), some (gi k)]) (st' := [gi (413 + k), gr 176, gi k, gr 153]) (M' := gw (gu (gcpy mi 176 413 153 0 k.toNat) 148 44 (413 + k)) ml) rfl ?_
        refine Go.iald (by rfl) (N := 760) (by rfl) (by omega) (by omega) (by decide) ?_
        refine Go.run hsz hn1 0 (pc' := 41) (lv' := [some (gr 148), some (gr 153), some (gi 4), some (gi 0), some (gi k)]) (st' := [gi ((gu (gcpy mi 176 413 153 0 k.toNat) 148 44 (413 + k)) 176 ((413 + k).toNat)), gi k, gr 153]) (M' := gw (gu (gcpy mi 176 413 153 0 k.toNat) 148 44 (413 + k)) ml) rfl ?_
        rw [show (gu (gcpy mi 176 413 153 0 k.toNat) 148 44 (413 + k)) 176 ((413 + k).toNat) = (gcpy mi 176 413 153 0 k.toNat) 176 ((413 + k).toNat) from gu_ne (Or.inl (by decide))]
        refine Go.run hsz hn1 0 (pc' := 41) (lv' := [some (gr 148), some (gr 153), some (gi 4), some (gi 0), some (gi k)]) (st' := [gi ((gcpy mi 176 413 153 0 k.toNat) 176 ((413 + k).toNat)), gi k, gr 153]) (M' := gw (gu (gcpy mi 176 413 153 0 k.toNat) 148 44 (413 + k)) ml) rfl ?_
        refine Go.iast (by rfl) (N := 4) (by rfl) (by omega) (by omega) (by decide) ?_
        refine Go.run hsz hn1 3 (pc' := 47) (lv' := [some (gr 148), some (gr 153), some (gi 4), some (gi 0), some (gi k)]) (st' := [gi ((gu (gu (gcpy mi 176 413 153 0 k.toNat) 148 44 (413 + k)) 153 k.toNat ((gcpy mi 176 413 153 0 k.toNat) 176 ((413 + k).toNat))) 148 44), gr 148]) (M' := gw (gu (gu (gcpy mi 176 413 153 0 k.toNat) 148 44 (413 + k)) 153 k.toNat ((gcpy mi 176 413 153 0 k.toNat) 176 ((413 + k).toNat))) ml) rfl ?_
        refine Go.run hsz hn1 0 (pc' := 47) (lv' := [some (gr 148), some (gr 153), some (gi 4), some (gi 0), some (gi k)]) (st' := [gi ((gu (gu (gcpy mi 176 413 153 0 k.toNat) 148 44 (413 + k)) 153 k.toNat ((gcpy mi 176 413 153 0 k.toNat) 176 ((413 + k).toNat))) 148 44), gr 148]) (M' := gw (gu (gu (gcpy mi 176 413 153 0 k.toNat) 148 44 (413 + k)) 153 k.toNat ((gcpy mi 176 413 153 0 k.toNat) 176 ((413 + k).toNat))) ml) rfl ?_
        rw [show (gu (gu (gcpy mi 176 413 153 0 k.toNat) 148 44 (413 + k)) 153 k.toNat ((gcpy mi 176 413 153 0 k.toNat) 176 ((413 + k).toNat))) 148 44 = 413 + k from (gu_ne (Or.inl (by decide))).trans (gu_self _ _ _ _)]
        refine Go.run hsz hn1 5 (pc' := 3) (lv' := [some (gr 148), some (gr 153), some (gi 4), some (gi 0), some (gi (k + 1))]) (st' := []) (M' := gw (gu (gu (gu (gcpy mi 176 413 153 0 k.toNat) 148 44 (413 + k)) 153 k.toNat ((gcpy mi 176 413 153 0 k.toNat) 176 ((413 + k).toNat))) 148 44 ((413 + k) + 1)) ml) rfl ?_
        have h9 := ih (k + 1) (by omega) (by omega) (by omega)
        rw [show gu (gcpy mi 176 413 153 0 (k + 1).toNat) 148 44 (413 + (k + 1)) = gu (gu (gu (gcpy mi 176 413 153 0 k.toNat) 148 44 (413 + k)) 153 k.toNat ((gcpy mi 176 413 153 0 k.toNat) 176 ((413 + k).toNat))) 148 44 ((413 + k) + 1) from ?_] at h9
        · exact h9
        · rw [show (k + 1).toNat = k.toNat + 1 by omega, ← gcpy_s, show (413 + k).toNat = 413 + k.toNat by omega]
          funext b j
          simp only [gu_eq, Nat.zero_add]
          rw [gcpy_off (b := 176) (j := 413 + k.toNat) (Or.inl (by decide))]
          (repeat' split) <;> first | rfl | omega | (exfalso; omega)
      · exact absurd kq2 (by decide)
set_option maxRecDepth 100000 in
set_option maxHeartbeats 4000000 in
theorem cM_mvu153 {G : gG} (hsz : G.2.2.2.2.2.2 = true) {n : Nat} (hn : 1 ≤ n) (mi : Nat → Nat → Int) (ml : Nat → Nat → Int64) (hq : mi 148 44 = 413) : gM G 241 n 0 0 [gr 148, gr 153, gi 4, gi 0] (gw mi ml) (gvd (gw (gu (gcpy mi 176 413 153 0 4) 148 44 417) ml)) := by
  refine gM.of mX12_move okX12_move (gcp 241 (by decide)).1 (gcp 241 (by decide)).2 (Nat.le_of_ble_eq_true rfl) ?_
  refine Go.run hsz hn 2 (pc' := 3) (lv' := [some (gr 148), some (gr 153), some (gi 4), some (gi 0), some (gi 0)]) (st' := []) (M' := gw mi ml) rfl ?_
  have h9 := lM_mvu153 hsz hn mi ml 5 0 (by omega) (by omega) (by omega)
  rw [show gu (gcpy mi 176 413 153 0 (0 : Int).toNat) 148 44 (413 + 0) = mi from ?_] at h9
  · exact h9
  · rw [show (0 : Int).toNat = 0 from rfl, gcpy_0, show ((413 : Int) + 0) = mi 148 44 from hq.symm, gu_id]
set_option maxRecDepth 100000 in
set_option maxHeartbeats 4000000 in
theorem lM_mvu154 {G : gG} (hsz : G.2.2.2.2.2.2 = true) {n : Nat} (hn : 1 ≤ n) (mi : Nat → Nat → Int) (ml : Nat → Nat → Int64)  : ∀ (f : Nat) (k : Int), 0 ≤ k → k ≤ 20 → 20 - k < f → Go G mX12_move n 0 0 3 [some (gr 148), some (gr 154), some (gi 20), some (gi 0), some (gi k)] [] (gw (gu (gcpy mi 176 417 154 0 k.toNat) 148 44 (417 + k)) ml) (gvd (gw (gu (gcpy mi 176 417 154 0 20) 148 44 437) ml)) := by
  have hn1 : 1 ≤ n := by omega

  intro f
  induction f with
  | zero => intros; omega
  | succ f ih =>
    intro k k0 k1 k2
    refine Go.run hsz hn1 2 (pc' := 6) (lv' := [some (gr 148), some (gr 154), some (gi 20), some (gi 0), some (gi k)]) (st' := [gi 20, gi k]) (M' := gw (gu (gcpy mi 176 417 154 0 k.toNat) 148 44 (417 + k)) ml) rfl ?_
    refine Go.icmp_ge (by rfl) ⟨by omega, by omega⟩ ⟨by decide, by decide⟩ (fun kq1 => ?_) (fun kq1 => ?_)
    · obtain rfl : k = 20 := by omega
      exact Go.vret (by rfl) ⟨rfl, rfl⟩
    · refine Go.run hsz hn1 1 (pc' := 10) (lv' := [some (gr 148), some (gr 154), some (gi 20), some (gi 0), some (gi k)]) (st' := [gi 0]) (M' := gw (gu (gcpy mi 176 417 154 0 k.toNat) 148 44 (417 + k)) ml) rfl ?_
      refine Go.if_eq (by rfl) ⟨by decide, by decide⟩ (fun kq2 => ?_) (fun kq2 => ?_)
      · refine Go.run hsz hn1 6 (pc' := 40) (lv' := [some (gr 148), some (gr 154), some (gi 20), some (gi 0), some (gi k)]) (st' := [gi (417 + k), gr 176, gi k, gr 154]) (M' := gw (gu (gcpy mi 176 417 154 0 k.toNat) 148 44 (417 + k)) ml) rfl ?_
        refine Go.iald (by rfl) (N := 760) (by rfl) (by omega) (by omega) (by decide) ?_
        refine Go.run hsz hn1 0 (pc' := 41) (lv' := [some (gr 148), some (gr 154), some (gi 20), some (gi 0), some (gi k)]) (st' := [gi ((gu (gcpy mi 176 417 154 0 k.toNat) 148 44 (417 + k)) 176 ((417 + k).toNat)), gi k, gr 154]) (M' := gw (gu (gcpy mi 176 417 154 0 k.toNat) 148 44 (417 + k)) ml) rfl ?_
        rw [show (gu (gcpy mi 176 417 154 0 k.toNat) 148 44 (417 + k)) 176 ((417 + k).toNat) = (gcpy mi 176 417 154 0 k.toNat) 176 ((417 + k).toNat) from gu_ne (Or.inl (by decide))]
        refine Go.run hsz hn1 0 (pc' := 41) (lv' := [some (gr 148), some (gr 154), some (gi 20), some (gi 0), some (gi k)]) (st' := [gi ((gcpy mi 176 417 154 0 k.toNat) 176 ((417 + k).toNat)), gi k, gr 154]) (M' := gw (gu (gcpy mi 176 417 154 0 k.toNat) 148 44 (417 + k)) ml) rfl ?_
        refine Go.iast (by rfl) (N := 20) (by rfl) (by omega) (by omega) (by decide) ?_
        refine Go.run hsz hn1 3 (pc' := 47) (lv' := [some (gr 148), some (gr 154), some (gi 20), some (gi 0), some (gi k)]) (st' := [gi ((gu (gu (gcpy mi 176 417 154 0 k.toNat) 148 44 (417 + k)) 154 k.toNat ((gcpy mi 176 417 154 0 k.toNat) 176 ((417 + k).toNat))) 148 44), gr 148]) (M' := gw (gu (gu (gcpy mi 176 417 154 0 k.toNat) 148 44 (417 + k)) 154 k.toNat ((gcpy mi 176 417 154 0 k.toNat) 176 ((417 + k).toNat))) ml) rfl ?_
        refine Go.run hsz hn1 0 (pc' := 47) (lv' := [some (gr 148), some (gr 154), some (gi 20), some (gi 0), some (gi k)]) (st' := [gi ((gu (gu (gcpy mi 176 417 154 0 k.toNat) 148 44 (417 + k)) 154 k.toNat ((gcpy mi 176 417 154 0 k.toNat) 176 ((417 + k).toNat))) 148 44), gr 148]) (M' := gw (gu (gu (gcpy mi 176 417 154 0 k.toNat) 148 44 (417 + k)) 154 k.toNat ((gcpy mi 176 417 154 0 k.toNat) 176 ((417 + k).toNat))) ml) rfl ?_
        rw [show (gu (gu (gcpy mi 176 417 154 0 k.toNat) 148 44 (417 + k)) 154 k.toNat ((gcpy mi 176 417 154 0 k.toNat) 176 ((417 + k).toNat))) 148 44 = 417 + k from (gu_ne (Or.inl (by decide))).trans (gu_self _ _ _ _)]
        refine Go.run hsz hn1 5 (pc' := 3) (lv' := [some (gr 148), some (gr 154), some (gi 20), some (gi 0), some (gi (k + 1))]) (st' := []) (M' := gw (gu (gu (gu (gcpy mi 176 417 154 0 k.toNat) 148 44 (417 + k)) 154 k.toNat ((gcpy mi 176 417 154 0 k.toNat) 176 ((417 + k).toNat))) 148 44 ((417 + k) + 1)) ml) rfl ?_
        have h9 := ih (k + 1) (by omega) (by omega) (by omega)
        rw [show gu (gcpy mi 176 417 154 0 (k + 1).toNat) 148 44 (417 + (k + 1)) = gu (gu (gu (gcpy mi 176 417 154 0 k.toNat) 148 44 (417 + k)) 154 k.toNat ((gcpy mi 176 417 154 0 k.toNat) 176 ((417 + k).toNat))) 148 44 ((417 + k) + 1) from ?_] at h9
        · exact h9
        · rw [show (k + 1).toNat = k.toNat + 1 by omega, ← gcpy_s, show (417 + k).toNat = 417 + k.toNat by omega]
          funext b j
          simp only [gu_eq, Nat.zero_add]
          rw [gcpy_off (b := 176) (j := 417 + k.toNat) (Or.inl (by decide))]
          (repeat' split) <;> first | rfl | omega | (exfalso; omega)
      · exact absurd kq2 (by decide)
set_option maxRecDepth 100000 in
set_option maxHeartbeats 4000000 in
theorem cM_mvu154 {G : gG} (hsz : G.2.2.2.2.2.2 = true) {n : Nat} (hn : 1 ≤ n) (mi : Nat → Nat → Int) (ml : Nat → Nat → Int64) (hq : mi 148 44 = 417) : gM G 241 n 0 0 [gr 148, gr 154, gi 20, gi 0] (gw mi ml) (gvd (gw (gu (gcpy mi 176 417 154 0 20) 148 44 437) ml)) := by
  refine gM.of mX12_move okX12_move (gcp 241 (by decide)).1 (gcp 241 (by decide)).2 (Nat.le_of_ble_eq_true rfl) ?_
  refine Go.run hsz hn 2 (pc' := 3) (lv' := [some (gr 148), some (gr 154), some (gi 20), some (gi 0), some (gi 0)]) (st' := []) (M' := gw mi ml) rfl ?_
  have h9 := lM_mvu154 hsz hn mi ml 21 0 (by omega) (by omega) (by omega)
  rw [show gu (gcpy mi 176 417 154 0 (0 : Int).toNat) 148 44 (417 + 0) = mi from ?_] at h9
  · exact h9
  · rw [show (0 : Int).toNat = 0 from rfl, gcpy_0, show ((417 : Int) + 0) = mi 148 44 from hq.symm, gu_id]
set_option maxRecDepth 100000 in
set_option maxHeartbeats 4000000 in
theorem lM_mvu155 {G : gG} (hsz : G.2.2.2.2.2.2 = true) {n : Nat} (hn : 1 ≤ n) (mi : Nat → Nat → Int) (ml : Nat → Nat → Int64)  : ∀ (f : Nat) (k : Int), 0 ≤ k → k ≤ 20 → 20 - k < f → Go G mX12_move n 0 0 3 [some (gr 148), some (gr 155), some (gi 20), some (gi 0), some (gi k)] [] (gw (gu (gcpy mi 176 437 155 0 k.toNat) 148 44 (437 + k)) ml) (gvd (gw (gu (gcpy mi 176 437 155 0 20) 148 44 457) ml)) := by
  have hn1 : 1 ≤ n := by omega

  intro f
  induction f with
  | zero => intros; omega
  | succ f ih =>
    intro k k0 k1 k2
    refine Go.run hsz hn1 2 (pc' := 6) (lv' := [some (gr 148), some (gr 155), some (gi 20), some (gi 0), some (gi k)]) (st' := [gi 20, gi k]) (M' := gw (gu (gcpy mi 176 437 155 0 k.toNat) 148 44 (437 + k)) ml) rfl ?_
    refine Go.icmp_ge (by rfl) ⟨by omega, by omega⟩ ⟨by decide, by decide⟩ (fun kq1 => ?_) (fun kq1 => ?_)
    · obtain rfl : k = 20 := by omega
      exact Go.vret (by rfl) ⟨rfl, rfl⟩
    · refine Go.run hsz hn1 1 (pc' := 10) (lv' := [some (gr 148), some (gr 155), some (gi 20), some (gi 0), some (gi k)]) (st' := [gi 0]) (M' := gw (gu (gcpy mi 176 437 155 0 k.toNat) 148 44 (437 + k)) ml) rfl ?_
      refine Go.if_eq (by rfl) ⟨by decide, by decide⟩ (fun kq2 => ?_) (fun kq2 => ?_)
      · refine Go.run hsz hn1 6 (pc' := 40) (lv' := [some (gr 148), some (gr 155), some (gi 20), some (gi 0), some (gi k)]) (st' := [gi (437 + k), gr 176, gi k, gr 155]) (M' := gw (gu (gcpy mi 176 437 155 0 k.toNat) 148 44 (437 + k)) ml) rfl ?_
        refine Go.iald (by rfl) (N := 760) (by rfl) (by omega) (by omega) (by decide) ?_
        refine Go.run hsz hn1 0 (pc' := 41) (lv' := [some (gr 148), some (gr 155), some (gi 20), some (gi 0), some (gi k)]) (st' := [gi ((gu (gcpy mi 176 437 155 0 k.toNat) 148 44 (437 + k)) 176 ((437 + k).toNat)), gi k, gr 155]) (M' := gw (gu (gcpy mi 176 437 155 0 k.toNat) 148 44 (437 + k)) ml) rfl ?_
        rw [show (gu (gcpy mi 176 437 155 0 k.toNat) 148 44 (437 + k)) 176 ((437 + k).toNat) = (gcpy mi 176 437 155 0 k.toNat) 176 ((437 + k).toNat) from gu_ne (Or.inl (by decide))]
        refine Go.run hsz hn1 0 (pc' := 41) (lv' := [some (gr 148), some (gr 155), some (gi 20), some (gi 0), some (gi k)]) (st' := [gi ((gcpy mi 176 437 155 0 k.toNat) 176 ((437 + k).toNat)), gi k, gr 155]) (M' := gw (gu (gcpy mi 176 437 155 0 k.toNat) 148 44 (437 + k)) ml) rfl ?_
        refine Go.iast (by rfl) (N := 20) (by rfl) (by omega) (by omega) (by decide) ?_
        refine Go.run hsz hn1 3 (pc' := 47) (lv' := [some (gr 148), some (gr 155), some (gi 20), some (gi 0), some (gi k)]) (st' := [gi ((gu (gu (gcpy mi 176 437 155 0 k.toNat) 148 44 (437 + k)) 155 k.toNat ((gcpy mi 176 437 155 0 k.toNat) 176 ((437 + k).toNat))) 148 44), gr 148]) (M' := gw (gu (gu (gcpy mi 176 437 155 0 k.toNat) 148 44 (437 + k)) 155 k.toNat ((gcpy mi 176 437 155 0 k.toNat) 176 ((437 + k).toNat))) ml) rfl ?_
        refine Go.run hsz hn1 0 (pc' := 47) (lv' := [some (gr 148), some (gr 155), some (gi 20), some (gi 0), some (gi k)]) (st' := [gi ((gu (gu (gcpy mi 176 437 155 0 k.toNat) 148 44 (437 + k)) 155 k.toNat ((gcpy mi 176 437 155 0 k.toNat) 176 ((437 + k).toNat))) 148 44), gr 148]) (M' := gw (gu (gu (gcpy mi 176 437 155 0 k.toNat) 148 44 (437 + k)) 155 k.toNat ((gcpy mi 176 437 155 0 k.toNat) 176 ((437 + k).toNat))) ml) rfl ?_
        rw [show (gu (gu (gcpy mi 176 437 155 0 k.toNat) 148 44 (437 + k)) 155 k.toNat ((gcpy mi 176 437 155 0 k.toNat) 176 ((437 + k).toNat))) 148 44 = 437 + k from (gu_ne (Or.inl (by decide))).trans (gu_self _ _ _ _)]
        refine Go.run hsz hn1 5 (pc' := 3) (lv' := [some (gr 148), some (gr 155), some (gi 20), some (gi 0), some (gi (k + 1))]) (st' := []) (M' := gw (gu (gu (gu (gcpy mi 176 437 155 0 k.toNat) 148 44 (437 + k)) 155 k.toNat ((gcpy mi 176 437 155 0 k.toNat) 176 ((437 + k).toNat))) 148 44 ((437 + k) + 1)) ml) rfl ?_
        have h9 := ih (k + 1) (by omega) (by omega) (by omega)
        rw [show gu (gcpy mi 176 437 155 0 (k + 1).toNat) 148 44 (437 + (k + 1)) = gu (gu (gu (gcpy mi 176 437 155 0 k.toNat) 148 44 (437 + k)) 155 k.toNat ((gcpy mi 176 437 155 0 k.toNat) 176 ((437 + k).toNat))) 148 44 ((437 + k) + 1) from ?_] at h9
        · exact h9
        · rw [show (k + 1).toNat = k.toNat + 1 by omega, ← gcpy_s, show (437 + k).toNat = 437 + k.toNat by omega]
          funext b j
          simp only [gu_eq, Nat.zero_add]
          rw [gcpy_off (b := 176) (j := 437 + k.toNat) (Or.inl (by decide))]
          (repeat' split) <;> first | rfl | omega | (exfalso; omega)
      · exact absurd kq2 (by decide)
set_option maxRecDepth 100000 in
set_option maxHeartbeats 4000000 in
theorem cM_mvu155 {G : gG} (hsz : G.2.2.2.2.2.2 = true) {n : Nat} (hn : 1 ≤ n) (mi : Nat → Nat → Int) (ml : Nat → Nat → Int64) (hq : mi 148 44 = 437) : gM G 241 n 0 0 [gr 148, gr 155, gi 20, gi 0] (gw mi ml) (gvd (gw (gu (gcpy mi 176 437 155 0 20) 148 44 457) ml)) := by
  refine gM.of mX12_move okX12_move (gcp 241 (by decide)).1 (gcp 241 (by decide)).2 (Nat.le_of_ble_eq_true rfl) ?_
  refine Go.run hsz hn 2 (pc' := 3) (lv' := [some (gr 148), some (gr 155), some (gi 20), some (gi 0), some (gi 0)]) (st' := []) (M' := gw mi ml) rfl ?_
  have h9 := lM_mvu155 hsz hn mi ml 21 0 (by omega) (by omega) (by omega)
  rw [show gu (gcpy mi 176 437 155 0 (0 : Int).toNat) 148 44 (437 + 0) = mi from ?_] at h9
  · exact h9
  · rw [show (0 : Int).toNat = 0 from rfl, gcpy_0, show ((437 : Int) + 0) = mi 148 44 from hq.symm, gu_id]
set_option maxRecDepth 100000 in
set_option maxHeartbeats 4000000 in
theorem lM_mvu156 {G : gG} (hsz : G.2.2.2.2.2.2 = true) {n : Nat} (hn : 1 ≤ n) (mi : Nat → Nat → Int) (ml : Nat → Nat → Int64)  : ∀ (f : Nat) (k : Int), 0 ≤ k → k ≤ 10 → 10 - k < f → Go G mX12_move n 0 0 3 [some (gr 148), some (gr 156), some (gi 10), some (gi 0), some (gi k)] [] (gw (gu (gcpy mi 176 457 156 0 k.toNat) 148 44 (457 + k)) ml) (gvd (gw (gu (gcpy mi 176 457 156 0 10) 148 44 467) ml)) := by
  have hn1 : 1 ≤ n := by omega

  intro f
  induction f with
  | zero => intros; omega
  | succ f ih =>
    intro k k0 k1 k2
    refine Go.run hsz hn1 2 (pc' := 6) (lv' := [some (gr 148), some (gr 156), some (gi 10), some (gi 0), some (gi k)]) (st' := [gi 10, gi k]) (M' := gw (gu (gcpy mi 176 457 156 0 k.toNat) 148 44 (457 + k)) ml) rfl ?_
    refine Go.icmp_ge (by rfl) ⟨by omega, by omega⟩ ⟨by decide, by decide⟩ (fun kq1 => ?_) (fun kq1 => ?_)
    · obtain rfl : k = 10 := by omega
      exact Go.vret (by rfl) ⟨rfl, rfl⟩
    · refine Go.run hsz hn1 1 (pc' := 10) (lv' := [some (gr 148), some (gr 156), some (gi 10), some (gi 0), some (gi k)]) (st' := [gi 0]) (M' := gw (gu (gcpy mi 176 457 156 0 k.toNat) 148 44 (457 + k)) ml) rfl ?_
      refine Go.if_eq (by rfl) ⟨by decide, by decide⟩ (fun kq2 => ?_) (fun kq2 => ?_)
      · refine Go.run hsz hn1 6 (pc' := 40) (lv' := [some (gr 148), some (gr 156), some (gi 10), some (gi 0), some (gi k)]) (st' := [gi (457 + k), gr 176, gi k, gr 156]) (M' := gw (gu (gcpy mi 176 457 156 0 k.toNat) 148 44 (457 + k)) ml) rfl ?_
        refine Go.iald (by rfl) (N := 760) (by rfl) (by omega) (by omega) (by decide) ?_
        refine Go.run hsz hn1 0 (pc' := 41) (lv' := [some (gr 148), some (gr 156), some (gi 10), some (gi 0), some (gi k)]) (st' := [gi ((gu (gcpy mi 176 457 156 0 k.toNat) 148 44 (457 + k)) 176 ((457 + k).toNat)), gi k, gr 156]) (M' := gw (gu (gcpy mi 176 457 156 0 k.toNat) 148 44 (457 + k)) ml) rfl ?_
        rw [show (gu (gcpy mi 176 457 156 0 k.toNat) 148 44 (457 + k)) 176 ((457 + k).toNat) = (gcpy mi 176 457 156 0 k.toNat) 176 ((457 + k).toNat) from gu_ne (Or.inl (by decide))]
        refine Go.run hsz hn1 0 (pc' := 41) (lv' := [some (gr 148), some (gr 156), some (gi 10), some (gi 0), some (gi k)]) (st' := [gi ((gcpy mi 176 457 156 0 k.toNat) 176 ((457 + k).toNat)), gi k, gr 156]) (M' := gw (gu (gcpy mi 176 457 156 0 k.toNat) 148 44 (457 + k)) ml) rfl ?_
        refine Go.iast (by rfl) (N := 10) (by rfl) (by omega) (by omega) (by decide) ?_
        refine Go.run hsz hn1 3 (pc' := 47) (lv' := [some (gr 148), some (gr 156), some (gi 10), some (gi 0), some (gi k)]) (st' := [gi ((gu (gu (gcpy mi 176 457 156 0 k.toNat) 148 44 (457 + k)) 156 k.toNat ((gcpy mi 176 457 156 0 k.toNat) 176 ((457 + k).toNat))) 148 44), gr 148]) (M' := gw (gu (gu (gcpy mi 176 457 156 0 k.toNat) 148 44 (457 + k)) 156 k.toNat ((gcpy mi 176 457 156 0 k.toNat) 176 ((457 + k).toNat))) ml) rfl ?_
        refine Go.run hsz hn1 0 (pc' := 47) (lv' := [some (gr 148), some (gr 156), some (gi 10), some (gi 0), some (gi k)]) (st' := [gi ((gu (gu (gcpy mi 176 457 156 0 k.toNat) 148 44 (457 + k)) 156 k.toNat ((gcpy mi 176 457 156 0 k.toNat) 176 ((457 + k).toNat))) 148 44), gr 148]) (M' := gw (gu (gu (gcpy mi 176 457 156 0 k.toNat) 148 44 (457 + k)) 156 k.toNat ((gcpy mi 176 457 156 0 k.toNat) 176 ((457 + k).toNat))) ml) rfl ?_
        rw [show (gu (gu (gcpy mi 176 457 156 0 k.toNat) 148 44 (457 + k)) 156 k.toNat ((gcpy mi 176 457 156 0 k.toNat) 176 ((457 + k).toNat))) 148 44 = 457 + k from (gu_ne (Or.inl (by decide))).trans (gu_self _ _ _ _)]
        refine Go.run hsz hn1 5 (pc' := 3) (lv' := [some (gr 148), some (gr 156), some (gi 10), some (gi 0), some (gi (k + 1))]) (st' := []) (M' := gw (gu (gu (gu (gcpy mi 176 457 156 0 k.toNat) 148 44 (457 + k)) 156 k.toNat ((gcpy mi 176 457 156 0 k.toNat) 176 ((457 + k).toNat))) 148 44 ((457 + k) + 1)) ml) rfl ?_
        have h9 := ih (k + 1) (by omega) (by omega) (by omega)
        rw [show gu (gcpy mi 176 457 156 0 (k + 1).toNat) 148 44 (457 + (k + 1)) = gu (gu (gu (gcpy mi 176 457 156 0 k.toNat) 148 44 (457 + k)) 156 k.toNat ((gcpy mi 176 457 156 0 k.toNat) 176 ((457 + k).toNat))) 148 44 ((457 + k) + 1) from ?_] at h9
        · exact h9
        · rw [show (k + 1).toNat = k.toNat + 1 by omega, ← gcpy_s, show (457 + k).toNat = 457 + k.toNat by omega]
          funext b j
          simp only [gu_eq, Nat.zero_add]
          rw [gcpy_off (b := 176) (j := 457 + k.toNat) (Or.inl (by decide))]
          (repeat' split) <;> first | rfl | omega | (exfalso; omega)
      · exact absurd kq2 (by decide)
set_option maxRecDepth 100000 in
set_option maxHeartbeats 4000000 in
theorem cM_mvu156 {G : gG} (hsz : G.2.2.2.2.2.2 = true) {n : Nat} (hn : 1 ≤ n) (mi : Nat → Nat → Int) (ml : Nat → Nat → Int64) (hq : mi 148 44 = 457) : gM G 241 n 0 0 [gr 148, gr 156, gi 10, gi 0] (gw mi ml) (gvd (gw (gu (gcpy mi 176 457 156 0 10) 148 44 467) ml)) := by
  refine gM.of mX12_move okX12_move (gcp 241 (by decide)).1 (gcp 241 (by decide)).2 (Nat.le_of_ble_eq_true rfl) ?_
  refine Go.run hsz hn 2 (pc' := 3) (lv' := [some (gr 148), some (gr 156), some (gi 10), some (gi 0), some (gi 0)]) (st' := []) (M' := gw mi ml) rfl ?_
  have h9 := lM_mvu156 hsz hn mi ml 11 0 (by omega) (by omega) (by omega)
  rw [show gu (gcpy mi 176 457 156 0 (0 : Int).toNat) 148 44 (457 + 0) = mi from ?_] at h9
  · exact h9
  · rw [show (0 : Int).toNat = 0 from rfl, gcpy_0, show ((457 : Int) + 0) = mi 148 44 from hq.symm, gu_id]
set_option maxRecDepth 100000 in
set_option maxHeartbeats 4000000 in
theorem lM_mvu157 {G : gG} (hsz : G.2.2.2.2.2.2 = true) {n : Nat} (hn : 1 ≤ n) (mi : Nat → Nat → Int) (ml : Nat → Nat → Int64)  : ∀ (f : Nat) (k : Int), 0 ≤ k → k ≤ 2 → 2 - k < f → Go G mX12_move n 0 0 3 [some (gr 148), some (gr 157), some (gi 2), some (gi 0), some (gi k)] [] (gw (gu (gcpy mi 176 467 157 0 k.toNat) 148 44 (467 + k)) ml) (gvd (gw (gu (gcpy mi 176 467 157 0 2) 148 44 469) ml)) := by
  have hn1 : 1 ≤ n := by omega

  intro f
  induction f with
  | zero => intros; omega
  | succ f ih =>
    intro k k0 k1 k2
    refine Go.run hsz hn1 2 (pc' := 6) (lv' := [some (gr 148), some (gr 157), some (gi 2), some (gi 0), some (gi k)]) (st' := [gi 2, gi k]) (M' := gw (gu (gcpy mi 176 467 157 0 k.toNat) 148 44 (467 + k)) ml) rfl ?_
    refine Go.icmp_ge (by rfl) ⟨by omega, by omega⟩ ⟨by decide, by decide⟩ (fun kq1 => ?_) (fun kq1 => ?_)
    · obtain rfl : k = 2 := by omega
      exact Go.vret (by rfl) ⟨rfl, rfl⟩
    · refine Go.run hsz hn1 1 (pc' := 10) (lv' := [some (gr 148), some (gr 157), some (gi 2), some (gi 0), some (gi k)]) (st' := [gi 0]) (M' := gw (gu (gcpy mi 176 467 157 0 k.toNat) 148 44 (467 + k)) ml) rfl ?_
      refine Go.if_eq (by rfl) ⟨by decide, by decide⟩ (fun kq2 => ?_) (fun kq2 => ?_)
      · refine Go.run hsz hn1 6 (pc' := 40) (lv' := [some (gr 148), some (gr 157), some (gi 2), some (gi 0), some (gi k)]) (st' := [gi (467 + k), gr 176, gi k, gr 157]) (M' := gw (gu (gcpy mi 176 467 157 0 k.toNat) 148 44 (467 + k)) ml) rfl ?_
        refine Go.iald (by rfl) (N := 760) (by rfl) (by omega) (by omega) (by decide) ?_
        refine Go.run hsz hn1 0 (pc' := 41) (lv' := [some (gr 148), some (gr 157), some (gi 2), some (gi 0), some (gi k)]) (st' := [gi ((gu (gcpy mi 176 467 157 0 k.toNat) 148 44 (467 + k)) 176 ((467 + k).toNat)), gi k, gr 157]) (M' := gw (gu (gcpy mi 176 467 157 0 k.toNat) 148 44 (467 + k)) ml) rfl ?_
        rw [show (gu (gcpy mi 176 467 157 0 k.toNat) 148 44 (467 + k)) 176 ((467 + k).toNat) = (gcpy mi 176 467 157 0 k.toNat) 176 ((467 + k).toNat) from gu_ne (Or.inl (by decide))]
        refine Go.run hsz hn1 0 (pc' := 41) (lv' := [some (gr 148), some (gr 157), some (gi 2), some (gi 0), some (gi k)]) (st' := [gi ((gcpy mi 176 467 157 0 k.toNat) 176 ((467 + k).toNat)), gi k, gr 157]) (M' := gw (gu (gcpy mi 176 467 157 0 k.toNat) 148 44 (467 + k)) ml) rfl ?_
        refine Go.iast (by rfl) (N := 2) (by rfl) (by omega) (by omega) (by decide) ?_
        refine Go.run hsz hn1 3 (pc' := 47) (lv' := [some (gr 148), some (gr 157), some (gi 2), some (gi 0), some (gi k)]) (st' := [gi ((gu (gu (gcpy mi 176 467 157 0 k.toNat) 148 44 (467 + k)) 157 k.toNat ((gcpy mi 176 467 157 0 k.toNat) 176 ((467 + k).toNat))) 148 44), gr 148]) (M' := gw (gu (gu (gcpy mi 176 467 157 0 k.toNat) 148 44 (467 + k)) 157 k.toNat ((gcpy mi 176 467 157 0 k.toNat) 176 ((467 + k).toNat))) ml) rfl ?_
        refine Go.run hsz hn1 0 (pc' := 47) (lv' := [some (gr 148), some (gr 157), some (gi 2), some (gi 0), some (gi k)]) (st' := [gi ((gu (gu (gcpy mi 176 467 157 0 k.toNat) 148 44 (467 + k)) 157 k.toNat ((gcpy mi 176 467 157 0 k.toNat) 176 ((467 + k).toNat))) 148 44), gr 148]) (M' := gw (gu (gu (gcpy mi 176 467 157 0 k.toNat) 148 44 (467 + k)) 157 k.toNat ((gcpy mi 176 467 157 0 k.toNat) 176 ((467 + k).toNat))) ml) rfl ?_
        rw [show (gu (gu (gcpy mi 176 467 157 0 k.toNat) 148 44 (467 + k)) 157 k.toNat ((gcpy mi 176 467 157 0 k.toNat) 176 ((467 + k).toNat))) 148 44 = 467 + k from (gu_ne (Or.inl (by decide))).trans (gu_self _ _ _ _)]
        refine Go.run hsz hn1 5 (pc' := 3) (lv' := [some (gr 148), some (gr 157), some (gi 2), some (gi 0), some (gi (k + 1))]) (st' := []) (M' := gw (gu (gu (gu (gcpy mi 176 467 157 0 k.toNat) 148 44 (467 + k)) 157 k.toNat ((gcpy mi 176 467 157 0 k.toNat) 176 ((467 + k).toNat))) 148 44 ((467 + k) + 1)) ml) rfl ?_
        have h9 := ih (k + 1) (by omega) (by omega) (by omega)
        rw [show gu (gcpy mi 176 467 157 0 (k + 1).toNat) 148 44 (467 + (k + 1)) = gu (gu (gu (gcpy mi 176 467 157 0 k.toNat) 148 44 (467 + k)) 157 k.toNat ((gcpy mi 176 467 157 0 k.toNat) 176 ((467 + k).toNat))) 148 44 ((467 + k) + 1) from ?_] at h9
        · exact h9
        · rw [show (k + 1).toNat = k.toNat + 1 by omega, ← gcpy_s, show (467 + k).toNat = 467 + k.toNat by omega]
          funext b j
          simp only [gu_eq, Nat.zero_add]
          rw [gcpy_off (b := 176) (j := 467 + k.toNat) (Or.inl (by decide))]
          (repeat' split) <;> first | rfl | omega | (exfalso; omega)
      · exact absurd kq2 (by decide)
set_option maxRecDepth 100000 in
set_option maxHeartbeats 4000000 in
theorem cM_mvu157 {G : gG} (hsz : G.2.2.2.2.2.2 = true) {n : Nat} (hn : 1 ≤ n) (mi : Nat → Nat → Int) (ml : Nat → Nat → Int64) (hq : mi 148 44 = 467) : gM G 241 n 0 0 [gr 148, gr 157, gi 2, gi 0] (gw mi ml) (gvd (gw (gu (gcpy mi 176 467 157 0 2) 148 44 469) ml)) := by
  refine gM.of mX12_move okX12_move (gcp 241 (by decide)).1 (gcp 241 (by decide)).2 (Nat.le_of_ble_eq_true rfl) ?_
  refine Go.run hsz hn 2 (pc' := 3) (lv' := [some (gr 148), some (gr 157), some (gi 2), some (gi 0), some (gi 0)]) (st' := []) (M' := gw mi ml) rfl ?_
  have h9 := lM_mvu157 hsz hn mi ml 3 0 (by omega) (by omega) (by omega)
  rw [show gu (gcpy mi 176 467 157 0 (0 : Int).toNat) 148 44 (467 + 0) = mi from ?_] at h9
  · exact h9
  · rw [show (0 : Int).toNat = 0 from rfl, gcpy_0, show ((467 : Int) + 0) = mi 148 44 from hq.symm, gu_id]
set_option maxRecDepth 100000 in
set_option maxHeartbeats 4000000 in
theorem lM_mvu158 {G : gG} (hsz : G.2.2.2.2.2.2 = true) {n : Nat} (hn : 1 ≤ n) (mi : Nat → Nat → Int) (ml : Nat → Nat → Int64)  : ∀ (f : Nat) (k : Int), 0 ≤ k → k ≤ 240 → 240 - k < f → Go G mX12_move n 0 0 3 [some (gr 148), some (gr 158), some (gi 240), some (gi 0), some (gi k)] [] (gw (gu (gcpy mi 176 469 158 0 k.toNat) 148 44 (469 + k)) ml) (gvd (gw (gu (gcpy mi 176 469 158 0 240) 148 44 709) ml)) := by
  have hn1 : 1 ≤ n := by omega

  intro f
  induction f with
  | zero => intros; omega
  | succ f ih =>
    intro k k0 k1 k2
    refine Go.run hsz hn1 2 (pc' := 6) (lv' := [some (gr 148), some (gr 158), some (gi 240), some (gi 0), some (gi k)]) (st' := [gi 240, gi k]) (M' := gw (gu (gcpy mi 176 469 158 0 k.toNat) 148 44 (469 + k)) ml) rfl ?_
    refine Go.icmp_ge (by rfl) ⟨by omega, by omega⟩ ⟨by decide, by decide⟩ (fun kq1 => ?_) (fun kq1 => ?_)
    · obtain rfl : k = 240 := by omega
      exact Go.vret (by rfl) ⟨rfl, rfl⟩
    · refine Go.run hsz hn1 1 (pc' := 10) (lv' := [some (gr 148), some (gr 158), some (gi 240), some (gi 0), some (gi k)]) (st' := [gi 0]) (M' := gw (gu (gcpy mi 176 469 158 0 k.toNat) 148 44 (469 + k)) ml) rfl ?_
      refine Go.if_eq (by rfl) ⟨by decide, by decide⟩ (fun kq2 => ?_) (fun kq2 => ?_)
      · refine Go.run hsz hn1 6 (pc' := 40) (lv' := [some (gr 148), some (gr 158), some (gi 240), some (gi 0), some (gi k)]) (st' := [gi (469 + k), gr 176, gi k, gr 158]) (M' := gw (gu (gcpy mi 176 469 158 0 k.toNat) 148 44 (469 + k)) ml) rfl ?_
        refine Go.iald (by rfl) (N := 760) (by rfl) (by omega) (by omega) (by decide) ?_
        refine Go.run hsz hn1 0 (pc' := 41) (lv' := [some (gr 148), some (gr 158), some (gi 240), some (gi 0), some (gi k)]) (st' := [gi ((gu (gcpy mi 176 469 158 0 k.toNat) 148 44 (469 + k)) 176 ((469 + k).toNat)), gi k, gr 158]) (M' := gw (gu (gcpy mi 176 469 158 0 k.toNat) 148 44 (469 + k)) ml) rfl ?_
        rw [show (gu (gcpy mi 176 469 158 0 k.toNat) 148 44 (469 + k)) 176 ((469 + k).toNat) = (gcpy mi 176 469 158 0 k.toNat) 176 ((469 + k).toNat) from gu_ne (Or.inl (by decide))]
        refine Go.run hsz hn1 0 (pc' := 41) (lv' := [some (gr 148), some (gr 158), some (gi 240), some (gi 0), some (gi k)]) (st' := [gi ((gcpy mi 176 469 158 0 k.toNat) 176 ((469 + k).toNat)), gi k, gr 158]) (M' := gw (gu (gcpy mi 176 469 158 0 k.toNat) 148 44 (469 + k)) ml) rfl ?_
        refine Go.iast (by rfl) (N := 240) (by rfl) (by omega) (by omega) (by decide) ?_
        refine Go.run hsz hn1 3 (pc' := 47) (lv' := [some (gr 148), some (gr 158), some (gi 240), some (gi 0), some (gi k)]) (st' := [gi ((gu (gu (gcpy mi 176 469 158 0 k.toNat) 148 44 (469 + k)) 158 k.toNat ((gcpy mi 176 469 158 0 k.toNat) 176 ((469 + k).toNat))) 148 44), gr 148]) (M' := gw (gu (gu (gcpy mi 176 469 158 0 k.toNat) 148 44 (469 + k)) 158 k.toNat ((gcpy mi 176 469 158 0 k.toNat) 176 ((469 + k).toNat))) ml) rfl ?_
        refine Go.run hsz hn1 0 (pc' := 47) (lv' := [some (gr 148), some (gr 158), some (gi 240), some (gi 0), some (gi k)]) (st' := [gi ((gu (gu (gcpy mi 176 469 158 0 k.toNat) 148 44 (469 + k)) 158 k.toNat ((gcpy mi 176 469 158 0 k.toNat) 176 ((469 + k).toNat))) 148 44), gr 148]) (M' := gw (gu (gu (gcpy mi 176 469 158 0 k.toNat) 148 44 (469 + k)) 158 k.toNat ((gcpy mi 176 469 158 0 k.toNat) 176 ((469 + k).toNat))) ml) rfl ?_
        rw [show (gu (gu (gcpy mi 176 469 158 0 k.toNat) 148 44 (469 + k)) 158 k.toNat ((gcpy mi 176 469 158 0 k.toNat) 176 ((469 + k).toNat))) 148 44 = 469 + k from (gu_ne (Or.inl (by decide))).trans (gu_self _ _ _ _)]
        refine Go.run hsz hn1 5 (pc' := 3) (lv' := [some (gr 148), some (gr 158), some (gi 240), some (gi 0), some (gi (k + 1))]) (st' := []) (M' := gw (gu (gu (gu (gcpy mi 176 469 158 0 k.toNat) 148 44 (469 + k)) 158 k.toNat ((gcpy mi 176 469 158 0 k.toNat) 176 ((469 + k).toNat))) 148 44 ((469 + k) + 1)) ml) rfl ?_
        have h9 := ih (k + 1) (by omega) (by omega) (by omega)
        rw [show gu (gcpy mi 176 469 158 0 (k + 1).toNat) 148 44 (469 + (k + 1)) = gu (gu (gu (gcpy mi 176 469 158 0 k.toNat) 148 44 (469 + k)) 158 k.toNat ((gcpy mi 176 469 158 0 k.toNat) 176 ((469 + k).toNat))) 148 44 ((469 + k) + 1) from ?_] at h9
        · exact h9
        · rw [show (k + 1).toNat = k.toNat + 1 by omega, ← gcpy_s, show (469 + k).toNat = 469 + k.toNat by omega]
          funext b j
          simp only [gu_eq, Nat.zero_add]
          rw [gcpy_off (b := 176) (j := 469 + k.toNat) (Or.inl (by decide))]
          (repeat' split) <;> first | rfl | omega | (exfalso; omega)
      · exact absurd kq2 (by decide)
set_option maxRecDepth 100000 in
set_option maxHeartbeats 4000000 in
theorem cM_mvu158 {G : gG} (hsz : G.2.2.2.2.2.2 = true) {n : Nat} (hn : 1 ≤ n) (mi : Nat → Nat → Int) (ml : Nat → Nat → Int64) (hq : mi 148 44 = 469) : gM G 241 n 0 0 [gr 148, gr 158, gi 240, gi 0] (gw mi ml) (gvd (gw (gu (gcpy mi 176 469 158 0 240) 148 44 709) ml)) := by
  refine gM.of mX12_move okX12_move (gcp 241 (by decide)).1 (gcp 241 (by decide)).2 (Nat.le_of_ble_eq_true rfl) ?_
  refine Go.run hsz hn 2 (pc' := 3) (lv' := [some (gr 148), some (gr 158), some (gi 240), some (gi 0), some (gi 0)]) (st' := []) (M' := gw mi ml) rfl ?_
  have h9 := lM_mvu158 hsz hn mi ml 241 0 (by omega) (by omega) (by omega)
  rw [show gu (gcpy mi 176 469 158 0 (0 : Int).toNat) 148 44 (469 + 0) = mi from ?_] at h9
  · exact h9
  · rw [show (0 : Int).toNat = 0 from rfl, gcpy_0, show ((469 : Int) + 0) = mi 148 44 from hq.symm, gu_id]
def mAllK (mi : Nat → Nat → Int) : Nat → Nat → Int := gu (gcpy (gu (gcpy (gu (gcpy (gu (gcpy (gu (gcpy (gu (gcpy (gu (gcpy (gu (gcpy (gu (gcpy (gu (gcpy (gu (gcpy (gu (gu (gu (gu (gu (gu mi 148 44 0) 177 0 (mi 148 0)) 177 1 (mi 148 1)) 177 2 (mi 148 2)) 177 3 (mi 148 6)) 177 4 (mi 148 9)) 177 0 176 0 5) 148 44 5) 149 0 176 5 96) 148 44 101) 150 0 176 101 12) 148 44 113) 151 0 176 113 12) 148 44 125) 152 0 176 125 288) 148 44 413) 153 0 176 413 4) 148 44 417) 154 0 176 417 20) 148 44 437) 155 0 176 437 20) 148 44 457) 156 0 176 457 10) 148 44 467) 157 0 176 467 2) 148 44 469) 158 0 176 469 240) 148 44 709
set_option maxRecDepth 100000 in
set_option maxHeartbeats 4000000 in
theorem cM_all1 {G : gG} (hsz : G.2.2.2.2.2.2 = true) {n : Nat} (hn : 2 ≤ n) (mi : Nat → Nat → Int) (ml : Nat → Nat → Int64)  : gM G 242 n 0 0 [gr 148, gi 1] (gw mi ml) (gvd (gw (mAllK mi) ml)) := by
  have hn1 : 1 ≤ n := by omega
  refine gM.of mX12_moveAll okX12_moveAll (gcp 242 (by decide)).1 (gcp 242 (by decide)).2 (Nat.le_of_ble_eq_true rfl) ?_
  refine Go.run hsz hn1 8 (pc' := 14) (lv' := [some (gr 148), some (gi 1)]) (st' := [gi (mi 148 0), gi 0, gr 177]) (M' := gw (gu mi 148 44 0) ml) rfl ?_
  refine Go.iast (by rfl) (N := 5) (by rfl) (by omega) (by omega) (by decide) ?_
  refine Go.run hsz hn1 5 (pc' := 24) (lv' := [some (gr 148), some (gi 1)]) (st' := [gi (mi 148 1), gi 1, gr 177]) (M' := gw (gu (gu mi 148 44 0) 177 0 (mi 148 0)) ml) rfl ?_
  refine Go.iast (by rfl) (N := 5) (by rfl) (by omega) (by omega) (by decide) ?_
  refine Go.run hsz hn1 5 (pc' := 34) (lv' := [some (gr 148), some (gi 1)]) (st' := [gi (mi 148 2), gi 2, gr 177]) (M' := gw (gu (gu (gu mi 148 44 0) 177 0 (mi 148 0)) 177 1 (mi 148 1)) ml) rfl ?_
  refine Go.iast (by rfl) (N := 5) (by rfl) (by omega) (by omega) (by decide) ?_
  refine Go.run hsz hn1 5 (pc' := 44) (lv' := [some (gr 148), some (gi 1)]) (st' := [gi (mi 148 6), gi 3, gr 177]) (M' := gw (gu (gu (gu (gu mi 148 44 0) 177 0 (mi 148 0)) 177 1 (mi 148 1)) 177 2 (mi 148 2)) ml) rfl ?_
  refine Go.iast (by rfl) (N := 5) (by rfl) (by omega) (by omega) (by decide) ?_
  refine Go.run hsz hn1 5 (pc' := 54) (lv' := [some (gr 148), some (gi 1)]) (st' := [gi (mi 148 9), gi 4, gr 177]) (M' := gw (gu (gu (gu (gu (gu mi 148 44 0) 177 0 (mi 148 0)) 177 1 (mi 148 1)) 177 2 (mi 148 2)) 177 3 (mi 148 6)) ml) rfl ?_
  refine Go.iast (by rfl) (N := 5) (by rfl) (by omega) (by omega) (by decide) ?_
  refine Go.run hsz hn1 5 (pc' := 62) (lv' := [some (gr 148), some (gi 1)]) (st' := [gi 1, gi 5, gr 177, gr 148]) (M' := gw (gu (gu (gu (gu (gu (gu mi 148 44 0) 177 0 (mi 148 0)) 177 1 (mi 148 1)) 177 2 (mi 148 2)) 177 3 (mi 148 6)) 177 4 (mi 148 9)) ml) rfl ?_
  refine Go.callV (As := [gr 177, gi 5, gi 1]) (b := 148) (st := []) (mc1 := 0) (mc := 0) (ms1 := 0) (ms := 0) (by rfl) rfl (c := 11) (N := 46) (by rfl) (by decide) (by rfl) (gcn 241 (by decide)).1 (gcn 241 (by decide)).2 rfl (Nat.le_of_ble_eq_true rfl) (by omega) (cM_mvk177 hsz (n := n - 1) (by omega) (gu (gu (gu (gu (gu (gu mi 148 44 0) 177 0 (mi 148 0)) 177 1 (mi 148 1)) 177 2 (mi 148 2)) 177 3 (mi 148 6)) 177 4 (mi 148 9)) ml (by rfl)) ?_
  rintro _ _ ⟨rfl, rfl⟩
  refine Go.run hsz hn1 5 (pc' := 73) (lv' := [some (gr 148), some (gi 1)]) (st' := [gi 1, gi 96, gr 149, gr 148]) (M' := gw (gu (gcpy (gu (gu (gu (gu (gu (gu mi 148 44 0) 177 0 (mi 148 0)) 177 1 (mi 148 1)) 177 2 (mi 148 2)) 177 3 (mi 148 6)) 177 4 (mi 148 9)) 177 0 176 0 5) 148 44 5) ml) rfl ?_
  refine Go.callV (As := [gr 149, gi 96, gi 1]) (b := 148) (st := []) (mc1 := 0) (mc := 0) (ms1 := 0) (ms := 0) (by rfl) rfl (c := 11) (N := 46) (by rfl) (by decide) (by rfl) (gcn 241 (by decide)).1 (gcn 241 (by decide)).2 rfl (Nat.le_of_ble_eq_true rfl) (by omega) (cM_mvk149 hsz (n := n - 1) (by omega) (gu (gcpy (gu (gu (gu (gu (gu (gu mi 148 44 0) 177 0 (mi 148 0)) 177 1 (mi 148 1)) 177 2 (mi 148 2)) 177 3 (mi 148 6)) 177 4 (mi 148 9)) 177 0 176 0 5) 148 44 5) ml (by rfl)) ?_
  rintro _ _ ⟨rfl, rfl⟩
  refine Go.run hsz hn1 5 (pc' := 84) (lv' := [some (gr 148), some (gi 1)]) (st' := [gi 1, gi 12, gr 150, gr 148]) (M' := gw (gu (gcpy (gu (gcpy (gu (gu (gu (gu (gu (gu mi 148 44 0) 177 0 (mi 148 0)) 177 1 (mi 148 1)) 177 2 (mi 148 2)) 177 3 (mi 148 6)) 177 4 (mi 148 9)) 177 0 176 0 5) 148 44 5) 149 0 176 5 96) 148 44 101) ml) rfl ?_
  refine Go.callV (As := [gr 150, gi 12, gi 1]) (b := 148) (st := []) (mc1 := 0) (mc := 0) (ms1 := 0) (ms := 0) (by rfl) rfl (c := 11) (N := 46) (by rfl) (by decide) (by rfl) (gcn 241 (by decide)).1 (gcn 241 (by decide)).2 rfl (Nat.le_of_ble_eq_true rfl) (by omega) (cM_mvk150 hsz (n := n - 1) (by omega) (gu (gcpy (gu (gcpy (gu (gu (gu (gu (gu (gu mi 148 44 0) 177 0 (mi 148 0)) 177 1 (mi 148 1)) 177 2 (mi 148 2)) 177 3 (mi 148 6)) 177 4 (mi 148 9)) 177 0 176 0 5) 148 44 5) 149 0 176 5 96) 148 44 101) ml (by rfl)) ?_
  rintro _ _ ⟨rfl, rfl⟩
  refine Go.run hsz hn1 5 (pc' := 95) (lv' := [some (gr 148), some (gi 1)]) (st' := [gi 1, gi 12, gr 151, gr 148]) (M' := gw (gu (gcpy (gu (gcpy (gu (gcpy (gu (gu (gu (gu (gu (gu mi 148 44 0) 177 0 (mi 148 0)) 177 1 (mi 148 1)) 177 2 (mi 148 2)) 177 3 (mi 148 6)) 177 4 (mi 148 9)) 177 0 176 0 5) 148 44 5) 149 0 176 5 96) 148 44 101) 150 0 176 101 12) 148 44 113) ml) rfl ?_
  refine Go.callV (As := [gr 151, gi 12, gi 1]) (b := 148) (st := []) (mc1 := 0) (mc := 0) (ms1 := 0) (ms := 0) (by rfl) rfl (c := 11) (N := 46) (by rfl) (by decide) (by rfl) (gcn 241 (by decide)).1 (gcn 241 (by decide)).2 rfl (Nat.le_of_ble_eq_true rfl) (by omega) (cM_mvk151 hsz (n := n - 1) (by omega) (gu (gcpy (gu (gcpy (gu (gcpy (gu (gu (gu (gu (gu (gu mi 148 44 0) 177 0 (mi 148 0)) 177 1 (mi 148 1)) 177 2 (mi 148 2)) 177 3 (mi 148 6)) 177 4 (mi 148 9)) 177 0 176 0 5) 148 44 5) 149 0 176 5 96) 148 44 101) 150 0 176 101 12) 148 44 113) ml (by rfl)) ?_
  rintro _ _ ⟨rfl, rfl⟩
  refine Go.run hsz hn1 5 (pc' := 107) (lv' := [some (gr 148), some (gi 1)]) (st' := [gi 1, gi 288, gr 152, gr 148]) (M' := gw (gu (gcpy (gu (gcpy (gu (gcpy (gu (gcpy (gu (gu (gu (gu (gu (gu mi 148 44 0) 177 0 (mi 148 0)) 177 1 (mi 148 1)) 177 2 (mi 148 2)) 177 3 (mi 148 6)) 177 4 (mi 148 9)) 177 0 176 0 5) 148 44 5) 149 0 176 5 96) 148 44 101) 150 0 176 101 12) 148 44 113) 151 0 176 113 12) 148 44 125) ml) rfl ?_
  refine Go.callV (As := [gr 152, gi 288, gi 1]) (b := 148) (st := []) (mc1 := 0) (mc := 0) (ms1 := 0) (ms := 0) (by rfl) rfl (c := 11) (N := 46) (by rfl) (by decide) (by rfl) (gcn 241 (by decide)).1 (gcn 241 (by decide)).2 rfl (Nat.le_of_ble_eq_true rfl) (by omega) (cM_mvk152 hsz (n := n - 1) (by omega) (gu (gcpy (gu (gcpy (gu (gcpy (gu (gcpy (gu (gu (gu (gu (gu (gu mi 148 44 0) 177 0 (mi 148 0)) 177 1 (mi 148 1)) 177 2 (mi 148 2)) 177 3 (mi 148 6)) 177 4 (mi 148 9)) 177 0 176 0 5) 148 44 5) 149 0 176 5 96) 148 44 101) 150 0 176 101 12) 148 44 113) 151 0 176 113 12) 148 44 125) ml (by rfl)) ?_
  rintro _ _ ⟨rfl, rfl⟩
  refine Go.run hsz hn1 5 (pc' := 117) (lv' := [some (gr 148), some (gi 1)]) (st' := [gi 1, gi 4, gr 153, gr 148]) (M' := gw (gu (gcpy (gu (gcpy (gu (gcpy (gu (gcpy (gu (gcpy (gu (gu (gu (gu (gu (gu mi 148 44 0) 177 0 (mi 148 0)) 177 1 (mi 148 1)) 177 2 (mi 148 2)) 177 3 (mi 148 6)) 177 4 (mi 148 9)) 177 0 176 0 5) 148 44 5) 149 0 176 5 96) 148 44 101) 150 0 176 101 12) 148 44 113) 151 0 176 113 12) 148 44 125) 152 0 176 125 288) 148 44 413) ml) rfl ?_
  refine Go.callV (As := [gr 153, gi 4, gi 1]) (b := 148) (st := []) (mc1 := 0) (mc := 0) (ms1 := 0) (ms := 0) (by rfl) rfl (c := 11) (N := 46) (by rfl) (by decide) (by rfl) (gcn 241 (by decide)).1 (gcn 241 (by decide)).2 rfl (Nat.le_of_ble_eq_true rfl) (by omega) (cM_mvk153 hsz (n := n - 1) (by omega) (gu (gcpy (gu (gcpy (gu (gcpy (gu (gcpy (gu (gcpy (gu (gu (gu (gu (gu (gu mi 148 44 0) 177 0 (mi 148 0)) 177 1 (mi 148 1)) 177 2 (mi 148 2)) 177 3 (mi 148 6)) 177 4 (mi 148 9)) 177 0 176 0 5) 148 44 5) 149 0 176 5 96) 148 44 101) 150 0 176 101 12) 148 44 113) 151 0 176 113 12) 148 44 125) 152 0 176 125 288) 148 44 413) ml (by rfl)) ?_
  rintro _ _ ⟨rfl, rfl⟩
  refine Go.run hsz hn1 5 (pc' := 128) (lv' := [some (gr 148), some (gi 1)]) (st' := [gi 1, gi 20, gr 154, gr 148]) (M' := gw (gu (gcpy (gu (gcpy (gu (gcpy (gu (gcpy (gu (gcpy (gu (gcpy (gu (gu (gu (gu (gu (gu mi 148 44 0) 177 0 (mi 148 0)) 177 1 (mi 148 1)) 177 2 (mi 148 2)) 177 3 (mi 148 6)) 177 4 (mi 148 9)) 177 0 176 0 5) 148 44 5) 149 0 176 5 96) 148 44 101) 150 0 176 101 12) 148 44 113) 151 0 176 113 12) 148 44 125) 152 0 176 125 288) 148 44 413) 153 0 176 413 4) 148 44 417) ml) rfl ?_
  refine Go.callV (As := [gr 154, gi 20, gi 1]) (b := 148) (st := []) (mc1 := 0) (mc := 0) (ms1 := 0) (ms := 0) (by rfl) rfl (c := 11) (N := 46) (by rfl) (by decide) (by rfl) (gcn 241 (by decide)).1 (gcn 241 (by decide)).2 rfl (Nat.le_of_ble_eq_true rfl) (by omega) (cM_mvk154 hsz (n := n - 1) (by omega) (gu (gcpy (gu (gcpy (gu (gcpy (gu (gcpy (gu (gcpy (gu (gcpy (gu (gu (gu (gu (gu (gu mi 148 44 0) 177 0 (mi 148 0)) 177 1 (mi 148 1)) 177 2 (mi 148 2)) 177 3 (mi 148 6)) 177 4 (mi 148 9)) 177 0 176 0 5) 148 44 5) 149 0 176 5 96) 148 44 101) 150 0 176 101 12) 148 44 113) 151 0 176 113 12) 148 44 125) 152 0 176 125 288) 148 44 413) 153 0 176 413 4) 148 44 417) ml (by rfl)) ?_
  rintro _ _ ⟨rfl, rfl⟩
  refine Go.run hsz hn1 5 (pc' := 139) (lv' := [some (gr 148), some (gi 1)]) (st' := [gi 1, gi 20, gr 155, gr 148]) (M' := gw (gu (gcpy (gu (gcpy (gu (gcpy (gu (gcpy (gu (gcpy (gu (gcpy (gu (gcpy (gu (gu (gu (gu (gu (gu mi 148 44 0) 177 0 (mi 148 0)) 177 1 (mi 148 1)) 177 2 (mi 148 2)) 177 3 (mi 148 6)) 177 4 (mi 148 9)) 177 0 176 0 5) 148 44 5) 149 0 176 5 96) 148 44 101) 150 0 176 101 12) 148 44 113) 151 0 176 113 12) 148 44 125) 152 0 176 125 288) 148 44 413) 153 0 176 413 4) 148 44 417) 154 0 176 417 20) 148 44 437) ml) rfl ?_
  refine Go.callV (As := [gr 155, gi 20, gi 1]) (b := 148) (st := []) (mc1 := 0) (mc := 0) (ms1 := 0) (ms := 0) (by rfl) rfl (c := 11) (N := 46) (by rfl) (by decide) (by rfl) (gcn 241 (by decide)).1 (gcn 241 (by decide)).2 rfl (Nat.le_of_ble_eq_true rfl) (by omega) (cM_mvk155 hsz (n := n - 1) (by omega) (gu (gcpy (gu (gcpy (gu (gcpy (gu (gcpy (gu (gcpy (gu (gcpy (gu (gcpy (gu (gu (gu (gu (gu (gu mi 148 44 0) 177 0 (mi 148 0)) 177 1 (mi 148 1)) 177 2 (mi 148 2)) 177 3 (mi 148 6)) 177 4 (mi 148 9)) 177 0 176 0 5) 148 44 5) 149 0 176 5 96) 148 44 101) 150 0 176 101 12) 148 44 113) 151 0 176 113 12) 148 44 125) 152 0 176 125 288) 148 44 413) 153 0 176 413 4) 148 44 417) 154 0 176 417 20) 148 44 437) ml (by rfl)) ?_
  rintro _ _ ⟨rfl, rfl⟩
  refine Go.run hsz hn1 5 (pc' := 150) (lv' := [some (gr 148), some (gi 1)]) (st' := [gi 1, gi 10, gr 156, gr 148]) (M' := gw (gu (gcpy (gu (gcpy (gu (gcpy (gu (gcpy (gu (gcpy (gu (gcpy (gu (gcpy (gu (gcpy (gu (gu (gu (gu (gu (gu mi 148 44 0) 177 0 (mi 148 0)) 177 1 (mi 148 1)) 177 2 (mi 148 2)) 177 3 (mi 148 6)) 177 4 (mi 148 9)) 177 0 176 0 5) 148 44 5) 149 0 176 5 96) 148 44 101) 150 0 176 101 12) 148 44 113) 151 0 176 113 12) 148 44 125) 152 0 176 125 288) 148 44 413) 153 0 176 413 4) 148 44 417) 154 0 176 417 20) 148 44 437) 155 0 176 437 20) 148 44 457) ml) rfl ?_
  refine Go.callV (As := [gr 156, gi 10, gi 1]) (b := 148) (st := []) (mc1 := 0) (mc := 0) (ms1 := 0) (ms := 0) (by rfl) rfl (c := 11) (N := 46) (by rfl) (by decide) (by rfl) (gcn 241 (by decide)).1 (gcn 241 (by decide)).2 rfl (Nat.le_of_ble_eq_true rfl) (by omega) (cM_mvk156 hsz (n := n - 1) (by omega) (gu (gcpy (gu (gcpy (gu (gcpy (gu (gcpy (gu (gcpy (gu (gcpy (gu (gcpy (gu (gcpy (gu (gu (gu (gu (gu (gu mi 148 44 0) 177 0 (mi 148 0)) 177 1 (mi 148 1)) 177 2 (mi 148 2)) 177 3 (mi 148 6)) 177 4 (mi 148 9)) 177 0 176 0 5) 148 44 5) 149 0 176 5 96) 148 44 101) 150 0 176 101 12) 148 44 113) 151 0 176 113 12) 148 44 125) 152 0 176 125 288) 148 44 413) 153 0 176 413 4) 148 44 417) 154 0 176 417 20) 148 44 437) 155 0 176 437 20) 148 44 457) ml (by rfl)) ?_
  rintro _ _ ⟨rfl, rfl⟩
  refine Go.run hsz hn1 5 (pc' := 160) (lv' := [some (gr 148), some (gi 1)]) (st' := [gi 1, gi 2, gr 157, gr 148]) (M' := gw (gu (gcpy (gu (gcpy (gu (gcpy (gu (gcpy (gu (gcpy (gu (gcpy (gu (gcpy (gu (gcpy (gu (gcpy (gu (gu (gu (gu (gu (gu mi 148 44 0) 177 0 (mi 148 0)) 177 1 (mi 148 1)) 177 2 (mi 148 2)) 177 3 (mi 148 6)) 177 4 (mi 148 9)) 177 0 176 0 5) 148 44 5) 149 0 176 5 96) 148 44 101) 150 0 176 101 12) 148 44 113) 151 0 176 113 12) 148 44 125) 152 0 176 125 288) 148 44 413) 153 0 176 413 4) 148 44 417) 154 0 176 417 20) 148 44 437) 155 0 176 437 20) 148 44 457) 156 0 176 457 10) 148 44 467) ml) rfl ?_
  refine Go.callV (As := [gr 157, gi 2, gi 1]) (b := 148) (st := []) (mc1 := 0) (mc := 0) (ms1 := 0) (ms := 0) (by rfl) rfl (c := 11) (N := 46) (by rfl) (by decide) (by rfl) (gcn 241 (by decide)).1 (gcn 241 (by decide)).2 rfl (Nat.le_of_ble_eq_true rfl) (by omega) (cM_mvk157 hsz (n := n - 1) (by omega) (gu (gcpy (gu (gcpy (gu (gcpy (gu (gcpy (gu (gcpy (gu (gcpy (gu (gcpy (gu (gcpy (gu (gcpy (gu (gu (gu (gu (gu (gu mi 148 44 0) 177 0 (mi 148 0)) 177 1 (mi 148 1)) 177 2 (mi 148 2)) 177 3 (mi 148 6)) 177 4 (mi 148 9)) 177 0 176 0 5) 148 44 5) 149 0 176 5 96) 148 44 101) 150 0 176 101 12) 148 44 113) 151 0 176 113 12) 148 44 125) 152 0 176 125 288) 148 44 413) 153 0 176 413 4) 148 44 417) 154 0 176 417 20) 148 44 437) 155 0 176 437 20) 148 44 457) 156 0 176 457 10) 148 44 467) ml (by rfl)) ?_
  rintro _ _ ⟨rfl, rfl⟩
  refine Go.run hsz hn1 5 (pc' := 172) (lv' := [some (gr 148), some (gi 1)]) (st' := [gi 1, gi 240, gr 158, gr 148]) (M' := gw (gu (gcpy (gu (gcpy (gu (gcpy (gu (gcpy (gu (gcpy (gu (gcpy (gu (gcpy (gu (gcpy (gu (gcpy (gu (gcpy (gu (gu (gu (gu (gu (gu mi 148 44 0) 177 0 (mi 148 0)) 177 1 (mi 148 1)) 177 2 (mi 148 2)) 177 3 (mi 148 6)) 177 4 (mi 148 9)) 177 0 176 0 5) 148 44 5) 149 0 176 5 96) 148 44 101) 150 0 176 101 12) 148 44 113) 151 0 176 113 12) 148 44 125) 152 0 176 125 288) 148 44 413) 153 0 176 413 4) 148 44 417) 154 0 176 417 20) 148 44 437) 155 0 176 437 20) 148 44 457) 156 0 176 457 10) 148 44 467) 157 0 176 467 2) 148 44 469) ml) rfl ?_
  refine Go.callV (As := [gr 158, gi 240, gi 1]) (b := 148) (st := []) (mc1 := 0) (mc := 0) (ms1 := 0) (ms := 0) (by rfl) rfl (c := 11) (N := 46) (by rfl) (by decide) (by rfl) (gcn 241 (by decide)).1 (gcn 241 (by decide)).2 rfl (Nat.le_of_ble_eq_true rfl) (by omega) (cM_mvk158 hsz (n := n - 1) (by omega) (gu (gcpy (gu (gcpy (gu (gcpy (gu (gcpy (gu (gcpy (gu (gcpy (gu (gcpy (gu (gcpy (gu (gcpy (gu (gcpy (gu (gu (gu (gu (gu (gu mi 148 44 0) 177 0 (mi 148 0)) 177 1 (mi 148 1)) 177 2 (mi 148 2)) 177 3 (mi 148 6)) 177 4 (mi 148 9)) 177 0 176 0 5) 148 44 5) 149 0 176 5 96) 148 44 101) 150 0 176 101 12) 148 44 113) 151 0 176 113 12) 148 44 125) 152 0 176 125 288) 148 44 413) 153 0 176 413 4) 148 44 417) 154 0 176 417 20) 148 44 437) 155 0 176 437 20) 148 44 457) 156 0 176 457 10) 148 44 467) 157 0 176 467 2) 148 44 469) ml (by rfl)) ?_
  rintro _ _ ⟨rfl, rfl⟩
  refine Go.run hsz hn1 0 (pc' := 175) (lv' := [some (gr 148), some (gi 1)]) (st' := []) (M' := gw (gu (gcpy (gu (gcpy (gu (gcpy (gu (gcpy (gu (gcpy (gu (gcpy (gu (gcpy (gu (gcpy (gu (gcpy (gu (gcpy (gu (gcpy (gu (gu (gu (gu (gu (gu mi 148 44 0) 177 0 (mi 148 0)) 177 1 (mi 148 1)) 177 2 (mi 148 2)) 177 3 (mi 148 6)) 177 4 (mi 148 9)) 177 0 176 0 5) 148 44 5) 149 0 176 5 96) 148 44 101) 150 0 176 101 12) 148 44 113) 151 0 176 113 12) 148 44 125) 152 0 176 125 288) 148 44 413) 153 0 176 413 4) 148 44 417) 154 0 176 417 20) 148 44 437) 155 0 176 437 20) 148 44 457) 156 0 176 457 10) 148 44 467) 157 0 176 467 2) 148 44 469) 158 0 176 469 240) 148 44 709) ml) rfl ?_
  exact Go.vret (by rfl) ⟨rfl, rfl⟩
def mAllU (mi : Nat → Nat → Int) : Nat → Nat → Int := gu (gcpy (gu (gcpy (gu (gcpy (gu (gcpy (gu (gcpy (gu (gcpy (gu (gcpy (gu (gcpy (gu (gcpy (gu (gcpy (gu (gcpy (gu (gu (gu (gu (gu (gu mi 148 44 0) 177 0 (mi 148 0)) 177 1 (mi 148 1)) 177 2 (mi 148 2)) 177 3 (mi 148 6)) 177 4 (mi 148 9)) 176 0 177 0 5) 148 44 5) 176 5 149 0 96) 148 44 101) 176 101 150 0 12) 148 44 113) 176 113 151 0 12) 148 44 125) 176 125 152 0 288) 148 44 413) 176 413 153 0 4) 148 44 417) 176 417 154 0 20) 148 44 437) 176 437 155 0 20) 148 44 457) 176 457 156 0 10) 148 44 467) 176 467 157 0 2) 148 44 469) 176 469 158 0 240) 148 44 709
set_option maxRecDepth 100000 in
set_option maxHeartbeats 4000000 in
theorem cM_all0 {G : gG} (hsz : G.2.2.2.2.2.2 = true) {n : Nat} (hn : 2 ≤ n) (mi : Nat → Nat → Int) (ml : Nat → Nat → Int64)  : gM G 242 n 0 0 [gr 148, gi 0] (gw mi ml) (gvd (gw (mAllU mi) ml)) := by
  have hn1 : 1 ≤ n := by omega
  refine gM.of mX12_moveAll okX12_moveAll (gcp 242 (by decide)).1 (gcp 242 (by decide)).2 (Nat.le_of_ble_eq_true rfl) ?_
  refine Go.run hsz hn1 8 (pc' := 14) (lv' := [some (gr 148), some (gi 0)]) (st' := [gi (mi 148 0), gi 0, gr 177]) (M' := gw (gu mi 148 44 0) ml) rfl ?_
  refine Go.iast (by rfl) (N := 5) (by rfl) (by omega) (by omega) (by decide) ?_
  refine Go.run hsz hn1 5 (pc' := 24) (lv' := [some (gr 148), some (gi 0)]) (st' := [gi (mi 148 1), gi 1, gr 177]) (M' := gw (gu (gu mi 148 44 0) 177 0 (mi 148 0)) ml) rfl ?_
  refine Go.iast (by rfl) (N := 5) (by rfl) (by omega) (by omega) (by decide) ?_
  refine Go.run hsz hn1 5 (pc' := 34) (lv' := [some (gr 148), some (gi 0)]) (st' := [gi (mi 148 2), gi 2, gr 177]) (M' := gw (gu (gu (gu mi 148 44 0) 177 0 (mi 148 0)) 177 1 (mi 148 1)) ml) rfl ?_
  refine Go.iast (by rfl) (N := 5) (by rfl) (by omega) (by omega) (by decide) ?_
  refine Go.run hsz hn1 5 (pc' := 44) (lv' := [some (gr 148), some (gi 0)]) (st' := [gi (mi 148 6), gi 3, gr 177]) (M' := gw (gu (gu (gu (gu mi 148 44 0) 177 0 (mi 148 0)) 177 1 (mi 148 1)) 177 2 (mi 148 2)) ml) rfl ?_
  refine Go.iast (by rfl) (N := 5) (by rfl) (by omega) (by omega) (by decide) ?_
  refine Go.run hsz hn1 5 (pc' := 54) (lv' := [some (gr 148), some (gi 0)]) (st' := [gi (mi 148 9), gi 4, gr 177]) (M' := gw (gu (gu (gu (gu (gu mi 148 44 0) 177 0 (mi 148 0)) 177 1 (mi 148 1)) 177 2 (mi 148 2)) 177 3 (mi 148 6)) ml) rfl ?_
  refine Go.iast (by rfl) (N := 5) (by rfl) (by omega) (by omega) (by decide) ?_
  refine Go.run hsz hn1 5 (pc' := 62) (lv' := [some (gr 148), some (gi 0)]) (st' := [gi 0, gi 5, gr 177, gr 148]) (M' := gw (gu (gu (gu (gu (gu (gu mi 148 44 0) 177 0 (mi 148 0)) 177 1 (mi 148 1)) 177 2 (mi 148 2)) 177 3 (mi 148 6)) 177 4 (mi 148 9)) ml) rfl ?_
  refine Go.callV (As := [gr 177, gi 5, gi 0]) (b := 148) (st := []) (mc1 := 0) (mc := 0) (ms1 := 0) (ms := 0) (by rfl) rfl (c := 11) (N := 46) (by rfl) (by decide) (by rfl) (gcn 241 (by decide)).1 (gcn 241 (by decide)).2 rfl (Nat.le_of_ble_eq_true rfl) (by omega) (cM_mvu177 hsz (n := n - 1) (by omega) (gu (gu (gu (gu (gu (gu mi 148 44 0) 177 0 (mi 148 0)) 177 1 (mi 148 1)) 177 2 (mi 148 2)) 177 3 (mi 148 6)) 177 4 (mi 148 9)) ml (by rfl)) ?_
  rintro _ _ ⟨rfl, rfl⟩
  refine Go.run hsz hn1 5 (pc' := 73) (lv' := [some (gr 148), some (gi 0)]) (st' := [gi 0, gi 96, gr 149, gr 148]) (M' := gw (gu (gcpy (gu (gu (gu (gu (gu (gu mi 148 44 0) 177 0 (mi 148 0)) 177 1 (mi 148 1)) 177 2 (mi 148 2)) 177 3 (mi 148 6)) 177 4 (mi 148 9)) 176 0 177 0 5) 148 44 5) ml) rfl ?_
  refine Go.callV (As := [gr 149, gi 96, gi 0]) (b := 148) (st := []) (mc1 := 0) (mc := 0) (ms1 := 0) (ms := 0) (by rfl) rfl (c := 11) (N := 46) (by rfl) (by decide) (by rfl) (gcn 241 (by decide)).1 (gcn 241 (by decide)).2 rfl (Nat.le_of_ble_eq_true rfl) (by omega) (cM_mvu149 hsz (n := n - 1) (by omega) (gu (gcpy (gu (gu (gu (gu (gu (gu mi 148 44 0) 177 0 (mi 148 0)) 177 1 (mi 148 1)) 177 2 (mi 148 2)) 177 3 (mi 148 6)) 177 4 (mi 148 9)) 176 0 177 0 5) 148 44 5) ml (by rfl)) ?_
  rintro _ _ ⟨rfl, rfl⟩
  refine Go.run hsz hn1 5 (pc' := 84) (lv' := [some (gr 148), some (gi 0)]) (st' := [gi 0, gi 12, gr 150, gr 148]) (M' := gw (gu (gcpy (gu (gcpy (gu (gu (gu (gu (gu (gu mi 148 44 0) 177 0 (mi 148 0)) 177 1 (mi 148 1)) 177 2 (mi 148 2)) 177 3 (mi 148 6)) 177 4 (mi 148 9)) 176 0 177 0 5) 148 44 5) 176 5 149 0 96) 148 44 101) ml) rfl ?_
  refine Go.callV (As := [gr 150, gi 12, gi 0]) (b := 148) (st := []) (mc1 := 0) (mc := 0) (ms1 := 0) (ms := 0) (by rfl) rfl (c := 11) (N := 46) (by rfl) (by decide) (by rfl) (gcn 241 (by decide)).1 (gcn 241 (by decide)).2 rfl (Nat.le_of_ble_eq_true rfl) (by omega) (cM_mvu150 hsz (n := n - 1) (by omega) (gu (gcpy (gu (gcpy (gu (gu (gu (gu (gu (gu mi 148 44 0) 177 0 (mi 148 0)) 177 1 (mi 148 1)) 177 2 (mi 148 2)) 177 3 (mi 148 6)) 177 4 (mi 148 9)) 176 0 177 0 5) 148 44 5) 176 5 149 0 96) 148 44 101) ml (by rfl)) ?_
  rintro _ _ ⟨rfl, rfl⟩
  refine Go.run hsz hn1 5 (pc' := 95) (lv' := [some (gr 148), some (gi 0)]) (st' := [gi 0, gi 12, gr 151, gr 148]) (M' := gw (gu (gcpy (gu (gcpy (gu (gcpy (gu (gu (gu (gu (gu (gu mi 148 44 0) 177 0 (mi 148 0)) 177 1 (mi 148 1)) 177 2 (mi 148 2)) 177 3 (mi 148 6)) 177 4 (mi 148 9)) 176 0 177 0 5) 148 44 5) 176 5 149 0 96) 148 44 101) 176 101 150 0 12) 148 44 113) ml) rfl ?_
  refine Go.callV (As := [gr 151, gi 12, gi 0]) (b := 148) (st := []) (mc1 := 0) (mc := 0) (ms1 := 0) (ms := 0) (by rfl) rfl (c := 11) (N := 46) (by rfl) (by decide) (by rfl) (gcn 241 (by decide)).1 (gcn 241 (by decide)).2 rfl (Nat.le_of_ble_eq_true rfl) (by omega) (cM_mvu151 hsz (n := n - 1) (by omega) (gu (gcpy (gu (gcpy (gu (gcpy (gu (gu (gu (gu (gu (gu mi 148 44 0) 177 0 (mi 148 0)) 177 1 (mi 148 1)) 177 2 (mi 148 2)) 177 3 (mi 148 6)) 177 4 (mi 148 9)) 176 0 177 0 5) 148 44 5) 176 5 149 0 96) 148 44 101) 176 101 150 0 12) 148 44 113) ml (by rfl)) ?_
  rintro _ _ ⟨rfl, rfl⟩
  refine Go.run hsz hn1 5 (pc' := 107) (lv' := [some (gr 148), some (gi 0)]) (st' := [gi 0, gi 288, gr 152, gr 148]) (M' := gw (gu (gcpy (gu (gcpy (gu (gcpy (gu (gcpy (gu (gu (gu (gu (gu (gu mi 148 44 0) 177 0 (mi 148 0)) 177 1 (mi 148 1)) 177 2 (mi 148 2)) 177 3 (mi 148 6)) 177 4 (mi 148 9)) 176 0 177 0 5) 148 44 5) 176 5 149 0 96) 148 44 101) 176 101 150 0 12) 148 44 113) 176 113 151 0 12) 148 44 125) ml) rfl ?_
  refine Go.callV (As := [gr 152, gi 288, gi 0]) (b := 148) (st := []) (mc1 := 0) (mc := 0) (ms1 := 0) (ms := 0) (by rfl) rfl (c := 11) (N := 46) (by rfl) (by decide) (by rfl) (gcn 241 (by decide)).1 (gcn 241 (by decide)).2 rfl (Nat.le_of_ble_eq_true rfl) (by omega) (cM_mvu152 hsz (n := n - 1) (by omega) (gu (gcpy (gu (gcpy (gu (gcpy (gu (gcpy (gu (gu (gu (gu (gu (gu mi 148 44 0) 177 0 (mi 148 0)) 177 1 (mi 148 1)) 177 2 (mi 148 2)) 177 3 (mi 148 6)) 177 4 (mi 148 9)) 176 0 177 0 5) 148 44 5) 176 5 149 0 96) 148 44 101) 176 101 150 0 12) 148 44 113) 176 113 151 0 12) 148 44 125) ml (by rfl)) ?_
  rintro _ _ ⟨rfl, rfl⟩
  refine Go.run hsz hn1 5 (pc' := 117) (lv' := [some (gr 148), some (gi 0)]) (st' := [gi 0, gi 4, gr 153, gr 148]) (M' := gw (gu (gcpy (gu (gcpy (gu (gcpy (gu (gcpy (gu (gcpy (gu (gu (gu (gu (gu (gu mi 148 44 0) 177 0 (mi 148 0)) 177 1 (mi 148 1)) 177 2 (mi 148 2)) 177 3 (mi 148 6)) 177 4 (mi 148 9)) 176 0 177 0 5) 148 44 5) 176 5 149 0 96) 148 44 101) 176 101 150 0 12) 148 44 113) 176 113 151 0 12) 148 44 125) 176 125 152 0 288) 148 44 413) ml) rfl ?_
  refine Go.callV (As := [gr 153, gi 4, gi 0]) (b := 148) (st := []) (mc1 := 0) (mc := 0) (ms1 := 0) (ms := 0) (by rfl) rfl (c := 11) (N := 46) (by rfl) (by decide) (by rfl) (gcn 241 (by decide)).1 (gcn 241 (by decide)).2 rfl (Nat.le_of_ble_eq_true rfl) (by omega) (cM_mvu153 hsz (n := n - 1) (by omega) (gu (gcpy (gu (gcpy (gu (gcpy (gu (gcpy (gu (gcpy (gu (gu (gu (gu (gu (gu mi 148 44 0) 177 0 (mi 148 0)) 177 1 (mi 148 1)) 177 2 (mi 148 2)) 177 3 (mi 148 6)) 177 4 (mi 148 9)) 176 0 177 0 5) 148 44 5) 176 5 149 0 96) 148 44 101) 176 101 150 0 12) 148 44 113) 176 113 151 0 12) 148 44 125) 176 125 152 0 288) 148 44 413) ml (by rfl)) ?_
  rintro _ _ ⟨rfl, rfl⟩
  refine Go.run hsz hn1 5 (pc' := 128) (lv' := [some (gr 148), some (gi 0)]) (st' := [gi 0, gi 20, gr 154, gr 148]) (M' := gw (gu (gcpy (gu (gcpy (gu (gcpy (gu (gcpy (gu (gcpy (gu (gcpy (gu (gu (gu (gu (gu (gu mi 148 44 0) 177 0 (mi 148 0)) 177 1 (mi 148 1)) 177 2 (mi 148 2)) 177 3 (mi 148 6)) 177 4 (mi 148 9)) 176 0 177 0 5) 148 44 5) 176 5 149 0 96) 148 44 101) 176 101 150 0 12) 148 44 113) 176 113 151 0 12) 148 44 125) 176 125 152 0 288) 148 44 413) 176 413 153 0 4) 148 44 417) ml) rfl ?_
  refine Go.callV (As := [gr 154, gi 20, gi 0]) (b := 148) (st := []) (mc1 := 0) (mc := 0) (ms1 := 0) (ms := 0) (by rfl) rfl (c := 11) (N := 46) (by rfl) (by decide) (by rfl) (gcn 241 (by decide)).1 (gcn 241 (by decide)).2 rfl (Nat.le_of_ble_eq_true rfl) (by omega) (cM_mvu154 hsz (n := n - 1) (by omega) (gu (gcpy (gu (gcpy (gu (gcpy (gu (gcpy (gu (gcpy (gu (gcpy (gu (gu (gu (gu (gu (gu mi 148 44 0) 177 0 (mi 148 0)) 177 1 (mi 148 1)) 177 2 (mi 148 2)) 177 3 (mi 148 6)) 177 4 (mi 148 9)) 176 0 177 0 5) 148 44 5) 176 5 149 0 96) 148 44 101) 176 101 150 0 12) 148 44 113) 176 113 151 0 12) 148 44 125) 176 125 152 0 288) 148 44 413) 176 413 153 0 4) 148 44 417) ml (by rfl)) ?_
  rintro _ _ ⟨rfl, rfl⟩
  refine Go.run hsz hn1 5 (pc' := 139) (lv' := [some (gr 148), some (gi 0)]) (st' := [gi 0, gi 20, gr 155, gr 148]) (M' := gw (gu (gcpy (gu (gcpy (gu (gcpy (gu (gcpy (gu (gcpy (gu (gcpy (gu (gcpy (gu (gu (gu (gu (gu (gu mi 148 44 0) 177 0 (mi 148 0)) 177 1 (mi 148 1)) 177 2 (mi 148 2)) 177 3 (mi 148 6)) 177 4 (mi 148 9)) 176 0 177 0 5) 148 44 5) 176 5 149 0 96) 148 44 101) 176 101 150 0 12) 148 44 113) 176 113 151 0 12) 148 44 125) 176 125 152 0 288) 148 44 413) 176 413 153 0 4) 148 44 417) 176 417 154 0 20) 148 44 437) ml) rfl ?_
  refine Go.callV (As := [gr 155, gi 20, gi 0]) (b := 148) (st := []) (mc1 := 0) (mc := 0) (ms1 := 0) (ms := 0) (by rfl) rfl (c := 11) (N := 46) (by rfl) (by decide) (by rfl) (gcn 241 (by decide)).1 (gcn 241 (by decide)).2 rfl (Nat.le_of_ble_eq_true rfl) (by omega) (cM_mvu155 hsz (n := n - 1) (by omega) (gu (gcpy (gu (gcpy (gu (gcpy (gu (gcpy (gu (gcpy (gu (gcpy (gu (gcpy (gu (gu (gu (gu (gu (gu mi 148 44 0) 177 0 (mi 148 0)) 177 1 (mi 148 1)) 177 2 (mi 148 2)) 177 3 (mi 148 6)) 177 4 (mi 148 9)) 176 0 177 0 5) 148 44 5) 176 5 149 0 96) 148 44 101) 176 101 150 0 12) 148 44 113) 176 113 151 0 12) 148 44 125) 176 125 152 0 288) 148 44 413) 176 413 153 0 4) 148 44 417) 176 417 154 0 20) 148 44 437) ml (by rfl)) ?_
  rintro _ _ ⟨rfl, rfl⟩
  refine Go.run hsz hn1 5 (pc' := 150) (lv' := [some (gr 148), some (gi 0)]) (st' := [gi 0, gi 10, gr 156, gr 148]) (M' := gw (gu (gcpy (gu (gcpy (gu (gcpy (gu (gcpy (gu (gcpy (gu (gcpy (gu (gcpy (gu (gcpy (gu (gu (gu (gu (gu (gu mi 148 44 0) 177 0 (mi 148 0)) 177 1 (mi 148 1)) 177 2 (mi 148 2)) 177 3 (mi 148 6)) 177 4 (mi 148 9)) 176 0 177 0 5) 148 44 5) 176 5 149 0 96) 148 44 101) 176 101 150 0 12) 148 44 113) 176 113 151 0 12) 148 44 125) 176 125 152 0 288) 148 44 413) 176 413 153 0 4) 148 44 417) 176 417 154 0 20) 148 44 437) 176 437 155 0 20) 148 44 457) ml) rfl ?_
  refine Go.callV (As := [gr 156, gi 10, gi 0]) (b := 148) (st := []) (mc1 := 0) (mc := 0) (ms1 := 0) (ms := 0) (by rfl) rfl (c := 11) (N := 46) (by rfl) (by decide) (by rfl) (gcn 241 (by decide)).1 (gcn 241 (by decide)).2 rfl (Nat.le_of_ble_eq_true rfl) (by omega) (cM_mvu156 hsz (n := n - 1) (by omega) (gu (gcpy (gu (gcpy (gu (gcpy (gu (gcpy (gu (gcpy (gu (gcpy (gu (gcpy (gu (gcpy (gu (gu (gu (gu (gu (gu mi 148 44 0) 177 0 (mi 148 0)) 177 1 (mi 148 1)) 177 2 (mi 148 2)) 177 3 (mi 148 6)) 177 4 (mi 148 9)) 176 0 177 0 5) 148 44 5) 176 5 149 0 96) 148 44 101) 176 101 150 0 12) 148 44 113) 176 113 151 0 12) 148 44 125) 176 125 152 0 288) 148 44 413) 176 413 153 0 4) 148 44 417) 176 417 154 0 20) 148 44 437) 176 437 155 0 20) 148 44 457) ml (by rfl)) ?_
  rintro _ _ ⟨rfl, rfl⟩
  refine Go.run hsz hn1 5 (pc' := 160) (lv' := [some (gr 148), some (gi 0)]) (st' := [gi 0, gi 2, gr 157, gr 148]) (M' := gw (gu (gcpy (gu (gcpy (gu (gcpy (gu (gcpy (gu (gcpy (gu (gcpy (gu (gcpy (gu (gcpy (gu (gcpy (gu (gu (gu (gu (gu (gu mi 148 44 0) 177 0 (mi 148 0)) 177 1 (mi 148 1)) 177 2 (mi 148 2)) 177 3 (mi 148 6)) 177 4 (mi 148 9)) 176 0 177 0 5) 148 44 5) 176 5 149 0 96) 148 44 101) 176 101 150 0 12) 148 44 113) 176 113 151 0 12) 148 44 125) 176 125 152 0 288) 148 44 413) 176 413 153 0 4) 148 44 417) 176 417 154 0 20) 148 44 437) 176 437 155 0 20) 148 44 457) 176 457 156 0 10) 148 44 467) ml) rfl ?_
  refine Go.callV (As := [gr 157, gi 2, gi 0]) (b := 148) (st := []) (mc1 := 0) (mc := 0) (ms1 := 0) (ms := 0) (by rfl) rfl (c := 11) (N := 46) (by rfl) (by decide) (by rfl) (gcn 241 (by decide)).1 (gcn 241 (by decide)).2 rfl (Nat.le_of_ble_eq_true rfl) (by omega) (cM_mvu157 hsz (n := n - 1) (by omega) (gu (gcpy (gu (gcpy (gu (gcpy (gu (gcpy (gu (gcpy (gu (gcpy (gu (gcpy (gu (gcpy (gu (gcpy (gu (gu (gu (gu (gu (gu mi 148 44 0) 177 0 (mi 148 0)) 177 1 (mi 148 1)) 177 2 (mi 148 2)) 177 3 (mi 148 6)) 177 4 (mi 148 9)) 176 0 177 0 5) 148 44 5) 176 5 149 0 96) 148 44 101) 176 101 150 0 12) 148 44 113) 176 113 151 0 12) 148 44 125) 176 125 152 0 288) 148 44 413) 176 413 153 0 4) 148 44 417) 176 417 154 0 20) 148 44 437) 176 437 155 0 20) 148 44 457) 176 457 156 0 10) 148 44 467) ml (by rfl)) ?_
  rintro _ _ ⟨rfl, rfl⟩
  refine Go.run hsz hn1 5 (pc' := 172) (lv' := [some (gr 148), some (gi 0)]) (st' := [gi 0, gi 240, gr 158, gr 148]) (M' := gw (gu (gcpy (gu (gcpy (gu (gcpy (gu (gcpy (gu (gcpy (gu (gcpy (gu (gcpy (gu (gcpy (gu (gcpy (gu (gcpy (gu (gu (gu (gu (gu (gu mi 148 44 0) 177 0 (mi 148 0)) 177 1 (mi 148 1)) 177 2 (mi 148 2)) 177 3 (mi 148 6)) 177 4 (mi 148 9)) 176 0 177 0 5) 148 44 5) 176 5 149 0 96) 148 44 101) 176 101 150 0 12) 148 44 113) 176 113 151 0 12) 148 44 125) 176 125 152 0 288) 148 44 413) 176 413 153 0 4) 148 44 417) 176 417 154 0 20) 148 44 437) 176 437 155 0 20) 148 44 457) 176 457 156 0 10) 148 44 467) 176 467 157 0 2) 148 44 469) ml) rfl ?_
  refine Go.callV (As := [gr 158, gi 240, gi 0]) (b := 148) (st := []) (mc1 := 0) (mc := 0) (ms1 := 0) (ms := 0) (by rfl) rfl (c := 11) (N := 46) (by rfl) (by decide) (by rfl) (gcn 241 (by decide)).1 (gcn 241 (by decide)).2 rfl (Nat.le_of_ble_eq_true rfl) (by omega) (cM_mvu158 hsz (n := n - 1) (by omega) (gu (gcpy (gu (gcpy (gu (gcpy (gu (gcpy (gu (gcpy (gu (gcpy (gu (gcpy (gu (gcpy (gu (gcpy (gu (gcpy (gu (gu (gu (gu (gu (gu mi 148 44 0) 177 0 (mi 148 0)) 177 1 (mi 148 1)) 177 2 (mi 148 2)) 177 3 (mi 148 6)) 177 4 (mi 148 9)) 176 0 177 0 5) 148 44 5) 176 5 149 0 96) 148 44 101) 176 101 150 0 12) 148 44 113) 176 113 151 0 12) 148 44 125) 176 125 152 0 288) 148 44 413) 176 413 153 0 4) 148 44 417) 176 417 154 0 20) 148 44 437) 176 437 155 0 20) 148 44 457) 176 457 156 0 10) 148 44 467) 176 467 157 0 2) 148 44 469) ml (by rfl)) ?_
  rintro _ _ ⟨rfl, rfl⟩
  refine Go.run hsz hn1 0 (pc' := 175) (lv' := [some (gr 148), some (gi 0)]) (st' := []) (M' := gw (gu (gcpy (gu (gcpy (gu (gcpy (gu (gcpy (gu (gcpy (gu (gcpy (gu (gcpy (gu (gcpy (gu (gcpy (gu (gcpy (gu (gcpy (gu (gu (gu (gu (gu (gu mi 148 44 0) 177 0 (mi 148 0)) 177 1 (mi 148 1)) 177 2 (mi 148 2)) 177 3 (mi 148 6)) 177 4 (mi 148 9)) 176 0 177 0 5) 148 44 5) 176 5 149 0 96) 148 44 101) 176 101 150 0 12) 148 44 113) 176 113 151 0 12) 148 44 125) 176 125 152 0 288) 148 44 413) 176 413 153 0 4) 148 44 417) 176 417 154 0 20) 148 44 437) 176 437 155 0 20) 148 44 457) 176 457 156 0 10) 148 44 467) 176 467 157 0 2) 148 44 469) 176 469 158 0 240) 148 44 709) ml) rfl ?_
  exact Go.vret (by rfl) ⟨rfl, rfl⟩
set_option maxRecDepth 100000 in
set_option maxHeartbeats 4000000 in
theorem pM_image {G : gG} (hsz : G.2.2.2.2.2.2 = true) {n : Nat} (hn : 3 ≤ n) (mi : Nat → Nat → Int) (ml : Nat → Nat → Int64)  (hv : SV mi)  : gM G 243 n 0 0 [gr 148] (gw mi ml) (fun r M => gE (True) (1) (gu (mAllK mi) 148 42 1) (ml) r M) := by
  have hn1 : 1 ≤ n := by omega
  obtain ⟨hR, ht, hp, hq, hP, hQ⟩ := id hv
  refine gM.of mX12_image okX12_image (gcp 243 (by decide)).1 (gcp 243 (by decide)).2 (Nat.le_of_ble_eq_true rfl) ?_
  refine Go.run hsz hn1 2 (pc' := 2) (lv' := [some (gr 148)]) (st' := [gi 1, gr 148]) (M' := gw mi ml) rfl ?_
  refine Go.callV (As := [gi 1]) (b := 148) (st := []) (mc1 := 0) (mc := 0) (ms1 := 0) (ms := 0) (by rfl) rfl (c := 11) (N := 46) (by rfl) (by decide) (by rfl) (gcn 242 (by decide)).1 (gcn 242 (by decide)).2 rfl (Nat.le_of_ble_eq_true rfl) (by omega) (cM_all1 hsz (n := n - 1) (by omega) mi ml) ?_
  rintro _ _ ⟨rfl, rfl⟩
  refine Go.run hsz hn1 4 (pc' := 11) (lv' := [some (gr 148)]) (st' := [gi 1]) (M' := gw (gu (mAllK mi) 148 42 1) ml) rfl ?_
  refine Go.iret (by rfl) ?_
  first | (exact ⟨trivial, rfl, rfl⟩)
def mUnd (mi : Nat → Nat → Int) : Nat → Nat → Int := gu (gu (gu (gu (gu (mAllU mi) 148 0 ((mAllU mi) 177 0)) 148 1 ((mAllU mi) 177 1)) 148 2 ((mAllU mi) 177 2)) 148 6 ((mAllU mi) 177 3)) 148 9 ((mAllU mi) 177 4)
set_option maxRecDepth 100000 in
set_option maxHeartbeats 4000000 in
theorem pM_undo {G : gG} (hsz : G.2.2.2.2.2.2 = true) {n : Nat} (hn : 3 ≤ n) (mi : Nat → Nat → Int) (ml : Nat → Nat → Int64)  (hv : SV mi)  : gM G 244 n 0 0 [gr 148] (gw mi ml) (fun r M => gE (mi 148 42 = 0) (-1000004) (mFd mi 3) (ml) r M ∨ gE (¬ mi 148 42 = 0) ((mAllU mi) 177 0) (mUnd mi) (ml) r M) := by
  have hn1 : 1 ≤ n := by omega
  obtain ⟨hR, ht, hp, hq, hP, hQ⟩ := id hv
  refine gM.of mX12_undo okX12_undo (gcp 244 (by decide)).1 (gcp 244 (by decide)).2 (Nat.le_of_ble_eq_true rfl) ?_
  refine Go.run hsz hn1 2 (pc' := 4) (lv' := [some (gr 148)]) (st' := [gi (mi 148 42)]) (M' := gw mi ml) rfl ?_
  refine Go.if_ne (by rfl) (hR _ _) (fun kq1 => ?_) (fun kq1 => ?_)
  · refine Go.run hsz hn1 2 (pc' := 15) (lv' := [some (gr 148)]) (st' := [gi 0, gr 148]) (M' := gw mi ml) rfl ?_
    refine Go.callV (As := [gi 0]) (b := 148) (st := []) (mc1 := 0) (mc := 0) (ms1 := 0) (ms := 0) (by rfl) rfl (c := 11) (N := 46) (by rfl) (by decide) (by rfl) (gcn 242 (by decide)).1 (gcn 242 (by decide)).2 rfl (Nat.le_of_ble_eq_true rfl) (by omega) (cM_all0 hsz (n := n - 1) (by omega) mi ml) ?_
    rintro _ _ ⟨rfl, rfl⟩
    refine Go.run hsz hn1 4 (pc' := 24) (lv' := [some (gr 148)]) (st' := [gi 0, gr 177, gr 148]) (M' := gw (mAllU mi) ml) rfl ?_
    refine Go.iald (by rfl) (N := 5) (by rfl) (by omega) (by omega) (by decide) ?_
    refine Go.run hsz hn1 5 (pc' := 34) (lv' := [some (gr 148)]) (st' := [gi 1, gr 177, gr 148]) (M' := gw (gu (mAllU mi) 148 0 ((mAllU mi) 177 0)) ml) rfl ?_
    refine Go.iald (by rfl) (N := 5) (by rfl) (by omega) (by omega) (by decide) ?_
    refine Go.run hsz hn1 5 (pc' := 44) (lv' := [some (gr 148)]) (st' := [gi 2, gr 177, gr 148]) (M' := gw (gu (gu (mAllU mi) 148 0 ((mAllU mi) 177 0)) 148 1 ((mAllU mi) 177 1)) ml) rfl ?_
    refine Go.iald (by rfl) (N := 5) (by rfl) (by omega) (by omega) (by decide) ?_
    refine Go.run hsz hn1 5 (pc' := 54) (lv' := [some (gr 148)]) (st' := [gi 3, gr 177, gr 148]) (M' := gw (gu (gu (gu (mAllU mi) 148 0 ((mAllU mi) 177 0)) 148 1 ((mAllU mi) 177 1)) 148 2 ((mAllU mi) 177 2)) ml) rfl ?_
    refine Go.iald (by rfl) (N := 5) (by rfl) (by omega) (by omega) (by decide) ?_
    refine Go.run hsz hn1 5 (pc' := 64) (lv' := [some (gr 148)]) (st' := [gi 4, gr 177, gr 148]) (M' := gw (gu (gu (gu (gu (mAllU mi) 148 0 ((mAllU mi) 177 0)) 148 1 ((mAllU mi) 177 1)) 148 2 ((mAllU mi) 177 2)) 148 6 ((mAllU mi) 177 3)) ml) rfl ?_
    refine Go.iald (by rfl) (N := 5) (by rfl) (by omega) (by omega) (by decide) ?_
    refine Go.run hsz hn1 3 (pc' := 72) (lv' := [some (gr 148)]) (st' := [gi ((mAllU mi) 177 0)]) (M' := gw (gu (gu (gu (gu (gu (mAllU mi) 148 0 ((mAllU mi) 177 0)) 148 1 ((mAllU mi) 177 1)) 148 2 ((mAllU mi) 177 2)) 148 6 ((mAllU mi) 177 3)) 148 9 ((mAllU mi) 177 4)) ml) rfl ?_
    refine Go.iret (by rfl) ?_
    first | (exact Or.inl ⟨by omega, rfl, rfl⟩) | (exact Or.inr (⟨by omega, rfl, rfl⟩))
  · refine Go.run hsz hn1 2 (pc' := 9) (lv' := [some (gr 148)]) (st' := [gi 3, gr 148]) (M' := gw mi ml) rfl ?_
    refine Go.callV (As := [gi 3]) (b := 148) (st := []) (mc1 := 0) (mc := 0) (ms1 := 0) (ms := 0) (by rfl) rfl (c := 11) (N := 46) (by rfl) (by decide) (by rfl) (gcn 154 (by decide)).1 (gcn 154 (by decide)).2 rfl (Nat.le_of_ble_eq_true rfl) (by omega) (cM_finds hsz (n := n - 1) (by omega) mi ml 3 (by decide) (by decide)) ?_
    rintro _ _ ⟨rfl, rfl⟩
    refine Go.run hsz hn1 0 (pc' := 12) (lv' := [some (gr 148)]) (st' := [gi (-1000004)]) (M' := gw (mFd mi 3) ml) rfl ?_
    refine Go.iret (by rfl) ?_
    first | (exact Or.inl ⟨by omega, rfl, rfl⟩) | (exact Or.inr (⟨by omega, rfl, rfl⟩))
set_option maxRecDepth 100000 in
set_option maxHeartbeats 4000000 in
theorem pC_image {G : gG} (hsz : G.2.2.2.2.2.2 = true) {n : Nat} (hn : 4 ≤ n) (mi : Nat → Nat → Int) (ml : Nat → Nat → Int64)  (hv : CV mi) (hq2 : 0 ≤ mi 1 2 ∧ mi 1 2 ≤ 12) (hq3 : 0 ≤ mi 1 3 ∧ mi 1 3 ≤ 24) (h13 : ∀ a : Nat, (a : Int) < mi 1 3 → mi (24 + a) 13 = 0 ∨ mi (24 + a) 13 = 1) (hlb : ∀ q : Nat, q < 2 → (mi (48 + 3 * q) 0 = 0 ∨ mi (48 + 3 * q) 0 = 1) ∧ (0 ≤ mi (48 + 3 * q) 1 ∧ mi (48 + 3 * q) 1 ≤ 120)) (hwb : 0 ≤ mi 7 0 ∧ mi 7 0 ≤ 20) : gM G 142 n 0 0 [gr 0] (gw mi ml) (fun r M => gE (True) (1) (gu (bcIK mi) 0 8 1) (bcLK mi ml) r M) := by
  have hn1 : 1 ≤ n := by omega
  obtain ⟨hR, ht, hp, hq, hP, hQ⟩ := id hv
  refine gM.of mX11_image okX11_image (gcp 142 (by decide)).1 (gcp 142 (by decide)).2 (Nat.le_of_ble_eq_true rfl) ?_
  refine Go.run hsz hn1 4 (pc' := 8) (lv' := [some (gr 0)]) (st' := [gr 1, gr 54]) (M' := gw mi ml) rfl ?_
  refine Go.callV (As := [gr 1]) (b := 54) (st := []) (mc1 := 0) (mc := 0) (ms1 := 0) (ms := 0) (by rfl) rfl (c := 7) (N := 11) (by rfl) (by decide) (by rfl) (gcn 58 (by decide)).1 (gcn 58 (by decide)).2 rfl (Nat.le_of_ble_eq_true rfl) (by omega) (cS_becK hsz (n := n - 1) (by omega) mi ml hq2 hq3 h13 hlb hwb) ?_
  rintro _ _ ⟨rfl, rfl⟩
  refine Go.run hsz hn1 4 (pc' := 17) (lv' := [some (gr 0)]) (st' := [gi 1]) (M' := gw (gu (bcIK mi) 0 8 1) (bcLK mi ml)) rfl ?_
  refine Go.iret (by rfl) ?_
  first | (exact ⟨trivial, rfl, rfl⟩)
set_option maxRecDepth 100000 in
set_option maxHeartbeats 4000000 in
theorem pC_undo {G : gG} (hsz : G.2.2.2.2.2.2 = true) {n : Nat} (hn : 4 ≤ n) (mi : Nat → Nat → Int) (ml : Nat → Nat → Int64)  (hv : CV mi) (hk : ¬ mi 0 8 = 0 → (0 ≤ mi 54 2 ∧ mi 54 2 ≤ 12) ∧ (0 ≤ mi 54 3 ∧ mi 54 3 ≤ 24) ∧ (∀ a : Nat, (a : Int) < mi 54 3 → mi (77 + a) 13 = 0 ∨ mi (77 + a) 13 = 1) ∧ (∀ q : Nat, q < 2 → (mi (101 + 3 * q) 0 = 0 ∨ mi (101 + 3 * q) 0 = 1) ∧ (0 ≤ mi (101 + 3 * q) 1 ∧ mi (101 + 3 * q) 1 ≤ 120)) ∧ (0 ≤ mi 60 0 ∧ mi 60 0 ≤ 20)) : gM G 143 n 0 0 [gr 0] (gw mi ml) (fun r M => gE (mi 0 8 = 0) (-1000004) (cFd mi 3) (ml) r M ∨ gE (¬ mi 0 8 = 0) (bcIU mi 1 0) (bcIU mi) (bcLU mi ml) r M) := by
  have hn1 : 1 ≤ n := by omega
  obtain ⟨hR, ht, hp, hq, hP, hQ⟩ := id hv
  refine gM.of mX11_undo okX11_undo (gcp 143 (by decide)).1 (gcp 143 (by decide)).2 (Nat.le_of_ble_eq_true rfl) ?_
  refine Go.run hsz hn1 2 (pc' := 4) (lv' := [some (gr 0)]) (st' := [gi (mi 0 8)]) (M' := gw mi ml) rfl ?_
  refine Go.if_ne (by rfl) (hR _ _) (fun kq1 => ?_) (fun kq1 => ?_)
  · refine Go.run hsz hn1 4 (pc' := 22) (lv' := [some (gr 0)]) (st' := [gr 54, gr 1]) (M' := gw mi ml) rfl ?_
    refine Go.callV (As := [gr 54]) (b := 1) (st := []) (mc1 := 0) (mc := 0) (ms1 := 0) (ms := 0) (by rfl) rfl (c := 7) (N := 11) (by rfl) (by decide) (by rfl) (gcn 58 (by decide)).1 (gcn 58 (by decide)).2 rfl (Nat.le_of_ble_eq_true rfl) (by omega) (cS_becU hsz (n := n - 1) (by omega) mi ml (hk (by omega)).1 (hk (by omega)).2.1 (hk (by omega)).2.2.1 (hk (by omega)).2.2.2.1 (hk (by omega)).2.2.2.2) ?_
    rintro _ _ ⟨rfl, rfl⟩
    refine Go.run hsz hn1 3 (pc' := 32) (lv' := [some (gr 0)]) (st' := [gi ((bcIU mi) 1 0)]) (M' := gw (bcIU mi) (bcLU mi ml)) rfl ?_
    refine Go.iret (by rfl) ?_
    first | (exact Or.inl ⟨by omega, rfl, rfl⟩) | (exact Or.inr (⟨by omega, rfl, rfl⟩))
  · refine Go.run hsz hn1 2 (pc' := 10) (lv' := [some (gr 0)]) (st' := [gi (-1000004), gr 0]) (M' := gw mi ml) rfl ?_
    refine Go.callV (As := [gi (-1000004)]) (b := 0) (st := []) (mc1 := 0) (mc := 0) (ms1 := 0) (ms := 0) (by rfl) rfl (c := 10) (N := 9) (by rfl) (by decide) (by rfl) (gcn 147 (by decide)).1 (gcn 147 (by decide)).2 rfl (Nat.le_of_ble_eq_true rfl) (by omega) (cC_finding hsz (n := n - 1) (by omega) mi ml (-1000004) (by decide) (by decide)) ?_
    rintro _ _ ⟨rfl, rfl⟩
    refine Go.run hsz hn1 0 (pc' := 13) (lv' := [some (gr 0)]) (st' := [gi (-1000004)]) (M' := gw (cFd mi 3) ml) rfl ?_
    refine Go.iret (by rfl) ?_
    first | (exact Or.inl ⟨by omega, rfl, rfl⟩) | (exact Or.inr (⟨by omega, rfl, rfl⟩))

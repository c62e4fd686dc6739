set_option maxRecDepth 100000 in
set_option maxHeartbeats 4000000 in
theorem cLw_joined {G : gG} (hsz : G.2.2.2.2.2.2 = true) {n : Nat} (hn : 1 ≤ n) (mi : Nat → Nat → Int) (ml : Nat → Nat → Int64) (s x y : Int) (hs : s = 42 ∨ s = 43 ∨ s = 45 ∨ s = 47 ∨ s = 60 ∨ s = 61) (rx : rng x) (ry : rng y) : gM G 19 n 0 0 [gi s, gi x, gi y] (gw mi ml) (gret (jn s x y) (gw mi ml)) := by
  refine gM.of mX2_joined okX2_joined (gcp 19 (by decide)).1 (gcp 19 (by decide)).2 (Nat.le_of_ble_eq_true rfl) ?_
  rcases hs with rfl | rfl | rfl | rfl | rfl | rfl
  · refine Go.run hsz hn 1 (pc' := 1) (lv' := [some (gi 42), some (gi x), some (gi y)]) (st' := [gi 42]) (M' := gw mi ml) rfl ?_
    refine Go.lsw (l := _) (by rfl) (by rfl) ⟨by decide, by decide⟩ ?_
    refine Go.run hsz hn 3 (pc' := 85) (lv' := [some (gi 42), some (gi x), some (gi y)]) (st' := [gi (x * y)]) (M' := gw mi ml) rfl ?_
    refine Go.nrm ?_
    refine Go.iret (by rfl) ⟨congrArg (fun z => some (gi z)) ?_, rfl⟩
    unfold jn
    first | rfl | (simp only [show ¬ (47 : Int) = 60 by omega, show ¬ (47 : Int) = 61 by omega, show ¬ (47 : Int) = 43 by omega, show ¬ (47 : Int) = 45 by omega, show ¬ (47 : Int) = 42 by omega, if_false]; rw [if_neg (by assumption)]; try (congr 1; rw [show y = -1 by omega, Int.tdiv_neg, Int.tdiv_one]; omega))
  · refine Go.run hsz hn 1 (pc' := 1) (lv' := [some (gi 43), some (gi x), some (gi y)]) (st' := [gi 43]) (M' := gw mi ml) rfl ?_
    refine Go.lsw (l := _) (by rfl) (by rfl) ⟨by decide, by decide⟩ ?_
    refine Go.run hsz hn 3 (pc' := 77) (lv' := [some (gi 43), some (gi x), some (gi y)]) (st' := [gi (x + y)]) (M' := gw mi ml) rfl ?_
    refine Go.nrm ?_
    refine Go.iret (by rfl) ⟨congrArg (fun z => some (gi z)) ?_, rfl⟩
    unfold jn
    first | rfl | (simp only [show ¬ (47 : Int) = 60 by omega, show ¬ (47 : Int) = 61 by omega, show ¬ (47 : Int) = 43 by omega, show ¬ (47 : Int) = 45 by omega, show ¬ (47 : Int) = 42 by omega, if_false]; rw [if_neg (by assumption)]; try (congr 1; rw [show y = -1 by omega, Int.tdiv_neg, Int.tdiv_one]; omega))
  · refine Go.run hsz hn 1 (pc' := 1) (lv' := [some (gi 45), some (gi x), some (gi y)]) (st' := [gi 45]) (M' := gw mi ml) rfl ?_
    refine Go.lsw (l := _) (by rfl) (by rfl) ⟨by decide, by decide⟩ ?_
    refine Go.run hsz hn 3 (pc' := 81) (lv' := [some (gi 45), some (gi x), some (gi y)]) (st' := [gi (x - y)]) (M' := gw mi ml) rfl ?_
    refine Go.nrm ?_
    refine Go.iret (by rfl) ⟨congrArg (fun z => some (gi z)) ?_, rfl⟩
    unfold jn
    first | rfl | (simp only [show ¬ (47 : Int) = 60 by omega, show ¬ (47 : Int) = 61 by omega, show ¬ (47 : Int) = 43 by omega, show ¬ (47 : Int) = 45 by omega, show ¬ (47 : Int) = 42 by omega, if_false]; rw [if_neg (by assumption)]; try (congr 1; rw [show y = -1 by omega, Int.tdiv_neg, Int.tdiv_one]; omega))
  · refine Go.run hsz hn 1 (pc' := 1) (lv' := [some (gi 47), some (gi x), some (gi y)]) (st' := [gi 47]) (M' := gw mi ml) rfl ?_
    refine Go.lsw (l := _) (by rfl) (by rfl) ⟨by decide, by decide⟩ ?_
    refine Go.run hsz hn 1 (pc' := 87) (lv' := [some (gi 47), some (gi x), some (gi y)]) (st' := [gi y]) (M' := gw mi ml) rfl ?_
    refine Go.if_ne (by rfl) ry (fun kq1 => ?_) (fun kq1 => ?_)
    · refine Go.run hsz hn 2 (pc' := 96) (lv' := [some (gi 47), some (gi x), some (gi y)]) (st' := [gi y, gi x]) (M' := gw mi ml) rfl ?_
      refine Go.idivX (by rfl) rx ry (by omega) ?_
      refine Go.run hsz hn 0 (pc' := 97) (lv' := [some (gi 47), some (gi x), some (gi y)]) (st' := [gi (x.tdiv y)]) (M' := gw mi ml) rfl ?_
      refine Go.nrm ?_
      refine Go.iret (by rfl) ⟨congrArg (fun z => some (gi z)) ?_, rfl⟩
      unfold jn
      first | rfl | (simp only [show ¬ (47 : Int) = 60 by omega, show ¬ (47 : Int) = 61 by omega, show ¬ (47 : Int) = 43 by omega, show ¬ (47 : Int) = 45 by omega, show ¬ (47 : Int) = 42 by omega, if_false]; rw [if_neg (by assumption)]; try (congr 1; rw [show y = -1 by omega, Int.tdiv_neg, Int.tdiv_one]; omega))
    · refine Go.run hsz hn 2 (pc' := 97) (lv' := [some (gi 47), some (gi x), some (gi y)]) (st' := [gi 0]) (M' := gw mi ml) rfl ?_
      exact Go.iret (by rfl) ⟨congrArg (fun z => some (gi z)) (show (0 : Int) = _ by unfold jn; (repeat' split) <;> first | rfl | omega), rfl⟩
  · refine Go.run hsz hn 1 (pc' := 1) (lv' := [some (gi 60), some (gi x), some (gi y)]) (st' := [gi 60]) (M' := gw mi ml) rfl ?_
    refine Go.lsw (l := _) (by rfl) (by rfl) ⟨by decide, by decide⟩ ?_
    refine Go.run hsz hn 2 (pc' := 54) (lv' := [some (gi 60), some (gi x), some (gi y)]) (st' := [gi y, gi x]) (M' := gw mi ml) rfl ?_
    refine Go.icmp_ge (by rfl) rx ry (fun kq2 => ?_) (fun kq2 => ?_)
    · refine Go.run hsz hn 1 (pc' := 62) (lv' := [some (gi 60), some (gi x), some (gi y)]) (st' := [gi 0]) (M' := gw mi ml) rfl ?_
      exact Go.iret (by rfl) ⟨congrArg (fun z => some (gi z)) (show (0 : Int) = _ by unfold jn; (repeat' split) <;> first | rfl | omega), rfl⟩
    · refine Go.run hsz hn 2 (pc' := 62) (lv' := [some (gi 60), some (gi x), some (gi y)]) (st' := [gi 1]) (M' := gw mi ml) rfl ?_
      exact Go.iret (by rfl) ⟨congrArg (fun z => some (gi z)) (show (1 : Int) = _ by unfold jn; (repeat' split) <;> first | rfl | omega), rfl⟩
  · refine Go.run hsz hn 1 (pc' := 1) (lv' := [some (gi 61), some (gi x), some (gi y)]) (st' := [gi 61]) (M' := gw mi ml) rfl ?_
    refine Go.lsw (l := _) (by rfl) (by rfl) ⟨by decide, by decide⟩ ?_
    refine Go.run hsz hn 2 (pc' := 65) (lv' := [some (gi 61), some (gi x), some (gi y)]) (st' := [gi y, gi x]) (M' := gw mi ml) rfl ?_
    refine Go.icmp_ne (by rfl) rx ry (fun kq3 => ?_) (fun kq3 => ?_)
    · refine Go.run hsz hn 1 (pc' := 73) (lv' := [some (gi 61), some (gi x), some (gi y)]) (st' := [gi 0]) (M' := gw mi ml) rfl ?_
      exact Go.iret (by rfl) ⟨congrArg (fun z => some (gi z)) (show (0 : Int) = _ by unfold jn; (repeat' split) <;> first | rfl | omega), rfl⟩
    · refine Go.run hsz hn 2 (pc' := 73) (lv' := [some (gi 61), some (gi x), some (gi y)]) (st' := [gi 1]) (M' := gw mi ml) rfl ?_
      exact Go.iret (by rfl) ⟨congrArg (fun z => some (gi z)) (show (1 : Int) = _ by unfold jn; (repeat' split) <;> first | rfl | omega), rfl⟩
set_option maxRecDepth 100000 in
set_option maxHeartbeats 4000000 in
theorem cM_joined {G : gG} (hsz : G.2.2.2.2.2.2 = true) {n : Nat} (hn : 1 ≤ n) (mi : Nat → Nat → Int) (ml : Nat → Nat → Int64) (s x y : Int) (hs : s = 42 ∨ s = 43 ∨ s = 45 ∨ s = 47 ∨ s = 60 ∨ s = 61) (rx : rng x) (ry : rng y) : gM G 208 n 0 0 [gi s, gi x, gi y] (gw mi ml) (gret (jn s x y) (gw mi ml)) := by
  refine gM.of mX12_joined okX12_joined (gcp 208 (by decide)).1 (gcp 208 (by decide)).2 (Nat.le_of_ble_eq_true rfl) ?_
  rcases hs with rfl | rfl | rfl | rfl | rfl | rfl
  · refine Go.run hsz hn 1 (pc' := 1) (lv' := [some (gi 42), some (gi x), some (gi y)]) (st' := [gi 42]) (M' := gw mi ml) rfl ?_
    refine Go.lsw (l := _) (by rfl) (by rfl) ⟨by decide, by decide⟩ ?_
    refine Go.run hsz hn 3 (pc' := 63) (lv' := [some (gi 42), some (gi x), some (gi y)]) (st' := [gi (x * y)]) (M' := gw mi ml) rfl ?_
    refine Go.nrm ?_
    refine Go.iret (by rfl) ⟨congrArg (fun z => some (gi z)) ?_, rfl⟩
    unfold jn
    first | rfl | (simp only [show ¬ (47 : Int) = 60 by omega, show ¬ (47 : Int) = 61 by omega, show ¬ (47 : Int) = 43 by omega, show ¬ (47 : Int) = 45 by omega, show ¬ (47 : Int) = 42 by omega, if_false]; rw [if_neg (by assumption)]; try (congr 1; rw [show y = -1 by omega, Int.tdiv_neg, Int.tdiv_one]; omega))
  · refine Go.run hsz hn 1 (pc' := 1) (lv' := [some (gi 43), some (gi x), some (gi y)]) (st' := [gi 43]) (M' := gw mi ml) rfl ?_
    refine Go.lsw (l := _) (by rfl) (by rfl) ⟨by decide, by decide⟩ ?_
    refine Go.run hsz hn 3 (pc' := 55) (lv' := [some (gi 43), some (gi x), some (gi y)]) (st' := [gi (x + y)]) (M' := gw mi ml) rfl ?_
    refine Go.nrm ?_
    refine Go.iret (by rfl) ⟨congrArg (fun z => some (gi z)) ?_, rfl⟩
    unfold jn
    first | rfl | (simp only [show ¬ (47 : Int) = 60 by omega, show ¬ (47 : Int) = 61 by omega, show ¬ (47 : Int) = 43 by omega, show ¬ (47 : Int) = 45 by omega, show ¬ (47 : Int) = 42 by omega, if_false]; rw [if_neg (by assumption)]; try (congr 1; rw [show y = -1 by omega, Int.tdiv_neg, Int.tdiv_one]; omega))
  · refine Go.run hsz hn 1 (pc' := 1) (lv' := [some (gi 45), some (gi x), some (gi y)]) (st' := [gi 45]) (M' := gw mi ml) rfl ?_
    refine Go.lsw (l := _) (by rfl) (by rfl) ⟨by decide, by decide⟩ ?_
    refine Go.run hsz hn 3 (pc' := 59) (lv' := [some (gi 45), some (gi x), some (gi y)]) (st' := [gi (x - y)]) (M' := gw mi ml) rfl ?_
    refine Go.nrm ?_
    refine Go.iret (by rfl) ⟨congrArg (fun z => some (gi z)) ?_, rfl⟩
    unfold jn
    first | rfl | (simp only [show ¬ (47 : Int) = 60 by omega, show ¬ (47 : Int) = 61 by omega, show ¬ (47 : Int) = 43 by omega, show ¬ (47 : Int) = 45 by omega, show ¬ (47 : Int) = 42 by omega, if_false]; rw [if_neg (by assumption)]; try (congr 1; rw [show y = -1 by omega, Int.tdiv_neg, Int.tdiv_one]; omega))
  · refine Go.run hsz hn 1 (pc' := 1) (lv' := [some (gi 47), some (gi x), some (gi y)]) (st' := [gi 47]) (M' := gw mi ml) rfl ?_
    refine Go.lsw (l := _) (by rfl) (by rfl) ⟨by decide, by decide⟩ ?_
    refine Go.run hsz hn 1 (pc' := 65) (lv' := [some (gi 47), some (gi x), some (gi y)]) (st' := [gi y]) (M' := gw mi ml) rfl ?_
    refine Go.if_ne (by rfl) ry (fun kq1 => ?_) (fun kq1 => ?_)
    · refine Go.run hsz hn 2 (pc' := 74) (lv' := [some (gi 47), some (gi x), some (gi y)]) (st' := [gi (-1), gi y]) (M' := gw mi ml) rfl ?_
      refine Go.icmp_ne (by rfl) ry ⟨by decide, by decide⟩ (fun kq2 => ?_) (fun kq2 => ?_)
      · refine Go.run hsz hn 2 (pc' := 85) (lv' := [some (gi 47), some (gi x), some (gi y)]) (st' := [gi y, gi x]) (M' := gw mi ml) rfl ?_
        refine Go.idivX (by rfl) rx ry (by omega) ?_
        refine Go.run hsz hn 0 (pc' := 86) (lv' := [some (gi 47), some (gi x), some (gi y)]) (st' := [gi (x.tdiv y)]) (M' := gw mi ml) rfl ?_
        refine Go.nrm ?_
        refine Go.iret (by rfl) ⟨congrArg (fun z => some (gi z)) ?_, rfl⟩
        unfold jn
        first | rfl | (simp only [show ¬ (47 : Int) = 60 by omega, show ¬ (47 : Int) = 61 by omega, show ¬ (47 : Int) = 43 by omega, show ¬ (47 : Int) = 45 by omega, show ¬ (47 : Int) = 42 by omega, if_false]; rw [if_neg (by assumption)]; try (congr 1; rw [show y = -1 by omega, Int.tdiv_neg, Int.tdiv_one]; omega))
      · refine Go.run hsz hn 4 (pc' := 86) (lv' := [some (gi 47), some (gi x), some (gi y)]) (st' := [gi (0 - x)]) (M' := gw mi ml) rfl ?_
        refine Go.nrm ?_
        refine Go.iret (by rfl) ⟨congrArg (fun z => some (gi z)) ?_, rfl⟩
        unfold jn
        first | rfl | (simp only [show ¬ (47 : Int) = 60 by omega, show ¬ (47 : Int) = 61 by omega, show ¬ (47 : Int) = 43 by omega, show ¬ (47 : Int) = 45 by omega, show ¬ (47 : Int) = 42 by omega, if_false]; rw [if_neg (by assumption)]; try (congr 1; rw [show y = -1 by omega, Int.tdiv_neg, Int.tdiv_one]; omega))
    · refine Go.run hsz hn 2 (pc' := 86) (lv' := [some (gi 47), some (gi x), some (gi y)]) (st' := [gi 0]) (M' := gw mi ml) rfl ?_
      exact Go.iret (by rfl) ⟨congrArg (fun z => some (gi z)) (show (0 : Int) = _ by unfold jn; (repeat' split) <;> first | rfl | omega), rfl⟩
  · refine Go.run hsz hn 1 (pc' := 1) (lv' := [some (gi 60), some (gi x), some (gi y)]) (st' := [gi 60]) (M' := gw mi ml) rfl ?_
    refine Go.lsw (l := _) (by rfl) (by rfl) ⟨by decide, by decide⟩ ?_
    refine Go.run hsz hn 2 (pc' := 89) (lv' := [some (gi 60), some (gi x), some (gi y)]) (st' := [gi y, gi x]) (M' := gw mi ml) rfl ?_
    refine Go.icmp_ge (by rfl) rx ry (fun kq3 => ?_) (fun kq3 => ?_)
    · refine Go.run hsz hn 1 (pc' := 97) (lv' := [some (gi 60), some (gi x), some (gi y)]) (st' := [gi 0]) (M' := gw mi ml) rfl ?_
      exact Go.iret (by rfl) ⟨congrArg (fun z => some (gi z)) (show (0 : Int) = _ by unfold jn; (repeat' split) <;> first | rfl | omega), rfl⟩
    · refine Go.run hsz hn 2 (pc' := 97) (lv' := [some (gi 60), some (gi x), some (gi y)]) (st' := [gi 1]) (M' := gw mi ml) rfl ?_
      exact Go.iret (by rfl) ⟨congrArg (fun z => some (gi z)) (show (1 : Int) = _ by unfold jn; (repeat' split) <;> first | rfl | omega), rfl⟩
  · refine Go.run hsz hn 1 (pc' := 1) (lv' := [some (gi 61), some (gi x), some (gi y)]) (st' := [gi 61]) (M' := gw mi ml) rfl ?_
    refine Go.lsw (l := _) (by rfl) (by rfl) ⟨by decide, by decide⟩ ?_
    refine Go.run hsz hn 2 (pc' := 100) (lv' := [some (gi 61), some (gi x), some (gi y)]) (st' := [gi y, gi x]) (M' := gw mi ml) rfl ?_
    refine Go.icmp_ne (by rfl) rx ry (fun kq4 => ?_) (fun kq4 => ?_)
    · refine Go.run hsz hn 1 (pc' := 108) (lv' := [some (gi 61), some (gi x), some (gi y)]) (st' := [gi 0]) (M' := gw mi ml) rfl ?_
      exact Go.iret (by rfl) ⟨congrArg (fun z => some (gi z)) (show (0 : Int) = _ by unfold jn; (repeat' split) <;> first | rfl | omega), rfl⟩
    · refine Go.run hsz hn 2 (pc' := 108) (lv' := [some (gi 61), some (gi x), some (gi y)]) (st' := [gi 1]) (M' := gw mi ml) rfl ?_
      exact Go.iret (by rfl) ⟨congrArg (fun z => some (gi z)) (show (1 : Int) = _ by unfold jn; (repeat' split) <;> first | rfl | omega), rfl⟩
set_option maxRecDepth 100000 in
set_option maxHeartbeats 4000000 in
theorem cLw_operand {G : gG} (hsz : G.2.2.2.2.2.2 = true) {n : Nat} (hn : 1 ≤ n) (mi : Nat → Nat → Int) (ml : Nat → Nat → Int64) (c : Int) (c0 : 0 ≤ c) (c1 : c ≤ 10005) : gM G 18 n 0 0 [gi c, gr 11] (gw mi ml) (gret (if 10000 ≤ c then mi 11 (c - 10000).toNat else c) (gw mi ml)) := by
  refine gM.of mX2_operand okX2_operand (gcp 18 (by decide)).1 (gcp 18 (by decide)).2 (Nat.le_of_ble_eq_true rfl) ?_
  refine Go.run hsz hn 2 (pc' := 4) (lv' := [some (gi c), some (gr 11), none]) (st' := [gi 10000, gi c]) (M' := gw mi ml) rfl ?_
  refine Go.icmp_ge (by rfl) ⟨by omega, by omega⟩ ⟨by decide, by decide⟩ (fun kq1 => ?_) (fun kq1 => ?_)
  · refine Go.run hsz hn 6 (pc' := 17) (lv' := [some (gi c), some (gr 11), some (gi (c - 10000))]) (st' := [gr 11, gi (c - 10000)]) (M' := gw mi ml) rfl ?_
    refine Go.alen (by rfl) (N := 6) (by rfl) ?_
    refine Go.icmp_ge (by rfl) ⟨by omega, by omega⟩ ⟨by decide, by decide⟩ (fun kq2 => ?_) (fun kq2 => ?_)
    · refine Go.run hsz hn 1 (pc' := 28) (lv' := [some (gi c), some (gr 11), some (gi (c - 10000))]) (st' := [gi 0]) (M' := gw mi ml) rfl ?_
      first | exact Go.iret (by rfl) ⟨congrArg (fun z => some (gi z)) (by split <;> first | rfl | omega), rfl⟩ | (exfalso; omega)
    · refine Go.run hsz hn 2 (pc' := 23) (lv' := [some (gi c), some (gr 11), some (gi (c - 10000))]) (st' := [gi (c - 10000), gr 11]) (M' := gw mi ml) rfl ?_
      refine Go.iald (by rfl) (N := 6) (by rfl) (by omega) (by omega) (by decide) ?_
      refine Go.run hsz hn 1 (pc' := 28) (lv' := [some (gi c), some (gr 11), some (gi (c - 10000))]) (st' := [gi (mi 11 ((c - 10000).toNat))]) (M' := gw mi ml) rfl ?_
      first | exact Go.iret (by rfl) ⟨congrArg (fun z => some (gi z)) (by split <;> first | rfl | omega), rfl⟩ | (exfalso; omega)
  · refine Go.run hsz hn 1 (pc' := 8) (lv' := [some (gi c), some (gr 11), none]) (st' := [gi c]) (M' := gw mi ml) rfl ?_
    first | exact Go.iret (by rfl) ⟨congrArg (fun z => some (gi z)) (by split <;> first | rfl | omega), rfl⟩ | (exfalso; omega)
def eRl (m : Nat → Nat → Int) (cell : Nat) (r : Nat × (Nat → Int)) : Prop := ∀ j : Nat, j < r.1 → m cell j = r.2 j
theorem eRl_push {m : Nat → Nat → Int} {cell : Nat} {q : Nat → Int} {nv : Int → Int} {k : Nat} {tp v : Int} (h : eRl m cell (eS q nv k)) (ht : tp = ((eS q nv k).1 : Nat)) (hq : q k < 20000) (hv : v = if 10000 ≤ q k then nv (q k) else q k) : eRl (gu m cell tp.toNat v) cell (eS q nv (k + 1)) ∧ tp + 1 = ((eS q nv (k + 1)).1 : Nat) := by
  rw [eS_push hq]
  refine ⟨fun j hj => ?_, by show tp + 1 = (((eS q nv k).1 + 1 : Nat) : Int); omega⟩
  have hj : j < (eS q nv k).1 + 1 := hj
  dsimp only
  rw [gu_eq]
  by_cases e : j = (eS q nv k).1
  · rw [if_pos ⟨rfl, by omega⟩, if_pos e, hv]
  · rw [if_neg (by omega), if_neg e]
    exact h j (by omega)
theorem eRl_neg {m : Nat → Nat → Int} {cell : Nat} {q : Nat → Int} {nv : Int → Int} {k : Nat} {tp v : Int} (h : eRl m cell (eS q nv k)) (ht : tp = ((eS q nv k).1 : Nat)) (hq : q k = 30000) (h1 : 1 ≤ tp) (hv : v = w32 (-(m cell (tp - 1).toNat))) : eRl (gu m cell (tp - 1).toNat v) cell (eS q nv (k + 1)) ∧ tp = ((eS q nv (k + 1)).1 : Nat) := by
  rw [eS_neg hq]
  refine ⟨fun j hj => ?_, ht⟩
  have hj : j < (eS q nv k).1 := hj
  dsimp only
  rw [gu_eq]
  by_cases e : j = (eS q nv k).1 - 1
  · rw [if_pos ⟨rfl, by omega⟩, if_pos e, hv, h _ (by omega), show (tp - 1).toNat = (eS q nv k).1 - 1 by omega]
  · rw [if_neg (by omega), if_neg e]
    exact h j hj
theorem eRl_bin {m : Nat → Nat → Int} {cell : Nat} {q : Nat → Int} {nv : Int → Int} {k : Nat} {tp v : Int} (h : eRl m cell (eS q nv k)) (ht : tp = ((eS q nv k).1 : Nat)) (hq : 20000 ≤ q k) (hq2 : q k < 30000) (h1 : 2 ≤ tp) (hv : v = jn (q k - 20000) (m cell (tp - 2).toNat) (m cell (tp - 1).toNat)) : eRl (gu m cell (tp - 2).toNat v) cell (eS q nv (k + 1)) ∧ tp - 1 = ((eS q nv (k + 1)).1 : Nat) := by
  rw [eS_bin hq hq2]
  refine ⟨fun j hj => ?_, by show tp - 1 = (((eS q nv k).1 - 1 : Nat) : Int); omega⟩
  have hj : j < (eS q nv k).1 - 1 := hj
  dsimp only
  rw [gu_eq]
  by_cases e : j = (eS q nv k).1 - 2
  · rw [if_pos ⟨rfl, by omega⟩, if_pos e, hv, h _ (by omega), h _ (by omega), show (tp - 2).toNat = (eS q nv k).1 - 2 by omega, show (tp - 1).toNat = (eS q nv k).1 - 1 by omega]
  · rw [if_neg (by omega), if_neg e]
    exact h j (by omega)
set_option maxRecDepth 100000 in
set_option maxHeartbeats 4000000 in
theorem lLw_worth0 {G : gG} (hsz : G.2.2.2.2.2.2 = true) {n : Nat} (hn : 2 ≤ n) (mi : Nat → Nat → Int) (ml : Nat → Nat → Int64) (q : Nat → Int) (nv : Int → Int) (hz : 0 ≤ mi 48 1 ∧ mi 48 1 ≤ 120) (hq : ∀ i : Nat, (i : Int) < mi 48 1 → cdRel (mi 49 i) (q i)) (hok : eOK q nv (mi 48 1).toNat) (hN : ∀ c m : Int, cdRel c m → 10000 ≤ c → c < 20000 → mi 11 (c - 10000).toNat = nv m) (hnr : ∀ m, rng (nv m)) : ∀ (f : Nat) (k : Int) (m : Nat → Nat → Int) (tp : Int) (hm : ∀ c j : Nat, c ≠ 50 → m c j = mi c j) (hmR : gR32 m) (htp : tp = ((eS q nv k.toNat).1 : Nat)) (hst : eRl m 50 (eS q nv k.toNat)), 0 ≤ k → k ≤ mi 48 1 → mi 48 1 - k < f → Go G mX2_worth n 0 0 4 [some (gr 48), some (gr 11), some (gi tp), some (gi k), none] [] (gw m ml) (fun r M => ∃ m, r = some (gi ((eS q nv (mi 48 1).toNat).2 0)) ∧ M = gw m ml ∧ (∀ c j : Nat, c ≠ 50 → m c j = mi c j) ∧ gR32 m) := by
  have hn1 : 1 ≤ n := by omega

  intro f
  induction f with
  | zero => intros; omega
  | succ f ih =>
    intro k m tp hm hmR htp hst k0 k1 k2
    have ez : m 48 1 = mi 48 1 := hm 48 1 (by decide)
    have ec : m 49 k.toNat = mi 49 k.toNat := hm 49 _ (by decide)
    have hle := eS_le q nv k.toNat
    have hcd : k < mi 48 1 → cdRel (m 49 k.toNat) (q k.toNat) := fun z => by rw [ec]; exact hq k.toNat (by omega)
    have hdp : k < mi 48 1 → (q k.toNat = 30000 → 1 ≤ (eS q nv k.toNat).1) ∧ (20000 ≤ q k.toNat → q k.toNat < 30000 → 2 ≤ (eS q nv k.toNat).1) := fun z => (hok.1 k.toNat (by omega)).2
    refine Go.run hsz hn1 3 (pc' := 9) (lv' := [some (gr 48), some (gr 11), some (gi tp), some (gi k), none]) (st' := [gi (m 48 1), gi k]) (M' := gw m ml) rfl ?_
    refine Go.icmp_ge (by rfl) ⟨by omega, by omega⟩ (hmR _ _) (fun kq1 => ?_) (fun kq1 => ?_)
    · refine Go.run hsz hn1 3 (pc' := 135) (lv' := [some (gr 48), some (gr 11), some (gi tp), some (gi k), none]) (st' := [gi 0, gr 50]) (M' := gw m ml) rfl ?_
      refine Go.iald (by rfl) (N := 120) (by rfl) (by omega) (by omega) (by decide) ?_
      refine Go.run hsz hn1 0 (pc' := 136) (lv' := [some (gr 48), some (gr 11), some (gi tp), some (gi k), none]) (st' := [gi (m 50 0)]) (M' := gw m ml) rfl ?_
      have hk : k = mi 48 1 := by omega
      subst hk
      refine Go.iret (by rfl) ⟨m, congrArg (fun z => some (gi z)) (hst 0 (by have := hok.2; omega)), rfl, hm, hmR⟩
    · replace hcd := hcd (by omega)
      replace hdp := hdp (by omega)
      have hcd2 := hcd
      unfold cdRel at hcd2
      refine Go.run hsz hn1 3 (pc' := 17) (lv' := [some (gr 48), some (gr 11), some (gi tp), some (gi k), none]) (st' := [gi k, gr 49]) (M' := gw m ml) rfl ?_
      refine Go.iald (by rfl) (N := 120) (by rfl) (by omega) (by omega) (by decide) ?_
      refine Go.run hsz hn1 3 (pc' := 25) (lv' := [some (gr 48), some (gr 11), some (gi tp), some (gi k), some (gi (m 49 k.toNat))]) (st' := [gi 20000, gi (m 49 k.toNat)]) (M' := gw m ml) rfl ?_
      refine Go.icmp_ge (by rfl) (hmR _ _) ⟨by decide, by decide⟩ (fun kq2 => ?_) (fun kq2 => ?_)
      · refine Go.run hsz hn1 2 (pc' := 57) (lv' := [some (gr 48), some (gr 11), some (gi tp), some (gi k), some (gi (m 49 k.toNat))]) (st' := [gi 20000, gi (m 49 k.toNat)]) (M' := gw m ml) rfl ?_
        refine Go.icmp_ne (by rfl) (hmR _ _) ⟨by decide, by decide⟩ (fun kq3 => ?_) (fun kq3 => ?_)
        · refine Go.run hsz hn1 2 (pc' := 87) (lv' := [some (gr 48), some (gr 11), some (gi tp), some (gi k), some (gi (m 49 k.toNat))]) (st' := [gi 2, gi tp]) (M' := gw m ml) rfl ?_
          refine Go.icmp_lt (by rfl) ⟨by omega, by omega⟩ ⟨by decide, by decide⟩ (fun kq4 => ?_) (fun kq4 => ?_)
          · refine Go.run hsz hn1 2 (pc' := 4) (lv' := [some (gr 48), some (gr 11), some (gi tp), some (gi (k + 1)), some (gi (m 49 k.toNat))]) (st' := []) (M' := gw m ml) rfl ?_
            refine Go.dropl 4 ?_
            refine Go.run hsz hn1 0 (pc' := 4) (lv' := [some (gr 48), some (gr 11), some (gi tp), some (gi (k + 1)), none]) (st' := []) (M' := gw m ml) rfl ?_
            exfalso; omega
          · refine Go.run hsz hn1 14 (pc' := 113) (lv' := [some (gr 48), some (gr 11), some (gi (tp + (-1))), some (gi k), some (gi (m 49 k.toNat))]) (st' := [gi ((tp + (-1)) - 1), gr 50, gi ((m 49 k.toNat) - 20000), gi ((tp + (-1)) - 1), gr 50]) (M' := gw m ml) rfl ?_
            refine Go.iald (by rfl) (N := 120) (by rfl) (by omega) (by omega) (by decide) ?_
            refine Go.run hsz hn1 3 (pc' := 119) (lv' := [some (gr 48), some (gr 11), some (gi (tp + (-1))), some (gi k), some (gi (m 49 k.toNat))]) (st' := [gi (tp + (-1)), gr 50, gi (m 50 (((tp + (-1)) - 1).toNat)), gi ((m 49 k.toNat) - 20000), gi ((tp + (-1)) - 1), gr 50]) (M' := gw m ml) rfl ?_
            refine Go.iald (by rfl) (N := 120) (by rfl) (by omega) (by omega) (by decide) ?_
            refine Go.run hsz hn1 0 (pc' := 120) (lv' := [some (gr 48), some (gr 11), some (gi (tp + (-1))), some (gi k), some (gi (m 49 k.toNat))]) (st' := [gi (m 50 ((tp + (-1)).toNat)), gi (m 50 (((tp + (-1)) - 1).toNat)), gi ((m 49 k.toNat) - 20000), gi ((tp + (-1)) - 1), gr 50]) (M' := gw m ml) rfl ?_
            refine Go.callS (As := [gi ((m 49 k.toNat) - 20000), gi (m 50 (((tp + (-1)) - 1).toNat)), gi (m 50 ((tp + (-1)).toNat))]) (st := [gi ((tp + (-1)) - 1), gr 50]) (mc1 := 0) (mc := 0) (ms1 := 0) (ms := 0) (by rfl) rfl (gcn 19 (by decide)).1 (gcn 19 (by decide)).2 (Nat.le_of_ble_eq_true rfl) (by omega) (cLw_joined hsz (n := n - 1) (by omega) m ml ((m 49 k.toNat) - 20000) (m 50 (((tp + (-1)) - 1).toNat)) (m 50 ((tp + (-1)).toNat)) (by omega) (hmR _ _) (hmR _ _)) ?_
            rintro _ _ ⟨rfl, rfl⟩
            refine Go.run hsz hn1 0 (pc' := 123) (lv' := [some (gr 48), some (gr 11), some (gi (tp + (-1))), some (gi k), some (gi (m 49 k.toNat))]) (st' := [gi (jn ((m 49 k.toNat) - 20000) (m 50 (((tp + (-1)) - 1).toNat)) (m 50 ((tp + (-1)).toNat))), gi ((tp + (-1)) - 1), gr 50]) (M' := gw m ml) rfl ?_
            refine Go.iast (by rfl) (N := 120) (by rfl) (by omega) (by omega) (by decide) ?_
            refine Go.run hsz hn1 2 (pc' := 4) (lv' := [some (gr 48), some (gr 11), some (gi (tp + (-1))), some (gi (k + 1)), some (gi (m 49 k.toNat))]) (st' := []) (M' := gw (gu m 50 (((tp + (-1)) - 1).toNat) (jn ((m 49 k.toNat) - 20000) (m 50 (((tp + (-1)) - 1).toNat)) (m 50 ((tp + (-1)).toNat)))) ml) rfl ?_
            refine Go.dropl 4 ?_
            refine Go.run hsz hn1 0 (pc' := 4) (lv' := [some (gr 48), some (gr 11), some (gi (tp + (-1))), some (gi (k + 1)), none]) (st' := []) (M' := gw (gu m 50 (((tp + (-1)) - 1).toNat) (jn ((m 49 k.toNat) - 20000) (m 50 (((tp + (-1)) - 1).toNat)) (m 50 ((tp + (-1)).toNat)))) ml) rfl ?_
            have hB := eRl_bin (v := jn (q k.toNat - 20000) (m 50 (tp - 2).toNat) (m 50 (tp - 1).toNat)) hst htp (by omega) (by omega) (by omega) rfl
            have h9 := ih (k + 1) _ (tp - 1) (fun c j hc => (gu_other hc).trans (hm c j hc)) (gR32_gu hmR (jn_rng _ _ _)) (by rw [show (k + 1).toNat = k.toNat + 1 by omega]; exact hB.2) (by rw [show (k + 1).toNat = k.toNat + 1 by omega]; exact hB.1) (by omega) (by omega) (by omega)
            rw [show m 49 k.toNat - 20000 = q k.toNat - 20000 by omega, show tp + (-1) - 1 = tp - 2 by omega, show tp + (-1) = tp - 1 by omega]
            exact h9
        · refine Go.run hsz hn1 2 (pc' := 62) (lv' := [some (gr 48), some (gr 11), some (gi tp), some (gi k), some (gi (m 49 k.toNat))]) (st' := [gi 1, gi tp]) (M' := gw m ml) rfl ?_
          refine Go.icmp_lt (by rfl) ⟨by omega, by omega⟩ ⟨by decide, by decide⟩ (fun kq5 => ?_) (fun kq5 => ?_)
          · refine Go.run hsz hn1 2 (pc' := 87) (lv' := [some (gr 48), some (gr 11), some (gi tp), some (gi k), some (gi (m 49 k.toNat))]) (st' := [gi 2, gi tp]) (M' := gw m ml) rfl ?_
            refine Go.icmp_lt (by rfl) ⟨by omega, by omega⟩ ⟨by decide, by decide⟩ (fun kq6 => ?_) (fun kq6 => ?_)
            · refine Go.run hsz hn1 2 (pc' := 4) (lv' := [some (gr 48), some (gr 11), some (gi tp), some (gi (k + 1)), some (gi (m 49 k.toNat))]) (st' := []) (M' := gw m ml) rfl ?_
              refine Go.dropl 4 ?_
              refine Go.run hsz hn1 0 (pc' := 4) (lv' := [some (gr 48), some (gr 11), some (gi tp), some (gi (k + 1)), none]) (st' := []) (M' := gw m ml) rfl ?_
              exfalso; omega
            · refine Go.run hsz hn1 14 (pc' := 113) (lv' := [some (gr 48), some (gr 11), some (gi (tp + (-1))), some (gi k), some (gi (m 49 k.toNat))]) (st' := [gi ((tp + (-1)) - 1), gr 50, gi ((m 49 k.toNat) - 20000), gi ((tp + (-1)) - 1), gr 50]) (M' := gw m ml) rfl ?_
              refine Go.iald (by rfl) (N := 120) (by rfl) (by omega) (by omega) (by decide) ?_
              refine Go.run hsz hn1 3 (pc' := 119) (lv' := [some (gr 48), some (gr 11), some (gi (tp + (-1))), some (gi k), some (gi (m 49 k.toNat))]) (st' := [gi (tp + (-1)), gr 50, gi (m 50 (((tp + (-1)) - 1).toNat)), gi ((m 49 k.toNat) - 20000), gi ((tp + (-1)) - 1), gr 50]) (M' := gw m ml) rfl ?_
              refine Go.iald (by rfl) (N := 120) (by rfl) (by omega) (by omega) (by decide) ?_
              refine Go.run hsz hn1 0 (pc' := 120) (lv' := [some (gr 48), some (gr 11), some (gi (tp + (-1))), some (gi k), some (gi (m 49 k.toNat))]) (st' := [gi (m 50 ((tp + (-1)).toNat)), gi (m 50 (((tp + (-1)) - 1).toNat)), gi ((m 49 k.toNat) - 20000), gi ((tp + (-1)) - 1), gr 50]) (M' := gw m ml) rfl ?_
              refine Go.callS (As := [gi ((m 49 k.toNat) - 20000), gi (m 50 (((tp + (-1)) - 1).toNat)), gi (m 50 ((tp + (-1)).toNat))]) (st := [gi ((tp + (-1)) - 1), gr 50]) (mc1 := 0) (mc := 0) (ms1 := 0) (ms := 0) (by rfl) rfl (gcn 19 (by decide)).1 (gcn 19 (by decide)).2 (Nat.le_of_ble_eq_true rfl) (by omega) (cLw_joined hsz (n := n - 1) (by omega) m ml ((m 49 k.toNat) - 20000) (m 50 (((tp + (-1)) - 1).toNat)) (m 50 ((tp + (-1)).toNat)) (by omega) (hmR _ _) (hmR _ _)) ?_
              rintro _ _ ⟨rfl, rfl⟩
              refine Go.run hsz hn1 0 (pc' := 123) (lv' := [some (gr 48), some (gr 11), some (gi (tp + (-1))), some (gi k), some (gi (m 49 k.toNat))]) (st' := [gi (jn ((m 49 k.toNat) - 20000) (m 50 (((tp + (-1)) - 1).toNat)) (m 50 ((tp + (-1)).toNat))), gi ((tp + (-1)) - 1), gr 50]) (M' := gw m ml) rfl ?_
              refine Go.iast (by rfl) (N := 120) (by rfl) (by omega) (by omega) (by decide) ?_
              refine Go.run hsz hn1 2 (pc' := 4) (lv' := [some (gr 48), some (gr 11), some (gi (tp + (-1))), some (gi (k + 1)), some (gi (m 49 k.toNat))]) (st' := []) (M' := gw (gu m 50 (((tp + (-1)) - 1).toNat) (jn ((m 49 k.toNat) - 20000) (m 50 (((tp + (-1)) - 1).toNat)) (m 50 ((tp + (-1)).toNat)))) ml) rfl ?_
              refine Go.dropl 4 ?_
              refine Go.run hsz hn1 0 (pc' := 4) (lv' := [some (gr 48), some (gr 11), some (gi (tp + (-1))), some (gi (k + 1)), none]) (st' := []) (M' := gw (gu m 50 (((tp + (-1)) - 1).toNat) (jn ((m 49 k.toNat) - 20000) (m 50 (((tp + (-1)) - 1).toNat)) (m 50 ((tp + (-1)).toNat)))) ml) rfl ?_
              have hB := eRl_bin (v := jn (q k.toNat - 20000) (m 50 (tp - 2).toNat) (m 50 (tp - 1).toNat)) hst htp (by omega) (by omega) (by omega) rfl
              have h9 := ih (k + 1) _ (tp - 1) (fun c j hc => (gu_other hc).trans (hm c j hc)) (gR32_gu hmR (jn_rng _ _ _)) (by rw [show (k + 1).toNat = k.toNat + 1 by omega]; exact hB.2) (by rw [show (k + 1).toNat = k.toNat + 1 by omega]; exact hB.1) (by omega) (by omega) (by omega)
              rw [show m 49 k.toNat - 20000 = q k.toNat - 20000 by omega, show tp + (-1) - 1 = tp - 2 by omega, show tp + (-1) = tp - 1 by omega]
              exact h9
          · refine Go.run hsz hn1 10 (pc' := 79) (lv' := [some (gr 48), some (gr 11), some (gi tp), some (gi k), some (gi (m 49 k.toNat))]) (st' := [gi (tp - 1), gr 50, gi (tp - 1), gr 50]) (M' := gw m ml) rfl ?_
            refine Go.iald (by rfl) (N := 120) (by rfl) (by omega) (by omega) (by decide) ?_
            refine Go.run hsz hn1 1 (pc' := 81) (lv' := [some (gr 48), some (gr 11), some (gi tp), some (gi k), some (gi (m 49 k.toNat))]) (st' := [gi (-(m 50 ((tp - 1).toNat))), gi (tp - 1), gr 50]) (M' := gw m ml) rfl ?_
            refine Go.nrm ?_
            refine Go.run hsz hn1 0 (pc' := 81) (lv' := [some (gr 48), some (gr 11), some (gi tp), some (gi k), some (gi (m 49 k.toNat))]) (st' := [gi (w32 (-(m 50 ((tp - 1).toNat)))), gi (tp - 1), gr 50]) (M' := gw m ml) rfl ?_
            refine Go.iast (by rfl) (N := 120) (by rfl) (by omega) (by omega) (by decide) ?_
            refine Go.run hsz hn1 3 (pc' := 4) (lv' := [some (gr 48), some (gr 11), some (gi tp), some (gi (k + 1)), some (gi (m 49 k.toNat))]) (st' := []) (M' := gw (gu m 50 ((tp - 1).toNat) (w32 (-(m 50 ((tp - 1).toNat))))) ml) rfl ?_
            refine Go.dropl 4 ?_
            refine Go.run hsz hn1 0 (pc' := 4) (lv' := [some (gr 48), some (gr 11), some (gi tp), some (gi (k + 1)), none]) (st' := []) (M' := gw (gu m 50 ((tp - 1).toNat) (w32 (-(m 50 ((tp - 1).toNat))))) ml) rfl ?_
            have hB := eRl_neg hst htp (by omega) (by omega) rfl
            exact ih (k + 1) _ _ (fun c j hc => (gu_other hc).trans (hm c j hc)) (gR32_gu hmR (w32_rng _)) (by rw [show (k + 1).toNat = k.toNat + 1 by omega]; exact hB.2) (by rw [show (k + 1).toNat = k.toNat + 1 by omega]; exact hB.1) (by omega) (by omega) (by omega)
      · refine Go.run hsz hn1 2 (pc' := 31) (lv' := [some (gr 48), some (gr 11), some (gi tp), some (gi k), some (gi (m 49 k.toNat))]) (st' := [gi 120, gi tp]) (M' := gw m ml) rfl ?_
        refine Go.icmp_ge (by rfl) ⟨by omega, by omega⟩ ⟨by decide, by decide⟩ (fun kq7 => ?_) (fun kq7 => ?_)
        · refine Go.run hsz hn1 2 (pc' := 57) (lv' := [some (gr 48), some (gr 11), some (gi tp), some (gi k), some (gi (m 49 k.toNat))]) (st' := [gi 20000, gi (m 49 k.toNat)]) (M' := gw m ml) rfl ?_
          refine Go.icmp_ne (by rfl) (hmR _ _) ⟨by decide, by decide⟩ (fun kq8 => ?_) (fun kq8 => ?_)
          · refine Go.run hsz hn1 2 (pc' := 87) (lv' := [some (gr 48), some (gr 11), some (gi tp), some (gi k), some (gi (m 49 k.toNat))]) (st' := [gi 2, gi tp]) (M' := gw m ml) rfl ?_
            refine Go.icmp_lt (by rfl) ⟨by omega, by omega⟩ ⟨by decide, by decide⟩ (fun kq9 => ?_) (fun kq9 => ?_)
            · refine Go.run hsz hn1 2 (pc' := 4) (lv' := [some (gr 48), some (gr 11), some (gi tp), some (gi (k + 1)), some (gi (m 49 k.toNat))]) (st' := []) (M' := gw m ml) rfl ?_
              refine Go.dropl 4 ?_
              refine Go.run hsz hn1 0 (pc' := 4) (lv' := [some (gr 48), some (gr 11), some (gi tp), some (gi (k + 1)), none]) (st' := []) (M' := gw m ml) rfl ?_
              exfalso; omega
            · refine Go.run hsz hn1 14 (pc' := 113) (lv' := [some (gr 48), some (gr 11), some (gi (tp + (-1))), some (gi k), some (gi (m 49 k.toNat))]) (st' := [gi ((tp + (-1)) - 1), gr 50, gi ((m 49 k.toNat) - 20000), gi ((tp + (-1)) - 1), gr 50]) (M' := gw m ml) rfl ?_
              refine Go.iald (by rfl) (N := 120) (by rfl) (by omega) (by omega) (by decide) ?_
              refine Go.run hsz hn1 3 (pc' := 119) (lv' := [some (gr 48), some (gr 11), some (gi (tp + (-1))), some (gi k), some (gi (m 49 k.toNat))]) (st' := [gi (tp + (-1)), gr 50, gi (m 50 (((tp + (-1)) - 1).toNat)), gi ((m 49 k.toNat) - 20000), gi ((tp + (-1)) - 1), gr 50]) (M' := gw m ml) rfl ?_
              refine Go.iald (by rfl) (N := 120) (by rfl) (by omega) (by omega) (by decide) ?_
              refine Go.run hsz hn1 0 (pc' := 120) (lv' := [some (gr 48), some (gr 11), some (gi (tp + (-1))), some (gi k), some (gi (m 49 k.toNat))]) (st' := [gi (m 50 ((tp + (-1)).toNat)), gi (m 50 (((tp + (-1)) - 1).toNat)), gi ((m 49 k.toNat) - 20000), gi ((tp + (-1)) - 1), gr 50]) (M' := gw m ml) rfl ?_
              refine Go.callS (As := [gi ((m 49 k.toNat) - 20000), gi (m 50 (((tp + (-1)) - 1).toNat)), gi (m 50 ((tp + (-1)).toNat))]) (st := [gi ((tp + (-1)) - 1), gr 50]) (mc1 := 0) (mc := 0) (ms1 := 0) (ms := 0) (by rfl) rfl (gcn 19 (by decide)).1 (gcn 19 (by decide)).2 (Nat.le_of_ble_eq_true rfl) (by omega) (cLw_joined hsz (n := n - 1) (by omega) m ml ((m 49 k.toNat) - 20000) (m 50 (((tp + (-1)) - 1).toNat)) (m 50 ((tp + (-1)).toNat)) (by omega) (hmR _ _) (hmR _ _)) ?_
              rintro _ _ ⟨rfl, rfl⟩
              refine Go.run hsz hn1 0 (pc' := 123) (lv' := [some (gr 48), some (gr 11), some (gi (tp + (-1))), some (gi k), some (gi (m 49 k.toNat))]) (st' := [gi (jn ((m 49 k.toNat) - 20000) (m 50 (((tp + (-1)) - 1).toNat)) (m 50 ((tp + (-1)).toNat))), gi ((tp + (-1)) - 1), gr 50]) (M' := gw m ml) rfl ?_
              refine Go.iast (by rfl) (N := 120) (by rfl) (by omega) (by omega) (by decide) ?_
              refine Go.run hsz hn1 2 (pc' := 4) (lv' := [some (gr 48), some (gr 11), some (gi (tp + (-1))), some (gi (k + 1)), some (gi (m 49 k.toNat))]) (st' := []) (M' := gw (gu m 50 (((tp + (-1)) - 1).toNat) (jn ((m 49 k.toNat) - 20000) (m 50 (((tp + (-1)) - 1).toNat)) (m 50 ((tp + (-1)).toNat)))) ml) rfl ?_
              refine Go.dropl 4 ?_
              refine Go.run hsz hn1 0 (pc' := 4) (lv' := [some (gr 48), some (gr 11), some (gi (tp + (-1))), some (gi (k + 1)), none]) (st' := []) (M' := gw (gu m 50 (((tp + (-1)) - 1).toNat) (jn ((m 49 k.toNat) - 20000) (m 50 (((tp + (-1)) - 1).toNat)) (m 50 ((tp + (-1)).toNat)))) ml) rfl ?_
              have hB := eRl_bin (v := jn (q k.toNat - 20000) (m 50 (tp - 2).toNat) (m 50 (tp - 1).toNat)) hst htp (by omega) (by omega) (by omega) rfl
              have h9 := ih (k + 1) _ (tp - 1) (fun c j hc => (gu_other hc).trans (hm c j hc)) (gR32_gu hmR (jn_rng _ _ _)) (by rw [show (k + 1).toNat = k.toNat + 1 by omega]; exact hB.2) (by rw [show (k + 1).toNat = k.toNat + 1 by omega]; exact hB.1) (by omega) (by omega) (by omega)
              rw [show m 49 k.toNat - 20000 = q k.toNat - 20000 by omega, show tp + (-1) - 1 = tp - 2 by omega, show tp + (-1) = tp - 1 by omega]
              exact h9
          · refine Go.run hsz hn1 2 (pc' := 62) (lv' := [some (gr 48), some (gr 11), some (gi tp), some (gi k), some (gi (m 49 k.toNat))]) (st' := [gi 1, gi tp]) (M' := gw m ml) rfl ?_
            refine Go.icmp_lt (by rfl) ⟨by omega, by omega⟩ ⟨by decide, by decide⟩ (fun kq10 => ?_) (fun kq10 => ?_)
            · refine Go.run hsz hn1 2 (pc' := 87) (lv' := [some (gr 48), some (gr 11), some (gi tp), some (gi k), some (gi (m 49 k.toNat))]) (st' := [gi 2, gi tp]) (M' := gw m ml) rfl ?_
              refine Go.icmp_lt (by rfl) ⟨by omega, by omega⟩ ⟨by decide, by decide⟩ (fun kq11 => ?_) (fun kq11 => ?_)
              · refine Go.run hsz hn1 2 (pc' := 4) (lv' := [some (gr 48), some (gr 11), some (gi tp), some (gi (k + 1)), some (gi (m 49 k.toNat))]) (st' := []) (M' := gw m ml) rfl ?_
                refine Go.dropl 4 ?_
                refine Go.run hsz hn1 0 (pc' := 4) (lv' := [some (gr 48), some (gr 11), some (gi tp), some (gi (k + 1)), none]) (st' := []) (M' := gw m ml) rfl ?_
                exfalso; omega
              · refine Go.run hsz hn1 14 (pc' := 113) (lv' := [some (gr 48), some (gr 11), some (gi (tp + (-1))), some (gi k), some (gi (m 49 k.toNat))]) (st' := [gi ((tp + (-1)) - 1), gr 50, gi ((m 49 k.toNat) - 20000), gi ((tp + (-1)) - 1), gr 50]) (M' := gw m ml) rfl ?_
                refine Go.iald (by rfl) (N := 120) (by rfl) (by omega) (by omega) (by decide) ?_
                refine Go.run hsz hn1 3 (pc' := 119) (lv' := [some (gr 48), some (gr 11), some (gi (tp + (-1))), some (gi k), some (gi (m 49 k.toNat))]) (st' := [gi (tp + (-1)), gr 50, gi (m 50 (((tp + (-1)) - 1).toNat)), gi ((m 49 k.toNat) - 20000), gi ((tp + (-1)) - 1), gr 50]) (M' := gw m ml) rfl ?_
                refine Go.iald (by rfl) (N := 120) (by rfl) (by omega) (by omega) (by decide) ?_
                refine Go.run hsz hn1 0 (pc' := 120) (lv' := [some (gr 48), some (gr 11), some (gi (tp + (-1))), some (gi k), some (gi (m 49 k.toNat))]) (st' := [gi (m 50 ((tp + (-1)).toNat)), gi (m 50 (((tp + (-1)) - 1).toNat)), gi ((m 49 k.toNat) - 20000), gi ((tp + (-1)) - 1), gr 50]) (M' := gw m ml) rfl ?_
                refine Go.callS (As := [gi ((m 49 k.toNat) - 20000), gi (m 50 (((tp + (-1)) - 1).toNat)), gi (m 50 ((tp + (-1)).toNat))]) (st := [gi ((tp + (-1)) - 1), gr 50]) (mc1 := 0) (mc := 0) (ms1 := 0) (ms := 0) (by rfl) rfl (gcn 19 (by decide)).1 (gcn 19 (by decide)).2 (Nat.le_of_ble_eq_true rfl) (by omega) (cLw_joined hsz (n := n - 1) (by omega) m ml ((m 49 k.toNat) - 20000) (m 50 (((tp + (-1)) - 1).toNat)) (m 50 ((tp + (-1)).toNat)) (by omega) (hmR _ _) (hmR _ _)) ?_
                rintro _ _ ⟨rfl, rfl⟩
                refine Go.run hsz hn1 0 (pc' := 123) (lv' := [some (gr 48), some (gr 11), some (gi (tp + (-1))), some (gi k), some (gi (m 49 k.toNat))]) (st' := [gi (jn ((m 49 k.toNat) - 20000) (m 50 (((tp + (-1)) - 1).toNat)) (m 50 ((tp + (-1)).toNat))), gi ((tp + (-1)) - 1), gr 50]) (M' := gw m ml) rfl ?_
                refine Go.iast (by rfl) (N := 120) (by rfl) (by omega) (by omega) (by decide) ?_
                refine Go.run hsz hn1 2 (pc' := 4) (lv' := [some (gr 48), some (gr 11), some (gi (tp + (-1))), some (gi (k + 1)), some (gi (m 49 k.toNat))]) (st' := []) (M' := gw (gu m 50 (((tp + (-1)) - 1).toNat) (jn ((m 49 k.toNat) - 20000) (m 50 (((tp + (-1)) - 1).toNat)) (m 50 ((tp + (-1)).toNat)))) ml) rfl ?_
                refine Go.dropl 4 ?_
                refine Go.run hsz hn1 0 (pc' := 4) (lv' := [some (gr 48), some (gr 11), some (gi (tp + (-1))), some (gi (k + 1)), none]) (st' := []) (M' := gw (gu m 50 (((tp + (-1)) - 1).toNat) (jn ((m 49 k.toNat) - 20000) (m 50 (((tp + (-1)) - 1).toNat)) (m 50 ((tp + (-1)).toNat)))) ml) rfl ?_
                have hB := eRl_bin (v := jn (q k.toNat - 20000) (m 50 (tp - 2).toNat) (m 50 (tp - 1).toNat)) hst htp (by omega) (by omega) (by omega) rfl
                have h9 := ih (k + 1) _ (tp - 1) (fun c j hc => (gu_other hc).trans (hm c j hc)) (gR32_gu hmR (jn_rng _ _ _)) (by rw [show (k + 1).toNat = k.toNat + 1 by omega]; exact hB.2) (by rw [show (k + 1).toNat = k.toNat + 1 by omega]; exact hB.1) (by omega) (by omega) (by omega)
                rw [show m 49 k.toNat - 20000 = q k.toNat - 20000 by omega, show tp + (-1) - 1 = tp - 2 by omega, show tp + (-1) = tp - 1 by omega]
                exact h9
            · refine Go.run hsz hn1 10 (pc' := 79) (lv' := [some (gr 48), some (gr 11), some (gi tp), some (gi k), some (gi (m 49 k.toNat))]) (st' := [gi (tp - 1), gr 50, gi (tp - 1), gr 50]) (M' := gw m ml) rfl ?_
              refine Go.iald (by rfl) (N := 120) (by rfl) (by omega) (by omega) (by decide) ?_
              refine Go.run hsz hn1 1 (pc' := 81) (lv' := [some (gr 48), some (gr 11), some (gi tp), some (gi k), some (gi (m 49 k.toNat))]) (st' := [gi (-(m 50 ((tp - 1).toNat))), gi (tp - 1), gr 50]) (M' := gw m ml) rfl ?_
              refine Go.nrm ?_
              refine Go.run hsz hn1 0 (pc' := 81) (lv' := [some (gr 48), some (gr 11), some (gi tp), some (gi k), some (gi (m 49 k.toNat))]) (st' := [gi (w32 (-(m 50 ((tp - 1).toNat)))), gi (tp - 1), gr 50]) (M' := gw m ml) rfl ?_
              refine Go.iast (by rfl) (N := 120) (by rfl) (by omega) (by omega) (by decide) ?_
              refine Go.run hsz hn1 3 (pc' := 4) (lv' := [some (gr 48), some (gr 11), some (gi tp), some (gi (k + 1)), some (gi (m 49 k.toNat))]) (st' := []) (M' := gw (gu m 50 ((tp - 1).toNat) (w32 (-(m 50 ((tp - 1).toNat))))) ml) rfl ?_
              refine Go.dropl 4 ?_
              refine Go.run hsz hn1 0 (pc' := 4) (lv' := [some (gr 48), some (gr 11), some (gi tp), some (gi (k + 1)), none]) (st' := []) (M' := gw (gu m 50 ((tp - 1).toNat) (w32 (-(m 50 ((tp - 1).toNat))))) ml) rfl ?_
              have hB := eRl_neg hst htp (by omega) (by omega) rfl
              exact ih (k + 1) _ _ (fun c j hc => (gu_other hc).trans (hm c j hc)) (gR32_gu hmR (w32_rng _)) (by rw [show (k + 1).toNat = k.toNat + 1 by omega]; exact hB.2) (by rw [show (k + 1).toNat = k.toNat + 1 by omega]; exact hB.1) (by omega) (by omega) (by omega)
        · refine Go.run hsz hn1 5 (pc' := 42) (lv' := [some (gr 48), some (gr 11), some (gi tp), some (gi k), some (gi (m 49 k.toNat))]) (st' := [gr 11, gi (m 49 k.toNat), gi tp, gr 50]) (M' := gw m ml) rfl ?_
          refine Go.callS (As := [gi (m 49 k.toNat), gr 11]) (st := [gi tp, gr 50]) (mc1 := 0) (mc := 0) (ms1 := 0) (ms := 0) (by rfl) rfl (gcn 18 (by decide)).1 (gcn 18 (by decide)).2 (Nat.le_of_ble_eq_true rfl) (by omega) (cLw_operand hsz (n := n - 1) (by omega) m ml (m 49 k.toNat) (by omega) (by omega)) ?_
          rintro _ _ ⟨rfl, rfl⟩
          refine Go.run hsz hn1 0 (pc' := 45) (lv' := [some (gr 48), some (gr 11), some (gi tp), some (gi k), some (gi (m 49 k.toNat))]) (st' := [gi (if 10000 ≤ m 49 k.toNat then m 11 (m 49 k.toNat - 10000).toNat else m 49 k.toNat), gi tp, gr 50]) (M' := gw m ml) rfl ?_
          refine Go.iast (by rfl) (N := 120) (by rfl) (by omega) (by omega) (by decide) ?_
          refine Go.run hsz hn1 4 (pc' := 4) (lv' := [some (gr 48), some (gr 11), some (gi (tp + 1)), some (gi (k + 1)), some (gi (m 49 k.toNat))]) (st' := []) (M' := gw (gu m 50 tp.toNat (if 10000 ≤ m 49 k.toNat then m 11 (m 49 k.toNat - 10000).toNat else m 49 k.toNat)) ml) rfl ?_
          refine Go.dropl 4 ?_
          refine Go.run hsz hn1 0 (pc' := 4) (lv' := [some (gr 48), some (gr 11), some (gi (tp + 1)), some (gi (k + 1)), none]) (st' := []) (M' := gw (gu m 50 tp.toNat (if 10000 ≤ m 49 k.toNat then m 11 (m 49 k.toNat - 10000).toNat else m 49 k.toNat)) ml) rfl ?_
          have hB := eRl_push (v := if 10000 ≤ m 49 k.toNat then m 11 (m 49 k.toNat - 10000).toNat else m 49 k.toNat) hst htp (by omega) (by
            rw [hm 11 _ (by decide)]
            by_cases e9 : 10000 ≤ m 49 k.toNat
            · rw [if_pos e9, if_pos (by omega)]; exact hN _ _ hcd (by omega) (by omega)
            · rw [if_neg e9, if_neg (by omega)]; omega)
          exact ih (k + 1) _ _ (fun c j hc => (gu_other hc).trans (hm c j hc)) (gR32_gu hmR (by split <;> first | exact hmR _ _ | exact ⟨by omega, by omega⟩)) (by rw [show (k + 1).toNat = k.toNat + 1 by omega]; exact hB.2) (by rw [show (k + 1).toNat = k.toNat + 1 by omega]; exact hB.1) (by omega) (by omega) (by omega)
set_option maxRecDepth 100000 in
set_option maxHeartbeats 4000000 in
theorem cLw_worth0 {G : gG} (hsz : G.2.2.2.2.2.2 = true) {n : Nat} (hn : 2 ≤ n) (mi : Nat → Nat → Int) (ml : Nat → Nat → Int64) (q : Nat → Int) (nv : Int → Int) (hz : 0 ≤ mi 48 1 ∧ mi 48 1 ≤ 120) (hq : ∀ i : Nat, (i : Int) < mi 48 1 → cdRel (mi 49 i) (q i)) (hok : eOK q nv (mi 48 1).toNat) (hN : ∀ c m : Int, cdRel c m → 10000 ≤ c → c < 20000 → mi 11 (c - 10000).toNat = nv m) (hnr : ∀ m, rng (nv m)) (hR : gR32 mi) : gM G 17 n 0 0 [gr 48, gr 11] (gw mi ml) (fun r M => ∃ m, r = some (gi ((eS q nv (mi 48 1).toNat).2 0)) ∧ M = gw m ml ∧ (∀ c j : Nat, c ≠ 50 → m c j = mi c j) ∧ gR32 m) := by
  have hn1 : 1 ≤ n := by omega
  refine gM.of mX2_worth okX2_worth (gcp 17 (by decide)).1 (gcp 17 (by decide)).2 (Nat.le_of_ble_eq_true rfl) ?_
  refine Go.run hsz hn1 4 (pc' := 4) (lv' := [some (gr 48), some (gr 11), some (gi 0), some (gi 0), none]) (st' := []) (M' := gw mi ml) rfl ?_
  exact lLw_worth0 hsz hn mi ml q nv hz hq hok hN hnr ((mi 48 1).toNat + 1) 0 mi 0 (fun _ _ _ => rfl) hR rfl (fun j hj => absurd hj (by show ¬ j < 0; omega)) (by omega) (by omega) (by omega)
set_option maxRecDepth 100000 in
set_option maxHeartbeats 4000000 in
theorem lLw_worth1 {G : gG} (hsz : G.2.2.2.2.2.2 = true) {n : Nat} (hn : 2 ≤ n) (mi : Nat → Nat → Int) (ml : Nat → Nat → Int64) (q : Nat → Int) (nv : Int → Int) (hz : 0 ≤ mi 51 1 ∧ mi 51 1 ≤ 120) (hq : ∀ i : Nat, (i : Int) < mi 51 1 → cdRel (mi 52 i) (q i)) (hok : eOK q nv (mi 51 1).toNat) (hN : ∀ c m : Int, cdRel c m → 10000 ≤ c → c < 20000 → mi 11 (c - 10000).toNat = nv m) (hnr : ∀ m, rng (nv m)) : ∀ (f : Nat) (k : Int) (m : Nat → Nat → Int) (tp : Int) (hm : ∀ c j : Nat, c ≠ 53 → m c j = mi c j) (hmR : gR32 m) (htp : tp = ((eS q nv k.toNat).1 : Nat)) (hst : eRl m 53 (eS q nv k.toNat)), 0 ≤ k → k ≤ mi 51 1 → mi 51 1 - k < f → Go G mX2_worth n 0 0 4 [some (gr 51), some (gr 11), some (gi tp), some (gi k), none] [] (gw m ml) (fun r M => ∃ m, r = some (gi ((eS q nv (mi 51 1).toNat).2 0)) ∧ M = gw m ml ∧ (∀ c j : Nat, c ≠ 53 → m c j = mi c j) ∧ gR32 m) := by
  have hn1 : 1 ≤ n := by omega

  intro f
  induction f with
  | zero => intros; omega
  | succ f ih =>
    intro k m tp hm hmR htp hst k0 k1 k2
    have ez : m 51 1 = mi 51 1 := hm 51 1 (by decide)
    have ec : m 52 k.toNat = mi 52 k.toNat := hm 52 _ (by decide)
    have hle := eS_le q nv k.toNat
    have hcd : k < mi 51 1 → cdRel (m 52 k.toNat) (q k.toNat) := fun z => by rw [ec]; exact hq k.toNat (by omega)
    have hdp : k < mi 51 1 → (q k.toNat = 30000 → 1 ≤ (eS q nv k.toNat).1) ∧ (20000 ≤ q k.toNat → q k.toNat < 30000 → 2 ≤ (eS q nv k.toNat).1) := fun z => (hok.1 k.toNat (by omega)).2
    refine Go.run hsz hn1 3 (pc' := 9) (lv' := [some (gr 51), some (gr 11), some (gi tp), some (gi k), none]) (st' := [gi (m 51 1), gi k]) (M' := gw m ml) rfl ?_
    refine Go.icmp_ge (by rfl) ⟨by omega, by omega⟩ (hmR _ _) (fun kq1 => ?_) (fun kq1 => ?_)
    · refine Go.run hsz hn1 3 (pc' := 135) (lv' := [some (gr 51), some (gr 11), some (gi tp), some (gi k), none]) (st' := [gi 0, gr 53]) (M' := gw m ml) rfl ?_
      refine Go.iald (by rfl) (N := 120) (by rfl) (by omega) (by omega) (by decide) ?_
      refine Go.run hsz hn1 0 (pc' := 136) (lv' := [some (gr 51), some (gr 11), some (gi tp), some (gi k), none]) (st' := [gi (m 53 0)]) (M' := gw m ml) rfl ?_
      have hk : k = mi 51 1 := by omega
      subst hk
      refine Go.iret (by rfl) ⟨m, congrArg (fun z => some (gi z)) (hst 0 (by have := hok.2; omega)), rfl, hm, hmR⟩
    · replace hcd := hcd (by omega)
      replace hdp := hdp (by omega)
      have hcd2 := hcd
      unfold cdRel at hcd2
      refine Go.run hsz hn1 3 (pc' := 17) (lv' := [some (gr 51), some (gr 11), some (gi tp), some (gi k), none]) (st' := [gi k, gr 52]) (M' := gw m ml) rfl ?_
      refine Go.iald (by rfl) (N := 120) (by rfl) (by omega) (by omega) (by decide) ?_
      refine Go.run hsz hn1 3 (pc' := 25) (lv' := [some (gr 51), some (gr 11), some (gi tp), some (gi k), some (gi (m 52 k.toNat))]) (st' := [gi 20000, gi (m 52 k.toNat)]) (M' := gw m ml) rfl ?_
      refine Go.icmp_ge (by rfl) (hmR _ _) ⟨by decide, by decide⟩ (fun kq2 => ?_) (fun kq2 => ?_)
      · refine Go.run hsz hn1 2 (pc' := 57) (lv' := [some (gr 51), some (gr 11), some (gi tp), some (gi k), some (gi (m 52 k.toNat))]) (st' := [gi 20000, gi (m 52 k.toNat)]) (M' := gw m ml) rfl ?_
        refine Go.icmp_ne (by rfl) (hmR _ _) ⟨by decide, by decide⟩ (fun kq3 => ?_) (fun kq3 => ?_)
        · refine Go.run hsz hn1 2 (pc' := 87) (lv' := [some (gr 51), some (gr 11), some (gi tp), some (gi k), some (gi (m 52 k.toNat))]) (st' := [gi 2, gi tp]) (M' := gw m ml) rfl ?_
          refine Go.icmp_lt (by rfl) ⟨by omega, by omega⟩ ⟨by decide, by decide⟩ (fun kq4 => ?_) (fun kq4 => ?_)
          · refine Go.run hsz hn1 2 (pc' := 4) (lv' := [some (gr 51), some (gr 11), some (gi tp), some (gi (k + 1)), some (gi (m 52 k.toNat))]) (st' := []) (M' := gw m ml) rfl ?_
            refine Go.dropl 4 ?_
            refine Go.run hsz hn1 0 (pc' := 4) (lv' := [some (gr 51), some (gr 11), some (gi tp), some (gi (k + 1)), none]) (st' := []) (M' := gw m ml) rfl ?_
            exfalso; omega
          · refine Go.run hsz hn1 14 (pc' := 113) (lv' := [some (gr 51), some (gr 11), some (gi (tp + (-1))), some (gi k), some (gi (m 52 k.toNat))]) (st' := [gi ((tp + (-1)) - 1), gr 53, gi ((m 52 k.toNat) - 20000), gi ((tp + (-1)) - 1), gr 53]) (M' := gw m ml) rfl ?_
            refine Go.iald (by rfl) (N := 120) (by rfl) (by omega) (by omega) (by decide) ?_
            refine Go.run hsz hn1 3 (pc' := 119) (lv' := [some (gr 51), some (gr 11), some (gi (tp + (-1))), some (gi k), some (gi (m 52 k.toNat))]) (st' := [gi (tp + (-1)), gr 53, gi (m 53 (((tp + (-1)) - 1).toNat)), gi ((m 52 k.toNat) - 20000), gi ((tp + (-1)) - 1), gr 53]) (M' := gw m ml) rfl ?_
            refine Go.iald (by rfl) (N := 120) (by rfl) (by omega) (by omega) (by decide) ?_
            refine Go.run hsz hn1 0 (pc' := 120) (lv' := [some (gr 51), some (gr 11), some (gi (tp + (-1))), some (gi k), some (gi (m 52 k.toNat))]) (st' := [gi (m 53 ((tp + (-1)).toNat)), gi (m 53 (((tp + (-1)) - 1).toNat)), gi ((m 52 k.toNat) - 20000), gi ((tp + (-1)) - 1), gr 53]) (M' := gw m ml) rfl ?_
            refine Go.callS (As := [gi ((m 52 k.toNat) - 20000), gi (m 53 (((tp + (-1)) - 1).toNat)), gi (m 53 ((tp + (-1)).toNat))]) (st := [gi ((tp + (-1)) - 1), gr 53]) (mc1 := 0) (mc := 0) (ms1 := 0) (ms := 0) (by rfl) rfl (gcn 19 (by decide)).1 (gcn 19 (by decide)).2 (Nat.le_of_ble_eq_true rfl) (by omega) (cLw_joined hsz (n := n - 1) (by omega) m ml ((m 52 k.toNat) - 20000) (m 53 (((tp + (-1)) - 1).toNat)) (m 53 ((tp + (-1)).toNat)) (by omega) (hmR _ _) (hmR _ _)) ?_
            rintro _ _ ⟨rfl, rfl⟩
            refine Go.run hsz hn1 0 (pc' := 123) (lv' := [some (gr 51), some (gr 11), some (gi (tp + (-1))), some (gi k), some (gi (m 52 k.toNat))]) (st' := [gi (jn ((m 52 k.toNat) - 20000) (m 53 (((tp + (-1)) - 1).toNat)) (m 53 ((tp + (-1)).toNat))), gi ((tp + (-1)) - 1), gr 53]) (M' := gw m ml) rfl ?_
            refine Go.iast (by rfl) (N := 120) (by rfl) (by omega) (by omega) (by decide) ?_
            refine Go.run hsz hn1 2 (pc' := 4) (lv' := [some (gr 51), some (gr 11), some (gi (tp + (-1))), some (gi (k + 1)), some (gi (m 52 k.toNat))]) (st' := []) (M' := gw (gu m 53 (((tp + (-1)) - 1).toNat) (jn ((m 52 k.toNat) - 20000) (m 53 (((tp + (-1)) - 1).toNat)) (m 53 ((tp + (-1)).toNat)))) ml) rfl ?_
            refine Go.dropl 4 ?_
            refine Go.run hsz hn1 0 (pc' := 4) (lv' := [some (gr 51), some (gr 11), some (gi (tp + (-1))), some (gi (k + 1)), none]) (st' := []) (M' := gw (gu m 53 (((tp + (-1)) - 1).toNat) (jn ((m 52 k.toNat) - 20000) (m 53 (((tp + (-1)) - 1).toNat)) (m 53 ((tp + (-1)).toNat)))) ml) rfl ?_
            have hB := eRl_bin (v := jn (q k.toNat - 20000) (m 53 (tp - 2).toNat) (m 53 (tp - 1).toNat)) hst htp (by omega) (by omega) (by omega) rfl
            have h9 := ih (k + 1) _ (tp - 1) (fun c j hc => (gu_other hc).trans (hm c j hc)) (gR32_gu hmR (jn_rng _ _ _)) (by rw [show (k + 1).toNat = k.toNat + 1 by omega]; exact hB.2) (by rw [show (k + 1).toNat = k.toNat + 1 by omega]; exact hB.1) (by omega) (by omega) (by omega)
            rw [show m 52 k.toNat - 20000 = q k.toNat - 20000 by omega, show tp + (-1) - 1 = tp - 2 by omega, show tp + (-1) = tp - 1 by omega]
            exact h9
        · refine Go.run hsz hn1 2 (pc' := 62) (lv' := [some (gr 51), some (gr 11), some (gi tp), some (gi k), some (gi (m 52 k.toNat))]) (st' := [gi 1, gi tp]) (M' := gw m ml) rfl ?_
          refine Go.icmp_lt (by rfl) ⟨by omega, by omega⟩ ⟨by decide, by decide⟩ (fun kq5 => ?_) (fun kq5 => ?_)
          · refine Go.run hsz hn1 2 (pc' := 87) (lv' := [some (gr 51), some (gr 11), some (gi tp), some (gi k), some (gi (m 52 k.toNat))]) (st' := [gi 2, gi tp]) (M' := gw m ml) rfl ?_
            refine Go.icmp_lt (by rfl) ⟨by omega, by omega⟩ ⟨by decide, by decide⟩ (fun kq6 => ?_) (fun kq6 => ?_)
            · refine Go.run hsz hn1 2 (pc' := 4) (lv' := [some (gr 51), some (gr 11), some (gi tp), some (gi (k + 1)), some (gi (m 52 k.toNat))]) (st' := []) (M' := gw m ml) rfl ?_
              refine Go.dropl 4 ?_
              refine Go.run hsz hn1 0 (pc' := 4) (lv' := [some (gr 51), some (gr 11), some (gi tp), some (gi (k + 1)), none]) (st' := []) (M' := gw m ml) rfl ?_
              exfalso; omega
            · refine Go.run hsz hn1 14 (pc' := 113) (lv' := [some (gr 51), some (gr 11), some (gi (tp + (-1))), some (gi k), some (gi (m 52 k.toNat))]) (st' := [gi ((tp + (-1)) - 1), gr 53, gi ((m 52 k.toNat) - 20000), gi ((tp + (-1)) - 1), gr 53]) (M' := gw m ml) rfl ?_
              refine Go.iald (by rfl) (N := 120) (by rfl) (by omega) (by omega) (by decide) ?_
              refine Go.run hsz hn1 3 (pc' := 119) (lv' := [some (gr 51), some (gr 11), some (gi (tp + (-1))), some (gi k), some (gi (m 52 k.toNat))]) (st' := [gi (tp + (-1)), gr 53, gi (m 53 (((tp + (-1)) - 1).toNat)), gi ((m 52 k.toNat) - 20000), gi ((tp + (-1)) - 1), gr 53]) (M' := gw m ml) rfl ?_
              refine Go.iald (by rfl) (N := 120) (by rfl) (by omega) (by omega) (by decide) ?_
              refine Go.run hsz hn1 0 (pc' := 120) (lv' := [some (gr 51), some (gr 11), some (gi (tp + (-1))), some (gi k), some (gi (m 52 k.toNat))]) (st' := [gi (m 53 ((tp + (-1)).toNat)), gi (m 53 (((tp + (-1)) - 1).toNat)), gi ((m 52 k.toNat) - 20000), gi ((tp + (-1)) - 1), gr 53]) (M' := gw m ml) rfl ?_
              refine Go.callS (As := [gi ((m 52 k.toNat) - 20000), gi (m 53 (((tp + (-1)) - 1).toNat)), gi (m 53 ((tp + (-1)).toNat))]) (st := [gi ((tp + (-1)) - 1), gr 53]) (mc1 := 0) (mc := 0) (ms1 := 0) (ms := 0) (by rfl) rfl (gcn 19 (by decide)).1 (gcn 19 (by decide)).2 (Nat.le_of_ble_eq_true rfl) (by omega) (cLw_joined hsz (n := n - 1) (by omega) m ml ((m 52 k.toNat) - 20000) (m 53 (((tp + (-1)) - 1).toNat)) (m 53 ((tp + (-1)).toNat)) (by omega) (hmR _ _) (hmR _ _)) ?_
              rintro _ _ ⟨rfl, rfl⟩
              refine Go.run hsz hn1 0 (pc' := 123) (lv' := [some (gr 51), some (gr 11), some (gi (tp + (-1))), some (gi k), some (gi (m 52 k.toNat))]) (st' := [gi (jn ((m 52 k.toNat) - 20000) (m 53 (((tp + (-1)) - 1).toNat)) (m 53 ((tp + (-1)).toNat))), gi ((tp + (-1)) - 1), gr 53]) (M' := gw m ml) rfl ?_
              refine Go.iast (by rfl) (N := 120) (by rfl) (by omega) (by omega) (by decide) ?_
              refine Go.run hsz hn1 2 (pc' := 4) (lv' := [some (gr 51), some (gr 11), some (gi (tp + (-1))), some (gi (k + 1)), some (gi (m 52 k.toNat))]) (st' := []) (M' := gw (gu m 53 (((tp + (-1)) - 1).toNat) (jn ((m 52 k.toNat) - 20000) (m 53 (((tp + (-1)) - 1).toNat)) (m 53 ((tp + (-1)).toNat)))) ml) rfl ?_
              refine Go.dropl 4 ?_
              refine Go.run hsz hn1 0 (pc' := 4) (lv' := [some (gr 51), some (gr 11), some (gi (tp + (-1))), some (gi (k + 1)), none]) (st' := []) (M' := gw (gu m 53 (((tp + (-1)) - 1).toNat) (jn ((m 52 k.toNat) - 20000) (m 53 (((tp + (-1)) - 1).toNat)) (m 53 ((tp + (-1)).toNat)))) ml) rfl ?_
              have hB := eRl_bin (v := jn (q k.toNat - 20000) (m 53 (tp - 2).toNat) (m 53 (tp - 1).toNat)) hst htp (by omega) (by omega) (by omega) rfl
              have h9 := ih (k + 1) _ (tp - 1) (fun c j hc => (gu_other hc).trans (hm c j hc)) (gR32_gu hmR (jn_rng _ _ _)) (by rw [show (k + 1).toNat = k.toNat + 1 by omega]; exact hB.2) (by rw [show (k + 1).toNat = k.toNat + 1 by omega]; exact hB.1) (by omega) (by omega) (by omega)
              rw [show m 52 k.toNat - 20000 = q k.toNat - 20000 by omega, show tp + (-1) - 1 = tp - 2 by omega, show tp + (-1) = tp - 1 by omega]
              exact h9
          · refine Go.run hsz hn1 10 (pc' := 79) (lv' := [some (gr 51), some (gr 11), some (gi tp), some (gi k), some (gi (m 52 k.toNat))]) (st' := [gi (tp - 1), gr 53, gi (tp - 1), gr 53]) (M' := gw m ml) rfl ?_
            refine Go.iald (by rfl) (N := 120) (by rfl) (by omega) (by omega) (by decide) ?_
            refine Go.run hsz hn1 1 (pc' := 81) (lv' := [some (gr 51), some (gr 11), some (gi tp), some (gi k), some (gi (m 52 k.toNat))]) (st' := [gi (-(m 53 ((tp - 1).toNat))), gi (tp - 1), gr 53]) (M' := gw m ml) rfl ?_
            refine Go.nrm ?_
            refine Go.run hsz hn1 0 (pc' := 81) (lv' := [some (gr 51), some (gr 11), some (gi tp), some (gi k), some (gi (m 52 k.toNat))]) (st' := [gi (w32 (-(m 53 ((tp - 1).toNat)))), gi (tp - 1), gr 53]) (M' := gw m ml) rfl ?_
            refine Go.iast (by rfl) (N := 120) (by rfl) (by omega) (by omega) (by decide) ?_
            refine Go.run hsz hn1 3 (pc' := 4) (lv' := [some (gr 51), some (gr 11), some (gi tp), some (gi (k + 1)), some (gi (m 52 k.toNat))]) (st' := []) (M' := gw (gu m 53 ((tp - 1).toNat) (w32 (-(m 53 ((tp - 1).toNat))))) ml) rfl ?_
            refine Go.dropl 4 ?_
            refine Go.run hsz hn1 0 (pc' := 4) (lv' := [some (gr 51), some (gr 11), some (gi tp), some (gi (k + 1)), none]) (st' := []) (M' := gw (gu m 53 ((tp - 1).toNat) (w32 (-(m 53 ((tp - 1).toNat))))) ml) rfl ?_
            have hB := eRl_neg hst htp (by omega) (by omega) rfl
            exact ih (k + 1) _ _ (fun c j hc => (gu_other hc).trans (hm c j hc)) (gR32_gu hmR (w32_rng _)) (by rw [show (k + 1).toNat = k.toNat + 1 by omega]; exact hB.2) (by rw [show (k + 1).toNat = k.toNat + 1 by omega]; exact hB.1) (by omega) (by omega) (by omega)
      · refine Go.run hsz hn1 2 (pc' := 31) (lv' := [some (gr 51), some (gr 11), some (gi tp), some (gi k), some (gi (m 52 k.toNat))]) (st' := [gi 120, gi tp]) (M' := gw m ml) rfl ?_
        refine Go.icmp_ge (by rfl) ⟨by omega, by omega⟩ ⟨by decide, by decide⟩ (fun kq7 => ?_) (fun kq7 => ?_)
        · refine Go.run hsz hn1 2 (pc' := 57) (lv' := [some (gr 51), some (gr 11), some (gi tp), some (gi k), some (gi (m 52 k.toNat))]) (st' := [gi 20000, gi (m 52 k.toNat)]) (M' := gw m ml) rfl ?_
          refine Go.icmp_ne (by rfl) (hmR _ _) ⟨by decide, by decide⟩ (fun kq8 => ?_) (fun kq8 => ?_)
          · refine Go.run hsz hn1 2 (pc' := 87) (lv' := [some (gr 51), some (gr 11), some (gi tp), some (gi k), some (gi (m 52 k.toNat))]) (st' := [gi 2, gi tp]) (M' := gw m ml) rfl ?_
            refine Go.icmp_lt (by rfl) ⟨by omega, by omega⟩ ⟨by decide, by decide⟩ (fun kq9 => ?_) (fun kq9 => ?_)
            · refine Go.run hsz hn1 2 (pc' := 4) (lv' := [some (gr 51), some (gr 11), some (gi tp), some (gi (k + 1)), some (gi (m 52 k.toNat))]) (st' := []) (M' := gw m ml) rfl ?_
              refine Go.dropl 4 ?_
              refine Go.run hsz hn1 0 (pc' := 4) (lv' := [some (gr 51), some (gr 11), some (gi tp), some (gi (k + 1)), none]) (st' := []) (M' := gw m ml) rfl ?_
              exfalso; omega
            · refine Go.run hsz hn1 14 (pc' := 113) (lv' := [some (gr 51), some (gr 11), some (gi (tp + (-1))), some (gi k), some (gi (m 52 k.toNat))]) (st' := [gi ((tp + (-1)) - 1), gr 53, gi ((m 52 k.toNat) - 20000), gi ((tp + (-1)) - 1), gr 53]) (M' := gw m ml) rfl ?_
              refine Go.iald (by rfl) (N := 120) (by rfl) (by omega) (by omega) (by decide) ?_
              refine Go.run hsz hn1 3 (pc' := 119) (lv' := [some (gr 51), some (gr 11), some (gi (tp + (-1))), some (gi k), some (gi (m 52 k.toNat))]) (st' := [gi (tp + (-1)), gr 53, gi (m 53 (((tp + (-1)) - 1).toNat)), gi ((m 52 k.toNat) - 20000), gi ((tp + (-1)) - 1), gr 53]) (M' := gw m ml) rfl ?_
              refine Go.iald (by rfl) (N := 120) (by rfl) (by omega) (by omega) (by decide) ?_
              refine Go.run hsz hn1 0 (pc' := 120) (lv' := [some (gr 51), some (gr 11), some (gi (tp + (-1))), some (gi k), some (gi (m 52 k.toNat))]) (st' := [gi (m 53 ((tp + (-1)).toNat)), gi (m 53 (((tp + (-1)) - 1).toNat)), gi ((m 52 k.toNat) - 20000), gi ((tp + (-1)) - 1), gr 53]) (M' := gw m ml) rfl ?_
              refine Go.callS (As := [gi ((m 52 k.toNat) - 20000), gi (m 53 (((tp + (-1)) - 1).toNat)), gi (m 53 ((tp + (-1)).toNat))]) (st := [gi ((tp + (-1)) - 1), gr 53]) (mc1 := 0) (mc := 0) (ms1 := 0) (ms := 0) (by rfl) rfl (gcn 19 (by decide)).1 (gcn 19 (by decide)).2 (Nat.le_of_ble_eq_true rfl) (by omega) (cLw_joined hsz (n := n - 1) (by omega) m ml ((m 52 k.toNat) - 20000) (m 53 (((tp + (-1)) - 1).toNat)) (m 53 ((tp + (-1)).toNat)) (by omega) (hmR _ _) (hmR _ _)) ?_
              rintro _ _ ⟨rfl, rfl⟩
              refine Go.run hsz hn1 0 (pc' := 123) (lv' := [some (gr 51), some (gr 11), some (gi (tp + (-1))), some (gi k), some (gi (m 52 k.toNat))]) (st' := [gi (jn ((m 52 k.toNat) - 20000) (m 53 (((tp + (-1)) - 1).toNat)) (m 53 ((tp + (-1)).toNat))), gi ((tp + (-1)) - 1), gr 53]) (M' := gw m ml) rfl ?_
              refine Go.iast (by rfl) (N := 120) (by rfl) (by omega) (by omega) (by decide) ?_
              refine Go.run hsz hn1 2 (pc' := 4) (lv' := [some (gr 51), some (gr 11), some (gi (tp + (-1))), some (gi (k + 1)), some (gi (m 52 k.toNat))]) (st' := []) (M' := gw (gu m 53 (((tp + (-1)) - 1).toNat) (jn ((m 52 k.toNat) - 20000) (m 53 (((tp + (-1)) - 1).toNat)) (m 53 ((tp + (-1)).toNat)))) ml) rfl ?_
              refine Go.dropl 4 ?_
              refine Go.run hsz hn1 0 (pc' := 4) (lv' := [some (gr 51), some (gr 11), some (gi (tp + (-1))), some (gi (k + 1)), none]) (st' := []) (M' := gw (gu m 53 (((tp + (-1)) - 1).toNat) (jn ((m 52 k.toNat) - 20000) (m 53 (((tp + (-1)) - 1).toNat)) (m 53 ((tp + (-1)).toNat)))) ml) rfl ?_
              have hB := eRl_bin (v := jn (q k.toNat - 20000) (m 53 (tp - 2).toNat) (m 53 (tp - 1).toNat)) hst htp (by omega) (by omega) (by omega) rfl
              have h9 := ih (k + 1) _ (tp - 1) (fun c j hc => (gu_other hc).trans (hm c j hc)) (gR32_gu hmR (jn_rng _ _ _)) (by rw [show (k + 1).toNat = k.toNat + 1 by omega]; exact hB.2) (by rw [show (k + 1).toNat = k.toNat + 1 by omega]; exact hB.1) (by omega) (by omega) (by omega)
              rw [show m 52 k.toNat - 20000 = q k.toNat - 20000 by omega, show tp + (-1) - 1 = tp - 2 by omega, show tp + (-1) = tp - 1 by omega]
              exact h9
          · refine Go.run hsz hn1 2 (pc' := 62) (lv' := [some (gr 51), some (gr 11), some (gi tp), some (gi k), some (gi (m 52 k.toNat))]) (st' := [gi 1, gi tp]) (M' := gw m ml) rfl ?_
            refine Go.icmp_lt (by rfl) ⟨by omega, by omega⟩ ⟨by decide, by decide⟩ (fun kq10 => ?_) (fun kq10 => ?_)
            · refine Go.run hsz hn1 2 (pc' := 87) (lv' := [some (gr 51), some (gr 11), some (gi tp), some (gi k), some (gi (m 52 k.toNat))]) (st' := [gi 2, gi tp]) (M' := gw m ml) rfl ?_
              refine Go.icmp_lt (by rfl) ⟨by omega, by omega⟩ ⟨by decide, by decide⟩ (fun kq11 => ?_) (fun kq11 => ?_)
              · refine Go.run hsz hn1 2 (pc' := 4) (lv' := [some (gr 51), some (gr 11), some (gi tp), some (gi (k + 1)), some (gi (m 52 k.toNat))]) (st' := []) (M' := gw m ml) rfl ?_
                refine Go.dropl 4 ?_
                refine Go.run hsz hn1 0 (pc' := 4) (lv' := [some (gr 51), some (gr 11), some (gi tp), some (gi (k + 1)), none]) (st' := []) (M' := gw m ml) rfl ?_
                exfalso; omega
              · refine Go.run hsz hn1 14 (pc' := 113) (lv' := [some (gr 51), some (gr 11), some (gi (tp + (-1))), some (gi k), some (gi (m 52 k.toNat))]) (st' := [gi ((tp + (-1)) - 1), gr 53, gi ((m 52 k.toNat) - 20000), gi ((tp + (-1)) - 1), gr 53]) (M' := gw m ml) rfl ?_
                refine Go.iald (by rfl) (N := 120) (by rfl) (by omega) (by omega) (by decide) ?_
                refine Go.run hsz hn1 3 (pc' := 119) (lv' := [some (gr 51), some (gr 11), some (gi (tp + (-1))), some (gi k), some (gi (m 52 k.toNat))]) (st' := [gi (tp + (-1)), gr 53, gi (m 53 (((tp + (-1)) - 1).toNat)), gi ((m 52 k.toNat) - 20000), gi ((tp + (-1)) - 1), gr 53]) (M' := gw m ml) rfl ?_
                refine Go.iald (by rfl) (N := 120) (by rfl) (by omega) (by omega) (by decide) ?_
                refine Go.run hsz hn1 0 (pc' := 120) (lv' := [some (gr 51), some (gr 11), some (gi (tp + (-1))), some (gi k), some (gi (m 52 k.toNat))]) (st' := [gi (m 53 ((tp + (-1)).toNat)), gi (m 53 (((tp + (-1)) - 1).toNat)), gi ((m 52 k.toNat) - 20000), gi ((tp + (-1)) - 1), gr 53]) (M' := gw m ml) rfl ?_
                refine Go.callS (As := [gi ((m 52 k.toNat) - 20000), gi (m 53 (((tp + (-1)) - 1).toNat)), gi (m 53 ((tp + (-1)).toNat))]) (st := [gi ((tp + (-1)) - 1), gr 53]) (mc1 := 0) (mc := 0) (ms1 := 0) (ms := 0) (by rfl) rfl (gcn 19 (by decide)).1 (gcn 19 (by decide)).2 (Nat.le_of_ble_eq_true rfl) (by omega) (cLw_joined hsz (n := n - 1) (by omega) m ml ((m 52 k.toNat) - 20000) (m 53 (((tp + (-1)) - 1).toNat)) (m 53 ((tp + (-1)).toNat)) (by omega) (hmR _ _) (hmR _ _)) ?_
                rintro _ _ ⟨rfl, rfl⟩
                refine Go.run hsz hn1 0 (pc' := 123) (lv' := [some (gr 51), some (gr 11), some (gi (tp + (-1))), some (gi k), some (gi (m 52 k.toNat))]) (st' := [gi (jn ((m 52 k.toNat) - 20000) (m 53 (((tp + (-1)) - 1).toNat)) (m 53 ((tp + (-1)).toNat))), gi ((tp + (-1)) - 1), gr 53]) (M' := gw m ml) rfl ?_
                refine Go.iast (by rfl) (N := 120) (by rfl) (by omega) (by omega) (by decide) ?_
                refine Go.run hsz hn1 2 (pc' := 4) (lv' := [some (gr 51), some (gr 11), some (gi (tp + (-1))), some (gi (k + 1)), some (gi (m 52 k.toNat))]) (st' := []) (M' := gw (gu m 53 (((tp + (-1)) - 1).toNat) (jn ((m 52 k.toNat) - 20000) (m 53 (((tp + (-1)) - 1).toNat)) (m 53 ((tp + (-1)).toNat)))) ml) rfl ?_
                refine Go.dropl 4 ?_
                refine Go.run hsz hn1 0 (pc' := 4) (lv' := [some (gr 51), some (gr 11), some (gi (tp + (-1))), some (gi (k + 1)), none]) (st' := []) (M' := gw (gu m 53 (((tp + (-1)) - 1).toNat) (jn ((m 52 k.toNat) - 20000) (m 53 (((tp + (-1)) - 1).toNat)) (m 53 ((tp + (-1)).toNat)))) ml) rfl ?_
                have hB := eRl_bin (v := jn (q k.toNat - 20000) (m 53 (tp - 2).toNat) (m 53 (tp - 1).toNat)) hst htp (by omega) (by omega) (by omega) rfl
                have h9 := ih (k + 1) _ (tp - 1) (fun c j hc => (gu_other hc).trans (hm c j hc)) (gR32_gu hmR (jn_rng _ _ _)) (by rw [show (k + 1).toNat = k.toNat + 1 by omega]; exact hB.2) (by rw [show (k + 1).toNat = k.toNat + 1 by omega]; exact hB.1) (by omega) (by omega) (by omega)
                rw [show m 52 k.toNat - 20000 = q k.toNat - 20000 by omega, show tp + (-1) - 1 = tp - 2 by omega, show tp + (-1) = tp - 1 by omega]
                exact h9
            · refine Go.run hsz hn1 10 (pc' := 79) (lv' := [some (gr 51), some (gr 11), some (gi tp), some (gi k), some (gi (m 52 k.toNat))]) (st' := [gi (tp - 1), gr 53, gi (tp - 1), gr 53]) (M' := gw m ml) rfl ?_
              refine Go.iald (by rfl) (N := 120) (by rfl) (by omega) (by omega) (by decide) ?_
              refine Go.run hsz hn1 1 (pc' := 81) (lv' := [some (gr 51), some (gr 11), some (gi tp), some (gi k), some (gi (m 52 k.toNat))]) (st' := [gi (-(m 53 ((tp - 1).toNat))), gi (tp - 1), gr 53]) (M' := gw m ml) rfl ?_
              refine Go.nrm ?_
              refine Go.run hsz hn1 0 (pc' := 81) (lv' := [some (gr 51), some (gr 11), some (gi tp), some (gi k), some (gi (m 52 k.toNat))]) (st' := [gi (w32 (-(m 53 ((tp - 1).toNat)))), gi (tp - 1), gr 53]) (M' := gw m ml) rfl ?_
              refine Go.iast (by rfl) (N := 120) (by rfl) (by omega) (by omega) (by decide) ?_
              refine Go.run hsz hn1 3 (pc' := 4) (lv' := [some (gr 51), some (gr 11), some (gi tp), some (gi (k + 1)), some (gi (m 52 k.toNat))]) (st' := []) (M' := gw (gu m 53 ((tp - 1).toNat) (w32 (-(m 53 ((tp - 1).toNat))))) ml) rfl ?_
              refine Go.dropl 4 ?_
              refine Go.run hsz hn1 0 (pc' := 4) (lv' := [some (gr 51), some (gr 11), some (gi tp), some (gi (k + 1)), none]) (st' := []) (M' := gw (gu m 53 ((tp - 1).toNat) (w32 (-(m 53 ((tp - 1).toNat))))) ml) rfl ?_
              have hB := eRl_neg hst htp (by omega) (by omega) rfl
              exact ih (k + 1) _ _ (fun c j hc => (gu_other hc).trans (hm c j hc)) (gR32_gu hmR (w32_rng _)) (by rw [show (k + 1).toNat = k.toNat + 1 by omega]; exact hB.2) (by rw [show (k + 1).toNat = k.toNat + 1 by omega]; exact hB.1) (by omega) (by omega) (by omega)
        · refine Go.run hsz hn1 5 (pc' := 42) (lv' := [some (gr 51), some (gr 11), some (gi tp), some (gi k), some (gi (m 52 k.toNat))]) (st' := [gr 11, gi (m 52 k.toNat), gi tp, gr 53]) (M' := gw m ml) rfl ?_
          refine Go.callS (As := [gi (m 52 k.toNat), gr 11]) (st := [gi tp, gr 53]) (mc1 := 0) (mc := 0) (ms1 := 0) (ms := 0) (by rfl) rfl (gcn 18 (by decide)).1 (gcn 18 (by decide)).2 (Nat.le_of_ble_eq_true rfl) (by omega) (cLw_operand hsz (n := n - 1) (by omega) m ml (m 52 k.toNat) (by omega) (by omega)) ?_
          rintro _ _ ⟨rfl, rfl⟩
          refine Go.run hsz hn1 0 (pc' := 45) (lv' := [some (gr 51), some (gr 11), some (gi tp), some (gi k), some (gi (m 52 k.toNat))]) (st' := [gi (if 10000 ≤ m 52 k.toNat then m 11 (m 52 k.toNat - 10000).toNat else m 52 k.toNat), gi tp, gr 53]) (M' := gw m ml) rfl ?_
          refine Go.iast (by rfl) (N := 120) (by rfl) (by omega) (by omega) (by decide) ?_
          refine Go.run hsz hn1 4 (pc' := 4) (lv' := [some (gr 51), some (gr 11), some (gi (tp + 1)), some (gi (k + 1)), some (gi (m 52 k.toNat))]) (st' := []) (M' := gw (gu m 53 tp.toNat (if 10000 ≤ m 52 k.toNat then m 11 (m 52 k.toNat - 10000).toNat else m 52 k.toNat)) ml) rfl ?_
          refine Go.dropl 4 ?_
          refine Go.run hsz hn1 0 (pc' := 4) (lv' := [some (gr 51), some (gr 11), some (gi (tp + 1)), some (gi (k + 1)), none]) (st' := []) (M' := gw (gu m 53 tp.toNat (if 10000 ≤ m 52 k.toNat then m 11 (m 52 k.toNat - 10000).toNat else m 52 k.toNat)) ml) rfl ?_
          have hB := eRl_push (v := if 10000 ≤ m 52 k.toNat then m 11 (m 52 k.toNat - 10000).toNat else m 52 k.toNat) hst htp (by omega) (by
            rw [hm 11 _ (by decide)]
            by_cases e9 : 10000 ≤ m 52 k.toNat
            · rw [if_pos e9, if_pos (by omega)]; exact hN _ _ hcd (by omega) (by omega)
            · rw [if_neg e9, if_neg (by omega)]; omega)
          exact ih (k + 1) _ _ (fun c j hc => (gu_other hc).trans (hm c j hc)) (gR32_gu hmR (by split <;> first | exact hmR _ _ | exact ⟨by omega, by omega⟩)) (by rw [show (k + 1).toNat = k.toNat + 1 by omega]; exact hB.2) (by rw [show (k + 1).toNat = k.toNat + 1 by omega]; exact hB.1) (by omega) (by omega) (by omega)
set_option maxRecDepth 100000 in
set_option maxHeartbeats 4000000 in
theorem cLw_worth1 {G : gG} (hsz : G.2.2.2.2.2.2 = true) {n : Nat} (hn : 2 ≤ n) (mi : Nat → Nat → Int) (ml : Nat → Nat → Int64) (q : Nat → Int) (nv : Int → Int) (hz : 0 ≤ mi 51 1 ∧ mi 51 1 ≤ 120) (hq : ∀ i : Nat, (i : Int) < mi 51 1 → cdRel (mi 52 i) (q i)) (hok : eOK q nv (mi 51 1).toNat) (hN : ∀ c m : Int, cdRel c m → 10000 ≤ c → c < 20000 → mi 11 (c - 10000).toNat = nv m) (hnr : ∀ m, rng (nv m)) (hR : gR32 mi) : gM G 17 n 0 0 [gr 51, gr 11] (gw mi ml) (fun r M => ∃ m, r = some (gi ((eS q nv (mi 51 1).toNat).2 0)) ∧ M = gw m ml ∧ (∀ c j : Nat, c ≠ 53 → m c j = mi c j) ∧ gR32 m) := by
  have hn1 : 1 ≤ n := by omega
  refine gM.of mX2_worth okX2_worth (gcp 17 (by decide)).1 (gcp 17 (by decide)).2 (Nat.le_of_ble_eq_true rfl) ?_
  refine Go.run hsz hn1 4 (pc' := 4) (lv' := [some (gr 51), some (gr 11), some (gi 0), some (gi 0), none]) (st' := []) (M' := gw mi ml) rfl ?_
  exact lLw_worth1 hsz hn mi ml q nv hz hq hok hN hnr ((mi 51 1).toNat + 1) 0 mi 0 (fun _ _ _ => rfl) hR rfl (fun j hj => absurd hj (by show ¬ j < 0; omega)) (by omega) (by omega) (by omega)

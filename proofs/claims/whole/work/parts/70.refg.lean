def off160 (m mi : Nat → Nat → Int) : Prop := ∀ a k : Nat, a ≠ 160 → m a k = mi a k
theorem SV.o160 {m mi : Nat → Nat → Int} (h : SV mi) (hR : gR32 m) (hm : off160 m mi) : SV m := by
  have eO : ∀ a w, mOf m a w = mOf mi a w := fun a w => hm _ _ (by decide)
  have eP : ∀ a w, mPi m a w = mPi mi a w := fun a w => hm _ _ (by decide)
  obtain ⟨-, h0, h2, h3, h4, h5⟩ := h
  refine ⟨hR, by rw [hm _ _ (by decide)]; exact h0, by rw [hm _ _ (by decide)]; exact h2, by rw [hm _ _ (by decide)]; exact h3, fun a a0 a1 => ?_, fun p p0 p1 => ?_⟩
  · rw [hm _ _ (by decide)] at a1
    have := h4 a a0 a1
    unfold PV at this ⊢
    simp only [eO, hm 148 2 (by decide), hm 148 6 (by decide)]
    exact this
  · rw [hm _ _ (by decide)] at p1
    have := h5 p p0 p1
    unfold QV at this ⊢
    simp only [eP]
    exact this
def mTkn (mi : Nat → Nat → Int) (p : Int) (x : Nat) (k : Nat) : Int := gfold (fun b acc => if mOf mi b 6 = p ∧ ¬ mStays mi b x = 0 then 1 else acc) 0 k
def mTkA (mi : Nat → Nat → Int) (p : Int) (k : Nat) : Nat → Nat → Int := fun c j => if c = 160 ∧ j < 100 then mTkn mi p j k else mi c j
def mTkB (mi : Nat → Nat → Int) (p : Int) (k : Nat) (n : Int) : Nat → Nat → Int := fun c j => if c = 160 ∧ mOf mi k 4 ≤ j ∧ (j : Int) < mOf mi k 4 + n then 1 else mTkA mi p k c j
theorem mTkn_01 (mi : Nat → Nat → Int) (p : Int) (x : Nat) : ∀ k, mTkn mi p x k = 0 ∨ mTkn mi p x k = 1
  | 0 => Or.inl rfl
  | k + 1 => by
    show (if mOf mi k 6 = p ∧ ¬ mStays mi k x = 0 then 1 else mTkn mi p x k) = 0 ∨ (if mOf mi k 6 = p ∧ ¬ mStays mi k x = 0 then 1 else mTkn mi p x k) = 1
    split
    · exact Or.inr rfl
    · exact mTkn_01 mi p x k
theorem mTkA_R {mi : Nat → Nat → Int} (h : gR32 mi) (p : Int) (k : Nat) : gR32 (mTkA mi p k) := fun c j => by
  unfold mTkA
  split
  · have := mTkn_01 mi p j k
    exact ⟨by omega, by omega⟩
  · exact h c j
theorem mTkA_o (mi : Nat → Nat → Int) (p : Int) (k : Nat) : off160 (mTkA mi p k) mi := fun a j h => if_neg (fun q => h q.1)
theorem mTkB_0 (mi : Nat → Nat → Int) (p : Int) (k : Nat) : mTkB mi p k 0 = mTkA mi p k := by
  funext c j
  unfold mTkB
  rw [if_neg (by omega)]
theorem mTk_0 (mi : Nat → Nat → Int) (p : Int) : gfl mi 160 0 100 = mTkA mi p 0 := by
  funext c j
  unfold gfl mTkA
  by_cases h : c = 160 ∧ j < 100
  · rw [if_pos (by omega), if_pos h]; rfl
  · rw [if_neg (by omega), if_neg h]
theorem mTk_s {mi : Nat → Nat → Int} {p : Int} {k : Nat} {n : Int} (h0 : 0 ≤ mOf mi k 4) (h1 : 0 ≤ n) : gu (mTkB mi p k n) 160 (mOf mi k 4 + n).toNat 1 = mTkB mi p k (n + 1) := by
  funext c j
  rw [gu_eq]
  unfold mTkB
  by_cases h : c = 160 ∧ j = (mOf mi k 4 + n).toNat
  · rw [if_pos h, if_pos (by omega)]
  · rw [if_neg h]
    by_cases h2 : c = 160 ∧ mOf mi k 4 ≤ j ∧ (j : Int) < mOf mi k 4 + n
    · rw [if_pos h2, if_pos (by omega)]
    · rw [if_neg h2, if_neg (by omega)]
theorem mTk_fin {mi : Nat → Nat → Int} {p : Int} {k : Nat} {n : Int} (hb : 0 ≤ mOf mi k 4 ∧ mOf mi k 4 + mOf mi k 5 ≤ 100) (h : (mOf mi k 6 = p ∧ n = mOf mi k 5) ∨ (¬ mOf mi k 6 = p ∧ n = 0)) : mTkB mi p k n = mTkA mi p (k + 1) := by
  funext c j
  unfold mTkB mTkA
  have e : mTkn mi p j (k + 1) = if mOf mi k 6 = p ∧ ¬ mStays mi k j = 0 then 1 else mTkn mi p j k := rfl
  have hs : mStays mi k j = 0 ↔ ¬ (mOf mi k 4 ≤ j ∧ (j : Int) < mOf mi k 4 + mOf mi k 5) := by
    unfold mStays b2
    split <;> omega
  rw [e]
  by_cases h1 : c = 160 ∧ mOf mi k 4 ≤ j ∧ (j : Int) < mOf mi k 4 + n
  · rw [if_pos h1, if_pos (show c = 160 ∧ j < 100 by omega), if_pos ⟨by omega, by omega⟩]
  · rw [if_neg h1]
    by_cases h2 : c = 160 ∧ j < 100
    · rw [if_pos h2, if_pos h2, if_neg]
      rintro ⟨q1, q2⟩
      rw [hs] at q2
      omega
    · rw [if_neg h2, if_neg h2]
def mGapM (m : Nat → Nat → Int) (k : Nat) : Int := gfold (fun i acc => if ¬ m 160 i.toNat = 0 ∧ m 160 (i + 1).toNat = 0 ∧ ¬ m 160 (i + 2).toNat = 0 then acc + 1 else acc + 0) 0 k
def mGapOf (mi : Nat → Nat → Int) (p : Int) : Int := mGapM (mTkA mi p (mi 148 6).toNat) 98
set_option maxRecDepth 100000 in
set_option maxHeartbeats 4000000 in
theorem lM_gap3 {G : gG} (hsz : G.2.2.2.2.2.2 = true) {n : Nat} (hn : 1 ≤ n) (mi : Nat → Nat → Int) (ml : Nat → Nat → Int64) (p : Int) (hR : gR32 mi) : ∀ (f : Nat) (k : Int), 1 ≤ k → k ≤ 99 → 99 - k < f → Go G mX12_gapsOf n 0 0 84 [some (gr 148), some (gi p), some (gi (mGapM (mTkA mi p (mi 148 6).toNat) (k - 1).toNat)), some (gi k)] [] (gw (mTkA mi p (mi 148 6).toNat) ml) (gret (mGapOf mi p) (gw (mTkA mi p (mi 148 6).toNat) ml)) := by
  have hn1 : 1 ≤ n := by omega
  have hRt := mTkA_R hR p (mi 148 6).toNat
  intro f
  induction f with
  | zero => intros; omega
  | succ f ih =>
    intro k k0 k1 k2
    refine Go.run hsz hn1 2 (pc' := 87) (lv' := [some (gr 148), some (gi p), some (gi (mGapM (mTkA mi p (mi 148 6).toNat) (k - 1).toNat)), some (gi k)]) (st' := [gi 99, gi k]) (M' := gw (mTkA mi p (mi 148 6).toNat) ml) rfl ?_
    refine Go.icmp_ge (by rfl) ⟨by omega, by omega⟩ ⟨by decide, by decide⟩ (fun kq1 => ?_) (fun kq1 => ?_)
    · refine Go.run hsz hn1 1 (pc' := 136) (lv' := [some (gr 148), some (gi p), some (gi (mGapM (mTkA mi p (mi 148 6).toNat) (k - 1).toNat)), some (gi k)]) (st' := [gi (mGapM (mTkA mi p (mi 148 6).toNat) (k - 1).toNat)]) (M' := gw (mTkA mi p (mi 148 6).toNat) ml) rfl ?_
      obtain rfl : k = 99 := by omega
      exact Go.iret (by rfl) ⟨rfl, rfl⟩
    · refine Go.run hsz hn1 6 (pc' := 98) (lv' := [some (gr 148), some (gi p), some (gi (mGapM (mTkA mi p (mi 148 6).toNat) (k - 1).toNat)), some (gi k)]) (st' := [gi (k - 1), gr 160, gi (mGapM (mTkA mi p (mi 148 6).toNat) (k - 1).toNat)]) (M' := gw (mTkA mi p (mi 148 6).toNat) ml) rfl ?_
      refine Go.bald (by rfl) (N := 100) (by rfl) (by omega) (by omega) (by decide) ?_
      refine Go.run hsz hn1 0 (pc' := 99) (lv' := [some (gr 148), some (gi p), some (gi (mGapM (mTkA mi p (mi 148 6).toNat) (k - 1).toNat)), some (gi k)]) (st' := [gi ((mTkA mi p (mi 148 6).toNat) 160 ((k - 1).toNat)), gi (mGapM (mTkA mi p (mi 148 6).toNat) (k - 1).toNat)]) (M' := gw (mTkA mi p (mi 148 6).toNat) ml) rfl ?_
      refine Go.if_eq (by rfl) (hRt _ _) (fun kq2 => ?_) (fun kq2 => ?_)
      · refine Go.run hsz hn1 5 (pc' := 84) (lv' := [some (gr 148), some (gi p), some (gi ((mGapM (mTkA mi p (mi 148 6).toNat) (k - 1).toNat) + 0)), some (gi (k + 1))]) (st' := []) (M' := gw (mTkA mi p (mi 148 6).toNat) ml) rfl ?_
        have h9 := ih (k + 1) (by omega) (by omega) (by omega)
        rw [show k + 1 - 1 = (k - 1) + 1 by omega, show mGapM (mTkA mi p (mi 148 6).toNat) ((k - 1) + 1).toNat = _ from gfold_s (by omega)] at h9
        (try dsimp only at h9)
        rw [show k - 1 + 1 = k by omega, show k - 1 + 2 = k + 1 by omega] at h9
        (repeat' split at h9) <;> first | exact h9 | (exfalso; omega)
      · refine Go.run hsz hn1 3 (pc' := 107) (lv' := [some (gr 148), some (gi p), some (gi (mGapM (mTkA mi p (mi 148 6).toNat) (k - 1).toNat)), some (gi k)]) (st' := [gi k, gr 160, gi (mGapM (mTkA mi p (mi 148 6).toNat) (k - 1).toNat)]) (M' := gw (mTkA mi p (mi 148 6).toNat) ml) rfl ?_
        refine Go.bald (by rfl) (N := 100) (by rfl) (by omega) (by omega) (by decide) ?_
        refine Go.run hsz hn1 0 (pc' := 108) (lv' := [some (gr 148), some (gi p), some (gi (mGapM (mTkA mi p (mi 148 6).toNat) (k - 1).toNat)), some (gi k)]) (st' := [gi ((mTkA mi p (mi 148 6).toNat) 160 k.toNat), gi (mGapM (mTkA mi p (mi 148 6).toNat) (k - 1).toNat)]) (M' := gw (mTkA mi p (mi 148 6).toNat) ml) rfl ?_
        refine Go.if_ne (by rfl) (hRt _ _) (fun kq3 => ?_) (fun kq3 => ?_)
        · refine Go.run hsz hn1 5 (pc' := 84) (lv' := [some (gr 148), some (gi p), some (gi ((mGapM (mTkA mi p (mi 148 6).toNat) (k - 1).toNat) + 0)), some (gi (k + 1))]) (st' := []) (M' := gw (mTkA mi p (mi 148 6).toNat) ml) rfl ?_
          have h9 := ih (k + 1) (by omega) (by omega) (by omega)
          rw [show k + 1 - 1 = (k - 1) + 1 by omega, show mGapM (mTkA mi p (mi 148 6).toNat) ((k - 1) + 1).toNat = _ from gfold_s (by omega)] at h9
          (try dsimp only at h9)
          rw [show k - 1 + 1 = k by omega, show k - 1 + 2 = k + 1 by omega] at h9
          (repeat' split at h9) <;> first | exact h9 | (exfalso; omega)
        · refine Go.run hsz hn1 5 (pc' := 118) (lv' := [some (gr 148), some (gi p), some (gi (mGapM (mTkA mi p (mi 148 6).toNat) (k - 1).toNat)), some (gi k)]) (st' := [gi (k + 1), gr 160, gi (mGapM (mTkA mi p (mi 148 6).toNat) (k - 1).toNat)]) (M' := gw (mTkA mi p (mi 148 6).toNat) ml) rfl ?_
          refine Go.bald (by rfl) (N := 100) (by rfl) (by omega) (by omega) (by decide) ?_
          refine Go.run hsz hn1 0 (pc' := 119) (lv' := [some (gr 148), some (gi p), some (gi (mGapM (mTkA mi p (mi 148 6).toNat) (k - 1).toNat)), some (gi k)]) (st' := [gi ((mTkA mi p (mi 148 6).toNat) 160 ((k + 1).toNat)), gi (mGapM (mTkA mi p (mi 148 6).toNat) (k - 1).toNat)]) (M' := gw (mTkA mi p (mi 148 6).toNat) ml) rfl ?_
          refine Go.if_eq (by rfl) (hRt _ _) (fun kq4 => ?_) (fun kq4 => ?_)
          · refine Go.run hsz hn1 5 (pc' := 84) (lv' := [some (gr 148), some (gi p), some (gi ((mGapM (mTkA mi p (mi 148 6).toNat) (k - 1).toNat) + 0)), some (gi (k + 1))]) (st' := []) (M' := gw (mTkA mi p (mi 148 6).toNat) ml) rfl ?_
            have h9 := ih (k + 1) (by omega) (by omega) (by omega)
            rw [show k + 1 - 1 = (k - 1) + 1 by omega, show mGapM (mTkA mi p (mi 148 6).toNat) ((k - 1) + 1).toNat = _ from gfold_s (by omega)] at h9
            (try dsimp only at h9)
            rw [show k - 1 + 1 = k by omega, show k - 1 + 2 = k + 1 by omega] at h9
            (repeat' split at h9) <;> first | exact h9 | (exfalso; omega)
          · refine Go.run hsz hn1 6 (pc' := 84) (lv' := [some (gr 148), some (gi p), some (gi ((mGapM (mTkA mi p (mi 148 6).toNat) (k - 1).toNat) + 1)), some (gi (k + 1))]) (st' := []) (M' := gw (mTkA mi p (mi 148 6).toNat) ml) rfl ?_
            have h9 := ih (k + 1) (by omega) (by omega) (by omega)
            rw [show k + 1 - 1 = (k - 1) + 1 by omega, show mGapM (mTkA mi p (mi 148 6).toNat) ((k - 1) + 1).toNat = _ from gfold_s (by omega)] at h9
            (try dsimp only at h9)
            rw [show k - 1 + 1 = k by omega, show k - 1 + 2 = k + 1 by omega] at h9
            (repeat' split at h9) <;> first | exact h9 | (exfalso; omega)

set_option maxRecDepth 100000 in
set_option maxHeartbeats 4000000 in
theorem lM_gap2 {G : gG} (hsz : G.2.2.2.2.2.2 = true) {n : Nat} (hn : 2 ≤ n) (mi : Nat → Nat → Int) (ml : Nat → Nat → Int64) (p a : Int) (rp : rng p) (a0 : 0 ≤ a) (a1 : a < 24) (hR : gR32 mi) (hb : PV mi a) (P : Option gV → gMe → Prop) (kk : Go G mX12_gapsOf n 0 0 23 [some (gr 148), some (gi p), some (gi (a + 1)), none] [] (gw (mTkA mi p (a.toNat + 1)) ml) P) : ∀ (f : Nat) (k : Int) (ho : mOf mi a 6 = p ∨ k = 0), 0 ≤ k → k ≤ mOf mi a 5 → mOf mi a 5 - k < f → Go G mX12_gapsOf n 0 0 33 [some (gr 148), some (gi p), some (gi a), some (gi k)] [] (gw (mTkB mi p a.toNat k) ml) (P) := by
  have hn1 : 1 ≤ n := by omega
  have ea : ((a.toNat : Nat) : Int) = a := by omega
  obtain ⟨-, -, -, -, b4, b5, b6, -⟩ := id hb
  intro f
  induction f with
  | zero => intros; omega
  | succ f ih =>
    intro k ho k0 k1 k2
    refine Go.run hsz hn1 4 (pc' := 37) (lv' := [some (gr 148), some (gi p), some (gi a), some (gi k)]) (st' := [gi 5, gi a, gr 148, gi k]) (M' := gw (mTkB mi p a.toNat k) ml) rfl ?_
    refine Go.callV (As := [gi a, gi 5]) (b := 148) (st := [gi k]) (mc1 := 0) (mc := 0) (ms1 := 0) (ms := 0) (by rfl) rfl (c := 11) (N := 46) (by rfl) (by decide) (by rfl) (gcn 165 (by decide)).1 (gcn 165 (by decide)).2 rfl (Nat.le_of_ble_eq_true rfl) (by omega) (cM_of hsz (n := n - 1) (by omega) (mTkB mi p a.toNat k) ml a 5 (by omega) (by omega) (by omega) (by omega)) ?_
    rintro _ _ ⟨rfl, rfl⟩
    rw [show mOf (mTkB mi p a.toNat k) a 5 = mOf mi a 5 from rfl]
    refine Go.run hsz hn1 0 (pc' := 40) (lv' := [some (gr 148), some (gi p), some (gi a), some (gi k)]) (st' := [gi (mOf mi a 5), gi k]) (M' := gw (mTkB mi p a.toNat k) ml) rfl ?_
    refine Go.icmp_ge (by rfl) ⟨by omega, by omega⟩ (hR _ _) (fun kq1 => ?_) (fun kq1 => ?_)
    · refine Go.run hsz hn1 2 (pc' := 23) (lv' := [some (gr 148), some (gi p), some (gi (a + 1)), some (gi k)]) (st' := []) (M' := gw (mTkB mi p a.toNat k) ml) rfl ?_
      refine Go.dropl 3 ?_
      refine Go.run hsz hn1 0 (pc' := 23) (lv' := [some (gr 148), some (gi p), some (gi (a + 1)), none]) (st' := []) (M' := gw (mTkB mi p a.toNat k) ml) rfl ?_
      have e9 : mTkB mi p a.toNat k = mTkA mi p (a.toNat + 1) := mTk_fin (by rw [ea]; omega) (by rw [ea]; omega)
      rw [e9]
      exact kk
    · refine Go.run hsz hn1 3 (pc' := 47) (lv' := [some (gr 148), some (gi p), some (gi a), some (gi k)]) (st' := [gi 6, gi a, gr 148]) (M' := gw (mTkB mi p a.toNat k) ml) rfl ?_
      refine Go.callV (As := [gi a, gi 6]) (b := 148) (st := []) (mc1 := 0) (mc := 0) (ms1 := 0) (ms := 0) (by rfl) rfl (c := 11) (N := 46) (by rfl) (by decide) (by rfl) (gcn 165 (by decide)).1 (gcn 165 (by decide)).2 rfl (Nat.le_of_ble_eq_true rfl) (by omega) (cM_of hsz (n := n - 1) (by omega) (mTkB mi p a.toNat k) ml a 6 (by omega) (by omega) (by omega) (by omega)) ?_
      rintro _ _ ⟨rfl, rfl⟩
      rw [show mOf (mTkB mi p a.toNat k) a 6 = mOf mi a 6 from rfl]
      refine Go.run hsz hn1 1 (pc' := 51) (lv' := [some (gr 148), some (gi p), some (gi a), some (gi k)]) (st' := [gi p, gi (mOf mi a 6)]) (M' := gw (mTkB mi p a.toNat k) ml) rfl ?_
      refine Go.icmp_ne (by rfl) (hR _ _) rp (fun kq2 => ?_) (fun kq2 => ?_)
      · refine Go.run hsz hn1 2 (pc' := 23) (lv' := [some (gr 148), some (gi p), some (gi (a + 1)), some (gi k)]) (st' := []) (M' := gw (mTkB mi p a.toNat k) ml) rfl ?_
        refine Go.dropl 3 ?_
        refine Go.run hsz hn1 0 (pc' := 23) (lv' := [some (gr 148), some (gi p), some (gi (a + 1)), none]) (st' := []) (M' := gw (mTkB mi p a.toNat k) ml) rfl ?_
        have e9 : mTkB mi p a.toNat k = mTkA mi p (a.toNat + 1) := mTk_fin (by rw [ea]; omega) (by rw [ea]; omega)
        rw [e9]
        exact kk
      · refine Go.run hsz hn1 5 (pc' := 61) (lv' := [some (gr 148), some (gi p), some (gi a), some (gi k)]) (st' := [gi 4, gi a, gr 148, gr 160]) (M' := gw (mTkB mi p a.toNat k) ml) rfl ?_
        refine Go.callV (As := [gi a, gi 4]) (b := 148) (st := [gr 160]) (mc1 := 0) (mc := 0) (ms1 := 0) (ms := 0) (by rfl) rfl (c := 11) (N := 46) (by rfl) (by decide) (by rfl) (gcn 165 (by decide)).1 (gcn 165 (by decide)).2 rfl (Nat.le_of_ble_eq_true rfl) (by omega) (cM_of hsz (n := n - 1) (by omega) (mTkB mi p a.toNat k) ml a 4 (by omega) (by omega) (by omega) (by omega)) ?_
        rintro _ _ ⟨rfl, rfl⟩
        rw [show mOf (mTkB mi p a.toNat k) a 4 = mOf mi a 4 from rfl]
        refine Go.run hsz hn1 3 (pc' := 67) (lv' := [some (gr 148), some (gi p), some (gi a), some (gi k)]) (st' := [gi 1, gi ((mOf mi a 4) + k), gr 160]) (M' := gw (mTkB mi p a.toNat k) ml) rfl ?_
        refine Go.bast (by rfl) (N := 100) (by rfl) (Or.inr rfl) (by omega) (by omega) (by decide) ?_
        refine Go.run hsz hn1 2 (pc' := 33) (lv' := [some (gr 148), some (gi p), some (gi a), some (gi (k + 1))]) (st' := []) (M' := gw (gu (mTkB mi p a.toNat k) 160 (((mOf mi a 4) + k).toNat) 1) ml) rfl ?_
        have h9 := ih (k + 1) (Or.inl (by omega)) (by omega) (by omega) (by omega)
        rw [← mTk_s (by rw [ea]; omega) (by omega), ea] at h9
        exact h9
set_option maxRecDepth 100000 in
set_option maxHeartbeats 4000000 in
theorem lM_gap1 {G : gG} (hsz : G.2.2.2.2.2.2 = true) {n : Nat} (hn : 2 ≤ n) (mi : Nat → Nat → Int) (ml : Nat → Nat → Int64) (p : Int) (rp : rng p) (hv : SV mi) : ∀ (f : Nat) (k : Int), 0 ≤ k → k ≤ mi 148 6 → mi 148 6 - k < f → Go G mX12_gapsOf n 0 0 23 [some (gr 148), some (gi p), some (gi k), none] [] (gw (mTkA mi p k.toNat) ml) (gret (mGapOf mi p) (gw (mTkA mi p (mi 148 6).toNat) ml)) := by
  have hn1 : 1 ≤ n := by omega
  obtain ⟨hR, ht, hp, hq, hP, hQ⟩ := id hv
  intro f
  induction f with
  | zero => intros; omega
  | succ f ih =>
    intro k k0 k1 k2
    refine Go.run hsz hn1 3 (pc' := 28) (lv' := [some (gr 148), some (gi p), some (gi k), none]) (st' := [gi (mi 148 6), gi k]) (M' := gw (mTkA mi p k.toNat) ml) rfl ?_
    refine Go.icmp_ge (by rfl) ⟨by omega, by omega⟩ (hR _ _) (fun kq1 => ?_) (fun kq1 => ?_)
    · refine Go.run hsz hn1 4 (pc' := 84) (lv' := [some (gr 148), some (gi p), some (gi 0), some (gi 1)]) (st' := []) (M' := gw (mTkA mi p k.toNat) ml) rfl ?_
      have hk : k = mi 148 6 := by omega
      subst hk
      exact lM_gap3 hsz (n := n) (by omega) mi ml p hR 99 1 (by omega) (by omega) (by omega)
    · refine Go.run hsz hn1 2 (pc' := 33) (lv' := [some (gr 148), some (gi p), some (gi k), some (gi 0)]) (st' := []) (M' := gw (mTkA mi p k.toNat) ml) rfl ?_
      have h8 := lM_gap2 hsz (n := n) (by omega) mi ml p k rp k0 (by omega) hR (hP k (by omega) (by omega)) _ (by
        have h9 := ih (k + 1) (by omega) (by omega) (by omega)
        rw [show (k + 1).toNat = k.toNat + 1 by omega] at h9
        exact h9) ((mOf mi k 5).toNat + 1) 0 (Or.inr rfl) (by omega) (by have := (hP k (by omega) (by omega)).2.2.2.2.2.1; omega) (by omega)
      rw [mTkB_0] at h8
      exact h8
set_option maxRecDepth 100000 in
set_option maxHeartbeats 4000000 in
theorem lM_gap0 {G : gG} (hsz : G.2.2.2.2.2.2 = true) {n : Nat} (hn : 2 ≤ n) (mi : Nat → Nat → Int) (ml : Nat → Nat → Int64) (p : Int) (rp : rng p) (hv : SV mi) : ∀ (f : Nat) (k : Int), 0 ≤ k → k ≤ 100 → 100 - k < f → Go G mX12_gapsOf n 0 0 2 [some (gr 148), some (gi p), some (gi k), none] [] (gw (gfl mi 160 0 k.toNat) ml) (gret (mGapOf mi p) (gw (mTkA mi p (mi 148 6).toNat) ml)) := by
  have hn1 : 1 ≤ n := by omega

  intro f
  induction f with
  | zero => intros; omega
  | succ f ih =>
    intro k k0 k1 k2
    refine Go.run hsz hn1 2 (pc' := 5) (lv' := [some (gr 148), some (gi p), some (gi k), none]) (st' := [gi 100, gi k]) (M' := gw (gfl mi 160 0 k.toNat) ml) rfl ?_
    refine Go.icmp_ge (by rfl) ⟨by omega, by omega⟩ ⟨by decide, by decide⟩ (fun kq1 => ?_) (fun kq1 => ?_)
    · refine Go.run hsz hn1 2 (pc' := 23) (lv' := [some (gr 148), some (gi p), some (gi 0), none]) (st' := []) (M' := gw (gfl mi 160 0 k.toNat) ml) rfl ?_
      obtain rfl : k = 100 := by omega
      rw [show (100 : Int).toNat = 100 from rfl, mTk_0 mi p]
      exact lM_gap1 hsz (n := n) (by omega) mi ml p rp hv ((mi 148 6).toNat + 1) 0 (by omega) (by have := hv.2.2.2.1; omega) (by omega)
    · refine Go.run hsz hn1 4 (pc' := 14) (lv' := [some (gr 148), some (gi p), some (gi k), none]) (st' := [gi 0, gi k, gr 160]) (M' := gw (gfl mi 160 0 k.toNat) ml) rfl ?_
      refine Go.bast (by rfl) (N := 100) (by rfl) (Or.inl rfl) (by omega) (by omega) (by decide) ?_
      refine Go.run hsz hn1 2 (pc' := 2) (lv' := [some (gr 148), some (gi p), some (gi (k + 1)), none]) (st' := []) (M' := gw (gu (gfl mi 160 0 k.toNat) 160 k.toNat 0) ml) rfl ?_
      have h9 := ih (k + 1) (by omega) (by omega) (by omega)
      rw [show (k + 1).toNat = k.toNat + 1 by omega, ← gfl_s, Nat.zero_add] at h9
      exact h9
set_option maxRecDepth 100000 in
set_option maxHeartbeats 4000000 in
theorem cM_gapsOf {G : gG} (hsz : G.2.2.2.2.2.2 = true) {n : Nat} (hn : 2 ≤ n) (mi : Nat → Nat → Int) (ml : Nat → Nat → Int64) (p : Int) (rp : rng p) (hv : SV mi) : gM G 179 n 0 0 [gr 148, gi p] (gw mi ml) (gret (mGapOf mi p) (gw (mTkA mi p (mi 148 6).toNat) ml)) := by
  have hn1 : 1 ≤ n := by omega
  refine gM.of mX12_gapsOf okX12_gapsOf (gcp 179 (by decide)).1 (gcp 179 (by decide)).2 (Nat.le_of_ble_eq_true rfl) ?_
  refine Go.run hsz hn1 2 (pc' := 2) (lv' := [some (gr 148), some (gi p), some (gi 0), none]) (st' := []) (M' := gw mi ml) rfl ?_
  have h9 := lM_gap0 hsz hn mi ml p rp hv 101 0 (by omega) (by omega) (by omega)
  rw [show (0 : Int).toNat = 0 from rfl, gfl_0] at h9
  exact h9
theorem mGapOf_o {m mi : Nat → Nat → Int} (h : off160 m mi) (p : Int) : mGapOf m p = mGapOf mi p := by
  have e6 : m 148 6 = mi 148 6 := h _ _ (by decide)
  have eO : ∀ a w, mOf m a w = mOf mi a w := fun a w => h _ _ (by decide)
  have eT : ∀ x k, mTkn m p x k = mTkn mi p x k := fun x k => by unfold mTkn mStays; simp only [eO]
  unfold mGapOf mGapM
  refine gfold_congr (fun i hi acc => ?_)
  have e : ∀ j : Nat, j < 100 → mTkA m p (m 148 6).toNat 160 j = mTkA mi p (mi 148 6).toNat 160 j := fun j hj => by
    unfold mTkA
    rw [if_pos ⟨rfl, hj⟩, if_pos ⟨rfl, hj⟩, eT, e6]
  rw [e _ (by omega), e _ (by omega), e _ (by omega)]
def mGaps (mi : Nat → Nat → Int) (p : Int) (k : Nat) : Int := gfold (fun q acc => if p = -1 ∨ q = p then acc + mGapOf mi q else acc + 0) 0 k
/-- answers so, and but for the row of nights all is as it was -/
def gro (v : Int) (mi : Nat → Nat → Int) (ml : Nat → Nat → Int64) (r : Option gV) (M : gMe) : Prop := ∃ m, r = some (gi v) ∧ M = gw m ml ∧ off160 m mi ∧ gR32 m
set_option maxRecDepth 100000 in
set_option maxHeartbeats 4000000 in
theorem lM_gaps {G : gG} (hsz : G.2.2.2.2.2.2 = true) {n : Nat} (hn : 3 ≤ n) (mi : Nat → Nat → Int) (ml : Nat → Nat → Int64) (p : Int) (rp : rng p) (hv : SV mi) : ∀ (f : Nat) (k : Int) (m : Nat → Nat → Int) (hm : off160 m mi) (hmR : gR32 m), 0 ≤ k → k ≤ mi 148 2 → mi 148 2 - k < f → Go G mX12_gaps n 0 0 23 [some (gr 148), some (gi p), some (gi (mGaps mi p k.toNat)), some (gi k)] [] (gw m ml) (gro (mGaps mi p (mi 148 2).toNat) mi ml) := by
  have hn1 : 1 ≤ n := by omega
  obtain ⟨hR, ht, hp, hq, hP, hQ⟩ := id hv
  intro f
  induction f with
  | zero => intros; omega
  | succ f ih =>
    intro k m hm hmR k0 k1 k2
    have e2 : m 148 2 = mi 148 2 := hm _ _ (by decide)
    refine Go.run hsz hn1 3 (pc' := 28) (lv' := [some (gr 148), some (gi p), some (gi (mGaps mi p k.toNat)), some (gi k)]) (st' := [gi (m 148 2), gi k]) (M' := gw m ml) rfl ?_
    refine Go.icmp_ge (by rfl) ⟨by omega, by omega⟩ (hmR _ _) (fun kq1 => ?_) (fun kq1 => ?_)
    · refine Go.run hsz hn1 1 (pc' := 60) (lv' := [some (gr 148), some (gi p), some (gi (mGaps mi p k.toNat)), some (gi k)]) (st' := [gi (mGaps mi p k.toNat)]) (M' := gw m ml) rfl ?_
      obtain rfl : k = mi 148 2 := by omega
      exact Go.iret (by rfl) ⟨_, rfl, rfl, hm, hmR⟩
    · refine Go.run hsz hn1 3 (pc' := 34) (lv' := [some (gr 148), some (gi p), some (gi (mGaps mi p k.toNat)), some (gi k)]) (st' := [gi (-1), gi p, gi (mGaps mi p k.toNat)]) (M' := gw m ml) rfl ?_
      refine Go.icmp_eq (by rfl) rp ⟨by decide, by decide⟩ (fun kq2 => ?_) (fun kq2 => ?_)
      · refine Go.run hsz hn1 2 (pc' := 44) (lv' := [some (gr 148), some (gi p), some (gi (mGaps mi p k.toNat)), some (gi k)]) (st' := [gi k, gr 148, gi (mGaps mi p k.toNat)]) (M' := gw m ml) rfl ?_
        refine Go.callV (As := [gi k]) (b := 148) (st := [gi (mGaps mi p k.toNat)]) (mc1 := 0) (mc := 0) (ms1 := 0) (ms := 0) (by rfl) rfl (c := 11) (N := 46) (by rfl) (by decide) (by rfl) (gcn 179 (by decide)).1 (gcn 179 (by decide)).2 rfl (Nat.le_of_ble_eq_true rfl) (by omega) (cM_gapsOf hsz (n := n - 1) (by omega) m ml k ⟨by omega, by omega⟩ (hv.o160 hmR hm)) ?_
        rintro _ _ ⟨rfl, rfl⟩
        rw [mGapOf_o hm]
        refine Go.run hsz hn1 5 (pc' := 23) (lv' := [some (gr 148), some (gi p), some (gi ((mGaps mi p k.toNat) + (mGapOf mi k))), some (gi (k + 1))]) (st' := []) (M' := gw (mTkA m k (m 148 6).toNat) ml) rfl ?_
        have h9 := ih (k + 1) (mTkA m k (m 148 6).toNat) (fun a j h => (mTkA_o m k _ a j h).trans (hm a j h)) (mTkA_R hmR _ _) (by omega) (by omega) (by omega)
        rw [show mGaps mi p (k + 1).toNat = _ from gfold_s k0] at h9
        (try dsimp only at h9)
        (repeat' split at h9) <;> first | exact h9 | (exfalso; omega)
      · refine Go.run hsz hn1 2 (pc' := 39) (lv' := [some (gr 148), some (gi p), some (gi (mGaps mi p k.toNat)), some (gi k)]) (st' := [gi p, gi k, gi (mGaps mi p k.toNat)]) (M' := gw m ml) rfl ?_
        refine Go.icmp_ne (by rfl) ⟨by omega, by omega⟩ rp (fun kq3 => ?_) (fun kq3 => ?_)
        · refine Go.run hsz hn1 5 (pc' := 23) (lv' := [some (gr 148), some (gi p), some (gi ((mGaps mi p k.toNat) + 0)), some (gi (k + 1))]) (st' := []) (M' := gw m ml) rfl ?_
          have h9 := ih (k + 1) m hm hmR (by omega) (by omega) (by omega)
          rw [show mGaps mi p (k + 1).toNat = _ from gfold_s k0] at h9
          (try dsimp only at h9)
          (repeat' split at h9) <;> first | exact h9 | (exfalso; omega)
        · refine Go.run hsz hn1 2 (pc' := 44) (lv' := [some (gr 148), some (gi p), some (gi (mGaps mi p k.toNat)), some (gi k)]) (st' := [gi k, gr 148, gi (mGaps mi p k.toNat)]) (M' := gw m ml) rfl ?_
          refine Go.callV (As := [gi k]) (b := 148) (st := [gi (mGaps mi p k.toNat)]) (mc1 := 0) (mc := 0) (ms1 := 0) (ms := 0) (by rfl) rfl (c := 11) (N := 46) (by rfl) (by decide) (by rfl) (gcn 179 (by decide)).1 (gcn 179 (by decide)).2 rfl (Nat.le_of_ble_eq_true rfl) (by omega) (cM_gapsOf hsz (n := n - 1) (by omega) m ml k ⟨by omega, by omega⟩ (hv.o160 hmR hm)) ?_
          rintro _ _ ⟨rfl, rfl⟩
          rw [mGapOf_o hm]
          refine Go.run hsz hn1 5 (pc' := 23) (lv' := [some (gr 148), some (gi p), some (gi ((mGaps mi p k.toNat) + (mGapOf mi k))), some (gi (k + 1))]) (st' := []) (M' := gw (mTkA m k (m 148 6).toNat) ml) rfl ?_
          have h9 := ih (k + 1) (mTkA m k (m 148 6).toNat) (fun a j h => (mTkA_o m k _ a j h).trans (hm a j h)) (mTkA_R hmR _ _) (by omega) (by omega) (by omega)
          rw [show mGaps mi p (k + 1).toNat = _ from gfold_s k0] at h9
          (try dsimp only at h9)
          (repeat' split at h9) <;> first | exact h9 | (exfalso; omega)
set_option maxRecDepth 100000 in
set_option maxHeartbeats 4000000 in
theorem pM_gaps {G : gG} (hsz : G.2.2.2.2.2.2 = true) {n : Nat} (hn : 3 ≤ n) (mi : Nat → Nat → Int) (ml : Nat → Nat → Int64) (p : Int) (r_p : rng p) (hv : SV mi) : gM G 180 n 0 0 [gr 148, gi p] (gw mi ml) (fun r M => gE (¬ (p = -1 ∨ (0 ≤ p ∧ p ≤ mi 148 2 - 1))) (-1000001) (mFd mi 0) ml r M ∨ ((p = -1 ∨ (0 ≤ p ∧ p ≤ mi 148 2 - 1)) ∧ gro (mGaps mi p (mi 148 2).toNat) mi ml r M)) := by
  have hn1 : 1 ≤ n := by omega
  obtain ⟨hR, ht, hp, hq, hP, hQ⟩ := id hv
  refine gM.of mX12_gaps okX12_gaps (gcp 180 (by decide)).1 (gcp 180 (by decide)).2 (Nat.le_of_ble_eq_true rfl) ?_
  refine Go.run hsz hn1 2 (pc' := 2) (lv' := [some (gr 148), some (gi p), none, none]) (st' := [gi (-1), gi p]) (M' := gw mi ml) rfl ?_
  refine Go.icmp_eq (by rfl) r_p ⟨by decide, by decide⟩ (fun kq1 => ?_) (fun kq1 => ?_)
  · refine Go.run hsz hn1 4 (pc' := 23) (lv' := [some (gr 148), some (gi p), some (gi 0), some (gi 0)]) (st' := []) (M' := gw mi ml) rfl ?_
    exact Go.imp (fun r M h => Or.inr ⟨by omega, h⟩) (lM_gaps hsz (n := n) (by omega) mi ml p r_p hv ((mi 148 2).toNat + 1) 0 mi (fun _ _ _ => rfl) hR (by omega) (by omega) (by omega))
  · refine Go.run hsz hn1 2 (pc' := 7) (lv' := [some (gr 148), some (gi p), none, none]) (st' := [gi p, gr 148]) (M' := gw mi ml) rfl ?_
    refine Go.callV (As := [gi p]) (b := 148) (st := []) (mc1 := 0) (mc := 0) (ms1 := 0) (ms := 0) (by rfl) rfl (c := 11) (N := 46) (by rfl) (by decide) (by rfl) (gcn 155 (by decide)).1 (gcn 155 (by decide)).2 rfl (Nat.le_of_ble_eq_true rfl) (by omega) (cM_isPitch hsz (n := n - 1) (by omega) mi ml p r_p hp.1 hp.2) ?_
    rintro _ _ ⟨rfl, rfl⟩
    refine Go.run hsz hn1 0 (pc' := 10) (lv' := [some (gr 148), some (gi p), none, none]) (st' := [gi (b2 (0 ≤ p ∧ p ≤ mi 148 2 - 1))]) (M' := gw mi ml) rfl ?_
    refine Go.if_ne (by rfl) (b2_rng _) (fun kq2 => ?_) (fun kq2 => ?_)
    · replace kq2 := b2_pos kq2
      refine Go.run hsz hn1 4 (pc' := 23) (lv' := [some (gr 148), some (gi p), some (gi 0), some (gi 0)]) (st' := []) (M' := gw mi ml) rfl ?_
      exact Go.imp (fun r M h => Or.inr ⟨by omega, h⟩) (lM_gaps hsz (n := n) (by omega) mi ml p r_p hv ((mi 148 2).toNat + 1) 0 mi (fun _ _ _ => rfl) hR (by omega) (by omega) (by omega))
    · replace kq2 := b2_neg kq2
      refine Go.run hsz hn1 2 (pc' := 15) (lv' := [some (gr 148), some (gi p), none, none]) (st' := [gi 0, gr 148]) (M' := gw mi ml) rfl ?_
      refine Go.callV (As := [gi 0]) (b := 148) (st := []) (mc1 := 0) (mc := 0) (ms1 := 0) (ms := 0) (by rfl) rfl (c := 11) (N := 46) (by rfl) (by decide) (by rfl) (gcn 154 (by decide)).1 (gcn 154 (by decide)).2 rfl (Nat.le_of_ble_eq_true rfl) (by omega) (cM_finds hsz (n := n - 1) (by omega) mi ml 0 (by decide) (by decide)) ?_
      rintro _ _ ⟨rfl, rfl⟩
      refine Go.run hsz hn1 0 (pc' := 18) (lv' := [some (gr 148), some (gi p), none, none]) (st' := [gi (-1000001)]) (M' := gw (mFd mi 0) ml) rfl ?_
      exact Go.iret (by rfl) (Or.inl ⟨by omega, rfl, rfl⟩)

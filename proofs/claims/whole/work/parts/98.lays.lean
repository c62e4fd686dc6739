/-! ===== plan: the reference's ones and lays ===== -/
theorem shr_tab24 : ∀ p, p < 24 → ((iI ((p : Nat) : Int) &&& 31).toBitVec.smod 32#32).toNat = p := by decide +kernel
theorem bit_ib24 (a : Int) {p : Nat} (hp : p < 24) : andI (shrI a (p : Nat)) 1 = if ib a p = true then 1 else 0 := by
  have h0 : ((iI a >>> (iI ((p : Nat) : Int) &&& 31)).toBitVec).getLsbD 0 = ib a p := by
    rw [Int32.toBitVec_shiftRight]
    show ((iI a).toBitVec.sshiftRight ((iI ((p : Nat) : Int) &&& 31).toBitVec.smod 32#32).toNat).getLsbD 0 = _
    rw [shr_tab24 p hp, BitVec.getLsbD_sshiftRight]
    rw [if_pos (by omega)]
    rfl
  unfold andI shrI
  rw [iI_of]
  generalize (iI a >>> (iI ((p : Nat) : Int) &&& 31)) = X at h0
  have h1 : (X &&& iI 1).toInt = (X.toBitVec &&& 1#32).toInt := by
    rw [← Int32.toInt_toBitVec, Int32.toBitVec_and]
    rfl
  have hn : (X.toBitVec &&& 1#32).toNat = X.toBitVec.toNat % 2 := by
    rw [BitVec.toNat_and]
    exact Nat.and_one_is_mod _
  rw [h1, BitVec.toInt_eq_toNat_of_lt (by rw [hn]; omega), hn, ← h0]
  have h2 : X.toBitVec.getLsbD 0 = decide (X.toBitVec.toNat % 2 = 1) := by
    show X.toBitVec.toNat.testBit 0 = _
    exact Nat.testBit_zero _
  rw [h2]
  by_cases c : X.toBitVec.toNat % 2 = 1
  · rw [decide_eq_true c, if_pos rfl, c]; rfl
  · rw [decide_eq_false c, if_neg (by decide), show X.toBitVec.toNat % 2 = 0 by omega]; rfl
theorem ib_nat {x : Nat} (h : x < 4294967296) (i : Nat) : ib (x : Int) i = x.testBit i := by
  unfold ib
  show (iI (x : Int)).toBitVec.toNat.testBit i = _
  rw [iI_natBv h]
theorem bit_nat {x : Nat} (h : x < 16777216) {k : Int} (k0 : 0 ≤ k) (k1 : k < 24) : andI (shrI (x : Int) k) 1 = ((x.testBit k.toNat).toNat : Nat) := by
  have := bit_ib24 (x : Int) (p := k.toNat) (by omega)
  rw [show ((k.toNat : Nat) : Int) = k by omega, ib_nat (by omega)] at this
  rw [this]
  cases x.testBit k.toNat <;> rfl
set_option maxRecDepth 100000 in
set_option maxHeartbeats 4000000 in
theorem lM_on {G : gG} (hsz : G.2.2.2.2.2.2 = true) {n : Nat} (hn : 1 ≤ n) (mi : Nat → Nat → Int) (ml : Nat → Nat → Int64) (x : Nat) (hx : x < 16777216) : ∀ (f : Nat) (q : Int), 0 ≤ q → q ≤ 24 → 24 - q < f → Go G mX12_ones n 0 0 4 [some (gi ((x : Nat) : Int)), some (gi ((popN x q.toNat : Nat) : Int)), some (gi q)] [] (gw mi ml) (gret ((popN x 24 : Nat) : Int) (gw mi ml)) := by
  have hn1 : 1 ≤ n := by omega
  have hpb : ∀ k, popN x k ≤ k := fun k => by rw [popN_cnt]; exact cntB_le _ _
  intro f
  induction f with
  | zero => intros; omega
  | succ f ih =>
    intro q q0 q1 q2
    have hp9 := hpb q.toNat
    have hb01 := bit01 ((x : Nat) : Int) q
    refine Go.run hsz hn1 2 (pc' := 7) (lv' := [some (gi ((x : Nat) : Int)), some (gi ((popN x q.toNat : Nat) : Int)), some (gi q)]) (st' := [gi 24, gi q]) (M' := gw mi ml) rfl ?_
    refine Go.icmp_ge (by rfl) ⟨by omega, by omega⟩ ⟨by decide, by decide⟩ (fun kq1 => ?_) (fun kq1 => ?_)
    · refine Go.run hsz hn1 1 (pc' := 25) (lv' := [some (gi ((x : Nat) : Int)), some (gi ((popN x q.toNat : Nat) : Int)), some (gi q)]) (st' := [gi ((popN x q.toNat : Nat) : Int)]) (M' := gw mi ml) rfl ?_
      have hq : q = 24 := (by omega)
      subst hq
      exact Go.iret (by rfl) ⟨rfl, rfl⟩
    · refine Go.run hsz hn1 10 (pc' := 4) (lv' := [some (gi ((x : Nat) : Int)), some (gi (((popN x q.toNat : Nat) : Int) + (andI (shrI ((x : Nat) : Int) q) 1))), some (gi (q + 1))]) (st' := []) (M' := gw mi ml) rfl ?_
      have hb := bit_nat hx (k := q) (by omega) (by omega)
      have h9 := ih (q + 1) (by omega) (by omega) (by omega)
      rw [show (q + 1).toNat = q.toNat + 1 by omega, show ((popN x (q.toNat + 1) : Nat) : Int) = ((popN x q.toNat : Nat) : Int) + andI (shrI ((x : Nat) : Int) q) 1 from (by rw [hb]; rfl)] at h9
      exact h9
set_option maxRecDepth 100000 in
set_option maxHeartbeats 4000000 in
theorem cM_ones {G : gG} (hsz : G.2.2.2.2.2.2 = true) {n : Nat} (hn : 2 ≤ n) (mi : Nat → Nat → Int) (ml : Nat → Nat → Int64) (x : Nat) (hx : x < 16777216) : gM G 183 n 0 0 [gi ((x : Nat) : Int)] (gw mi ml) (gret ((popN x 24 : Nat) : Int) (gw mi ml)) := by
  have hn1 : 1 ≤ n := by omega
  refine gM.of mX12_ones okX12_ones (gcp 183 (by decide)).1 (gcp 183 (by decide)).2 (Nat.le_of_ble_eq_true rfl) ?_
  refine Go.run hsz hn1 4 (pc' := 4) (lv' := [some (gi ((x : Nat) : Int)), some (gi 0), some (gi 0)]) (st' := []) (M' := gw mi ml) rfl ?_
  exact lM_on hsz (n := n) (by omega) mi ml x hx 25 0 (by omega) (by omega) (by omega)

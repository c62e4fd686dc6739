/-! ===== plan: the reference's gaps of a way ===== -/
theorem oG_unused {mi : Nat → Nat → Int} {mem : Nat → Nat} {on0 d : Nat → Int} {z : Nat} (hM : wM mi mem on0 z) {p : Int} (p0 : 0 ≤ p) (h : ∀ k : Nat, k < z → ¬ d k = p) : oG mi (wAs mem on0 d z) (mi 148 6).toNat p = oG mi on0 (mi 148 6).toNat p := by
  unfold oG
  congr 1
  funext x
  rw [Bool.eq_iff_iff, oTk_iff, oTk_iff]
  have key : ∀ b : Nat, wAs mem on0 d z b = p ↔ on0 b = p := fun b => by
    by_cases c : ∃ j, j < z ∧ mem j = b
    · obtain ⟨j, hj, rfl⟩ := c
      rw [wAs_at hM (Nat.le_refl _) hj]
      have := h j hj
      have := (hM.1 j hj).2
      constructor <;> intro <;> omega
    · rw [wAs_off (fun k hk q => c ⟨k, hk, q⟩)]
  constructor
  · rintro ⟨b, h1, h2, h3⟩
    exact ⟨b, h1, (key b).mp h2, h3⟩
  · rintro ⟨b, h1, h2, h3⟩
    exact ⟨b, h1, (key b).mpr h2, h3⟩
def pGw (mi : Nat → Nat → Int) : Prop := ∀ p : Nat, (p : Int) < mi 148 2 → mi 162 p = oG mi (pOn mi) (mi 148 6).toNat p
theorem pMo_160 {mi m m' : Nat → Nat → Int} {mem : Nat → Nat} {z : Nat} {d : Nat → Int} (h : pMo mi mem z d m) (h' : off160 m' m) (hR : gR32 m') : pMo mi mem z d m' := ⟨hR, fun c j a b => (h' c j b).trans (h.2.1 c j a b), fun j hj => (h' 152 j (by decide)).trans (h.2.2.1 j hj), fun i hi => (h' 152 _ (by decide)).trans (h.2.2.2 i hi)⟩
theorem oGs_b (mi : Nat → Nat → Int) (on : Nat → Int) (N : Nat) : ∀ k : Nat, 0 ≤ oGs mi on N k ∧ oGs mi on N k ≤ 98 * k
  | 0 => by show (0 : Int) ≤ 0 ∧ (0 : Int) ≤ 98 * ((0 : Nat) : Int); omega
  | k + 1 => by
    have ih := oGs_b mi on N k
    have h9 : oG mi on N k ≤ 98 := gapN_le _
    show 0 ≤ oGs mi on N k + oG mi on N k ∧ oGs mi on N k + oG mi on N k ≤ 98 * ((k + 1 : Nat) : Int)
    omega
set_option maxRecDepth 100000 in
set_option maxHeartbeats 4000000 in
theorem lM_gn2 {G : gG} (hsz : G.2.2.2.2.2.2 = true) {n : Nat} (hn : 3 ≤ n) (mi : Nat → Nat → Int) (ml : Nat → Nat → Int64) (mem : Nat → Nat) (z : Nat) (hb : pBs mi mem z) (d : Nat → Int) (hd : inr (mi 148 2).toNat d z) (m : Nat → Nat → Int) (hm : pMo mi mem z d m) (S p : Int) (p0 : 0 ≤ p) (p1 : p < mi 148 2) (P : Option gV → gMe → Prop) (kk : ∀ u : Int, ((u = 0 ∧ ∀ k : Nat, k < z → ¬ d k = p) ∨ (u = 1 ∧ ∃ k : Nat, k < z ∧ d k = p)) → Go G mX12_gapsNow n 0 0 59 [some (gr 148), some (gi S), some (gi p), some (gi u), none] [] (gw m ml) P) : ∀ (f : Nat) (q : Int) (u : Int) (hu : ((u = 0 ∧ ∀ k : Nat, (k : Int) < q → ¬ d k = p) ∨ (u = 1 ∧ ∃ k : Nat, k < z ∧ d k = p))), 0 ≤ q → q ≤ z → z - q < f → Go G mX12_gapsNow n 0 0 17 [some (gr 148), some (gi S), some (gi p), some (gi u), some (gi q)] [] (gw m ml) (P) := by
  have hn1 : 1 ≤ n := by omega
  obtain ⟨hv, hz4, hz, hmem, hinj⟩ := id hb
  obtain ⟨hR, ht, hp, hq, hP, hQ⟩ := id hv
  have e20 : m 148 20 = mi 148 20 := hm.2.1 148 20 (by decide) (by decide)
  intro f
  induction f with
  | zero => intros; omega
  | succ f ih =>
    intro q u hu q0 q1 q2
    refine Go.run hsz hn1 3 (pc' := 23) (lv' := [some (gr 148), some (gi S), some (gi p), some (gi u), some (gi q)]) (st' := [gi (m 148 20), gi q]) (M' := gw m ml) rfl ?_
    refine Go.icmp_ge (by rfl) ⟨by omega, by omega⟩ (hm.1 _ _) (fun kq1 => ?_) (fun kq1 => ?_)
    · refine Go.dropl 4 ?_
      refine Go.run hsz hn1 0 (pc' := 59) (lv' := [some (gr 148), some (gi S), some (gi p), some (gi u), none]) (st' := []) (M' := gw m ml) rfl ?_
      exact kk u (by rcases hu with ⟨h1, h2⟩ | h3; (· exact Or.inl ⟨h1, fun k hk => h2 k (by omega)⟩); (· exact Or.inr h3))
    · have e61 : m 161 q.toNat = ((mem q.toNat : Nat) : Int) ∧ ((mem q.toNat : Nat) : Int) < mi 148 6 := ⟨(hm.2.1 161 _ (by decide) (by decide)).trans (hmem q.toNat (by omega)).1, (hmem q.toNat (by omega)).2.1⟩
      have eon : mOf m ((mem q.toNat : Nat) : Int) 6 = d q.toNat := (hm.on hb).trans (wAs_at hb.wM (Nat.le_refl _) (by omega))
      have hdq := hd q.toNat (by omega)
      have hu9 : u = 0 ∨ u = 1 := hu.elim (fun h => Or.inl h.1) (fun h => Or.inr h.1)
      refine Go.run hsz hn1 1 (pc' := 27) (lv' := [some (gr 148), some (gi S), some (gi p), some (gi u), some (gi q)]) (st' := [gi u]) (M' := gw m ml) rfl ?_
      refine Go.if_ne (by rfl) ⟨by omega, by omega⟩ (fun kq2 => ?_) (fun kq2 => ?_)
      · refine Go.run hsz hn1 5 (pc' := 17) (lv' := [some (gr 148), some (gi S), some (gi p), some (gi 1), some (gi (q + 1))]) (st' := []) (M' := gw m ml) rfl ?_
        exact ih (q + 1) 1 (Or.inr ⟨rfl, by first | exact ⟨q.toNat, by omega, by omega⟩ | (rcases hu with ⟨h1, _⟩ | ⟨_, h2⟩; (· exfalso; omega); (· exact h2))⟩) (by omega) (by omega) (by omega)
      · refine Go.run hsz hn1 4 (pc' := 37) (lv' := [some (gr 148), some (gi S), some (gi p), some (gi u), some (gi q)]) (st' := [gi q, gr 161, gr 148]) (M' := gw m ml) rfl ?_
        refine Go.iald (by rfl) (N := 4) (by rfl) (by omega) (by omega) (by decide) ?_
        refine Go.run hsz hn1 1 (pc' := 40) (lv' := [some (gr 148), some (gi S), some (gi p), some (gi u), some (gi q)]) (st' := [gi 6, gi (m 161 q.toNat), gr 148]) (M' := gw m ml) rfl ?_
        rw [e61.1]
        refine Go.callV (As := [gi ((mem q.toNat : Nat) : Int), gi 6]) (b := 148) (st := []) (mc1 := 0) (mc := 0) (ms1 := 0) (ms := 0) (by rfl) rfl (c := 11) (N := 46) (by rfl) (by decide) (by rfl) (gcn 165 (by decide)).1 (gcn 165 (by decide)).2 rfl (Nat.le_of_ble_eq_true rfl) (by omega) (cM_of hsz (n := n - 1) (by omega) m ml ((mem q.toNat : Nat) : Int) 6 (by omega) (by omega) (by omega) (by omega)) ?_
        rintro _ _ ⟨rfl, rfl⟩
        rw [eon]
        refine Go.run hsz hn1 1 (pc' := 44) (lv' := [some (gr 148), some (gi S), some (gi p), some (gi u), some (gi q)]) (st' := [gi p, gi (d q.toNat)]) (M' := gw m ml) rfl ?_
        refine Go.icmp_ne (by rfl) ⟨by omega, by omega⟩ ⟨by omega, by omega⟩ (fun kq3 => ?_) (fun kq3 => ?_)
        · refine Go.run hsz hn1 4 (pc' := 17) (lv' := [some (gr 148), some (gi S), some (gi p), some (gi 0), some (gi (q + 1))]) (st' := []) (M' := gw m ml) rfl ?_
          exact ih (q + 1) 0 (Or.inl ⟨rfl, fun k hk => (by
            by_cases e : (k : Int) = q
            · rw [show k = q.toNat by omega]; assumption
            · rcases hu with ⟨_, h2⟩ | ⟨h1, _⟩
              · exact h2 k (by omega)
              · exfalso; omega)⟩) (by omega) (by omega) (by omega)
        · refine Go.run hsz hn1 5 (pc' := 17) (lv' := [some (gr 148), some (gi S), some (gi p), some (gi 1), some (gi (q + 1))]) (st' := []) (M' := gw m ml) rfl ?_
          exact ih (q + 1) 1 (Or.inr ⟨rfl, by first | exact ⟨q.toNat, by omega, by omega⟩ | (rcases hu with ⟨h1, _⟩ | ⟨_, h2⟩; (· exfalso; omega); (· exact h2))⟩) (by omega) (by omega) (by omega)
set_option maxRecDepth 100000 in
set_option maxHeartbeats 4000000 in
theorem lM_gn1 {G : gG} (hsz : G.2.2.2.2.2.2 = true) {n : Nat} (hn : 3 ≤ n) (mi : Nat → Nat → Int) (ml : Nat → Nat → Int64) (mem : Nat → Nat) (z : Nat) (hb : pBs mi mem z) (d : Nat → Int) (hd : inr (mi 148 2).toNat d z) (hgw : pGw mi) : ∀ (f : Nat) (q : Int) (m : Nat → Nat → Int) (hm : pMo mi mem z d m), 0 ≤ q → q ≤ mi 148 2 → mi 148 2 - q < f → Go G mX12_gapsNow n 0 0 4 [some (gr 148), some (gi (oGs mi (wAs mem (pOn mi) d z) (mi 148 6).toNat q.toNat)), some (gi q), none, none] [] (gw m ml) (fun r M => ∃ m, pMo mi mem z d m ∧ M = gw m ml ∧ r = some (gi (wGp mi mem (pOn mi) z d))) := by
  have hn1 : 1 ≤ n := by omega
  obtain ⟨hv, hz4, hz, hmem, hinj⟩ := id hb
  obtain ⟨hR, ht, hp, hq, hP, hQ⟩ := id hv
  intro f
  induction f with
  | zero => intros; omega
  | succ f ih =>
    intro q m hm q0 q1 q2
    have e2 : m 148 2 = mi 148 2 := hm.2.1 148 2 (by decide) (by decide)
    refine Go.run hsz hn1 3 (pc' := 9) (lv' := [some (gr 148), some (gi (oGs mi (wAs mem (pOn mi) d z) (mi 148 6).toNat q.toNat)), some (gi q), none, none]) (st' := [gi (m 148 2), gi q]) (M' := gw m ml) rfl ?_
    refine Go.icmp_ge (by rfl) ⟨by omega, by omega⟩ (hm.1 _ _) (fun kq1 => ?_) (fun kq1 => ?_)
    · refine Go.run hsz hn1 1 (pc' := 87) (lv' := [some (gr 148), some (gi (oGs mi (wAs mem (pOn mi) d z) (mi 148 6).toNat q.toNat)), some (gi q), none, none]) (st' := [gi (oGs mi (wAs mem (pOn mi) d z) (mi 148 6).toNat q.toNat)]) (M' := gw m ml) rfl ?_
      have hq9 : q = mi 148 2 := (by omega)
      subst hq9
      exact Go.iret (by rfl) ⟨m, hm, rfl, rfl⟩
    · refine Go.run hsz hn1 4 (pc' := 17) (lv' := [some (gr 148), some (gi (oGs mi (wAs mem (pOn mi) d z) (mi 148 6).toNat q.toNat)), some (gi q), some (gi 0), some (gi 0)]) (st' := []) (M' := gw m ml) rfl ?_
      refine lM_gn2 hsz (n := n) (by omega) mi ml mem z hb d hd m hm _ q (by omega) (by omega) _ (fun u hu => ?_) (z + 1) 0 0 (Or.inl ⟨rfl, fun k hk => by omega⟩) (by omega) (by omega) (by omega)
      have hu9 : u = 0 ∨ u = 1 := hu.elim (fun h => Or.inl h.1) (fun h => Or.inr h.1)
      refine Go.run hsz hn1 2 (pc' := 61) (lv' := [some (gr 148), some (gi (oGs mi (wAs mem (pOn mi) d z) (mi 148 6).toNat q.toNat)), some (gi q), some (gi u), none]) (st' := [gi u, gi (oGs mi (wAs mem (pOn mi) d z) (mi 148 6).toNat q.toNat)]) (M' := gw m ml) rfl ?_
      refine Go.if_eq (by rfl) ⟨by omega, by omega⟩ (fun kq2 => ?_) (fun kq2 => ?_)
      · refine Go.run hsz hn1 3 (pc' := 77) (lv' := [some (gr 148), some (gi (oGs mi (wAs mem (pOn mi) d z) (mi 148 6).toNat q.toNat)), some (gi q), some (gi u), none]) (st' := [gi q, gr 162, gi (oGs mi (wAs mem (pOn mi) d z) (mi 148 6).toNat q.toNat)]) (M' := gw m ml) rfl ?_
        refine Go.iald (by rfl) (N := 12) (by rfl) (by omega) (by omega) (by decide) ?_
        refine Go.run hsz hn1 4 (pc' := 4) (lv' := [some (gr 148), some (gi ((oGs mi (wAs mem (pOn mi) d z) (mi 148 6).toNat q.toNat) + (m 162 q.toNat))), some (gi (q + 1)), some (gi u), none]) (st' := []) (M' := gw m ml) rfl ?_
        refine Go.dropl 3 ?_
        refine Go.run hsz hn1 0 (pc' := 4) (lv' := [some (gr 148), some (gi ((oGs mi (wAs mem (pOn mi) d z) (mi 148 6).toNat q.toNat) + (m 162 q.toNat))), some (gi (q + 1)), none, none]) (st' := []) (M' := gw m ml) rfl ?_
        have hst : oGs mi (wAs mem (pOn mi) d z) (mi 148 6).toNat (q + 1).toNat = oGs mi (wAs mem (pOn mi) d z) (mi 148 6).toNat q.toNat + ((oG mi (wAs mem (pOn mi) d z) (mi 148 6).toNat q : Nat) : Int) := by rw [show (q + 1).toNat = q.toNat + 1 by omega]; show _ + ((oG mi (wAs mem (pOn mi) d z) (mi 148 6).toNat ((q.toNat : Nat) : Int) : Nat) : Int) = _; rw [show ((q.toNat : Nat) : Int) = q by omega]
        have hun : ∀ k : Nat, k < z → ¬ d k = q := hu.elim (fun h => h.2) (fun h => by exfalso; have := h.1; omega)
        have hg1 : m 162 q.toNat = ((oG mi (wAs mem (pOn mi) d z) (mi 148 6).toNat q : Nat) : Int) := by rw [hm.2.1 162 _ (by decide) (by decide), oG_unused hb.wM q0 hun]; have := hgw q.toNat (by omega); rw [show ((q.toNat : Nat) : Int) = q by omega] at this; exact this
        rw [hg1]
        have h9 := ih (q + 1) m hm (by omega) (by omega) (by omega)
        rw [hst] at h9
        exact h9
      · refine Go.run hsz hn1 2 (pc' := 66) (lv' := [some (gr 148), some (gi (oGs mi (wAs mem (pOn mi) d z) (mi 148 6).toNat q.toNat)), some (gi q), some (gi u), none]) (st' := [gi q, gr 148, gi (oGs mi (wAs mem (pOn mi) d z) (mi 148 6).toNat q.toNat)]) (M' := gw m ml) rfl ?_
        refine Go.callV (As := [gi q]) (b := 148) (st := [gi (oGs mi (wAs mem (pOn mi) d z) (mi 148 6).toNat q.toNat)]) (mc1 := 0) (mc := 0) (ms1 := 0) (ms := 0) (by rfl) rfl (c := 11) (N := 46) (by rfl) (by decide) (by rfl) (gcn 179 (by decide)).1 (gcn 179 (by decide)).2 rfl (Nat.le_of_ble_eq_true rfl) (by omega) (cM_gapsOf hsz (n := n - 1) (by omega) m ml q ⟨by omega, by omega⟩ (hm.SV hb hd)) ?_
        rintro _ _ ⟨rfl, rfl⟩
        rw [hm.gap hb]
        have hm2 := pMo_160 hm (mTkA_o m q (m 148 6).toNat) (mTkA_R hm.1 q _)
        generalize mTkA m q (m 148 6).toNat = m2 at hm2 ⊢
        refine Go.run hsz hn1 5 (pc' := 4) (lv' := [some (gr 148), some (gi ((oGs mi (wAs mem (pOn mi) d z) (mi 148 6).toNat q.toNat) + ((oG mi (wAs mem (pOn mi) d z) (mi 148 6).toNat q : Nat) : Int))), some (gi (q + 1)), some (gi u), none]) (st' := []) (M' := gw m2 ml) rfl ?_
        refine Go.dropl 3 ?_
        refine Go.run hsz hn1 0 (pc' := 4) (lv' := [some (gr 148), some (gi ((oGs mi (wAs mem (pOn mi) d z) (mi 148 6).toNat q.toNat) + ((oG mi (wAs mem (pOn mi) d z) (mi 148 6).toNat q : Nat) : Int))), some (gi (q + 1)), none, none]) (st' := []) (M' := gw m2 ml) rfl ?_
        have hst : oGs mi (wAs mem (pOn mi) d z) (mi 148 6).toNat (q + 1).toNat = oGs mi (wAs mem (pOn mi) d z) (mi 148 6).toNat q.toNat + ((oG mi (wAs mem (pOn mi) d z) (mi 148 6).toNat q : Nat) : Int) := by rw [show (q + 1).toNat = q.toNat + 1 by omega]; show _ + ((oG mi (wAs mem (pOn mi) d z) (mi 148 6).toNat ((q.toNat : Nat) : Int) : Nat) : Int) = _; rw [show ((q.toNat : Nat) : Int) = q by omega]
        have h9 := ih (q + 1) m2 hm2 (by omega) (by omega) (by omega)
        rw [hst] at h9
        exact h9

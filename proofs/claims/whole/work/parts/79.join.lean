/-! ===== two books joined ===== -/
def jC0 (mi : Nat → Nat → Int) (s k : Int) : Int := mi (140 + 2 * s.toNat) (3 * k).toNat
def jC1 (mi : Nat → Nat → Int) (s k : Int) : Int := mi (140 + 2 * s.toNat) ((3 * k) + 1).toNat
def jC2 (mi : Nat → Nat → Int) (s k : Int) : Int := mi (140 + 2 * s.toNat) ((3 * k) + 2).toNat
def jM0 (mi : Nat → Nat → Int) (s k : Int) : Int := mi 174 ((60 * s) + (3 * k)).toNat
def jM1 (mi : Nat → Nat → Int) (s k : Int) : Int := mi 174 (((60 * s) + (3 * k)) + 1).toNat
def jM2 (mi : Nat → Nat → Int) (s k : Int) : Int := mi 174 (((60 * s) + (3 * k)) + 2).toNat
def jV (np a b c : Int) : Prop := (0 ≤ a ∧ a < np) ∧ (0 ≤ b ∧ b ≤ 99) ∧ (1 ≤ c ∧ c ≤ 30) ∧ b + c ≤ 100
def jAllC (mi : Nat → Nat → Int) (s n : Int) : Prop := ∀ k : Int, 0 ≤ k → k < n → jV (mi 1 2) (jC0 mi s k) (jC1 mi s k) (jC2 mi s k)
def jAllM (mi : Nat → Nat → Int) (s n : Int) : Prop := ∀ k : Int, 0 ≤ k → k < n → jV (mi 148 2) (jM0 mi s k) (jM1 mi s k) (jM2 mi s k)
def jRes (C : Int → Prop) (n z : Int) : Prop := (z = -1 ∧ ∀ k : Int, 0 ≤ k → k < n → ¬ C k) ∨ ((0 ≤ z ∧ z < n) ∧ C z ∧ ∀ k : Int, 0 ≤ k → k < z → ¬ C k)
theorem jRes_u {C : Int → Prop} {n z z' : Int} (h : jRes C n z) (h' : jRes C n z') : z = z' := by
  rcases h with ⟨a1, a2⟩ | ⟨a1, a2, a3⟩ <;> rcases h' with ⟨b1, b2⟩ | ⟨b1, b2, b3⟩
  · omega
  · exact absurd b2 (a2 z' b1.1 b1.2)
  · exact absurd a2 (b2 z a1.1 a1.2)
  · rcases (show z < z' ∨ z = z' ∨ z' < z by omega) with c | c | c
    · exact absurd a2 (b3 z a1.1 c)
    · exact c
    · exact absurd b2 (a3 z' b1.1 c)
theorem jRes_c {C C' : Int → Prop} {n z : Int} (he : ∀ k, 0 ≤ k → k < n → (C k ↔ C' k)) (h : jRes C n z) : jRes C' n z := by
  rcases h with ⟨a1, a2⟩ | ⟨a1, a2, a3⟩
  · exact Or.inl ⟨a1, fun k k0 k1 q => a2 k k0 k1 ((he k k0 k1).mpr q)⟩
  · exact Or.inr ⟨a1, (he z a1.1 a1.2).mp a2, fun k k0 k1 q => a3 k k0 k1 ((he k k0 (by omega)).mpr q)⟩
def jCal (mi : Nat → Nat → Int) (ml : Nat → Nat → Int64) (s : Int) : Nat → Nat → Nat → Int64
  | 0 => lMark mi ml 0 (mi 1 3).toNat
  | k + 1 => lTake (jCal mi ml s k) (jC0 mi s k) (lLow (jC1 mi s k) (jC2 mi s k)) (lHigh (jC1 mi s k) (jC2 mi s k))
theorem jCal_s {mi : Nat → Nat → Int} {ml : Nat → Nat → Int64} {s k : Int} (k0 : 0 ≤ k) : jCal mi ml s (k + 1).toNat = lTake (jCal mi ml s k.toNat) (jC0 mi s k) (lLow (jC1 mi s k) (jC2 mi s k)) (lHigh (jC1 mi s k) (jC2 mi s k)) := by
  rw [show (k + 1).toNat = k.toNat + 1 by omega]
  show lTake (jCal mi ml s k.toNat) (jC0 mi s ((k.toNat : Nat) : Int)) (lLow (jC1 mi s ((k.toNat : Nat) : Int)) (jC2 mi s ((k.toNat : Nat) : Int))) (lHigh (jC1 mi s ((k.toNat : Nat) : Int)) (jC2 mi s ((k.toNat : Nat) : Int))) = _
  rw [show ((k.toNat : Nat) : Int) = k by omega]
def jF (mi : Nat → Nat → Int) (ml : Nat → Nat → Int64) (s k : Int) : Int := lFree (jCal mi ml s k.toNat) (jC0 mi s k) (lLow (jC1 mi s k) (jC2 mi s k)) (lHigh (jC1 mi s k) (jC2 mi s k))
set_option maxRecDepth 100000 in
set_option maxHeartbeats 4000000 in
theorem lC_areS {G : gG} (hsz : G.2.2.2.2.2.2 = true) {n : Nat} (hn : 3 ≤ n) (mi : Nat → Nat → Int) (ml : Nat → Nat → Int64) (s nr : Int) (s0 : 0 ≤ s) (s1 : s < 4) (hz : mi (139 + 2 * s.toNat) 1 = 3 * nr) (hz2 : 0 ≤ nr ∧ nr ≤ 20) (hv : CV mi) : ∀ (f : Nat) (k : Int) (hall : ∀ j : Int, 0 ≤ j → j < k → jV (mi 1 2) (jC0 mi s j) (jC1 mi s j) (jC2 mi s j)), 0 ≤ k → k ≤ nr → nr - k < f → Go G mX11_areStays n 0 0 2 [some (gr 0), some (gr (139 + 2 * s.toNat)), some (gi (3 * k)), none] [] (gw mi ml) (fun r M => ∃ z : Int, (z = 0 ∨ z = 1) ∧ (z = 1 ↔ jAllC mi s nr) ∧ r = some (gi z) ∧ M = gw mi ml) := by
  have hn1 : 1 ≤ n := by omega
  obtain ⟨hR, ht, hp, hq, hP, hQ⟩ := id hv
  intro f
  induction f with
  | zero => intros; omega
  | succ f ih =>
    intro k hall k0 k1 k2
    refine Go.run hsz hn1 4 (pc' := 6) (lv' := [some (gr 0), some (gr (139 + 2 * s.toNat)), some (gi (3 * k)), none]) (st' := [gr (139 + 2 * s.toNat), gi ((3 * k) + 2)]) (M' := gw mi ml) rfl ?_
    refine Go.getf (by rfl) (c := 6) (N := 3) (shS (i := s) (by omega)) ?_
    refine Go.run hsz hn1 0 (pc' := 9) (lv' := [some (gr 0), some (gr (139 + 2 * s.toNat)), some (gi (3 * k)), none]) (st' := [gi (mi (139 + 2 * s.toNat) 1), gi ((3 * k) + 2)]) (M' := gw mi ml) rfl ?_
    refine Go.icmp_ge (by rfl) ⟨by omega, by omega⟩ (hR _ _) (fun kq1 => ?_) (fun kq1 => ?_)
    · refine Go.run hsz hn1 1 (pc' := 69) (lv' := [some (gr 0), some (gr (139 + 2 * s.toNat)), some (gi (3 * k)), none]) (st' := [gi 1]) (M' := gw mi ml) rfl ?_
      exact Go.zret (by rfl) (Or.inr rfl) ⟨1, Or.inr rfl, ⟨fun _ j j0 j1 => hall j j0 (by omega), fun _ => rfl⟩, rfl, rfl⟩
    · refine Go.run hsz hn1 3 (pc' := 17) (lv' := [some (gr 0), some (gr (139 + 2 * s.toNat)), some (gi (3 * k)), none]) (st' := [gr (139 + 2 * s.toNat), gr 1]) (M' := gw mi ml) rfl ?_
      refine Go.getf (by rfl) (c := 6) (N := 3) (shS (i := s) (by omega)) ?_
      rw [gfS2 (i := s) (by omega) (by omega)]
      refine Go.run hsz hn1 1 (pc' := 21) (lv' := [some (gr 0), some (gr (139 + 2 * s.toNat)), some (gi (3 * k)), none]) (st' := [gi (3 * k), gr (140 + 2 * s.toNat), gr 1]) (M' := gw mi ml) rfl ?_
      refine Go.iald (by rfl) (N := 60) (shSn (i := s) (by omega)) (by omega) (by omega) (by decide) ?_
      refine Go.run hsz hn1 0 (pc' := 22) (lv' := [some (gr 0), some (gr (139 + 2 * s.toNat)), some (gi (3 * k)), none]) (st' := [gi (jC0 mi s k), gr 1]) (M' := gw mi ml) rfl ?_
      refine Go.callV (As := [gi (jC0 mi s k)]) (b := 1) (st := []) (mc1 := 0) (mc := 0) (ms1 := 0) (ms := 0) (by rfl) rfl (c := 7) (N := 11) (by rfl) (by decide) (by rfl) (gcn 59 (by decide)).1 (gcn 59 (by decide)).2 rfl (Nat.le_of_ble_eq_true rfl) (by omega) (cS_isPitch hsz (n := n - 1) (by omega) mi ml (jC0 mi s k) (hR _ _) hR) ?_
      rintro _ _ ⟨rfl, rfl⟩
      refine Go.run hsz hn1 0 (pc' := 25) (lv' := [some (gr 0), some (gr (139 + 2 * s.toNat)), some (gi (3 * k)), none]) (st' := [gi (b2 (0 ≤ jC0 mi s k ∧ jC0 mi s k < mi 1 2))]) (M' := gw mi ml) rfl ?_
      refine Go.if_eq (by rfl) (b2_rng _) (fun kq2 => ?_) (fun kq2 => ?_)
      · replace kq2 := b2_neg kq2
        refine Go.run hsz hn1 3 (pc' := 57) (lv' := [some (gr 0), some (gr (139 + 2 * s.toNat)), some (gi (3 * k)), some (gi 0)]) (st' := [gi 0]) (M' := gw mi ml) rfl ?_
        refine Go.if_ne (by rfl) ⟨by decide, by decide⟩ (fun kq3 => ?_) (fun kq3 => ?_)
        · exact absurd kq3 (by decide)
        · refine Go.run hsz hn1 1 (pc' := 61) (lv' := [some (gr 0), some (gr (139 + 2 * s.toNat)), some (gi (3 * k)), some (gi 0)]) (st' := [gi 0]) (M' := gw mi ml) rfl ?_
          exact Go.zret (by rfl) (Or.inl rfl) ⟨0, Or.inl rfl, ⟨fun q => by omega, fun q => by obtain ⟨v1, v2, v3, v4⟩ := q k (by omega) (by omega); omega⟩, rfl, rfl⟩
      · replace kq2 := b2_pos kq2
        refine Go.run hsz hn1 1 (pc' := 29) (lv' := [some (gr 0), some (gr (139 + 2 * s.toNat)), some (gi (3 * k)), none]) (st' := [gr (139 + 2 * s.toNat)]) (M' := gw mi ml) rfl ?_
        refine Go.getf (by rfl) (c := 6) (N := 3) (shS (i := s) (by omega)) ?_
        rw [gfS2 (i := s) (by omega) (by omega)]
        refine Go.run hsz hn1 3 (pc' := 35) (lv' := [some (gr 0), some (gr (139 + 2 * s.toNat)), some (gi (3 * k)), none]) (st' := [gi ((3 * k) + 1), gr (140 + 2 * s.toNat)]) (M' := gw mi ml) rfl ?_
        refine Go.iald (by rfl) (N := 60) (shSn (i := s) (by omega)) (by omega) (by omega) (by decide) ?_
        refine Go.run hsz hn1 1 (pc' := 37) (lv' := [some (gr 0), some (gr (139 + 2 * s.toNat)), some (gi (3 * k)), none]) (st' := [gr (139 + 2 * s.toNat), gi (jC1 mi s k)]) (M' := gw mi ml) rfl ?_
        refine Go.getf (by rfl) (c := 6) (N := 3) (shS (i := s) (by omega)) ?_
        rw [gfS2 (i := s) (by omega) (by omega)]
        refine Go.run hsz hn1 3 (pc' := 43) (lv' := [some (gr 0), some (gr (139 + 2 * s.toNat)), some (gi (3 * k)), none]) (st' := [gi ((3 * k) + 2), gr (140 + 2 * s.toNat), gi (jC1 mi s k)]) (M' := gw mi ml) rfl ?_
        refine Go.iald (by rfl) (N := 60) (shSn (i := s) (by omega)) (by omega) (by omega) (by decide) ?_
        refine Go.run hsz hn1 0 (pc' := 44) (lv' := [some (gr 0), some (gr (139 + 2 * s.toNat)), some (gi (3 * k)), none]) (st' := [gi (jC2 mi s k), gi (jC1 mi s k)]) (M' := gw mi ml) rfl ?_
        refine Go.callS (As := [gi (jC1 mi s k), gi (jC2 mi s k)]) (st := []) (mc1 := 0) (mc := 0) (ms1 := 0) (ms := 0) (by rfl) rfl (gcn 151 (by decide)).1 (gcn 151 (by decide)).2 (Nat.le_of_ble_eq_true rfl) (by omega) (cC_isStay hsz (n := n - 1) (by omega) mi ml (jC1 mi s k) (jC2 mi s k) (hR _ _) (hR _ _)) ?_
        rintro _ _ ⟨rfl, rfl⟩
        refine Go.run hsz hn1 0 (pc' := 47) (lv' := [some (gr 0), some (gr (139 + 2 * s.toNat)), some (gi (3 * k)), none]) (st' := [gi (b2 ((0 ≤ jC1 mi s k ∧ jC1 mi s k ≤ 99) ∧ (1 ≤ jC2 mi s k ∧ jC2 mi s k ≤ 30) ∧ jC1 mi s k + jC2 mi s k - 1 ≤ 99))]) (M' := gw mi ml) rfl ?_
        refine Go.if_eq (by rfl) (b2_rng _) (fun kq4 => ?_) (fun kq4 => ?_)
        · replace kq4 := b2_neg kq4
          refine Go.run hsz hn1 3 (pc' := 57) (lv' := [some (gr 0), some (gr (139 + 2 * s.toNat)), some (gi (3 * k)), some (gi 0)]) (st' := [gi 0]) (M' := gw mi ml) rfl ?_
          refine Go.if_ne (by rfl) ⟨by decide, by decide⟩ (fun kq5 => ?_) (fun kq5 => ?_)
          · exact absurd kq5 (by decide)
          · refine Go.run hsz hn1 1 (pc' := 61) (lv' := [some (gr 0), some (gr (139 + 2 * s.toNat)), some (gi (3 * k)), some (gi 0)]) (st' := [gi 0]) (M' := gw mi ml) rfl ?_
            exact Go.zret (by rfl) (Or.inl rfl) ⟨0, Or.inl rfl, ⟨fun q => by omega, fun q => by obtain ⟨v1, v2, v3, v4⟩ := q k (by omega) (by omega); omega⟩, rfl, rfl⟩
        · replace kq4 := b2_pos kq4
          refine Go.run hsz hn1 4 (pc' := 57) (lv' := [some (gr 0), some (gr (139 + 2 * s.toNat)), some (gi (3 * k)), some (gi 1)]) (st' := [gi 1]) (M' := gw mi ml) rfl ?_
          refine Go.if_ne (by rfl) ⟨by decide, by decide⟩ (fun kq6 => ?_) (fun kq6 => ?_)
          · refine Go.run hsz hn1 2 (pc' := 2) (lv' := [some (gr 0), some (gr (139 + 2 * s.toNat)), some (gi ((3 * k) + 3)), some (gi 1)]) (st' := []) (M' := gw mi ml) rfl ?_
            refine Go.dropl 3 ?_
            refine Go.run hsz hn1 0 (pc' := 2) (lv' := [some (gr 0), some (gr (139 + 2 * s.toNat)), some (gi ((3 * k) + 3)), none]) (st' := []) (M' := gw mi ml) rfl ?_
            have h9 := ih (k + 1) (fun j j0 j1 => (by
              by_cases e : j = k
              · rw [e]; exact ⟨by omega, by omega, by omega, by omega⟩
              · exact hall j j0 (by omega))) (by omega) (by omega) (by omega)
            rw [show 3 * (k + 1) = 3 * k + 3 by omega] at h9
            exact h9
          · exact absurd kq6 (by decide)
set_option maxRecDepth 100000 in
set_option maxHeartbeats 4000000 in
theorem cC_areS {G : gG} (hsz : G.2.2.2.2.2.2 = true) {n : Nat} (hn : 3 ≤ n) (mi : Nat → Nat → Int) (ml : Nat → Nat → Int64) (s nr : Int) (s0 : 0 ≤ s) (s1 : s < 4) (hz : mi (139 + 2 * s.toNat) 1 = 3 * nr) (hz2 : 0 ≤ nr ∧ nr ≤ 20) (hv : CV mi) : gM G 148 n 0 0 [gr 0, gr (139 + 2 * s.toNat)] (gw mi ml) (fun r M => ∃ z : Int, (z = 0 ∨ z = 1) ∧ (z = 1 ↔ jAllC mi s nr) ∧ r = some (gi z) ∧ M = gw mi ml) := by
  have hn1 : 1 ≤ n := by omega
  refine gM.of mX11_areStays okX11_areStays (gcp 148 (by decide)).1 (gcp 148 (by decide)).2 (Nat.le_of_ble_eq_true rfl) ?_
  refine Go.run hsz hn1 2 (pc' := 2) (lv' := [some (gr 0), some (gr (139 + 2 * s.toNat)), some (gi 0), none]) (st' := []) (M' := gw mi ml) rfl ?_
  exact lC_areS hsz hn mi ml s nr s0 s1 hz hz2 hv (nr.toNat + 1) 0 (fun j j0 j1 => by omega) (by omega) (by omega) (by omega)
theorem jCal_off {mi : Nat → Nat → Int} {ml : Nat → Nat → Int64} {s : Int} {a j : Nat} (h : a ≠ 108) (h2 : a ≠ 109) : ∀ k, jCal mi ml s k a j = ml a j
  | 0 => lMark_off h h2 _
  | k + 1 => (lTake_off h h2).trans (jCal_off h h2 k)
set_option maxRecDepth 100000 in
set_option maxHeartbeats 4000000 in
theorem lC_fC {G : gG} (hsz : G.2.2.2.2.2.2 = true) {n : Nat} (hn : 3 ≤ n) (mi : Nat → Nat → Int) (ml : Nat → Nat → Int64) (s nr : Int) (s0 : 0 ≤ s) (s1 : s < 4) (hz : mi (139 + 2 * s.toNat) 1 = 3 * nr) (hz2 : 0 ≤ nr ∧ nr ≤ 20) (hA : jAllC mi s nr) (hv : CV mi) : ∀ (f : Nat) (k : Int) (hno : ∀ j : Int, 0 ≤ j → j < k → ¬ jF mi ml s j = 0), 0 ≤ k → k ≤ nr → nr - k < f → Go G mX11_firstClash n 0 0 14 [some (gr 0), some (gr (139 + 2 * s.toNat)), some (gi (3 * k)), none, none, none, none, none] [] (gw mi (jCal mi ml s k.toNat)) (fun r M => ∃ (z : Int) (l : Nat → Nat → Int64), jRes (fun k => jF mi ml s k = 0) nr z ∧ (∀ a j : Nat, a ≠ 108 → a ≠ 109 → l a j = ml a j) ∧ r = some (gi z) ∧ M = gw mi l) := by
  have hn1 : 1 ≤ n := by omega
  obtain ⟨hR, ht, hp, hq, hP, hQ⟩ := id hv
  intro f
  induction f with
  | zero => intros; omega
  | succ f ih =>
    intro k hno k0 k1 k2
    have hV : k < nr → jV (mi 1 2) (jC0 mi s k) (jC1 mi s k) (jC2 mi s k) := fun q => hA k k0 q
    unfold jV at hV
    refine Go.run hsz hn1 4 (pc' := 18) (lv' := [some (gr 0), some (gr (139 + 2 * s.toNat)), some (gi (3 * k)), none, none, none, none, none]) (st' := [gr (139 + 2 * s.toNat), gi ((3 * k) + 2)]) (M' := gw mi (jCal mi ml s k.toNat)) rfl ?_
    refine Go.getf (by rfl) (c := 6) (N := 3) (shS (i := s) (by omega)) ?_
    refine Go.run hsz hn1 0 (pc' := 21) (lv' := [some (gr 0), some (gr (139 + 2 * s.toNat)), some (gi (3 * k)), none, none, none, none, none]) (st' := [gi (mi (139 + 2 * s.toNat) 1), gi ((3 * k) + 2)]) (M' := gw mi (jCal mi ml s k.toNat)) rfl ?_
    refine Go.icmp_ge (by rfl) ⟨by omega, by omega⟩ (hR _ _) (fun kq1 => ?_) (fun kq1 => ?_)
    · refine Go.run hsz hn1 1 (pc' := 111) (lv' := [some (gr 0), some (gr (139 + 2 * s.toNat)), some (gi (3 * k)), none, none, none, none, none]) (st' := [gi (-1)]) (M' := gw mi (jCal mi ml s k.toNat)) rfl ?_
      exact Go.iret (by rfl) ⟨-1, _, Or.inl ⟨rfl, fun j j0 j1 => hno j j0 (by omega)⟩, fun a j h1 h2 => jCal_off h1 h2 _, rfl, rfl⟩
    · refine Go.run hsz hn1 1 (pc' := 25) (lv' := [some (gr 0), some (gr (139 + 2 * s.toNat)), some (gi (3 * k)), none, none, none, none, none]) (st' := [gr (139 + 2 * s.toNat)]) (M' := gw mi (jCal mi ml s k.toNat)) rfl ?_
      refine Go.getf (by rfl) (c := 6) (N := 3) (shS (i := s) (by omega)) ?_
      rw [gfS2 (i := s) (by omega) (by omega)]
      refine Go.run hsz hn1 1 (pc' := 29) (lv' := [some (gr 0), some (gr (139 + 2 * s.toNat)), some (gi (3 * k)), none, none, none, none, none]) (st' := [gi (3 * k), gr (140 + 2 * s.toNat)]) (M' := gw mi (jCal mi ml s k.toNat)) rfl ?_
      refine Go.iald (by rfl) (N := 60) (shSn (i := s) (by omega)) (by omega) (by omega) (by decide) ?_
      refine Go.run hsz hn1 2 (pc' := 32) (lv' := [some (gr 0), some (gr (139 + 2 * s.toNat)), some (gi (3 * k)), some (gi (jC0 mi s k)), none, none, none, none]) (st' := [gr (139 + 2 * s.toNat)]) (M' := gw mi (jCal mi ml s k.toNat)) rfl ?_
      refine Go.getf (by rfl) (c := 6) (N := 3) (shS (i := s) (by omega)) ?_
      rw [gfS2 (i := s) (by omega) (by omega)]
      refine Go.run hsz hn1 3 (pc' := 38) (lv' := [some (gr 0), some (gr (139 + 2 * s.toNat)), some (gi (3 * k)), some (gi (jC0 mi s k)), none, none, none, none]) (st' := [gi ((3 * k) + 1), gr (140 + 2 * s.toNat)]) (M' := gw mi (jCal mi ml s k.toNat)) rfl ?_
      refine Go.iald (by rfl) (N := 60) (shSn (i := s) (by omega)) (by omega) (by omega) (by decide) ?_
      refine Go.run hsz hn1 1 (pc' := 40) (lv' := [some (gr 0), some (gr (139 + 2 * s.toNat)), some (gi (3 * k)), some (gi (jC0 mi s k)), none, none, none, none]) (st' := [gr (139 + 2 * s.toNat), gi (jC1 mi s k)]) (M' := gw mi (jCal mi ml s k.toNat)) rfl ?_
      refine Go.getf (by rfl) (c := 6) (N := 3) (shS (i := s) (by omega)) ?_
      rw [gfS2 (i := s) (by omega) (by omega)]
      refine Go.run hsz hn1 3 (pc' := 46) (lv' := [some (gr 0), some (gr (139 + 2 * s.toNat)), some (gi (3 * k)), some (gi (jC0 mi s k)), none, none, none, none]) (st' := [gi ((3 * k) + 2), gr (140 + 2 * s.toNat), gi (jC1 mi s k)]) (M' := gw mi (jCal mi ml s k.toNat)) rfl ?_
      refine Go.iald (by rfl) (N := 60) (shSn (i := s) (by omega)) (by omega) (by omega) (by decide) ?_
      refine Go.run hsz hn1 0 (pc' := 47) (lv' := [some (gr 0), some (gr (139 + 2 * s.toNat)), some (gi (3 * k)), some (gi (jC0 mi s k)), none, none, none, none]) (st' := [gi (jC2 mi s k), gi (jC1 mi s k)]) (M' := gw mi (jCal mi ml s k.toNat)) rfl ?_
      refine Go.callS (As := [gi (jC1 mi s k), gi (jC2 mi s k)]) (st := []) (mc1 := 0) (mc := 0) (ms1 := 0) (ms := 0) (by rfl) rfl (gcn 1 (by decide)).1 (gcn 1 (by decide)).2 (Nat.le_of_ble_eq_true rfl) (by omega) (cL_low hsz (n := n - 1) (by omega) mi (jCal mi ml s k.toNat) (jC1 mi s k) (jC2 mi s k) (by omega) (by omega) (by omega) (by omega)) ?_
      rintro _ _ ⟨rfl, rfl⟩
      refine Go.run hsz hn1 2 (pc' := 53) (lv' := [some (gr 0), some (gr (139 + 2 * s.toNat)), some (gi (3 * k)), some (gi (jC0 mi s k)), some (gl (lLow (jC1 mi s k) (jC2 mi s k))), none, none, none]) (st' := [gr (139 + 2 * s.toNat)]) (M' := gw mi (jCal mi ml s k.toNat)) rfl ?_
      refine Go.getf (by rfl) (c := 6) (N := 3) (shS (i := s) (by omega)) ?_
      rw [gfS2 (i := s) (by omega) (by omega)]
      refine Go.run hsz hn1 3 (pc' := 59) (lv' := [some (gr 0), some (gr (139 + 2 * s.toNat)), some (gi (3 * k)), some (gi (jC0 mi s k)), some (gl (lLow (jC1 mi s k) (jC2 mi s k))), none, none, none]) (st' := [gi ((3 * k) + 1), gr (140 + 2 * s.toNat)]) (M' := gw mi (jCal mi ml s k.toNat)) rfl ?_
      refine Go.iald (by rfl) (N := 60) (shSn (i := s) (by omega)) (by omega) (by omega) (by decide) ?_
      refine Go.run hsz hn1 1 (pc' := 61) (lv' := [some (gr 0), some (gr (139 + 2 * s.toNat)), some (gi (3 * k)), some (gi (jC0 mi s k)), some (gl (lLow (jC1 mi s k) (jC2 mi s k))), none, none, none]) (st' := [gr (139 + 2 * s.toNat), gi (jC1 mi s k)]) (M' := gw mi (jCal mi ml s k.toNat)) rfl ?_
      refine Go.getf (by rfl) (c := 6) (N := 3) (shS (i := s) (by omega)) ?_
      rw [gfS2 (i := s) (by omega) (by omega)]
      refine Go.run hsz hn1 3 (pc' := 67) (lv' := [some (gr 0), some (gr (139 + 2 * s.toNat)), some (gi (3 * k)), some (gi (jC0 mi s k)), some (gl (lLow (jC1 mi s k) (jC2 mi s k))), none, none, none]) (st' := [gi ((3 * k) + 2), gr (140 + 2 * s.toNat), gi (jC1 mi s k)]) (M' := gw mi (jCal mi ml s k.toNat)) rfl ?_
      refine Go.iald (by rfl) (N := 60) (shSn (i := s) (by omega)) (by omega) (by omega) (by decide) ?_
      refine Go.run hsz hn1 0 (pc' := 68) (lv' := [some (gr 0), some (gr (139 + 2 * s.toNat)), some (gi (3 * k)), some (gi (jC0 mi s k)), some (gl (lLow (jC1 mi s k) (jC2 mi s k))), none, none, none]) (st' := [gi (jC2 mi s k), gi (jC1 mi s k)]) (M' := gw mi (jCal mi ml s k.toNat)) rfl ?_
      refine Go.callS (As := [gi (jC1 mi s k), gi (jC2 mi s k)]) (st := []) (mc1 := 0) (mc := 0) (ms1 := 0) (ms := 0) (by rfl) rfl (gcn 2 (by decide)).1 (gcn 2 (by decide)).2 (Nat.le_of_ble_eq_true rfl) (by omega) (cL_high hsz (n := n - 1) (by omega) mi (jCal mi ml s k.toNat) (jC1 mi s k) (jC2 mi s k) (by omega) (by omega) (by omega) (by omega)) ?_
      rintro _ _ ⟨rfl, rfl⟩
      refine Go.run hsz hn1 6 (pc' := 82) (lv' := [some (gr 0), some (gr (139 + 2 * s.toNat)), some (gi (3 * k)), some (gi (jC0 mi s k)), some (gl (lLow (jC1 mi s k) (jC2 mi s k))), none, some (gl (lHigh (jC1 mi s k) (jC2 mi s k))), none]) (st' := [gl (lHigh (jC1 mi s k) (jC2 mi s k)), gl (lLow (jC1 mi s k) (jC2 mi s k)), gi (jC0 mi s k), gr 107]) (M' := gw mi (jCal mi ml s k.toNat)) rfl ?_
      refine Go.callV (As := [gi (jC0 mi s k), gl (lLow (jC1 mi s k) (jC2 mi s k)), gl (lHigh (jC1 mi s k) (jC2 mi s k))]) (b := 107) (st := []) (mc1 := 0) (mc := 0) (ms1 := 0) (ms := 0) (by rfl) rfl (c := 0) (N := 2) (by rfl) (by decide) (by rfl) (gcn 5 (by decide)).1 (gcn 5 (by decide)).2 rfl (Nat.le_of_ble_eq_true rfl) (by omega) (cL_isFree hsz (n := n - 1) (by omega) mi (jCal mi ml s k.toNat) (jC0 mi s k) (by omega) (by omega) (lLow (jC1 mi s k) (jC2 mi s k)) (lHigh (jC1 mi s k) (jC2 mi s k))) ?_
      rintro _ _ ⟨rfl, rfl⟩
      refine Go.run hsz hn1 0 (pc' := 85) (lv' := [some (gr 0), some (gr (139 + 2 * s.toNat)), some (gi (3 * k)), some (gi (jC0 mi s k)), some (gl (lLow (jC1 mi s k) (jC2 mi s k))), none, some (gl (lHigh (jC1 mi s k) (jC2 mi s k))), none]) (st' := [gi (lFree (jCal mi ml s k.toNat) (jC0 mi s k) (lLow (jC1 mi s k) (jC2 mi s k)) (lHigh (jC1 mi s k) (jC2 mi s k)))]) (M' := gw mi (jCal mi ml s k.toNat)) rfl ?_
      refine Go.if_ne (by rfl) (b2_rng _) (fun kq2 => ?_) (fun kq2 => ?_)
      · refine Go.run hsz hn1 5 (pc' := 101) (lv' := [some (gr 0), some (gr (139 + 2 * s.toNat)), some (gi (3 * k)), some (gi (jC0 mi s k)), some (gl (lLow (jC1 mi s k) (jC2 mi s k))), none, some (gl (lHigh (jC1 mi s k) (jC2 mi s k))), none]) (st' := [gl (lHigh (jC1 mi s k) (jC2 mi s k)), gl (lLow (jC1 mi s k) (jC2 mi s k)), gi (jC0 mi s k), gr 107]) (M' := gw mi (jCal mi ml s k.toNat)) rfl ?_
        refine Go.callV (As := [gi (jC0 mi s k), gl (lLow (jC1 mi s k) (jC2 mi s k)), gl (lHigh (jC1 mi s k) (jC2 mi s k))]) (b := 107) (st := []) (mc1 := 0) (mc := 0) (ms1 := 0) (ms := 0) (by rfl) rfl (c := 0) (N := 2) (by rfl) (by decide) (by rfl) (gcn 6 (by decide)).1 (gcn 6 (by decide)).2 rfl (Nat.le_of_ble_eq_true rfl) (by omega) (cL_take hsz (n := n - 1) (by omega) mi (jCal mi ml s k.toNat) (jC0 mi s k) (by omega) (by omega) (lLow (jC1 mi s k) (jC2 mi s k)) (lHigh (jC1 mi s k) (jC2 mi s k))) ?_
        rintro _ _ ⟨rfl, rfl⟩
        refine Go.run hsz hn1 2 (pc' := 14) (lv' := [some (gr 0), some (gr (139 + 2 * s.toNat)), some (gi ((3 * k) + 3)), some (gi (jC0 mi s k)), some (gl (lLow (jC1 mi s k) (jC2 mi s k))), none, some (gl (lHigh (jC1 mi s k) (jC2 mi s k))), none]) (st' := []) (M' := gw mi (lTake (jCal mi ml s k.toNat) (jC0 mi s k) (lLow (jC1 mi s k) (jC2 mi s k)) (lHigh (jC1 mi s k) (jC2 mi s k)))) rfl ?_
        refine Go.dropl 3 ?_
        refine Go.dropl 4 ?_
        refine Go.dropl 6 ?_
        refine Go.run hsz hn1 0 (pc' := 14) (lv' := [some (gr 0), some (gr (139 + 2 * s.toNat)), some (gi ((3 * k) + 3)), none, none, none, none, none]) (st' := []) (M' := gw mi (lTake (jCal mi ml s k.toNat) (jC0 mi s k) (lLow (jC1 mi s k) (jC2 mi s k)) (lHigh (jC1 mi s k) (jC2 mi s k)))) rfl ?_
        have h9 := ih (k + 1) (fun j j0 j1 => (by
          by_cases e : j = k
          · rw [e]; unfold jF; omega
          · exact hno j j0 (by omega))) (by omega) (by omega) (by omega)
        rw [show 3 * (k + 1) = 3 * k + 3 by omega, jCal_s k0] at h9
        exact h9
      · refine Go.run hsz hn1 2 (pc' := 90) (lv' := [some (gr 0), some (gr (139 + 2 * s.toNat)), some (gi (3 * k)), some (gi (jC0 mi s k)), some (gl (lLow (jC1 mi s k) (jC2 mi s k))), none, some (gl (lHigh (jC1 mi s k) (jC2 mi s k))), none]) (st' := [gi 3, gi (3 * k)]) (M' := gw mi (jCal mi ml s k.toNat)) rfl ?_
        refine Go.idivN (by rfl) ⟨by omega, by omega⟩ (by decide) (by omega) ?_
        refine Go.run hsz hn1 0 (pc' := 91) (lv' := [some (gr 0), some (gr (139 + 2 * s.toNat)), some (gi (3 * k)), some (gi (jC0 mi s k)), some (gl (lLow (jC1 mi s k) (jC2 mi s k))), none, some (gl (lHigh (jC1 mi s k) (jC2 mi s k))), none]) (st' := [gi ((3 * k) / 3)]) (M' := gw mi (jCal mi ml s k.toNat)) rfl ?_
        exact Go.iret (by rfl) ⟨k, _, Or.inr ⟨by omega, (by unfold jF; omega), hno⟩, fun a j h1 h2 => jCal_off h1 h2 _, congrArg (fun z => some (gi z)) (show (3 * k) / 3 = k by omega), rfl⟩
set_option maxRecDepth 100000 in
set_option maxHeartbeats 4000000 in
theorem cC_fC {G : gG} (hsz : G.2.2.2.2.2.2 = true) {n : Nat} (hn : 3 ≤ n) (mi : Nat → Nat → Int) (ml : Nat → Nat → Int64) (s nr : Int) (s0 : 0 ≤ s) (s1 : s < 4) (hz : mi (139 + 2 * s.toNat) 1 = 3 * nr) (hz2 : 0 ≤ nr ∧ nr ≤ 20) (hA : jAllC mi s nr) (hv : CV mi) : gM G 149 n 0 0 [gr 0, gr (139 + 2 * s.toNat)] (gw mi ml) (fun r M => ∃ (z : Int) (l : Nat → Nat → Int64), jRes (fun k => jF mi ml s k = 0) nr z ∧ (∀ a j : Nat, a ≠ 108 → a ≠ 109 → l a j = ml a j) ∧ r = some (gi z) ∧ M = gw mi l) := by
  have hn1 : 1 ≤ n := by omega
  refine gM.of mX11_firstClash okX11_firstClash (gcp 149 (by decide)).1 (gcp 149 (by decide)).2 (Nat.le_of_ble_eq_true rfl) ?_
  refine Go.run hsz hn1 5 (pc' := 9) (lv' := [some (gr 0), some (gr (139 + 2 * s.toNat)), none, none, none, none, none, none]) (st' := [gi 0, gr 107, gr 1]) (M' := gw mi ml) rfl ?_
  refine Go.callV (As := [gr 107, gi 0]) (b := 1) (st := []) (mc1 := 0) (mc := 0) (ms1 := 0) (ms := 0) (by rfl) rfl (c := 7) (N := 11) (by rfl) (by decide) (by rfl) (gcn 71 (by decide)).1 (gcn 71 (by decide)).2 rfl (Nat.le_of_ble_eq_true rfl) (by omega) (cS_mark hsz (n := n - 1) (by omega) mi ml 0 hv) ?_
  rintro _ _ ⟨rfl, rfl⟩
  refine Go.run hsz hn1 2 (pc' := 14) (lv' := [some (gr 0), some (gr (139 + 2 * s.toNat)), some (gi 0), none, none, none, none, none]) (st' := []) (M' := gw mi (lMark mi ml 0 (mi 1 3).toNat)) rfl ?_
  exact lC_fC hsz hn mi ml s nr s0 s1 hz hz2 hA hv (nr.toNat + 1) 0 (fun j j0 j1 => by omega) (by omega) (by omega) (by omega)
set_option maxRecDepth 100000 in
set_option maxHeartbeats 4000000 in
theorem pC_join {G : gG} (hsz : G.2.2.2.2.2.2 = true) {n : Nat} (hn : 5 ≤ n) (mi : Nat → Nat → Int) (ml : Nat → Nat → Int64) (s : Int) (r_s : rng s) (hv : CV mi) (hz : ∀ s : Int, 0 ≤ s → s < 4 → (0 ≤ mi (139 + 2 * s.toNat) 1 ∧ mi (139 + 2 * s.toNat) 1 ≤ 60) ∧ True) : gM G 136 n 0 0 [gr 0, gi s] (gw mi ml) (fun r M => gE (¬ (0 ≤ s ∧ s ≤ 3)) (-1000001) (cFd mi 0) ml r M ∨ gE ((0 ≤ s ∧ s ≤ 3) ∧ mi (139 + 2 * s.toNat) 0 = 0) (-1000006) (cFd mi 5) ml r M ∨ gE ((0 ≤ s ∧ s ≤ 3) ∧ ¬ mi (139 + 2 * s.toNat) 0 = 0 ∧ ¬ mi (139 + 2 * s.toNat) 1 % 3 = 0) (-1000007) (cFd mi 6) ml r M ∨ gE (((0 ≤ s ∧ s ≤ 3) ∧ ¬ mi (139 + 2 * s.toNat) 0 = 0 ∧ mi (139 + 2 * s.toNat) 1 % 3 = 0) ∧ ¬ jAllC mi s (mi (139 + 2 * s.toNat) 1 / 3)) (-1000001) (cFd mi 0) ml r M ∨ ((((0 ≤ s ∧ s ≤ 3) ∧ ¬ mi (139 + 2 * s.toNat) 0 = 0 ∧ mi (139 + 2 * s.toNat) 1 % 3 = 0) ∧ jAllC mi s (mi (139 + 2 * s.toNat) 1 / 3)) ∧ ∃ (z : Int) (l : Nat → Nat → Int64), jRes (fun k => jF mi ml s k = 0) (mi (139 + 2 * s.toNat) 1 / 3) z ∧ (∀ a j : Nat, a ≠ 108 → a ≠ 109 → l a j = ml a j) ∧ r = some (gi z) ∧ M = gw mi l)) := by
  have hn1 : 1 ≤ n := by omega
  obtain ⟨hR, ht, hp, hq, hP, hQ⟩ := id hv
  have hzs : (0 ≤ s ∧ s ≤ 3) → 0 ≤ mi (139 + 2 * s.toNat) 1 ∧ mi (139 + 2 * s.toNat) 1 ≤ 60 := fun h => (hz s (by omega) (by omega)).1
  refine gM.of mX11_join okX11_join (gcp 136 (by decide)).1 (gcp 136 (by decide)).2 (Nat.le_of_ble_eq_true rfl) ?_
  refine Go.run hsz hn1 3 (pc' := 3) (lv' := [some (gr 0), some (gi s), none]) (st' := [gi 3, gi 0, gi s]) (M' := gw mi ml) rfl ?_
  refine Go.callS (As := [gi s, gi 0, gi 3]) (st := []) (mc1 := 0) (mc := 0) (ms1 := 0) (ms := 0) (by rfl) rfl (gcn 150 (by decide)).1 (gcn 150 (by decide)).2 (Nat.le_of_ble_eq_true rfl) (by omega) (cC_isIn hsz (n := n - 1) (by omega) mi ml s 0 3 r_s ⟨by decide, by decide⟩ ⟨by decide, by decide⟩) ?_
  rintro _ _ ⟨rfl, rfl⟩
  refine Go.run hsz hn1 0 (pc' := 6) (lv' := [some (gr 0), some (gi s), none]) (st' := [gi (b2 (0 ≤ s ∧ s ≤ 3))]) (M' := gw mi ml) rfl ?_
  refine Go.if_ne (by rfl) (b2_rng _) (fun kq1 => ?_) (fun kq1 => ?_)
  · replace kq1 := b2_pos kq1
    refine Go.run hsz hn1 3 (pc' := 21) (lv' := [some (gr 0), some (gi s), none]) (st' := [gi s, gr 138]) (M' := gw mi ml) rfl ?_
    refine Go.aaldR 6 (by rfl) (N := 4) (by rfl) ⟨by decide, by decide⟩ (by omega) (by omega) (by decide) (gMR_138 (by omega) (by omega)) ?_
    refine Go.run hsz hn1 2 (pc' := 24) (lv' := [some (gr 0), some (gi s), some (gr (139 + 2 * s.toNat))]) (st' := [gr (139 + 2 * s.toNat)]) (M' := gw mi ml) rfl ?_
    refine Go.callV (As := []) (b := 139 + 2 * s.toNat) (st := []) (mc1 := 0) (mc := 0) (ms1 := 0) (ms := 0) (by rfl) rfl (c := 6) (N := 3) (shS (i := s) (by omega)) (by decide) (by rfl) (gcn 54 (by decide)).1 (gcn 54 (by decide)).2 rfl (Nat.le_of_ble_eq_true rfl) (by omega) (cH_miss hsz (n := n - 1) (by omega) mi ml s (by omega) (by omega) hR) ?_
    rintro _ _ ⟨rfl, rfl⟩
    refine Go.run hsz hn1 0 (pc' := 27) (lv' := [some (gr 0), some (gi s), some (gr (139 + 2 * s.toNat))]) (st' := [gi (b2 (mi (139 + 2 * s.toNat) 0 = 0))]) (M' := gw mi ml) rfl ?_
    refine Go.if_eq (by rfl) (b2_rng _) (fun kq2 => ?_) (fun kq2 => ?_)
    · replace kq2 := b2_neg kq2
      refine Go.run hsz hn1 1 (pc' := 39) (lv' := [some (gr 0), some (gi s), some (gr (139 + 2 * s.toNat))]) (st' := [gr (139 + 2 * s.toNat)]) (M' := gw mi ml) rfl ?_
      refine Go.getf (by rfl) (c := 6) (N := 3) (shS (i := s) (by omega)) ?_
      refine Go.run hsz hn1 1 (pc' := 43) (lv' := [some (gr 0), some (gi s), some (gr (139 + 2 * s.toNat))]) (st' := [gi 3, gi (mi (139 + 2 * s.toNat) 1)]) (M' := gw mi ml) rfl ?_
      refine Go.iremN (by rfl) (hR _ _) (by decide) (by omega) ?_
      refine Go.run hsz hn1 0 (pc' := 44) (lv' := [some (gr 0), some (gi s), some (gr (139 + 2 * s.toNat))]) (st' := [gi ((mi (139 + 2 * s.toNat) 1) % 3)]) (M' := gw mi ml) rfl ?_
      refine Go.if_eq (by rfl) ⟨by omega, by omega⟩ (fun kq3 => ?_) (fun kq3 => ?_)
      · refine Go.run hsz hn1 2 (pc' := 57) (lv' := [some (gr 0), some (gi s), some (gr (139 + 2 * s.toNat))]) (st' := [gr (139 + 2 * s.toNat), gr 0]) (M' := gw mi ml) rfl ?_
        refine Go.callV (As := [gr (139 + 2 * s.toNat)]) (b := 0) (st := []) (mc1 := 0) (mc := 0) (ms1 := 0) (ms := 0) (by rfl) rfl (c := 10) (N := 9) (by rfl) (by decide) (by rfl) (gcn 148 (by decide)).1 (gcn 148 (by decide)).2 rfl (Nat.le_of_ble_eq_true rfl) (by omega) (cC_areS hsz (n := n - 1) (by omega) mi ml s (mi (139 + 2 * s.toNat) 1 / 3) (by omega) (by omega) (by omega) (by omega) hv) ?_
        rintro _ _ ⟨z9, hz9, hz8, rfl, rfl⟩
        refine Go.run hsz hn1 0 (pc' := 60) (lv' := [some (gr 0), some (gi s), some (gr (139 + 2 * s.toNat))]) (st' := [gi z9]) (M' := gw mi ml) rfl ?_
        refine Go.if_ne (by rfl) ⟨by omega, by omega⟩ (fun kq4 => ?_) (fun kq4 => ?_)
        · refine Go.run hsz hn1 2 (pc' := 72) (lv' := [some (gr 0), some (gi s), some (gr (139 + 2 * s.toNat))]) (st' := [gr (139 + 2 * s.toNat), gr 0]) (M' := gw mi ml) rfl ?_
          refine Go.callV (As := [gr (139 + 2 * s.toNat)]) (b := 0) (st := []) (mc1 := 0) (mc := 0) (ms1 := 0) (ms := 0) (by rfl) rfl (c := 10) (N := 9) (by rfl) (by decide) (by rfl) (gcn 149 (by decide)).1 (gcn 149 (by decide)).2 rfl (Nat.le_of_ble_eq_true rfl) (by omega) (cC_fC hsz (n := n - 1) (by omega) mi ml s (mi (139 + 2 * s.toNat) 1 / 3) (by omega) (by omega) (by omega) (by omega) (hz8.mp (by omega)) hv) ?_
          rintro _ _ ⟨z7, l7, hz7, hl7, rfl, rfl⟩
          refine Go.run hsz hn1 0 (pc' := 75) (lv' := [some (gr 0), some (gi s), some (gr (139 + 2 * s.toNat))]) (st' := [gi z7]) (M' := gw mi l7) rfl ?_
          exact Go.iret (by rfl) (Or.inr (Or.inr (Or.inr (Or.inr ⟨⟨by omega, hz8.mp (by omega)⟩, z7, l7, hz7, hl7, rfl, rfl⟩))))
        · refine Go.run hsz hn1 2 (pc' := 66) (lv' := [some (gr 0), some (gi s), some (gr (139 + 2 * s.toNat))]) (st' := [gi (-1000001), gr 0]) (M' := gw mi ml) rfl ?_
          refine Go.callV (As := [gi (-1000001)]) (b := 0) (st := []) (mc1 := 0) (mc := 0) (ms1 := 0) (ms := 0) (by rfl) rfl (c := 10) (N := 9) (by rfl) (by decide) (by rfl) (gcn 147 (by decide)).1 (gcn 147 (by decide)).2 rfl (Nat.le_of_ble_eq_true rfl) (by omega) (cC_finding hsz (n := n - 1) (by omega) mi ml (-1000001) (by decide) (by decide)) ?_
          rintro _ _ ⟨rfl, rfl⟩
          refine Go.run hsz hn1 0 (pc' := 69) (lv' := [some (gr 0), some (gi s), some (gr (139 + 2 * s.toNat))]) (st' := [gi (-1000001)]) (M' := gw (cFd mi 0) ml) rfl ?_
          exact Go.iret (by rfl) (Or.inr (Or.inr (Or.inr (Or.inl ⟨⟨by omega, fun q => by have := hz8.mpr q; omega⟩, rfl, rfl⟩))))
      · refine Go.run hsz hn1 2 (pc' := 51) (lv' := [some (gr 0), some (gi s), some (gr (139 + 2 * s.toNat))]) (st' := [gi (-1000007), gr 0]) (M' := gw mi ml) rfl ?_
        refine Go.callV (As := [gi (-1000007)]) (b := 0) (st := []) (mc1 := 0) (mc := 0) (ms1 := 0) (ms := 0) (by rfl) rfl (c := 10) (N := 9) (by rfl) (by decide) (by rfl) (gcn 147 (by decide)).1 (gcn 147 (by decide)).2 rfl (Nat.le_of_ble_eq_true rfl) (by omega) (cC_finding hsz (n := n - 1) (by omega) mi ml (-1000007) (by decide) (by decide)) ?_
        rintro _ _ ⟨rfl, rfl⟩
        refine Go.run hsz hn1 0 (pc' := 54) (lv' := [some (gr 0), some (gi s), some (gr (139 + 2 * s.toNat))]) (st' := [gi (-1000007)]) (M' := gw (cFd mi 6) ml) rfl ?_
        first | exact Go.iret (by rfl) (Or.inl ⟨by omega, rfl, rfl⟩) | exact Go.iret (by rfl) (Or.inr (Or.inl ⟨by omega, rfl, rfl⟩)) | exact Go.iret (by rfl) (Or.inr (Or.inr (Or.inl ⟨by omega, rfl, rfl⟩)))
    · replace kq2 := b2_pos kq2
      refine Go.run hsz hn1 2 (pc' := 34) (lv' := [some (gr 0), some (gi s), some (gr (139 + 2 * s.toNat))]) (st' := [gi (-1000006), gr 0]) (M' := gw mi ml) rfl ?_
      refine Go.callV (As := [gi (-1000006)]) (b := 0) (st := []) (mc1 := 0) (mc := 0) (ms1 := 0) (ms := 0) (by rfl) rfl (c := 10) (N := 9) (by rfl) (by decide) (by rfl) (gcn 147 (by decide)).1 (gcn 147 (by decide)).2 rfl (Nat.le_of_ble_eq_true rfl) (by omega) (cC_finding hsz (n := n - 1) (by omega) mi ml (-1000006) (by decide) (by decide)) ?_
      rintro _ _ ⟨rfl, rfl⟩
      refine Go.run hsz hn1 0 (pc' := 37) (lv' := [some (gr 0), some (gi s), some (gr (139 + 2 * s.toNat))]) (st' := [gi (-1000006)]) (M' := gw (cFd mi 5) ml) rfl ?_
      first | exact Go.iret (by rfl) (Or.inl ⟨by omega, rfl, rfl⟩) | exact Go.iret (by rfl) (Or.inr (Or.inl ⟨by omega, rfl, rfl⟩)) | exact Go.iret (by rfl) (Or.inr (Or.inr (Or.inl ⟨by omega, rfl, rfl⟩)))
  · replace kq1 := b2_neg kq1
    refine Go.run hsz hn1 2 (pc' := 12) (lv' := [some (gr 0), some (gi s), none]) (st' := [gi (-1000001), gr 0]) (M' := gw mi ml) rfl ?_
    refine Go.callV (As := [gi (-1000001)]) (b := 0) (st := []) (mc1 := 0) (mc := 0) (ms1 := 0) (ms := 0) (by rfl) rfl (c := 10) (N := 9) (by rfl) (by decide) (by rfl) (gcn 147 (by decide)).1 (gcn 147 (by decide)).2 rfl (Nat.le_of_ble_eq_true rfl) (by omega) (cC_finding hsz (n := n - 1) (by omega) mi ml (-1000001) (by decide) (by decide)) ?_
    rintro _ _ ⟨rfl, rfl⟩
    refine Go.run hsz hn1 0 (pc' := 15) (lv' := [some (gr 0), some (gi s), none]) (st' := [gi (-1000001)]) (M' := gw (cFd mi 0) ml) rfl ?_
    first | exact Go.iret (by rfl) (Or.inl ⟨by omega, rfl, rfl⟩) | exact Go.iret (by rfl) (Or.inr (Or.inl ⟨by omega, rfl, rfl⟩)) | exact Go.iret (by rfl) (Or.inr (Or.inr (Or.inl ⟨by omega, rfl, rfl⟩)))
def mCl (mi : Nat → Nat → Int) (s i : Int) : Prop := (∃ x : Int, (jM1 mi s i ≤ x ∧ x < jM1 mi s i + jM2 mi s i) ∧ 0 ≤ mWho mi (jM0 mi s i) x (mi 148 6).toNat) ∨ ∃ j : Int, (0 ≤ j ∧ j < i) ∧ jM0 mi s j = jM0 mi s i ∧ jM1 mi s j < jM1 mi s i + jM2 mi s i ∧ jM1 mi s i < jM1 mi s j + jM2 mi s j
set_option maxRecDepth 100000 in
set_option maxHeartbeats 4000000 in
theorem lM_je {G : gG} (hsz : G.2.2.2.2.2.2 = true) {n : Nat} (hn : 2 ≤ n) (mi : Nat → Nat → Int) (ml : Nat → Nat → Int64) (s nr : Int) (s0 : 0 ≤ s) (s1 : s < 4) (hz2 : 0 ≤ nr ∧ nr ≤ 20) (hA : jAllM mi s nr) (q : Int) (q0 : 0 ≤ q) (q1 : q < nr) (hB : ∀ j : Int, 0 ≤ j → j < q → ¬ mCl mi s j) (hv : SV mi) (kk : (∀ j : Int, 0 ≤ j → j < q → ¬ (jM0 mi s j = jM0 mi s q ∧ jM1 mi s j < jM1 mi s q + jM2 mi s q ∧ jM1 mi s q < jM1 mi s j + jM2 mi s j)) → Go G mX12_join n 0 0 157 [some (gr 148), some (gi s), some (gi nr), some (gi (q + 1)), none, none, none, none] [] (gw mi ml) (fun r M => gE (¬ jAllM mi s nr) (-1000001) (mFd mi 0) ml r M ∨ (jAllM mi s nr ∧ ∃ z : Int, jRes (mCl mi s) nr z ∧ r = some (gi z) ∧ M = gw mi ml))) : ∀ (f : Nat) (k : Int) (hE : ∀ j : Int, 0 ≤ j → j < k → ¬ (jM0 mi s j = jM0 mi s q ∧ jM1 mi s j < jM1 mi s q + jM2 mi s q ∧ jM1 mi s q < jM1 mi s j + jM2 mi s j)), 0 ≤ k → k ≤ q → q - k < f → Go G mX12_join n 0 0 234 [some (gr 148), some (gi s), some (gi nr), some (gi q), some (gi ((60 * s) + (3 * q))), some (gi k), none, none] [] (gw mi ml) (fun r M => gE (¬ jAllM mi s nr) (-1000001) (mFd mi 0) ml r M ∨ (jAllM mi s nr ∧ ∃ z : Int, jRes (mCl mi s) nr z ∧ r = some (gi z) ∧ M = gw mi ml)) := by
  have hn1 : 1 ≤ n := by omega
  obtain ⟨hR, ht, hp, hq, hP, hQ⟩ := id hv
  have hVq : jV (mi 148 2) (jM0 mi s q) (jM1 mi s q) (jM2 mi s q) := hA q q0 q1
  unfold jV at hVq
  intro f
  induction f with
  | zero => intros; omega
  | succ f ih =>
    intro k hE k0 k1 k2
    have hVk : k < q → jV (mi 148 2) (jM0 mi s k) (jM1 mi s k) (jM2 mi s k) := fun z => hA k k0 (by omega)
    unfold jV at hVk
    refine Go.run hsz hn1 2 (pc' := 237) (lv' := [some (gr 148), some (gi s), some (gi nr), some (gi q), some (gi ((60 * s) + (3 * q))), some (gi k), none, none]) (st' := [gi q, gi k]) (M' := gw mi ml) rfl ?_
    refine Go.icmp_ge (by rfl) ⟨by omega, by omega⟩ ⟨by omega, by omega⟩ (fun kq1 => ?_) (fun kq1 => ?_)
    · refine Go.run hsz hn1 2 (pc' := 157) (lv' := [some (gr 148), some (gi s), some (gi nr), some (gi (q + 1)), some (gi ((60 * s) + (3 * q))), some (gi k), none, none]) (st' := []) (M' := gw mi ml) rfl ?_
      refine Go.dropl 4 ?_
      refine Go.dropl 5 ?_
      refine Go.run hsz hn1 0 (pc' := 157) (lv' := [some (gr 148), some (gi s), some (gi nr), some (gi (q + 1)), none, none, none, none]) (st' := []) (M' := gw mi ml) rfl ?_
      exact kk (fun j j0 j1 => hE j j0 (by omega))
    · refine Go.run hsz hn1 11 (pc' := 257) (lv' := [some (gr 148), some (gi s), some (gi nr), some (gi q), some (gi ((60 * s) + (3 * q))), some (gi k), some (gi ((60 * s) + (3 * k))), none]) (st' := [gi ((60 * s) + (3 * k)), gr 174]) (M' := gw mi ml) rfl ?_
      refine Go.iald (by rfl) (N := 240) (by rfl) (by omega) (by omega) (by decide) ?_
      refine Go.run hsz hn1 3 (pc' := 264) (lv' := [some (gr 148), some (gi s), some (gi nr), some (gi q), some (gi ((60 * s) + (3 * q))), some (gi k), some (gi ((60 * s) + (3 * k))), none]) (st' := [gi ((60 * s) + (3 * q)), gr 174, gi (jM0 mi s k)]) (M' := gw mi ml) rfl ?_
      refine Go.iald (by rfl) (N := 240) (by rfl) (by omega) (by omega) (by decide) ?_
      refine Go.run hsz hn1 0 (pc' := 265) (lv' := [some (gr 148), some (gi s), some (gi nr), some (gi q), some (gi ((60 * s) + (3 * q))), some (gi k), some (gi ((60 * s) + (3 * k))), none]) (st' := [gi (jM0 mi s q), gi (jM0 mi s k)]) (M' := gw mi ml) rfl ?_
      refine Go.icmp_ne (by rfl) (hR _ _) (hR _ _) (fun kq2 => ?_) (fun kq2 => ?_)
      · refine Go.run hsz hn1 3 (pc' := 277) (lv' := [some (gr 148), some (gi s), some (gi nr), some (gi q), some (gi ((60 * s) + (3 * q))), some (gi k), some (gi ((60 * s) + (3 * k))), some (gi 0)]) (st' := [gi 0]) (M' := gw mi ml) rfl ?_
        refine Go.if_eq (by rfl) ⟨by decide, by decide⟩ (fun kq3 => ?_) (fun kq3 => ?_)
        · refine Go.run hsz hn1 2 (pc' := 234) (lv' := [some (gr 148), some (gi s), some (gi nr), some (gi q), some (gi ((60 * s) + (3 * q))), some (gi (k + 1)), some (gi ((60 * s) + (3 * k))), some (gi 0)]) (st' := []) (M' := gw mi ml) rfl ?_
          refine Go.dropl 6 ?_
          refine Go.dropl 7 ?_
          refine Go.run hsz hn1 0 (pc' := 234) (lv' := [some (gr 148), some (gi s), some (gi nr), some (gi q), some (gi ((60 * s) + (3 * q))), some (gi (k + 1)), none, none]) (st' := []) (M' := gw mi ml) rfl ?_
          exact ih (k + 1) (fun j j0 j1 => (by
            by_cases e : j = k
            · rw [e]; omega
            · exact hE j j0 (by omega))) (by omega) (by omega) (by omega)
        · exact absurd kq3 (by decide)
      · refine Go.run hsz hn1 4 (pc' := 277) (lv' := [some (gr 148), some (gi s), some (gi nr), some (gi q), some (gi ((60 * s) + (3 * q))), some (gi k), some (gi ((60 * s) + (3 * k))), some (gi 1)]) (st' := [gi 1]) (M' := gw mi ml) rfl ?_
        refine Go.if_eq (by rfl) ⟨by decide, by decide⟩ (fun kq4 => ?_) (fun kq4 => ?_)
        · exact absurd kq4 (by decide)
        · refine Go.run hsz hn1 5 (pc' := 288) (lv' := [some (gr 148), some (gi s), some (gi nr), some (gi q), some (gi ((60 * s) + (3 * q))), some (gi k), some (gi ((60 * s) + (3 * k))), some (gi 1)]) (st' := [gi (((60 * s) + (3 * k)) + 1), gr 174]) (M' := gw mi ml) rfl ?_
          refine Go.iald (by rfl) (N := 240) (by rfl) (by omega) (by omega) (by decide) ?_
          refine Go.run hsz hn1 5 (pc' := 297) (lv' := [some (gr 148), some (gi s), some (gi nr), some (gi q), some (gi ((60 * s) + (3 * q))), some (gi k), some (gi ((60 * s) + (3 * k))), some (gi 1)]) (st' := [gi (((60 * s) + (3 * q)) + 1), gr 174, gi (jM1 mi s k)]) (M' := gw mi ml) rfl ?_
          refine Go.iald (by rfl) (N := 240) (by rfl) (by omega) (by omega) (by decide) ?_
          refine Go.run hsz hn1 5 (pc' := 306) (lv' := [some (gr 148), some (gi s), some (gi nr), some (gi q), some (gi ((60 * s) + (3 * q))), some (gi k), some (gi ((60 * s) + (3 * k))), some (gi 1)]) (st' := [gi (((60 * s) + (3 * q)) + 2), gr 174, gi (jM1 mi s q), gi (jM1 mi s k)]) (M' := gw mi ml) rfl ?_
          refine Go.iald (by rfl) (N := 240) (by rfl) (by omega) (by omega) (by decide) ?_
          refine Go.run hsz hn1 1 (pc' := 308) (lv' := [some (gr 148), some (gi s), some (gi nr), some (gi q), some (gi ((60 * s) + (3 * q))), some (gi k), some (gi ((60 * s) + (3 * k))), some (gi 1)]) (st' := [gi ((jM1 mi s q) + (jM2 mi s q)), gi (jM1 mi s k)]) (M' := gw mi ml) rfl ?_
          refine Go.icmp_ge (by rfl) (hR _ _) ⟨by omega, by omega⟩ (fun kq5 => ?_) (fun kq5 => ?_)
          · refine Go.run hsz hn1 2 (pc' := 234) (lv' := [some (gr 148), some (gi s), some (gi nr), some (gi q), some (gi ((60 * s) + (3 * q))), some (gi (k + 1)), some (gi ((60 * s) + (3 * k))), some (gi 1)]) (st' := []) (M' := gw mi ml) rfl ?_
            refine Go.dropl 6 ?_
            refine Go.dropl 7 ?_
            refine Go.run hsz hn1 0 (pc' := 234) (lv' := [some (gr 148), some (gi s), some (gi nr), some (gi q), some (gi ((60 * s) + (3 * q))), some (gi (k + 1)), none, none]) (st' := []) (M' := gw mi ml) rfl ?_
            exact ih (k + 1) (fun j j0 j1 => (by
              by_cases e : j = k
              · rw [e]; omega
              · exact hE j j0 (by omega))) (by omega) (by omega) (by omega)
          · refine Go.run hsz hn1 5 (pc' := 319) (lv' := [some (gr 148), some (gi s), some (gi nr), some (gi q), some (gi ((60 * s) + (3 * q))), some (gi k), some (gi ((60 * s) + (3 * k))), some (gi 1)]) (st' := [gi (((60 * s) + (3 * q)) + 1), gr 174]) (M' := gw mi ml) rfl ?_
            refine Go.iald (by rfl) (N := 240) (by rfl) (by omega) (by omega) (by decide) ?_
            refine Go.run hsz hn1 5 (pc' := 328) (lv' := [some (gr 148), some (gi s), some (gi nr), some (gi q), some (gi ((60 * s) + (3 * q))), some (gi k), some (gi ((60 * s) + (3 * k))), some (gi 1)]) (st' := [gi (((60 * s) + (3 * k)) + 1), gr 174, gi (jM1 mi s q)]) (M' := gw mi ml) rfl ?_
            refine Go.iald (by rfl) (N := 240) (by rfl) (by omega) (by omega) (by decide) ?_
            refine Go.run hsz hn1 5 (pc' := 337) (lv' := [some (gr 148), some (gi s), some (gi nr), some (gi q), some (gi ((60 * s) + (3 * q))), some (gi k), some (gi ((60 * s) + (3 * k))), some (gi 1)]) (st' := [gi (((60 * s) + (3 * k)) + 2), gr 174, gi (jM1 mi s k), gi (jM1 mi s q)]) (M' := gw mi ml) rfl ?_
            refine Go.iald (by rfl) (N := 240) (by rfl) (by omega) (by omega) (by decide) ?_
            refine Go.run hsz hn1 1 (pc' := 339) (lv' := [some (gr 148), some (gi s), some (gi nr), some (gi q), some (gi ((60 * s) + (3 * q))), some (gi k), some (gi ((60 * s) + (3 * k))), some (gi 1)]) (st' := [gi ((jM1 mi s k) + (jM2 mi s k)), gi (jM1 mi s q)]) (M' := gw mi ml) rfl ?_
            refine Go.icmp_ge (by rfl) (hR _ _) ⟨by omega, by omega⟩ (fun kq6 => ?_) (fun kq6 => ?_)
            · refine Go.run hsz hn1 2 (pc' := 234) (lv' := [some (gr 148), some (gi s), some (gi nr), some (gi q), some (gi ((60 * s) + (3 * q))), some (gi (k + 1)), some (gi ((60 * s) + (3 * k))), some (gi 1)]) (st' := []) (M' := gw mi ml) rfl ?_
              refine Go.dropl 6 ?_
              refine Go.dropl 7 ?_
              refine Go.run hsz hn1 0 (pc' := 234) (lv' := [some (gr 148), some (gi s), some (gi nr), some (gi q), some (gi ((60 * s) + (3 * q))), some (gi (k + 1)), none, none]) (st' := []) (M' := gw mi ml) rfl ?_
              exact ih (k + 1) (fun j j0 j1 => (by
                by_cases e : j = k
                · rw [e]; omega
                · exact hE j j0 (by omega))) (by omega) (by omega) (by omega)
            · refine Go.run hsz hn1 1 (pc' := 343) (lv' := [some (gr 148), some (gi s), some (gi nr), some (gi q), some (gi ((60 * s) + (3 * q))), some (gi k), some (gi ((60 * s) + (3 * k))), some (gi 1)]) (st' := [gi q]) (M' := gw mi ml) rfl ?_
              exact Go.iret (by rfl) (Or.inr ⟨hA, q, Or.inr ⟨⟨q0, q1⟩, Or.inr ⟨k, ⟨by omega, by omega⟩, by omega, by omega, by omega⟩, hB⟩, rfl, rfl⟩)
set_option maxRecDepth 100000 in
set_option maxHeartbeats 4000000 in
theorem lM_jn {G : gG} (hsz : G.2.2.2.2.2.2 = true) {n : Nat} (hn : 4 ≤ n) (mi : Nat → Nat → Int) (ml : Nat → Nat → Int64) (s nr : Int) (s0 : 0 ≤ s) (s1 : s < 4) (hz2 : 0 ≤ nr ∧ nr ≤ 20) (hA : jAllM mi s nr) (q : Int) (q0 : 0 ≤ q) (q1 : q < nr) (hB : ∀ j : Int, 0 ≤ j → j < q → ¬ mCl mi s j) (hv : SV mi) (kk : (∀ y : Int, jM1 mi s q ≤ y → y < jM1 mi s q + jM2 mi s q → mWho mi (jM0 mi s q) y (mi 148 6).toNat < 0) → Go G mX12_join n 0 0 234 [some (gr 148), some (gi s), some (gi nr), some (gi q), some (gi ((60 * s) + (3 * q))), some (gi 0), none, none] [] (gw mi ml) (fun r M => gE (¬ jAllM mi s nr) (-1000001) (mFd mi 0) ml r M ∨ (jAllM mi s nr ∧ ∃ z : Int, jRes (mCl mi s) nr z ∧ r = some (gi z) ∧ M = gw mi ml))) : ∀ (f : Nat) (k : Int) (hN : ∀ y : Int, jM1 mi s q ≤ y → y < k → mWho mi (jM0 mi s q) y (mi 148 6).toNat < 0), jM1 mi s q ≤ k → k ≤ jM1 mi s q + jM2 mi s q → jM1 mi s q + jM2 mi s q - k < f → Go G mX12_join n 0 0 183 [some (gr 148), some (gi s), some (gi nr), some (gi q), some (gi ((60 * s) + (3 * q))), some (gi k), none, none] [] (gw mi ml) (fun r M => gE (¬ jAllM mi s nr) (-1000001) (mFd mi 0) ml r M ∨ (jAllM mi s nr ∧ ∃ z : Int, jRes (mCl mi s) nr z ∧ r = some (gi z) ∧ M = gw mi ml)) := by
  have hn1 : 1 ≤ n := by omega
  obtain ⟨hR, ht, hp, hq, hP, hQ⟩ := id hv
  have hVq : jV (mi 148 2) (jM0 mi s q) (jM1 mi s q) (jM2 mi s q) := hA q q0 q1
  unfold jV at hVq
  intro f
  induction f with
  | zero => intros; omega
  | succ f ih =>
    intro k hN k0 k1 k2
    refine Go.run hsz hn1 6 (pc' := 193) (lv' := [some (gr 148), some (gi s), some (gi nr), some (gi q), some (gi ((60 * s) + (3 * q))), some (gi k), none, none]) (st' := [gi (((60 * s) + (3 * q)) + 1), gr 174, gi k]) (M' := gw mi ml) rfl ?_
    refine Go.iald (by rfl) (N := 240) (by rfl) (by omega) (by omega) (by decide) ?_
    refine Go.run hsz hn1 5 (pc' := 202) (lv' := [some (gr 148), some (gi s), some (gi nr), some (gi q), some (gi ((60 * s) + (3 * q))), some (gi k), none, none]) (st' := [gi (((60 * s) + (3 * q)) + 2), gr 174, gi (jM1 mi s q), gi k]) (M' := gw mi ml) rfl ?_
    refine Go.iald (by rfl) (N := 240) (by rfl) (by omega) (by omega) (by decide) ?_
    refine Go.run hsz hn1 1 (pc' := 204) (lv' := [some (gr 148), some (gi s), some (gi nr), some (gi q), some (gi ((60 * s) + (3 * q))), some (gi k), none, none]) (st' := [gi ((jM1 mi s q) + (jM2 mi s q)), gi k]) (M' := gw mi ml) rfl ?_
    refine Go.icmp_ge (by rfl) ⟨by omega, by omega⟩ ⟨by omega, by omega⟩ (fun kq1 => ?_) (fun kq1 => ?_)
    · refine Go.run hsz hn1 2 (pc' := 234) (lv' := [some (gr 148), some (gi s), some (gi nr), some (gi q), some (gi ((60 * s) + (3 * q))), some (gi 0), none, none]) (st' := []) (M' := gw mi ml) rfl ?_
      exact kk (fun y y0 y1 => hN y y0 (by omega))
    · refine Go.run hsz hn1 4 (pc' := 214) (lv' := [some (gr 148), some (gi s), some (gi nr), some (gi q), some (gi ((60 * s) + (3 * q))), some (gi k), none, none]) (st' := [gi ((60 * s) + (3 * q)), gr 174, gr 148]) (M' := gw mi ml) rfl ?_
      refine Go.iald (by rfl) (N := 240) (by rfl) (by omega) (by omega) (by decide) ?_
      refine Go.run hsz hn1 1 (pc' := 217) (lv' := [some (gr 148), some (gi s), some (gi nr), some (gi q), some (gi ((60 * s) + (3 * q))), some (gi k), none, none]) (st' := [gi k, gi (jM0 mi s q), gr 148]) (M' := gw mi ml) rfl ?_
      refine Go.callV (As := [gi (jM0 mi s q), gi k]) (b := 148) (st := []) (mc1 := 0) (mc := 0) (ms1 := 0) (ms := 0) (by rfl) rfl (c := 11) (N := 46) (by rfl) (by decide) (by rfl) (gcn 177 (by decide)).1 (gcn 177 (by decide)).2 rfl (Nat.le_of_ble_eq_true rfl) (by omega) (cM_whoIn hsz (n := n - 1) (by omega) mi ml (jM0 mi s q) k (hR _ _) ⟨by omega, by omega⟩ hv) ?_
      rintro _ _ ⟨rfl, rfl⟩
      refine Go.run hsz hn1 0 (pc' := 220) (lv' := [some (gr 148), some (gi s), some (gi nr), some (gi q), some (gi ((60 * s) + (3 * q))), some (gi k), none, none]) (st' := [gi (mWho mi (jM0 mi s q) k (mi 148 6).toNat)]) (M' := gw mi ml) rfl ?_
      refine Go.if_lt (by rfl) (by have := who_b (mi := mi) (jM0 mi s q) k (mi 148 6).toNat; exact ⟨by omega, by omega⟩) (fun kq2 => ?_) (fun kq2 => ?_)
      · refine Go.run hsz hn1 2 (pc' := 183) (lv' := [some (gr 148), some (gi s), some (gi nr), some (gi q), some (gi ((60 * s) + (3 * q))), some (gi (k + 1)), none, none]) (st' := []) (M' := gw mi ml) rfl ?_
        exact ih (k + 1) (fun y y0 y1 => (by
          by_cases e : y = k
          · rw [e]; omega
          · exact hN y y0 (by omega))) (by omega) (by omega) (by omega)
      · refine Go.run hsz hn1 1 (pc' := 224) (lv' := [some (gr 148), some (gi s), some (gi nr), some (gi q), some (gi ((60 * s) + (3 * q))), some (gi k), none, none]) (st' := [gi q]) (M' := gw mi ml) rfl ?_
        exact Go.iret (by rfl) (Or.inr ⟨hA, q, Or.inr ⟨⟨q0, q1⟩, Or.inl ⟨k, ⟨by omega, by omega⟩, by omega⟩, hB⟩, rfl, rfl⟩)
set_option maxRecDepth 100000 in
set_option maxHeartbeats 4000000 in
theorem lM_jo {G : gG} (hsz : G.2.2.2.2.2.2 = true) {n : Nat} (hn : 4 ≤ n) (mi : Nat → Nat → Int) (ml : Nat → Nat → Int64) (s nr : Int) (s0 : 0 ≤ s) (s1 : s < 4) (hz2 : 0 ≤ nr ∧ nr ≤ 20) (hA : jAllM mi s nr) (hv : SV mi) : ∀ (f : Nat) (k : Int) (hB : ∀ j : Int, 0 ≤ j → j < k → ¬ mCl mi s j), 0 ≤ k → k ≤ nr → nr - k < f → Go G mX12_join n 0 0 157 [some (gr 148), some (gi s), some (gi nr), some (gi k), none, none, none, none] [] (gw mi ml) (fun r M => gE (¬ jAllM mi s nr) (-1000001) (mFd mi 0) ml r M ∨ (jAllM mi s nr ∧ ∃ z : Int, jRes (mCl mi s) nr z ∧ r = some (gi z) ∧ M = gw mi ml)) := by
  have hn1 : 1 ≤ n := by omega
  obtain ⟨hR, ht, hp, hq, hP, hQ⟩ := id hv
  intro f
  induction f with
  | zero => intros; omega
  | succ f ih =>
    intro k hB k0 k1 k2
    have hVk : k < nr → jV (mi 148 2) (jM0 mi s k) (jM1 mi s k) (jM2 mi s k) := fun z => hA k k0 z
    unfold jV at hVk
    refine Go.run hsz hn1 2 (pc' := 159) (lv' := [some (gr 148), some (gi s), some (gi nr), some (gi k), none, none, none, none]) (st' := [gi nr, gi k]) (M' := gw mi ml) rfl ?_
    refine Go.icmp_ge (by rfl) ⟨by omega, by omega⟩ ⟨by omega, by omega⟩ (fun kq1 => ?_) (fun kq1 => ?_)
    · refine Go.run hsz hn1 1 (pc' := 357) (lv' := [some (gr 148), some (gi s), some (gi nr), some (gi k), none, none, none, none]) (st' := [gi (-1)]) (M' := gw mi ml) rfl ?_
      exact Go.iret (by rfl) (Or.inr ⟨hA, -1, Or.inl ⟨rfl, fun j j0 j1 => hB j j0 (by omega)⟩, rfl, rfl⟩)
    · refine Go.run hsz hn1 13 (pc' := 180) (lv' := [some (gr 148), some (gi s), some (gi nr), some (gi k), some (gi ((60 * s) + (3 * k))), none, none, none]) (st' := [gi (((60 * s) + (3 * k)) + 1), gr 174]) (M' := gw mi ml) rfl ?_
      refine Go.iald (by rfl) (N := 240) (by rfl) (by omega) (by omega) (by decide) ?_
      refine Go.run hsz hn1 1 (pc' := 183) (lv' := [some (gr 148), some (gi s), some (gi nr), some (gi k), some (gi ((60 * s) + (3 * k))), some (gi (jM1 mi s k)), none, none]) (st' := []) (M' := gw mi ml) rfl ?_
      refine lM_jn hsz (n := n) (by omega) mi ml s nr s0 s1 hz2 hA k k0 (by omega) hB hv (fun hN => ?_) ((jM2 mi s k).toNat + 1) (jM1 mi s k) (fun y y0 y1 => by omega) (by omega) (by omega) (by omega)
      refine lM_je hsz (n := n) (by omega) mi ml s nr s0 s1 hz2 hA k k0 (by omega) hB hv (fun hE => ?_) (k.toNat + 1) 0 (fun j j0 j1 => by omega) (by omega) (by omega) (by omega)
      exact ih (k + 1) (fun j j0 j1 => (by
        by_cases e : j = k
        · rw [e]
          rintro (⟨x, x1, x2⟩ | ⟨i, i1, i2⟩)
          · have := hN x x1.1 x1.2; omega
          · exact hE i i1.1 i1.2 i2
        · exact hB j j0 (by omega))) (by omega) (by omega) (by omega)
set_option maxRecDepth 100000 in
set_option maxHeartbeats 4000000 in
theorem lM_jv {G : gG} (hsz : G.2.2.2.2.2.2 = true) {n : Nat} (hn : 4 ≤ n) (mi : Nat → Nat → Int) (ml : Nat → Nat → Int64) (s nr : Int) (s0 : 0 ≤ s) (s1 : s < 4) (hz2 : 0 ≤ nr ∧ nr ≤ 20) (hv : SV mi) : ∀ (f : Nat) (k : Int) (hall : ∀ j : Int, 0 ≤ j → j < k → jV (mi 148 2) (jM0 mi s j) (jM1 mi s j) (jM2 mi s j)), 0 ≤ k → k ≤ nr → nr - k < f → Go G mX12_join n 0 0 57 [some (gr 148), some (gi s), some (gi nr), some (gi k), none, none, none, none] [] (gw mi ml) (fun r M => gE (¬ jAllM mi s nr) (-1000001) (mFd mi 0) ml r M ∨ (jAllM mi s nr ∧ ∃ z : Int, jRes (mCl mi s) nr z ∧ r = some (gi z) ∧ M = gw mi ml)) := by
  have hn1 : 1 ≤ n := by omega
  obtain ⟨hR, ht, hp, hq, hP, hQ⟩ := id hv
  intro f
  induction f with
  | zero => intros; omega
  | succ f ih =>
    intro k hall k0 k1 k2
    refine Go.run hsz hn1 2 (pc' := 59) (lv' := [some (gr 148), some (gi s), some (gi nr), some (gi k), none, none, none, none]) (st' := [gi nr, gi k]) (M' := gw mi ml) rfl ?_
    refine Go.icmp_ge (by rfl) ⟨by omega, by omega⟩ ⟨by omega, by omega⟩ (fun kq1 => ?_) (fun kq1 => ?_)
    · refine Go.run hsz hn1 2 (pc' := 157) (lv' := [some (gr 148), some (gi s), some (gi nr), some (gi 0), none, none, none, none]) (st' := []) (M' := gw mi ml) rfl ?_
      exact lM_jo hsz (n := n) (by omega) mi ml s nr s0 s1 hz2 (fun j j0 j1 => hall j j0 (by omega)) hv (nr.toNat + 1) 0 (fun j j0 j1 => by omega) (by omega) (by omega) (by omega)
    · refine Go.run hsz hn1 12 (pc' := 79) (lv' := [some (gr 148), some (gi s), some (gi nr), some (gi k), some (gi ((60 * s) + (3 * k))), none, none, none]) (st' := [gi ((60 * s) + (3 * k)), gr 174, gr 148]) (M' := gw mi ml) rfl ?_
      refine Go.iald (by rfl) (N := 240) (by rfl) (by omega) (by omega) (by decide) ?_
      refine Go.run hsz hn1 0 (pc' := 80) (lv' := [some (gr 148), some (gi s), some (gi nr), some (gi k), some (gi ((60 * s) + (3 * k))), none, none, none]) (st' := [gi (jM0 mi s k), gr 148]) (M' := gw mi ml) rfl ?_
      refine Go.callV (As := [gi (jM0 mi s k)]) (b := 148) (st := []) (mc1 := 0) (mc := 0) (ms1 := 0) (ms := 0) (by rfl) rfl (c := 11) (N := 46) (by rfl) (by decide) (by rfl) (gcn 155 (by decide)).1 (gcn 155 (by decide)).2 rfl (Nat.le_of_ble_eq_true rfl) (by omega) (cM_isPitch hsz (n := n - 1) (by omega) mi ml (jM0 mi s k) (hR _ _) hp.1 hp.2) ?_
      rintro _ _ ⟨rfl, rfl⟩
      refine Go.run hsz hn1 0 (pc' := 83) (lv' := [some (gr 148), some (gi s), some (gi nr), some (gi k), some (gi ((60 * s) + (3 * k))), none, none, none]) (st' := [gi (b2 (0 ≤ jM0 mi s k ∧ jM0 mi s k ≤ mi 148 2 - 1))]) (M' := gw mi ml) rfl ?_
      refine Go.if_eq (by rfl) (b2_rng _) (fun kq2 => ?_) (fun kq2 => ?_)
      · replace kq2 := b2_neg kq2
        refine Go.run hsz hn1 2 (pc' := 145) (lv' := [some (gr 148), some (gi s), some (gi nr), some (gi k), some (gi ((60 * s) + (3 * k))), none, none, none]) (st' := [gi 0, gr 148]) (M' := gw mi ml) rfl ?_
        refine Go.callV (As := [gi 0]) (b := 148) (st := []) (mc1 := 0) (mc := 0) (ms1 := 0) (ms := 0) (by rfl) rfl (c := 11) (N := 46) (by rfl) (by decide) (by rfl) (gcn 154 (by decide)).1 (gcn 154 (by decide)).2 rfl (Nat.le_of_ble_eq_true rfl) (by omega) (cM_finds hsz (n := n - 1) (by omega) mi ml 0 (by decide) (by decide)) ?_
        rintro _ _ ⟨rfl, rfl⟩
        refine Go.run hsz hn1 0 (pc' := 148) (lv' := [some (gr 148), some (gi s), some (gi nr), some (gi k), some (gi ((60 * s) + (3 * k))), none, none, none]) (st' := [gi (-1000001)]) (M' := gw (mFd mi 0) ml) rfl ?_
        exact Go.iret (by rfl) (Or.inl ⟨fun q => (by obtain ⟨v1, v2, v3, v4⟩ := q k (by omega) (by omega); omega), rfl, rfl⟩)
      · replace kq2 := b2_pos kq2
        refine Go.run hsz hn1 5 (pc' := 94) (lv' := [some (gr 148), some (gi s), some (gi nr), some (gi k), some (gi ((60 * s) + (3 * k))), none, none, none]) (st' := [gi (((60 * s) + (3 * k)) + 1), gr 174]) (M' := gw mi ml) rfl ?_
        refine Go.iald (by rfl) (N := 240) (by rfl) (by omega) (by omega) (by decide) ?_
        refine Go.run hsz hn1 0 (pc' := 95) (lv' := [some (gr 148), some (gi s), some (gi nr), some (gi k), some (gi ((60 * s) + (3 * k))), none, none, none]) (st' := [gi (jM1 mi s k)]) (M' := gw mi ml) rfl ?_
        refine Go.callS (As := [gi (jM1 mi s k)]) (st := []) (mc1 := 0) (mc := 0) (ms1 := 0) (ms := 0) (by rfl) rfl (gcn 157 (by decide)).1 (gcn 157 (by decide)).2 (Nat.le_of_ble_eq_true rfl) (by omega) (cM_isNight hsz (n := n - 1) (by omega) mi ml (jM1 mi s k) (hR _ _)) ?_
        rintro _ _ ⟨rfl, rfl⟩
        refine Go.run hsz hn1 0 (pc' := 98) (lv' := [some (gr 148), some (gi s), some (gi nr), some (gi k), some (gi ((60 * s) + (3 * k))), none, none, none]) (st' := [gi (b2 (0 ≤ jM1 mi s k ∧ jM1 mi s k ≤ 99))]) (M' := gw mi ml) rfl ?_
        refine Go.if_eq (by rfl) (b2_rng _) (fun kq3 => ?_) (fun kq3 => ?_)
        · replace kq3 := b2_neg kq3
          refine Go.run hsz hn1 2 (pc' := 145) (lv' := [some (gr 148), some (gi s), some (gi nr), some (gi k), some (gi ((60 * s) + (3 * k))), none, none, none]) (st' := [gi 0, gr 148]) (M' := gw mi ml) rfl ?_
          refine Go.callV (As := [gi 0]) (b := 148) (st := []) (mc1 := 0) (mc := 0) (ms1 := 0) (ms := 0) (by rfl) rfl (c := 11) (N := 46) (by rfl) (by decide) (by rfl) (gcn 154 (by decide)).1 (gcn 154 (by decide)).2 rfl (Nat.le_of_ble_eq_true rfl) (by omega) (cM_finds hsz (n := n - 1) (by omega) mi ml 0 (by decide) (by decide)) ?_
          rintro _ _ ⟨rfl, rfl⟩
          refine Go.run hsz hn1 0 (pc' := 148) (lv' := [some (gr 148), some (gi s), some (gi nr), some (gi k), some (gi ((60 * s) + (3 * k))), none, none, none]) (st' := [gi (-1000001)]) (M' := gw (mFd mi 0) ml) rfl ?_
          exact Go.iret (by rfl) (Or.inl ⟨fun q => (by obtain ⟨v1, v2, v3, v4⟩ := q k (by omega) (by omega); omega), rfl, rfl⟩)
        · replace kq3 := b2_pos kq3
          refine Go.run hsz hn1 5 (pc' := 109) (lv' := [some (gr 148), some (gi s), some (gi nr), some (gi k), some (gi ((60 * s) + (3 * k))), none, none, none]) (st' := [gi (((60 * s) + (3 * k)) + 2), gr 174]) (M' := gw mi ml) rfl ?_
          refine Go.iald (by rfl) (N := 240) (by rfl) (by omega) (by omega) (by decide) ?_
          refine Go.run hsz hn1 2 (pc' := 113) (lv' := [some (gr 148), some (gi s), some (gi nr), some (gi k), some (gi ((60 * s) + (3 * k))), none, none, none]) (st' := [gi 30, gi 1, gi (jM2 mi s k)]) (M' := gw mi ml) rfl ?_
          refine Go.callS (As := [gi (jM2 mi s k), gi 1, gi 30]) (st := []) (mc1 := 0) (mc := 0) (ms1 := 0) (ms := 0) (by rfl) rfl (gcn 153 (by decide)).1 (gcn 153 (by decide)).2 (Nat.le_of_ble_eq_true rfl) (by omega) (cM_in hsz (n := n - 1) (by omega) mi ml (jM2 mi s k) 1 30 (hR _ _) ⟨by decide, by decide⟩ ⟨by decide, by decide⟩) ?_
          rintro _ _ ⟨rfl, rfl⟩
          refine Go.run hsz hn1 0 (pc' := 116) (lv' := [some (gr 148), some (gi s), some (gi nr), some (gi k), some (gi ((60 * s) + (3 * k))), none, none, none]) (st' := [gi (b2 (1 ≤ jM2 mi s k ∧ jM2 mi s k ≤ 30))]) (M' := gw mi ml) rfl ?_
          refine Go.if_eq (by rfl) (b2_rng _) (fun kq4 => ?_) (fun kq4 => ?_)
          · replace kq4 := b2_neg kq4
            refine Go.run hsz hn1 2 (pc' := 145) (lv' := [some (gr 148), some (gi s), some (gi nr), some (gi k), some (gi ((60 * s) + (3 * k))), none, none, none]) (st' := [gi 0, gr 148]) (M' := gw mi ml) rfl ?_
            refine Go.callV (As := [gi 0]) (b := 148) (st := []) (mc1 := 0) (mc := 0) (ms1 := 0) (ms := 0) (by rfl) rfl (c := 11) (N := 46) (by rfl) (by decide) (by rfl) (gcn 154 (by decide)).1 (gcn 154 (by decide)).2 rfl (Nat.le_of_ble_eq_true rfl) (by omega) (cM_finds hsz (n := n - 1) (by omega) mi ml 0 (by decide) (by decide)) ?_
            rintro _ _ ⟨rfl, rfl⟩
            refine Go.run hsz hn1 0 (pc' := 148) (lv' := [some (gr 148), some (gi s), some (gi nr), some (gi k), some (gi ((60 * s) + (3 * k))), none, none, none]) (st' := [gi (-1000001)]) (M' := gw (mFd mi 0) ml) rfl ?_
            exact Go.iret (by rfl) (Or.inl ⟨fun q => (by obtain ⟨v1, v2, v3, v4⟩ := q k (by omega) (by omega); omega), rfl, rfl⟩)
          · replace kq4 := b2_pos kq4
            refine Go.run hsz hn1 5 (pc' := 127) (lv' := [some (gr 148), some (gi s), some (gi nr), some (gi k), some (gi ((60 * s) + (3 * k))), none, none, none]) (st' := [gi (((60 * s) + (3 * k)) + 1), gr 174]) (M' := gw mi ml) rfl ?_
            refine Go.iald (by rfl) (N := 240) (by rfl) (by omega) (by omega) (by decide) ?_
            refine Go.run hsz hn1 5 (pc' := 136) (lv' := [some (gr 148), some (gi s), some (gi nr), some (gi k), some (gi ((60 * s) + (3 * k))), none, none, none]) (st' := [gi (((60 * s) + (3 * k)) + 2), gr 174, gi (jM1 mi s k)]) (M' := gw mi ml) rfl ?_
            refine Go.iald (by rfl) (N := 240) (by rfl) (by omega) (by omega) (by decide) ?_
            refine Go.run hsz hn1 2 (pc' := 140) (lv' := [some (gr 148), some (gi s), some (gi nr), some (gi k), some (gi ((60 * s) + (3 * k))), none, none, none]) (st' := [gi 100, gi ((jM1 mi s k) + (jM2 mi s k))]) (M' := gw mi ml) rfl ?_
            refine Go.icmp_le (by rfl) ⟨by omega, by omega⟩ ⟨by decide, by decide⟩ (fun kq5 => ?_) (fun kq5 => ?_)
            · refine Go.run hsz hn1 2 (pc' := 57) (lv' := [some (gr 148), some (gi s), some (gi nr), some (gi (k + 1)), some (gi ((60 * s) + (3 * k))), none, none, none]) (st' := []) (M' := gw mi ml) rfl ?_
              refine Go.dropl 4 ?_
              refine Go.run hsz hn1 0 (pc' := 57) (lv' := [some (gr 148), some (gi s), some (gi nr), some (gi (k + 1)), none, none, none, none]) (st' := []) (M' := gw mi ml) rfl ?_
              exact ih (k + 1) (fun j j0 j1 => (by
                by_cases e : j = k
                · rw [e]; exact ⟨by omega, by omega, by omega, by omega⟩
                · exact hall j j0 (by omega))) (by omega) (by omega) (by omega)
            · refine Go.run hsz hn1 2 (pc' := 145) (lv' := [some (gr 148), some (gi s), some (gi nr), some (gi k), some (gi ((60 * s) + (3 * k))), none, none, none]) (st' := [gi 0, gr 148]) (M' := gw mi ml) rfl ?_
              refine Go.callV (As := [gi 0]) (b := 148) (st := []) (mc1 := 0) (mc := 0) (ms1 := 0) (ms := 0) (by rfl) rfl (c := 11) (N := 46) (by rfl) (by decide) (by rfl) (gcn 154 (by decide)).1 (gcn 154 (by decide)).2 rfl (Nat.le_of_ble_eq_true rfl) (by omega) (cM_finds hsz (n := n - 1) (by omega) mi ml 0 (by decide) (by decide)) ?_
              rintro _ _ ⟨rfl, rfl⟩
              refine Go.run hsz hn1 0 (pc' := 148) (lv' := [some (gr 148), some (gi s), some (gi nr), some (gi k), some (gi ((60 * s) + (3 * k))), none, none, none]) (st' := [gi (-1000001)]) (M' := gw (mFd mi 0) ml) rfl ?_
              exact Go.iret (by rfl) (Or.inl ⟨fun q => (by obtain ⟨v1, v2, v3, v4⟩ := q k (by omega) (by omega); omega), rfl, rfl⟩)
set_option maxRecDepth 100000 in
set_option maxHeartbeats 4000000 in
theorem pM_join {G : gG} (hsz : G.2.2.2.2.2.2 = true) {n : Nat} (hn : 4 ≤ n) (mi : Nat → Nat → Int) (ml : Nat → Nat → Int64) (s : Int) (r_s : rng s) (hv : SV mi) (hz : ∀ s : Int, 0 ≤ s → s < 4 → (0 ≤ mi 173 s.toNat ∧ mi 173 s.toNat ≤ 60) ∧ (mi 172 s.toNat = 0 ∨ mi 172 s.toNat = 8 ∨ mi 172 s.toNat = 16 ∨ mi 172 s.toNat = 32)) : gM G 234 n 0 0 [gr 148, gi s] (gw mi ml) (fun r M => gE (¬ (0 ≤ s ∧ s ≤ 3)) (-1000001) (mFd mi 0) ml r M ∨ gE ((0 ≤ s ∧ s ≤ 3) ∧ mi 172 s.toNat = 0) (-1000006) (mFd mi 5) ml r M ∨ gE ((0 ≤ s ∧ s ≤ 3) ∧ ¬ mi 172 s.toNat = 0 ∧ ¬ mi 173 s.toNat % 3 = 0) (-1000007) (mFd mi 6) ml r M ∨ (((0 ≤ s ∧ s ≤ 3) ∧ ¬ mi 172 s.toNat = 0 ∧ mi 173 s.toNat % 3 = 0) ∧ (fun r M => gE (¬ jAllM mi s (mi 173 s.toNat / 3)) (-1000001) (mFd mi 0) ml r M ∨ (jAllM mi s (mi 173 s.toNat / 3) ∧ ∃ z : Int, jRes (mCl mi s) (mi 173 s.toNat / 3) z ∧ r = some (gi z) ∧ M = gw mi ml)) r M)) := by
  have hn1 : 1 ≤ n := by omega
  obtain ⟨hR, ht, hp, hq, hP, hQ⟩ := id hv
  have hzs : (0 ≤ s ∧ s ≤ 3) → 0 ≤ mi 173 s.toNat ∧ mi 173 s.toNat ≤ 60 := fun h => (hz s (by omega) (by omega)).1
  refine gM.of mX12_join okX12_join (gcp 234 (by decide)).1 (gcp 234 (by decide)).2 (Nat.le_of_ble_eq_true rfl) ?_
  refine Go.run hsz hn1 1 (pc' := 1) (lv' := [some (gr 148), some (gi s), none, none, none, none, none, none]) (st' := [gi s]) (M' := gw mi ml) rfl ?_
  refine Go.callS (As := [gi s]) (st := []) (mc1 := 0) (mc := 0) (ms1 := 0) (ms := 0) (by rfl) rfl (gcn 237 (by decide)).1 (gcn 237 (by decide)).2 (Nat.le_of_ble_eq_true rfl) (by omega) (cM_isSheet hsz (n := n - 1) (by omega) mi ml s r_s) ?_
  rintro _ _ ⟨rfl, rfl⟩
  refine Go.run hsz hn1 0 (pc' := 4) (lv' := [some (gr 148), some (gi s), none, none, none, none, none, none]) (st' := [gi (b2 (0 ≤ s ∧ s ≤ 3))]) (M' := gw mi ml) rfl ?_
  refine Go.if_ne (by rfl) (b2_rng _) (fun kq1 => ?_) (fun kq1 => ?_)
  · replace kq1 := b2_pos kq1
    refine Go.run hsz hn1 3 (pc' := 18) (lv' := [some (gr 148), some (gi s), none, none, none, none, none, none]) (st' := [gi s, gr 172]) (M' := gw mi ml) rfl ?_
    refine Go.iald (by rfl) (N := 4) (by rfl) (by omega) (by omega) (by decide) ?_
    refine Go.run hsz hn1 0 (pc' := 19) (lv' := [some (gr 148), some (gi s), none, none, none, none, none, none]) (st' := [gi (mi 172 s.toNat)]) (M' := gw mi ml) rfl ?_
    refine Go.if_ne (by rfl) (hR _ _) (fun kq2 => ?_) (fun kq2 => ?_)
    · refine Go.run hsz hn1 3 (pc' := 33) (lv' := [some (gr 148), some (gi s), none, none, none, none, none, none]) (st' := [gi s, gr 173]) (M' := gw mi ml) rfl ?_
      refine Go.iald (by rfl) (N := 4) (by rfl) (by omega) (by omega) (by decide) ?_
      refine Go.run hsz hn1 1 (pc' := 35) (lv' := [some (gr 148), some (gi s), none, none, none, none, none, none]) (st' := [gi 3, gi (mi 173 s.toNat)]) (M' := gw mi ml) rfl ?_
      refine Go.iremN (by rfl) (hR _ _) (by decide) (by omega) ?_
      refine Go.run hsz hn1 0 (pc' := 36) (lv' := [some (gr 148), some (gi s), none, none, none, none, none, none]) (st' := [gi ((mi 173 s.toNat) % 3)]) (M' := gw mi ml) rfl ?_
      refine Go.if_eq (by rfl) ⟨by omega, by omega⟩ (fun kq3 => ?_) (fun kq3 => ?_)
      · refine Go.run hsz hn1 3 (pc' := 51) (lv' := [some (gr 148), some (gi s), none, none, none, none, none, none]) (st' := [gi s, gr 173]) (M' := gw mi ml) rfl ?_
        refine Go.iald (by rfl) (N := 4) (by rfl) (by omega) (by omega) (by decide) ?_
        refine Go.run hsz hn1 1 (pc' := 53) (lv' := [some (gr 148), some (gi s), none, none, none, none, none, none]) (st' := [gi 3, gi (mi 173 s.toNat)]) (M' := gw mi ml) rfl ?_
        refine Go.idivN (by rfl) (hR _ _) (by decide) (by omega) ?_
        refine Go.run hsz hn1 3 (pc' := 57) (lv' := [some (gr 148), some (gi s), some (gi ((mi 173 s.toNat) / 3)), some (gi 0), none, none, none, none]) (st' := []) (M' := gw mi ml) rfl ?_
        exact Go.imp (fun r M h => Or.inr (Or.inr (Or.inr ⟨by omega, h⟩))) (lM_jv hsz (n := n) (by omega) mi ml s (mi 173 s.toNat / 3) (by omega) (by omega) (by omega) hv ((mi 173 s.toNat / 3).toNat + 1) 0 (fun j j0 j1 => by omega) (by omega) (by omega) (by omega))
      · refine Go.run hsz hn1 2 (pc' := 42) (lv' := [some (gr 148), some (gi s), none, none, none, none, none, none]) (st' := [gi 6, gr 148]) (M' := gw mi ml) rfl ?_
        refine Go.callV (As := [gi 6]) (b := 148) (st := []) (mc1 := 0) (mc := 0) (ms1 := 0) (ms := 0) (by rfl) rfl (c := 11) (N := 46) (by rfl) (by decide) (by rfl) (gcn 154 (by decide)).1 (gcn 154 (by decide)).2 rfl (Nat.le_of_ble_eq_true rfl) (by omega) (cM_finds hsz (n := n - 1) (by omega) mi ml 6 (by decide) (by decide)) ?_
        rintro _ _ ⟨rfl, rfl⟩
        refine Go.run hsz hn1 0 (pc' := 45) (lv' := [some (gr 148), some (gi s), none, none, none, none, none, none]) (st' := [gi (-1000007)]) (M' := gw (mFd mi 6) ml) rfl ?_
        first | exact Go.iret (by rfl) (Or.inl ⟨by omega, rfl, rfl⟩) | exact Go.iret (by rfl) (Or.inr (Or.inl ⟨by omega, rfl, rfl⟩)) | exact Go.iret (by rfl) (Or.inr (Or.inr (Or.inl ⟨by omega, rfl, rfl⟩)))
    · refine Go.run hsz hn1 2 (pc' := 24) (lv' := [some (gr 148), some (gi s), none, none, none, none, none, none]) (st' := [gi 5, gr 148]) (M' := gw mi ml) rfl ?_
      refine Go.callV (As := [gi 5]) (b := 148) (st := []) (mc1 := 0) (mc := 0) (ms1 := 0) (ms := 0) (by rfl) rfl (c := 11) (N := 46) (by rfl) (by decide) (by rfl) (gcn 154 (by decide)).1 (gcn 154 (by decide)).2 rfl (Nat.le_of_ble_eq_true rfl) (by omega) (cM_finds hsz (n := n - 1) (by omega) mi ml 5 (by decide) (by decide)) ?_
      rintro _ _ ⟨rfl, rfl⟩
      refine Go.run hsz hn1 0 (pc' := 27) (lv' := [some (gr 148), some (gi s), none, none, none, none, none, none]) (st' := [gi (-1000006)]) (M' := gw (mFd mi 5) ml) rfl ?_
      first | exact Go.iret (by rfl) (Or.inl ⟨by omega, rfl, rfl⟩) | exact Go.iret (by rfl) (Or.inr (Or.inl ⟨by omega, rfl, rfl⟩)) | exact Go.iret (by rfl) (Or.inr (Or.inr (Or.inl ⟨by omega, rfl, rfl⟩)))
  · replace kq1 := b2_neg kq1
    refine Go.run hsz hn1 2 (pc' := 9) (lv' := [some (gr 148), some (gi s), none, none, none, none, none, none]) (st' := [gi 0, gr 148]) (M' := gw mi ml) rfl ?_
    refine Go.callV (As := [gi 0]) (b := 148) (st := []) (mc1 := 0) (mc := 0) (ms1 := 0) (ms := 0) (by rfl) rfl (c := 11) (N := 46) (by rfl) (by decide) (by rfl) (gcn 154 (by decide)).1 (gcn 154 (by decide)).2 rfl (Nat.le_of_ble_eq_true rfl) (by omega) (cM_finds hsz (n := n - 1) (by omega) mi ml 0 (by decide) (by decide)) ?_
    rintro _ _ ⟨rfl, rfl⟩
    refine Go.run hsz hn1 0 (pc' := 12) (lv' := [some (gr 148), some (gi s), none, none, none, none, none, none]) (st' := [gi (-1000001)]) (M' := gw (mFd mi 0) ml) rfl ?_
    first | exact Go.iret (by rfl) (Or.inl ⟨by omega, rfl, rfl⟩) | exact Go.iret (by rfl) (Or.inr (Or.inl ⟨by omega, rfl, rfl⟩)) | exact Go.iret (by rfl) (Or.inr (Or.inr (Or.inl ⟨by omega, rfl, rfl⟩)))

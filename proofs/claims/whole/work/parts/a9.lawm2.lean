set_option maxRecDepth 100000 in
set_option maxHeartbeats 4000000 in
theorem lM_ad8 {G : gG} (hsz : G.2.2.2.2.2.2 = true) {n : Nat} (hn : 3 ≤ n) (ml : Nat → Nat → Int64) (mi : Nat → Nat → Int) (hn0 : 0 ≤ mi 148 22 ∧ mi 148 22 ≤ 120) (hbs : ∀ i : Nat, (i : Int) < mi 148 22 → 0 ≤ mi 164 i ∧ mi 164 i ≤ 255) (S out : List Int) (o sd : Int) (t0 : Nat) : ∀ (f : Nat) (q : Int) (to so va : Int) (m : Nat → Nat → Int) (hm : rL mi m q to so va S out o sd) (hd : ∀ j : Nat, t0 ≤ j → j < q.toNat → lB (mi 164 j)), (t0 : Int) ≤ q → q ≤ mi 148 22 → mi 148 22 - q < f → Go G mX12_advance n 0 0 8 [some (gr 148), none] [] (gw m ml) (fun r M => r = none ∧ ∃ (m1 : Nat → Nat → Int) (fr1 to1 so1 va1 : Int), M = gw m1 ml ∧ rL mi m1 fr1 to1 so1 va1 S out o sd ∧ advR (mi 164) (mi 148 22).toNat t0 fr1 to1 so1 va1) := by
  have hn1 : 1 ≤ n := by omega

  intro f
  induction f with
  | zero => intros; omega
  | succ f ih =>
    intro q to so va m hm hd q0 q1 q2
    have e23 : m 148 23 = q := hm.2.2.1.1
    have hR := hm.1
    refine Go.run hsz hn1 3 (pc' := 13) (lv' := [some (gr 148), none]) (st' := [gi (m 148 23), gr 148]) (M' := gw m ml) rfl ?_
    refine Go.callV (As := [gi (m 148 23)]) (b := 148) (st := []) (mc1 := 0) (mc := 0) (ms1 := 0) (ms := 0) (by rfl) rfl (c := 11) (N := 46) (by rfl) (by decide) (by rfl) (gcn 189 (by decide)).1 (gcn 189 (by decide)).2 rfl (Nat.le_of_ble_eq_true rfl) (by omega) (cM_byteAt hsz (n := n - 1) (by omega) ml mi m _ _ _ _ S out o sd hm hn0 (m 148 23) (by omega) (by omega)) ?_
    rintro _ _ ⟨rfl, rfl⟩
    obtain ⟨x4, hx4⟩ : ∃ x4 : Int, x4 = bAt (mi 164) (mi 148 22) q := ⟨_, rfl⟩
    rw [show bAt (mi 164) (mi 148 22) (m 148 23) = x4 from (by rw [hx4, show m 148 23 = q from by omega])]
    have hx4f := bAt_f (mi 164) (mi 148 22) q
    rw [← hx4] at hx4f
    have hx4r : -1 ≤ x4 ∧ x4 ≤ 255 := (by have := hbs q.toNat; by_cases w9 : q < mi 148 22; (· have w8 := hx4f.1 w9; omega); (· have w8 := hx4f.2 w9; omega))
    refine Go.run hsz hn1 1 (pc' := 18) (lv' := [some (gr 148), none]) (st' := [gi 32, gi x4]) (M' := gw m ml) rfl ?_
    refine Go.icmp_ne (by rfl) ⟨by omega, by omega⟩ ⟨by decide, by decide⟩ (fun kq1 => ?_) (fun kq1 => ?_)
    · refine Go.run hsz hn1 0 (pc' := 34) (lv' := [some (gr 148), none]) (st' := []) (M' := gw m ml) rfl ?_
      have hbl : lEnd lB (mi 164) (mi 148 22).toNat t0 q.toNat := ⟨by omega, by omega, hd, (by by_cases w8 : q < mi 148 22; (· exact Or.inr (fun w9 => by have w7 : mi 164 q.toNat = 32 := w9; have := hx4f.1 w8; omega)); (· exact Or.inl (by omega)))⟩
      refine Go.run hsz hn1 7 (pc' := 47) (lv' := [some (gr 148), none]) (st' := [gi (m 148 23), gr 148]) (M' := gw (gu m 148 24 (m 148 23)) ml) rfl ?_
      refine Go.callV (As := [gi (m 148 23)]) (b := 148) (st := []) (mc1 := 0) (mc := 0) (ms1 := 0) (ms := 0) (by rfl) rfl (c := 11) (N := 46) (by rfl) (by decide) (by rfl) (gcn 189 (by decide)).1 (gcn 189 (by decide)).2 rfl (Nat.le_of_ble_eq_true rfl) (by omega) (cM_byteAt hsz (n := n - 1) (by omega) ml mi (gu m 148 24 (m 148 23)) _ _ _ _ S out o sd (rL_to hm ⟨by omega, by omega⟩) hn0 (m 148 23) (by omega) (by omega)) ?_
      rintro _ _ ⟨rfl, rfl⟩
      obtain ⟨x5, hx5⟩ : ∃ x5 : Int, x5 = bAt (mi 164) (mi 148 22) q := ⟨_, rfl⟩
      rw [show bAt (mi 164) (mi 148 22) (m 148 23) = x5 from (by rw [hx5, show m 148 23 = q from by omega])]
      have hx5f := bAt_f (mi 164) (mi 148 22) q
      rw [← hx5] at hx5f
      have hx5r : -1 ≤ x5 ∧ x5 ≤ 255 := (by have := hbs q.toNat; by_cases w9 : q < mi 148 22; (· have w8 := hx5f.1 w9; omega); (· have w8 := hx5f.2 w9; omega))
      refine Go.run hsz hn1 2 (pc' := 52) (lv' := [some (gr 148), some (gi x5)]) (st' := [gi x5]) (M' := gw (gu m 148 24 (m 148 23)) ml) rfl ?_
      refine Go.if_ge (by rfl) ⟨by omega, by omega⟩ (fun kq2 => ?_) (fun kq2 => ?_)
      · refine Go.run hsz hn1 1 (pc' := 64) (lv' := [some (gr 148), some (gi x5)]) (st' := [gi x5]) (M' := gw (gu m 148 24 (m 148 23)) ml) rfl ?_
        refine Go.callS (As := [gi x5]) (st := []) (mc1 := 0) (mc := 0) (ms1 := 0) (ms := 0) (by rfl) rfl (gcn 190 (by decide)).1 (gcn 190 (by decide)).2 (Nat.le_of_ble_eq_true rfl) (by omega) (cM_isA hsz (n := n - 1) (by omega) (gu m 148 24 (m 148 23)) ml x5 ⟨by omega, by omega⟩) ?_
        rintro _ _ ⟨rfl, rfl⟩
        refine Go.run hsz hn1 0 (pc' := 67) (lv' := [some (gr 148), some (gi x5)]) (st' := [gi (b2 (lA x5))]) (M' := gw (gu m 148 24 (m 148 23)) ml) rfl ?_
        refine Go.if_eq (by rfl) (b2_rng _) (fun kq3 => ?_) (fun kq3 => ?_)
        · replace kq3 := b2_neg kq3
          refine Go.run hsz hn1 1 (pc' := 135) (lv' := [some (gr 148), some (gi x5)]) (st' := [gi x5]) (M' := gw (gu m 148 24 (m 148 23)) ml) rfl ?_
          refine Go.callS (As := [gi x5]) (st := []) (mc1 := 0) (mc := 0) (ms1 := 0) (ms := 0) (by rfl) rfl (gcn 191 (by decide)).1 (gcn 191 (by decide)).2 (Nat.le_of_ble_eq_true rfl) (by omega) (cM_isD hsz (n := n - 1) (by omega) (gu m 148 24 (m 148 23)) ml x5 ⟨by omega, by omega⟩) ?_
          rintro _ _ ⟨rfl, rfl⟩
          refine Go.run hsz hn1 0 (pc' := 138) (lv' := [some (gr 148), some (gi x5)]) (st' := [gi (b2 (lD x5))]) (M' := gw (gu m 148 24 (m 148 23)) ml) rfl ?_
          refine Go.if_eq (by rfl) (b2_rng _) (fun kq4 => ?_) (fun kq4 => ?_)
          · replace kq4 := b2_neg kq4
            refine Go.run hsz hn1 11 (pc' := 251) (lv' := [some (gr 148), some (gi x5)]) (st' := [gi x5, gr 148]) (M' := gw (gu (gu (gu m 148 24 (m 148 23)) 148 24 ((m 148 23) + 1)) 148 26 x5) ml) rfl ?_
            refine Go.callS (As := [gi x5]) (st := [gr 148]) (mc1 := 0) (mc := 0) (ms1 := 0) (ms := 0) (by rfl) rfl (gcn 193 (by decide)).1 (gcn 193 (by decide)).2 (Nat.le_of_ble_eq_true rfl) (by omega) (cM_isM hsz (n := n - 1) (by omega) (gu (gu (gu m 148 24 (m 148 23)) 148 24 ((m 148 23) + 1)) 148 26 x5) ml x5 ⟨by omega, by omega⟩) ?_
            rintro _ _ ⟨rfl, rfl⟩
            refine Go.run hsz hn1 0 (pc' := 254) (lv' := [some (gr 148), some (gi x5)]) (st' := [gi (b2 (isSg x5)), gr 148]) (M' := gw (gu (gu (gu m 148 24 (m 148 23)) 148 24 ((m 148 23) + 1)) 148 26 x5) ml) rfl ?_
            refine Go.if_eq (by rfl) (b2_rng _) (fun kq5 => ?_) (fun kq5 => ?_)
            · replace kq5 := b2_neg kq5
              refine Go.run hsz hn1 2 (pc' := 265) (lv' := [some (gr 148), some (gi x5)]) (st' := []) (M' := gw (gu (gu (gu (gu m 148 24 (m 148 23)) 148 24 ((m 148 23) + 1)) 148 26 x5) 148 25 4) ml) rfl ?_
              have hqn : q < mi 148 22 := (by by_cases w8 : q < mi 148 22; (· exact w8); (· have := hx5f.2 w8; omega))
              have hxe := hx5f.1 hqn
              exact Go.vret (by rfl) ⟨rfl, _, _, _, _, _, rfl, (rL_so (rL_va (rL_to (rL_to hm ⟨by omega, by omega⟩) ⟨by omega, by omega⟩) ⟨by omega, by omega⟩) ⟨by omega, by omega⟩), q.toNat, q.toNat + 1, by omega, by omega, hbl, Or.inr ⟨by omega, Or.inr (Or.inr ⟨by rw [← hxe]; assumption, by rw [← hxe]; assumption, rfl, hxe, (by rw [← hxe]; first | rw [if_pos (by assumption)] | rw [if_neg (by assumption)])⟩)⟩⟩
            · replace kq5 := b2_pos kq5
              refine Go.run hsz hn1 3 (pc' := 265) (lv' := [some (gr 148), some (gi x5)]) (st' := []) (M' := gw (gu (gu (gu (gu m 148 24 (m 148 23)) 148 24 ((m 148 23) + 1)) 148 26 x5) 148 25 3) ml) rfl ?_
              have hqn : q < mi 148 22 := (by by_cases w8 : q < mi 148 22; (· exact w8); (· have := hx5f.2 w8; omega))
              have hxe := hx5f.1 hqn
              exact Go.vret (by rfl) ⟨rfl, _, _, _, _, _, rfl, (rL_so (rL_va (rL_to (rL_to hm ⟨by omega, by omega⟩) ⟨by omega, by omega⟩) ⟨by omega, by omega⟩) ⟨by omega, by omega⟩), q.toNat, q.toNat + 1, by omega, by omega, hbl, Or.inr ⟨by omega, Or.inr (Or.inr ⟨by rw [← hxe]; assumption, by rw [← hxe]; assumption, rfl, hxe, (by rw [← hxe]; first | rw [if_pos (by assumption)] | rw [if_neg (by assumption)])⟩)⟩⟩
          · replace kq4 := b2_pos kq4
            refine Go.run hsz hn1 3 (pc' := 146) (lv' := [some (gr 148), some (gi x5)]) (st' := []) (M' := gw (gu (gu m 148 24 (m 148 23)) 148 26 0) ml) rfl ?_
            have hcl : lD x5 := by assumption
            have hqn : q < mi 148 22 := (by have w9 := hcl; unfold lD at w9; by_cases w8 : q < mi 148 22; (· exact w8); (· have := hx5f.2 w8; omega))
            rw [e23]
            exact lM_ad146 hsz (n := n) (by omega) ml mi hn0 hbs S out o sd t0 q.toNat (by omega) hbl x5 (by rw [← hx5f.1 hqn]; exact hcl) ((mi 148 22).toNat + 1) q so _ (by rw [show ((q.toNat : Nat) : Int) = q by omega, show (q - q).toNat = 0 by omega]; exact rL_va (rL_to hm ⟨by omega, by omega⟩) ⟨by omega, by omega⟩) (fun j a1 a2 => by omega) (by omega) (by omega) (by omega)
        · replace kq3 := b2_pos kq3
          refine Go.run hsz hn1 0 (pc' := 70) (lv' := [some (gr 148), some (gi x5)]) (st' := []) (M' := gw (gu m 148 24 (m 148 23)) ml) rfl ?_
          have hcl : lA x5 := by assumption
          have hqn : q < mi 148 22 := (by have w9 := hcl; unfold lA at w9; by_cases w8 : q < mi 148 22; (· exact w8); (· have := hx5f.2 w8; omega))
          rw [e23]
          exact lM_ad70 hsz (n := n) (by omega) ml mi hn0 hbs S out o sd t0 q.toNat (by omega) hbl x5 (hx5f.1 hqn) hcl ((mi 148 22).toNat + 1) q so va _ (by rw [show ((q.toNat : Nat) : Int) = q by omega]; exact rL_to hm ⟨by omega, by omega⟩) (fun j a1 a2 => by omega) (by omega) (by omega) (by omega)
      · refine Go.run hsz hn1 4 (pc' := 265) (lv' := [some (gr 148), some (gi x5)]) (st' := []) (M' := gw (gu (gu m 148 24 (m 148 23)) 148 25 0) ml) rfl ?_
        have hqn : ¬ q < mi 148 22 := (fun w8 => by have := hx5f.1 w8; have := hbs q.toNat; omega)
        exact Go.vret (by rfl) ⟨rfl, _, _, _, _, _, rfl, (rL_so (rL_to hm ⟨by omega, by omega⟩) ⟨by omega, by omega⟩), q.toNat, q.toNat, by omega, by omega, hbl, Or.inl ⟨by omega, by omega, rfl⟩⟩
    · refine Go.run hsz hn1 7 (pc' := 8) (lv' := [some (gr 148), none]) (st' := []) (M' := gw (gu m 148 23 ((m 148 23) + 1)) ml) rfl ?_
      have hqn : q < mi 148 22 := (by by_cases w8 : q < mi 148 22; (· exact w8); (· have := hx4f.2 w8; omega))
      have hxe := hx4f.1 hqn
      rw [e23]
      exact ih (q + 1) to so va _ (rL_fr hm ⟨by omega, by omega⟩) (fun j a1 a2 => (by by_cases e : j = q.toNat; (· show _ = _; rw [e]; omega); (· exact hd j a1 (by omega)))) (by omega) (by omega) (by omega)
set_option maxRecDepth 100000 in
set_option maxHeartbeats 4000000 in
theorem cM_adv {G : gG} (hsz : G.2.2.2.2.2.2 = true) {n : Nat} (hn : 4 ≤ n) (ml : Nat → Nat → Int64) (mi : Nat → Nat → Int) (hn0 : 0 ≤ mi 148 22 ∧ mi 148 22 ≤ 120) (hbs : ∀ i : Nat, (i : Int) < mi 148 22 → 0 ≤ mi 164 i ∧ mi 164 i ≤ 255) (S out : List Int) (o sd : Int) (t0 : Nat) (ht0 : (t0 : Int) ≤ mi 148 22) (m : Nat → Nat → Int) (fr so va : Int) (hm : rL mi m fr t0 so va S out o sd) : gM G 194 n 0 0 [gr 148] (gw m ml) (fun r M => r = none ∧ ∃ (m1 : Nat → Nat → Int) (fr1 to1 so1 va1 : Int), M = gw m1 ml ∧ rL mi m1 fr1 to1 so1 va1 S out o sd ∧ advR (mi 164) (mi 148 22).toNat t0 fr1 to1 so1 va1) := by
  have hn1 : 1 ≤ n := by omega
  have e24 : m 148 24 = ((t0 : Nat) : Int) := hm.2.2.1.2.1
  refine gM.of mX12_advance okX12_advance (gcp 194 (by decide)).1 (gcp 194 (by decide)).2 (Nat.le_of_ble_eq_true rfl) ?_
  refine Go.run hsz hn1 4 (pc' := 8) (lv' := [some (gr 148), none]) (st' := []) (M' := gw (gu m 148 23 (m 148 24)) ml) rfl ?_
  rw [e24]; exact lM_ad8 hsz (n := n) (by omega) ml mi hn0 hbs S out o sd t0 ((mi 148 22).toNat + 1) t0 t0 so va _ (rL_fr hm ⟨by omega, by omega⟩) (fun j a1 a2 => by omega) (by omega) (by omega) (by omega)
theorem bnd_b (x : Int) : 0 ≤ bnd x ∧ bnd x ≤ 3 := by
  unfold bnd
  split <;> (try split) <;> (try split) <;> omega
theorem bnd_rng (x : Int) : rng (bnd x) := ⟨by have := bnd_b x; omega, by have := bnd_b x; omega⟩
set_option maxRecDepth 100000 in
set_option maxHeartbeats 4000000 in
theorem lM_end {G : gG} (hsz : G.2.2.2.2.2.2 = true) {n : Nat} (hn : 3 ≤ n) (ml : Nat → Nat → Int64) (mi : Nat → Nat → Int) (fr to so va sd : Int) : ∀ (f : Nat) (S out : List Int) (o : Int) (m : Nat → Nat → Int) (hm : rL mi m fr to so va S out o sd), S.length < f → out.length + S.length ≤ 120 → (-1000 ≤ o - S.length ∧ o ≤ 1000) → Go G mX12_ended n 0 0 0 [some (gr 148)] [] (gw m ml) (fun r M => r = none ∧ ∃ m1 : Nat → Nat → Int, M = gw m1 ml ∧ rL mi m1 fr to so va (edd S o out).1 (edd S o out).2.2 (edd S o out).2.1 sd) := by
  have hn1 : 1 ≤ n := by omega

  intro f
  induction f with
  | zero => intros; omega
  | succ f ih =>
    intro S out o m hm q0 q1 q2
    have htr := rL_tp hm
    have hR := hm.1
    refine Go.run hsz hn1 1 (pc' := 1) (lv' := [some (gr 148)]) (st' := [gr 148]) (M' := gw m ml) rfl ?_
    refine Go.callV (As := []) (b := 148) (st := []) (mc1 := 0) (mc := 0) (ms1 := 0) (ms := 0) (by rfl) rfl (c := 11) (N := 46) (by rfl) (by decide) (by rfl) (gcn 196 (by decide)).1 (gcn 196 (by decide)).2 rfl (Nat.le_of_ble_eq_true rfl) (by omega) (cM_top hsz (n := n - 1) (by omega) ml mi m _ _ _ _ S _ _ _ hm (by omega)) ?_
    rintro _ _ ⟨rfl, rfl⟩
    refine Go.run hsz hn1 1 (pc' := 7) (lv' := [some (gr 148)]) (st' := [gi 30000, gi (tp S)]) (M' := gw m ml) rfl ?_
    refine Go.icmp_ne (by rfl) htr ⟨by decide, by decide⟩ (fun kq1 => ?_) (fun kq1 => ?_)
    · refine Go.run hsz hn1 0 (pc' := 40) (lv' := [some (gr 148)]) (st' := []) (M' := gw m ml) rfl ?_
      exact Go.vret (by rfl) ⟨rfl, m, rfl, (by rw [edd_n (by omega)]; exact hm)⟩
    · refine Go.run hsz hn1 2 (pc' := 14) (lv' := [some (gr 148)]) (st' := [gi 30000, gr 148]) (M' := gw m ml) rfl ?_
      obtain ⟨S1, rfl⟩ := tp_c (S := S) (x := 30000) (by omega) (by decide)
      have hlc : ((30000 : Int) :: S1).length = S1.length + 1 := List.length_cons
      refine Go.callV (As := [gi 30000]) (b := 148) (st := []) (mc1 := 0) (mc := 0) (ms1 := 0) (ms := 0) (by rfl) rfl (c := 11) (N := 46) (by rfl) (by decide) (by rfl) (gcn 195 (by decide)).1 (gcn 195 (by decide)).2 rfl (Nat.le_of_ble_eq_true rfl) (by omega) (cM_emit hsz (n := n - 1) (by omega) ml mi m fr to so va (30000 :: S1) out o sd hm 30000 ⟨by decide, by decide⟩ (by omega)) ?_
      rintro _ _ ⟨rfl, m2, rfl, hm2⟩
      have e30b := hm2.2.2.2.1.2.1
      have e31b := hm2.2.2.2.1.2.2.1
      refine Go.run hsz hn1 13 (pc' := 0) (lv' := [some (gr 148)]) (st' := []) (M' := gw (gu (gu m2 148 30 ((m2 148 30) - 1)) 148 31 ((m2 148 31) - 1)) ml) rfl ?_
      rw [e31b, edd_c]
      exact ih S1 (out ++ [30000]) (o - 1) _ (rL_o (rL_pop hm2 (by omega) (by omega)) ⟨by omega, by omega⟩) (by omega) (by rw [List.length_append, List.length_singleton]; omega) (by omega)
theorem cM_ended {G : gG} (hsz : G.2.2.2.2.2.2 = true) {n : Nat} (hn : 3 ≤ n) (ml : Nat → Nat → Int64) (mi : Nat → Nat → Int) (fr to so va sd : Int) (S out : List Int) (o : Int) (m : Nat → Nat → Int) (hm : rL mi m fr to so va S out o sd) (hl : out.length + S.length ≤ 120) (ho : -1000 ≤ o - S.length ∧ o ≤ 1000) : gM G 198 n 0 0 [gr 148] (gw m ml) (fun r M => r = none ∧ ∃ m1 : Nat → Nat → Int, M = gw m1 ml ∧ rL mi m1 fr to so va (edd S o out).1 (edd S o out).2.2 (edd S o out).2.1 sd) := by
  refine gM.of mX12_ended okX12_ended (gcp 198 (by decide)).1 (gcp 198 (by decide)).2 (Nat.le_of_ble_eq_true rfl) ?_
  exact lM_end hsz (n := n) hn ml mi fr to so va sd (S.length + 1) S out o m hm (by omega) hl ho
set_option maxRecDepth 100000 in
set_option maxHeartbeats 4000000 in
theorem lM_stl {G : gG} (hsz : G.2.2.2.2.2.2 = true) {n : Nat} (hn : 3 ≤ n) (ml : Nat → Nat → Int64) (mi : Nat → Nat → Int) (fr to so va sd : Int) (o b : Int) (hb : 1 ≤ b ∧ b ≤ 3) : ∀ (f : Nat) (S out : List Int) (m : Nat → Nat → Int) (hm : rL mi m fr to so va S out o sd) (hB : sB S), S.length < f → out.length + S.length ≤ 120 → Go G mX12_settle n 0 0 0 [some (gr 148), some (gi b)] [] (gw m ml) (fun r M => r = none ∧ ∃ m1 : Nat → Nat → Int, M = gw m1 ml ∧ rL mi m1 fr to so va (stl b S out).1 (stl b S out).2 o sd) := by
  have hn1 : 1 ≤ n := by omega

  intro f
  induction f with
  | zero => intros; omega
  | succ f ih =>
    intro S out m hm hB q0 q1
    have htr := rL_tp hm
    have htb := (sB_tp hB).1
    have hbb := bnd_b (tp S)
    have hR := hm.1
    refine Go.run hsz hn1 1 (pc' := 1) (lv' := [some (gr 148), some (gi b)]) (st' := [gr 148]) (M' := gw m ml) rfl ?_
    refine Go.callV (As := []) (b := 148) (st := []) (mc1 := 0) (mc := 0) (ms1 := 0) (ms := 0) (by rfl) rfl (c := 11) (N := 46) (by rfl) (by decide) (by rfl) (gcn 196 (by decide)).1 (gcn 196 (by decide)).2 rfl (Nat.le_of_ble_eq_true rfl) (by omega) (cM_top hsz (n := n - 1) (by omega) ml mi m _ _ _ _ S _ _ _ hm (by omega)) ?_
    rintro _ _ ⟨rfl, rfl⟩
    refine Go.run hsz hn1 0 (pc' := 4) (lv' := [some (gr 148), some (gi b)]) (st' := [gi (tp S)]) (M' := gw m ml) rfl ?_
    refine Go.if_eq (by rfl) htr (fun kq1 => ?_) (fun kq1 => ?_)
    · refine Go.run hsz hn1 0 (pc' := 39) (lv' := [some (gr 148), some (gi b)]) (st' := []) (M' := gw m ml) rfl ?_
      exact Go.vret (by rfl) ⟨rfl, m, rfl, (by rw [stl_n (by omega) (by omega)]; exact hm)⟩
    · refine Go.run hsz hn1 1 (pc' := 8) (lv' := [some (gr 148), some (gi b)]) (st' := [gr 148]) (M' := gw m ml) rfl ?_
      refine Go.callV (As := []) (b := 148) (st := []) (mc1 := 0) (mc := 0) (ms1 := 0) (ms := 0) (by rfl) rfl (c := 11) (N := 46) (by rfl) (by decide) (by rfl) (gcn 196 (by decide)).1 (gcn 196 (by decide)).2 rfl (Nat.le_of_ble_eq_true rfl) (by omega) (cM_top hsz (n := n - 1) (by omega) ml mi m _ _ _ _ S _ _ _ hm (by omega)) ?_
      rintro _ _ ⟨rfl, rfl⟩
      refine Go.run hsz hn1 0 (pc' := 11) (lv' := [some (gr 148), some (gi b)]) (st' := [gi (tp S)]) (M' := gw m ml) rfl ?_
      refine Go.callS (As := [gi (tp S)]) (st := []) (mc1 := 0) (mc := 0) (ms1 := 0) (ms := 0) (by rfl) rfl (gcn 200 (by decide)).1 (gcn 200 (by decide)).2 (Nat.le_of_ble_eq_true rfl) (by omega) (cM_binds hsz (n := n - 1) (by omega) m ml (tp S) htr ⟨by omega, by omega⟩) ?_
      rintro _ _ ⟨rfl, rfl⟩
      refine Go.run hsz hn1 1 (pc' := 15) (lv' := [some (gr 148), some (gi b)]) (st' := [gi b, gi (bnd (tp S))]) (M' := gw m ml) rfl ?_
      refine Go.icmp_lt (by rfl) (bnd_rng _) ⟨by omega, by omega⟩ (fun kq2 => ?_) (fun kq2 => ?_)
      · refine Go.run hsz hn1 0 (pc' := 39) (lv' := [some (gr 148), some (gi b)]) (st' := []) (M' := gw m ml) rfl ?_
        exact Go.vret (by rfl) ⟨rfl, m, rfl, (by rw [stl_n (by omega) (by omega)]; exact hm)⟩
      · refine Go.run hsz hn1 2 (pc' := 20) (lv' := [some (gr 148), some (gi b)]) (st' := [gr 148, gr 148]) (M' := gw m ml) rfl ?_
        refine Go.callV (As := []) (b := 148) (st := [gr 148]) (mc1 := 0) (mc := 0) (ms1 := 0) (ms := 0) (by rfl) rfl (c := 11) (N := 46) (by rfl) (by decide) (by rfl) (gcn 196 (by decide)).1 (gcn 196 (by decide)).2 rfl (Nat.le_of_ble_eq_true rfl) (by omega) (cM_top hsz (n := n - 1) (by omega) ml mi m _ _ _ _ S _ _ _ hm (by omega)) ?_
        rintro _ _ ⟨rfl, rfl⟩
        refine Go.run hsz hn1 0 (pc' := 23) (lv' := [some (gr 148), some (gi b)]) (st' := [gi (tp S), gr 148]) (M' := gw m ml) rfl ?_
        obtain ⟨S1, hS1⟩ := tp_c (S := S) (x := tp S) rfl (by omega)
        obtain ⟨s1, hs1⟩ : ∃ s1, s1 = tp S := ⟨_, rfl⟩
        rw [← hs1] at hS1
        have hlc : (s1 :: S1).length = S1.length + 1 := List.length_cons
        have hlS : S.length = S1.length + 1 := (by rw [hS1]; exact hlc)
        refine Go.callV (As := [gi (tp S)]) (b := 148) (st := []) (mc1 := 0) (mc := 0) (ms1 := 0) (ms := 0) (by rfl) rfl (c := 11) (N := 46) (by rfl) (by decide) (by rfl) (gcn 195 (by decide)).1 (gcn 195 (by decide)).2 rfl (Nat.le_of_ble_eq_true rfl) (by omega) (cM_emit hsz (n := n - 1) (by omega) ml mi m fr to so va S out o sd hm (tp S) htr (by omega)) ?_
        rintro _ _ ⟨rfl, m2, rfl, hm2⟩
        have e30b := hm2.2.2.2.1.2.1
        refine Go.run hsz hn1 7 (pc' := 0) (lv' := [some (gr 148), some (gi b)]) (st' := []) (M' := gw (gu m2 148 30 ((m2 148 30) - 1)) ml) rfl ?_
        rw [← hs1] at hm2
        have hbs1 : b ≤ bnd s1 := (by rw [hs1]; omega)
        subst hS1
        rw [stl_c hbs1]
        exact ih S1 (out ++ [s1]) _ (rL_pop hm2 (by omega) (by omega)) (sB_tl hB) (by omega) (by rw [List.length_append, List.length_singleton]; omega)
theorem cM_settle {G : gG} (hsz : G.2.2.2.2.2.2 = true) {n : Nat} (hn : 3 ≤ n) (ml : Nat → Nat → Int64) (mi : Nat → Nat → Int) (fr to so va sd : Int) (S out : List Int) (o : Int) (m : Nat → Nat → Int) (hm : rL mi m fr to so va S out o sd) (hl : out.length + S.length ≤ 120) (hB : sB S) (b : Int) (hb : 1 ≤ b ∧ b ≤ 3) : gM G 199 n 0 0 [gr 148, gi b] (gw m ml) (fun r M => r = none ∧ ∃ m1 : Nat → Nat → Int, M = gw m1 ml ∧ rL mi m1 fr to so va (stl b S out).1 (stl b S out).2 o sd) := by
  refine gM.of mX12_settle okX12_settle (gcp 199 (by decide)).1 (gcp 199 (by decide)).2 (Nat.le_of_ble_eq_true rfl) ?_
  exact lM_stl hsz (n := n) hn ml mi fr to so va sd o b hb (S.length + 1) S out m hm hB (by omega) hl
set_option maxRecDepth 100000 in
set_option maxHeartbeats 4000000 in
theorem cM_begins {G : gG} (hsz : G.2.2.2.2.2.2 = true) {n : Nat} (hn : 5 ≤ n) (ml : Nat → Nat → Int64) (k : Nat) (mi m : Nat → Nat → Int) (fr to so va : Int) (S out : List Int) (o sd : Int) (hm : rL mi m fr to so va S out o sd) (t v : Int) (hk9 : rTk t v so va) (hI : syI k (true, S, o, out, sd)) (hk : k < 120) : gM G 201 n 0 0 [gr 148] (gw m ml) (fun r M => ∃ (m1 : Nat → Nat → Int) (b : Int), M = gw m1 ml ∧ r = some (gi b) ∧ rB2 mi m1 fr to so va (syB t v S o out sd) (b2 (so = 3)) b) := by
  have hn1 : 1 ≤ n := by omega
  have e23 : m 148 23 = fr := hm.2.2.1.1
  have e24 : m 148 24 = to := hm.2.2.1.2.1
  have e25 : m 148 25 = so := hm.2.2.1.2.2.1
  have e26 : m 148 26 = va := hm.2.2.1.2.2.2
  have e29 : m 148 29 = out.length := hm.2.2.2.1.1
  have e30 : m 148 30 = S.length := hm.2.2.2.1.2.1
  have e31 : m 148 31 = o := hm.2.2.2.1.2.2.1
  have e32 : m 148 32 = sd := hm.2.2.2.1.2.2.2
  have e22 : m 148 22 = mi 148 22 := hm.2.1.2 22 (by decide)
  have hR := hm.1
  have hi1 : out.length + S.length ≤ k := hI.1
  have hi2 : (S.length : Int) ≤ k + o := hI.2.1
  have hi3 : o ≤ 8 := hI.2.2.1
  have hi4 : 0 ≤ sd := hI.2.2.2.1
  have hi5 : sd ≤ k := hI.2.2.2.2
  have hsr := (rTk_z hk9).2.2.2.2
  have hva := rTk_va hk9
  have hr26 : -2147483648 ≤ m 148 26 ∧ m 148 26 < 2147483648 := hR 148 26
  refine gM.of mX12_begins okX12_begins (gcp 201 (by decide)).1 (gcp 201 (by decide)).2 (Nat.le_of_ble_eq_true rfl) ?_
  refine Go.run hsz hn1 3 (pc' := 5) (lv' := [some (gr 148)]) (st' := [gi 1, gi (m 148 25)]) (M' := gw m ml) rfl ?_
  refine Go.icmp_eq (by rfl) (hR _ _) ⟨by decide, by decide⟩ (fun kq1 => ?_) (fun kq1 => ?_)
  · refine Go.run hsz hn1 4 (pc' := 22) (lv' := [some (gr 148)]) (st' := [gi 1, gi (m 148 25), gr 148]) (M' := gw m ml) rfl ?_
    refine Go.icmp_ne (by rfl) (hR _ _) ⟨by decide, by decide⟩ (fun kq2 => ?_) (fun kq2 => ?_)
    · refine Go.run hsz hn1 2 (pc' := 40) (lv' := [some (gr 148)]) (st' := [gi (m 148 26), gr 148]) (M' := gw m ml) rfl ?_
      refine Go.callV (As := [gi (m 148 26)]) (b := 148) (st := []) (mc1 := 0) (mc := 0) (ms1 := 0) (ms := 0) (by rfl) rfl (c := 11) (N := 46) (by rfl) (by decide) (by rfl) (gcn 195 (by decide)).1 (gcn 195 (by decide)).2 rfl (Nat.le_of_ble_eq_true rfl) (by omega) (cM_emit hsz (n := n - 1) (by omega) ml mi m fr to so va S out o sd hm (m 148 26) ⟨by omega, by omega⟩ (by omega)) ?_
      rintro _ _ ⟨rfl, m2, rfl, hm2⟩
      have hR2 := hm2.1
      have e32b := hm2.2.2.2.1.2.2.2
      refine Go.run hsz hn1 7 (pc' := 54) (lv' := [some (gr 148)]) (st' := [gr 148]) (M' := gw (gu m2 148 32 ((m2 148 32) + 1)) ml) rfl ?_
      refine Go.callV (As := []) (b := 148) (st := []) (mc1 := 0) (mc := 0) (ms1 := 0) (ms := 0) (by rfl) rfl (c := 11) (N := 46) (by rfl) (by decide) (by rfl) (gcn 198 (by decide)).1 (gcn 198 (by decide)).2 rfl (Nat.le_of_ble_eq_true rfl) (by omega) (cM_ended hsz (n := n - 1) (by omega) ml mi fr to so va _ S (out ++ [m 148 26]) o (gu m2 148 32 ((m2 148 32) + 1)) (rL_sd hm2 ⟨by omega, by omega⟩) (by rw [List.length_append, List.length_singleton]; omega) (by omega)) ?_
      rintro _ _ ⟨rfl, m3, rfl, hm3⟩
      refine Go.run hsz hn1 1 (pc' := 58) (lv' := [some (gr 148)]) (st' := [gi 1]) (M' := gw m3 ml) rfl ?_
      rw [e32b] at hm3
      exact Go.zret (by rfl) (Or.inr rfl) ⟨_, _, rfl, rfl, Or.inl ⟨rfl, _, syB_num hk9 (by omega) (by first | rw [if_pos (by omega)]; omega | rw [if_neg (by omega)]; omega), hm3, (by unfold b2; dsimp only; rw [if_neg (by omega), if_neg (by decide)])⟩⟩
    · refine Go.run hsz hn1 5 (pc' := 40) (lv' := [some (gr 148)]) (st' := [gi (10000 + (m 148 26)), gr 148]) (M' := gw m ml) rfl ?_
      refine Go.callV (As := [gi (10000 + (m 148 26))]) (b := 148) (st := []) (mc1 := 0) (mc := 0) (ms1 := 0) (ms := 0) (by rfl) rfl (c := 11) (N := 46) (by rfl) (by decide) (by rfl) (gcn 195 (by decide)).1 (gcn 195 (by decide)).2 rfl (Nat.le_of_ble_eq_true rfl) (by omega) (cM_emit hsz (n := n - 1) (by omega) ml mi m fr to so va S out o sd hm (10000 + (m 148 26)) ⟨by omega, by omega⟩ (by omega)) ?_
      rintro _ _ ⟨rfl, m2, rfl, hm2⟩
      have hR2 := hm2.1
      have e32b := hm2.2.2.2.1.2.2.2
      refine Go.run hsz hn1 7 (pc' := 54) (lv' := [some (gr 148)]) (st' := [gr 148]) (M' := gw (gu m2 148 32 ((m2 148 32) + 1)) ml) rfl ?_
      refine Go.callV (As := []) (b := 148) (st := []) (mc1 := 0) (mc := 0) (ms1 := 0) (ms := 0) (by rfl) rfl (c := 11) (N := 46) (by rfl) (by decide) (by rfl) (gcn 198 (by decide)).1 (gcn 198 (by decide)).2 rfl (Nat.le_of_ble_eq_true rfl) (by omega) (cM_ended hsz (n := n - 1) (by omega) ml mi fr to so va _ S (out ++ [10000 + (m 148 26)]) o (gu m2 148 32 ((m2 148 32) + 1)) (rL_sd hm2 ⟨by omega, by omega⟩) (by rw [List.length_append, List.length_singleton]; omega) (by omega)) ?_
      rintro _ _ ⟨rfl, m3, rfl, hm3⟩
      refine Go.run hsz hn1 1 (pc' := 58) (lv' := [some (gr 148)]) (st' := [gi 1]) (M' := gw m3 ml) rfl ?_
      rw [e32b] at hm3
      exact Go.zret (by rfl) (Or.inr rfl) ⟨_, _, rfl, rfl, Or.inl ⟨rfl, _, syB_num hk9 (by omega) (by first | rw [if_pos (by omega)]; omega | rw [if_neg (by omega)]; omega), hm3, (by unfold b2; dsimp only; rw [if_neg (by omega), if_neg (by decide)])⟩⟩
  · refine Go.run hsz hn1 3 (pc' := 13) (lv' := [some (gr 148)]) (st' := [gi 2, gi (m 148 25)]) (M' := gw m ml) rfl ?_
    refine Go.icmp_ne (by rfl) (hR _ _) ⟨by decide, by decide⟩ (fun kq3 => ?_) (fun kq3 => ?_)
    · refine Go.run hsz hn1 3 (pc' := 64) (lv' := [some (gr 148)]) (st' := [gi 3, gi (m 148 25)]) (M' := gw m ml) rfl ?_
      refine Go.icmp_ne (by rfl) (hR _ _) ⟨by decide, by decide⟩ (fun kq4 => ?_) (fun kq4 => ?_)
      · refine Go.run hsz hn1 1 (pc' := 95) (lv' := [some (gr 148)]) (st' := [gi 0]) (M' := gw m ml) rfl ?_
        exact Go.zret (by rfl) (Or.inl rfl) ⟨_, _, rfl, rfl, Or.inr ⟨rfl, syB_none hk9 (by omega) (by omega), (true, S, o, out, sd), hm⟩⟩
      · refine Go.run hsz hn1 3 (pc' := 73) (lv' := [some (gr 148)]) (st' := [gi 40, gi (m 148 26)]) (M' := gw m ml) rfl ?_
        refine Go.icmp_eq (by rfl) (hR _ _) ⟨by decide, by decide⟩ (fun kq5 => ?_) (fun kq5 => ?_)
        · refine Go.run hsz hn1 3 (pc' := 91) (lv' := [some (gr 148)]) (st' := [gi 8, gi (m 148 31)]) (M' := gw m ml) rfl ?_
          refine Go.icmp_ne (by rfl) (hR _ _) ⟨by decide, by decide⟩ (fun kq6 => ?_) (fun kq6 => ?_)
          · refine Go.run hsz hn1 10 (pc' := 113) (lv' := [some (gr 148)]) (st' := [gi 40, gi (m 148 26), gr 148]) (M' := gw (gu m 148 31 ((m 148 31) + 1)) ml) rfl ?_
            refine Go.icmp_ne (by rfl) (hR _ _) ⟨by decide, by decide⟩ (fun kq7 => ?_) (fun kq7 => ?_)
            · refine Go.run hsz hn1 1 (pc' := 125) (lv' := [some (gr 148)]) (st' := [gi 30000, gr 148]) (M' := gw (gu m 148 31 ((m 148 31) + 1)) ml) rfl ?_
              refine Go.callV (As := [gi 30000]) (b := 148) (st := []) (mc1 := 0) (mc := 0) (ms1 := 0) (ms := 0) (by rfl) rfl (c := 11) (N := 46) (by rfl) (by decide) (by rfl) (gcn 197 (by decide)).1 (gcn 197 (by decide)).2 rfl (Nat.le_of_ble_eq_true rfl) (by omega) (cM_pend hsz (n := n - 1) (by omega) ml mi (gu m 148 31 ((m 148 31) + 1)) fr to so va S out _ sd (rL_o hm ⟨by omega, by omega⟩) 30000 ⟨by decide, by decide⟩ (by omega)) ?_
              rintro _ _ ⟨rfl, m3, rfl, hm3⟩
              refine Go.run hsz hn1 1 (pc' := 129) (lv' := [some (gr 148)]) (st' := [gi 1]) (M' := gw m3 ml) rfl ?_
              first | (exfalso; omega) | (rw [e31] at hm3; have h9 := syB_open (S := S) (out := out) (sd := sd) (o := o) hk9 (by omega) (by omega) (by omega); (first | rw [if_pos (by omega)] at h9 | rw [if_neg (by omega)] at h9); exact Go.zret (by rfl) (Or.inr rfl) ⟨_, _, rfl, rfl, Or.inl ⟨rfl, _, h9, hm3, (by unfold b2; rw [if_pos (by omega), if_pos rfl])⟩⟩)
            · refine Go.run hsz hn1 2 (pc' := 125) (lv' := [some (gr 148)]) (st' := [gi 20040, gr 148]) (M' := gw (gu m 148 31 ((m 148 31) + 1)) ml) rfl ?_
              refine Go.callV (As := [gi 20040]) (b := 148) (st := []) (mc1 := 0) (mc := 0) (ms1 := 0) (ms := 0) (by rfl) rfl (c := 11) (N := 46) (by rfl) (by decide) (by rfl) (gcn 197 (by decide)).1 (gcn 197 (by decide)).2 rfl (Nat.le_of_ble_eq_true rfl) (by omega) (cM_pend hsz (n := n - 1) (by omega) ml mi (gu m 148 31 ((m 148 31) + 1)) fr to so va S out _ sd (rL_o hm ⟨by omega, by omega⟩) 20040 ⟨by decide, by decide⟩ (by omega)) ?_
              rintro _ _ ⟨rfl, m3, rfl, hm3⟩
              refine Go.run hsz hn1 1 (pc' := 129) (lv' := [some (gr 148)]) (st' := [gi 1]) (M' := gw m3 ml) rfl ?_
              first | (exfalso; omega) | (rw [e31] at hm3; have h9 := syB_open (S := S) (out := out) (sd := sd) (o := o) hk9 (by omega) (by omega) (by omega); (first | rw [if_pos (by omega)] at h9 | rw [if_neg (by omega)] at h9); exact Go.zret (by rfl) (Or.inr rfl) ⟨_, _, rfl, rfl, Or.inl ⟨rfl, _, h9, hm3, (by unfold b2; rw [if_pos (by omega), if_pos rfl])⟩⟩)
          · refine Go.run hsz hn1 1 (pc' := 95) (lv' := [some (gr 148)]) (st' := [gi 0]) (M' := gw m ml) rfl ?_
            exact Go.zret (by rfl) (Or.inl rfl) ⟨_, _, rfl, rfl, Or.inr ⟨rfl, syB_none hk9 (by omega) (by omega), (true, S, o, out, sd), hm⟩⟩
        · refine Go.run hsz hn1 3 (pc' := 82) (lv' := [some (gr 148)]) (st' := [gi 45, gi (m 148 26)]) (M' := gw m ml) rfl ?_
          refine Go.icmp_ne (by rfl) (hR _ _) ⟨by decide, by decide⟩ (fun kq8 => ?_) (fun kq8 => ?_)
          · refine Go.run hsz hn1 1 (pc' := 95) (lv' := [some (gr 148)]) (st' := [gi 0]) (M' := gw m ml) rfl ?_
            exact Go.zret (by rfl) (Or.inl rfl) ⟨_, _, rfl, rfl, Or.inr ⟨rfl, syB_none hk9 (by omega) (by omega), (true, S, o, out, sd), hm⟩⟩
          · refine Go.run hsz hn1 3 (pc' := 91) (lv' := [some (gr 148)]) (st' := [gi 8, gi (m 148 31)]) (M' := gw m ml) rfl ?_
            refine Go.icmp_ne (by rfl) (hR _ _) ⟨by decide, by decide⟩ (fun kq9 => ?_) (fun kq9 => ?_)
            · refine Go.run hsz hn1 10 (pc' := 113) (lv' := [some (gr 148)]) (st' := [gi 40, gi (m 148 26), gr 148]) (M' := gw (gu m 148 31 ((m 148 31) + 1)) ml) rfl ?_
              refine Go.icmp_ne (by rfl) (hR _ _) ⟨by decide, by decide⟩ (fun kq10 => ?_) (fun kq10 => ?_)
              · refine Go.run hsz hn1 1 (pc' := 125) (lv' := [some (gr 148)]) (st' := [gi 30000, gr 148]) (M' := gw (gu m 148 31 ((m 148 31) + 1)) ml) rfl ?_
                refine Go.callV (As := [gi 30000]) (b := 148) (st := []) (mc1 := 0) (mc := 0) (ms1 := 0) (ms := 0) (by rfl) rfl (c := 11) (N := 46) (by rfl) (by decide) (by rfl) (gcn 197 (by decide)).1 (gcn 197 (by decide)).2 rfl (Nat.le_of_ble_eq_true rfl) (by omega) (cM_pend hsz (n := n - 1) (by omega) ml mi (gu m 148 31 ((m 148 31) + 1)) fr to so va S out _ sd (rL_o hm ⟨by omega, by omega⟩) 30000 ⟨by decide, by decide⟩ (by omega)) ?_
                rintro _ _ ⟨rfl, m3, rfl, hm3⟩
                refine Go.run hsz hn1 1 (pc' := 129) (lv' := [some (gr 148)]) (st' := [gi 1]) (M' := gw m3 ml) rfl ?_
                first | (exfalso; omega) | (rw [e31] at hm3; have h9 := syB_open (S := S) (out := out) (sd := sd) (o := o) hk9 (by omega) (by omega) (by omega); (first | rw [if_pos (by omega)] at h9 | rw [if_neg (by omega)] at h9); exact Go.zret (by rfl) (Or.inr rfl) ⟨_, _, rfl, rfl, Or.inl ⟨rfl, _, h9, hm3, (by unfold b2; rw [if_pos (by omega), if_pos rfl])⟩⟩)
              · refine Go.run hsz hn1 2 (pc' := 125) (lv' := [some (gr 148)]) (st' := [gi 20040, gr 148]) (M' := gw (gu m 148 31 ((m 148 31) + 1)) ml) rfl ?_
                refine Go.callV (As := [gi 20040]) (b := 148) (st := []) (mc1 := 0) (mc := 0) (ms1 := 0) (ms := 0) (by rfl) rfl (c := 11) (N := 46) (by rfl) (by decide) (by rfl) (gcn 197 (by decide)).1 (gcn 197 (by decide)).2 rfl (Nat.le_of_ble_eq_true rfl) (by omega) (cM_pend hsz (n := n - 1) (by omega) ml mi (gu m 148 31 ((m 148 31) + 1)) fr to so va S out _ sd (rL_o hm ⟨by omega, by omega⟩) 20040 ⟨by decide, by decide⟩ (by omega)) ?_
                rintro _ _ ⟨rfl, m3, rfl, hm3⟩
                refine Go.run hsz hn1 1 (pc' := 129) (lv' := [some (gr 148)]) (st' := [gi 1]) (M' := gw m3 ml) rfl ?_
                first | (exfalso; omega) | (rw [e31] at hm3; have h9 := syB_open (S := S) (out := out) (sd := sd) (o := o) hk9 (by omega) (by omega) (by omega); (first | rw [if_pos (by omega)] at h9 | rw [if_neg (by omega)] at h9); exact Go.zret (by rfl) (Or.inr rfl) ⟨_, _, rfl, rfl, Or.inl ⟨rfl, _, h9, hm3, (by unfold b2; rw [if_pos (by omega), if_pos rfl])⟩⟩)
            · refine Go.run hsz hn1 1 (pc' := 95) (lv' := [some (gr 148)]) (st' := [gi 0]) (M' := gw m ml) rfl ?_
              exact Go.zret (by rfl) (Or.inl rfl) ⟨_, _, rfl, rfl, Or.inr ⟨rfl, syB_none hk9 (by omega) (by omega), (true, S, o, out, sd), hm⟩⟩
    · refine Go.run hsz hn1 4 (pc' := 22) (lv' := [some (gr 148)]) (st' := [gi 1, gi (m 148 25), gr 148]) (M' := gw m ml) rfl ?_
      refine Go.icmp_ne (by rfl) (hR _ _) ⟨by decide, by decide⟩ (fun kq11 => ?_) (fun kq11 => ?_)
      · refine Go.run hsz hn1 2 (pc' := 40) (lv' := [some (gr 148)]) (st' := [gi (m 148 26), gr 148]) (M' := gw m ml) rfl ?_
        refine Go.callV (As := [gi (m 148 26)]) (b := 148) (st := []) (mc1 := 0) (mc := 0) (ms1 := 0) (ms := 0) (by rfl) rfl (c := 11) (N := 46) (by rfl) (by decide) (by rfl) (gcn 195 (by decide)).1 (gcn 195 (by decide)).2 rfl (Nat.le_of_ble_eq_true rfl) (by omega) (cM_emit hsz (n := n - 1) (by omega) ml mi m fr to so va S out o sd hm (m 148 26) ⟨by omega, by omega⟩ (by omega)) ?_
        rintro _ _ ⟨rfl, m2, rfl, hm2⟩
        have hR2 := hm2.1
        have e32b := hm2.2.2.2.1.2.2.2
        refine Go.run hsz hn1 7 (pc' := 54) (lv' := [some (gr 148)]) (st' := [gr 148]) (M' := gw (gu m2 148 32 ((m2 148 32) + 1)) ml) rfl ?_
        refine Go.callV (As := []) (b := 148) (st := []) (mc1 := 0) (mc := 0) (ms1 := 0) (ms := 0) (by rfl) rfl (c := 11) (N := 46) (by rfl) (by decide) (by rfl) (gcn 198 (by decide)).1 (gcn 198 (by decide)).2 rfl (Nat.le_of_ble_eq_true rfl) (by omega) (cM_ended hsz (n := n - 1) (by omega) ml mi fr to so va _ S (out ++ [m 148 26]) o (gu m2 148 32 ((m2 148 32) + 1)) (rL_sd hm2 ⟨by omega, by omega⟩) (by rw [List.length_append, List.length_singleton]; omega) (by omega)) ?_
        rintro _ _ ⟨rfl, m3, rfl, hm3⟩
        refine Go.run hsz hn1 1 (pc' := 58) (lv' := [some (gr 148)]) (st' := [gi 1]) (M' := gw m3 ml) rfl ?_
        rw [e32b] at hm3
        exact Go.zret (by rfl) (Or.inr rfl) ⟨_, _, rfl, rfl, Or.inl ⟨rfl, _, syB_num hk9 (by omega) (by first | rw [if_pos (by omega)]; omega | rw [if_neg (by omega)]; omega), hm3, (by unfold b2; dsimp only; rw [if_neg (by omega), if_neg (by decide)])⟩⟩
      · refine Go.run hsz hn1 5 (pc' := 40) (lv' := [some (gr 148)]) (st' := [gi (10000 + (m 148 26)), gr 148]) (M' := gw m ml) rfl ?_
        refine Go.callV (As := [gi (10000 + (m 148 26))]) (b := 148) (st := []) (mc1 := 0) (mc := 0) (ms1 := 0) (ms := 0) (by rfl) rfl (c := 11) (N := 46) (by rfl) (by decide) (by rfl) (gcn 195 (by decide)).1 (gcn 195 (by decide)).2 rfl (Nat.le_of_ble_eq_true rfl) (by omega) (cM_emit hsz (n := n - 1) (by omega) ml mi m fr to so va S out o sd hm (10000 + (m 148 26)) ⟨by omega, by omega⟩ (by omega)) ?_
        rintro _ _ ⟨rfl, m2, rfl, hm2⟩
        have hR2 := hm2.1
        have e32b := hm2.2.2.2.1.2.2.2
        refine Go.run hsz hn1 7 (pc' := 54) (lv' := [some (gr 148)]) (st' := [gr 148]) (M' := gw (gu m2 148 32 ((m2 148 32) + 1)) ml) rfl ?_
        refine Go.callV (As := []) (b := 148) (st := []) (mc1 := 0) (mc := 0) (ms1 := 0) (ms := 0) (by rfl) rfl (c := 11) (N := 46) (by rfl) (by decide) (by rfl) (gcn 198 (by decide)).1 (gcn 198 (by decide)).2 rfl (Nat.le_of_ble_eq_true rfl) (by omega) (cM_ended hsz (n := n - 1) (by omega) ml mi fr to so va _ S (out ++ [10000 + (m 148 26)]) o (gu m2 148 32 ((m2 148 32) + 1)) (rL_sd hm2 ⟨by omega, by omega⟩) (by rw [List.length_append, List.length_singleton]; omega) (by omega)) ?_
        rintro _ _ ⟨rfl, m3, rfl, hm3⟩
        refine Go.run hsz hn1 1 (pc' := 58) (lv' := [some (gr 148)]) (st' := [gi 1]) (M' := gw m3 ml) rfl ?_
        rw [e32b] at hm3
        exact Go.zret (by rfl) (Or.inr rfl) ⟨_, _, rfl, rfl, Or.inl ⟨rfl, _, syB_num hk9 (by omega) (by first | rw [if_pos (by omega)]; omega | rw [if_neg (by omega)]; omega), hm3, (by unfold b2; dsimp only; rw [if_neg (by omega), if_neg (by decide)])⟩⟩
set_option maxRecDepth 100000 in
set_option maxHeartbeats 4000000 in
theorem cM_goesOn {G : gG} (hsz : G.2.2.2.2.2.2 = true) {n : Nat} (hn : 5 ≤ n) (ml : Nat → Nat → Int64) (k : Nat) (mi m : Nat → Nat → Int) (fr to so va : Int) (S out : List Int) (o sd : Int) (hm : rL mi m fr to so va S out o sd) (t v : Int) (hk9 : rTk t v so va) (hI : syI k (false, S, o, out, sd)) (hk : k < 120) (hB : sB S) : gM G 202 n 0 0 [gr 148] (gw m ml) (fun r M => ∃ (m1 : Nat → Nat → Int) (b : Int), M = gw m1 ml ∧ r = some (gi b) ∧ rB2 mi m1 fr to so va (syG t S o out sd) (b2 (¬ va = 41)) b) := by
  have hn1 : 1 ≤ n := by omega
  have e23 : m 148 23 = fr := hm.2.2.1.1
  have e24 : m 148 24 = to := hm.2.2.1.2.1
  have e25 : m 148 25 = so := hm.2.2.1.2.2.1
  have e26 : m 148 26 = va := hm.2.2.1.2.2.2
  have e29 : m 148 29 = out.length := hm.2.2.2.1.1
  have e30 : m 148 30 = S.length := hm.2.2.2.1.2.1
  have e31 : m 148 31 = o := hm.2.2.2.1.2.2.1
  have e32 : m 148 32 = sd := hm.2.2.2.1.2.2.2
  have e22 : m 148 22 = mi 148 22 := hm.2.1.2 22 (by decide)
  have hR := hm.1
  have hi1 : out.length + S.length ≤ k := hI.1
  have hi2 : (S.length : Int) ≤ k + o := hI.2.1
  have hi3 : o ≤ 8 := hI.2.2.1
  have hi4 : 0 ≤ sd := hI.2.2.2.1
  have hi5 : sd ≤ k := hI.2.2.2.2
  have hsr := (rTk_z hk9).2.2.2.2
  have hva := rTk_va hk9
  have hr26 : -2147483648 ≤ m 148 26 ∧ m 148 26 < 2147483648 := hR 148 26
  refine gM.of mX12_goesOn okX12_goesOn (gcp 202 (by decide)).1 (gcp 202 (by decide)).2 (Nat.le_of_ble_eq_true rfl) ?_
  refine Go.run hsz hn1 3 (pc' := 5) (lv' := [some (gr 148), none]) (st' := [gi 3, gi (m 148 25)]) (M' := gw m ml) rfl ?_
  refine Go.icmp_ne (by rfl) (hR _ _) ⟨by decide, by decide⟩ (fun kq1 => ?_) (fun kq1 => ?_)
  · refine Go.run hsz hn1 1 (pc' := 18) (lv' := [some (gr 148), none]) (st' := [gi 0]) (M' := gw m ml) rfl ?_
    exact Go.zret (by rfl) (Or.inl rfl) ⟨_, _, rfl, rfl, Or.inr ⟨rfl, syG_none hk9 (by omega), (false, S, o, out, sd), hm⟩⟩
  · refine Go.run hsz hn1 3 (pc' := 14) (lv' := [some (gr 148), none]) (st' := [gi 40, gi (m 148 26)]) (M' := gw m ml) rfl ?_
    refine Go.icmp_ne (by rfl) (hR _ _) ⟨by decide, by decide⟩ (fun kq2 => ?_) (fun kq2 => ?_)
    · refine Go.run hsz hn1 3 (pc' := 25) (lv' := [some (gr 148), none]) (st' := [gi 41, gi (m 148 26)]) (M' := gw m ml) rfl ?_
      refine Go.icmp_ne (by rfl) (hR _ _) ⟨by decide, by decide⟩ (fun kq3 => ?_) (fun kq3 => ?_)
      · refine Go.run hsz hn1 4 (pc' := 76) (lv' := [some (gr 148), none]) (st' := [gi (20000 + (m 148 26))]) (M' := gw m ml) rfl ?_
        have hgo := syG_o (S := S) (out := out) (sd := sd) (o := o) hk9 (by omega) (by omega) (by omega)
        refine Go.callS (As := [gi (20000 + (m 148 26))]) (st := []) (mc1 := 0) (mc := 0) (ms1 := 0) (ms := 0) (by rfl) rfl (gcn 200 (by decide)).1 (gcn 200 (by decide)).2 (Nat.le_of_ble_eq_true rfl) (by omega) (cM_binds hsz (n := n - 1) (by omega) m ml (20000 + (m 148 26)) ⟨by omega, by omega⟩ ⟨by omega, by omega⟩) ?_
        rintro _ _ ⟨rfl, rfl⟩
        obtain ⟨bb, hbb⟩ : ∃ bb, bb = bnd (20000 + va) := ⟨_, rfl⟩
        rw [show bnd (20000 + (m 148 26)) = bb from (by rw [e26, hbb])]
        rw [← hbb] at hgo
        refine Go.run hsz hn1 4 (pc' := 83) (lv' := [some (gr 148), some (gi bb)]) (st' := [gi 1, gi bb, gr 148]) (M' := gw m ml) rfl ?_
        refine Go.icmp_ne (by rfl) ⟨by omega, by omega⟩ ⟨by decide, by decide⟩ (fun kq4 => ?_) (fun kq4 => ?_)
        · refine Go.run hsz hn1 1 (pc' := 91) (lv' := [some (gr 148), some (gi bb)]) (st' := [gi bb, gr 148]) (M' := gw m ml) rfl ?_
          refine Go.callV (As := [gi bb]) (b := 148) (st := []) (mc1 := 0) (mc := 0) (ms1 := 0) (ms := 0) (by rfl) rfl (c := 11) (N := 46) (by rfl) (by decide) (by rfl) (gcn 199 (by decide)).1 (gcn 199 (by decide)).2 rfl (Nat.le_of_ble_eq_true rfl) (by omega) (cM_settle hsz (n := n - 1) (by omega) ml mi fr to so va sd S out o m hm (by omega) hB bb (by omega)) ?_
          rintro _ _ ⟨rfl, m2, rfl, hm2⟩
          have hB2 := sB_stl hB bb out
          have hl2 := stl_len bb S out
          have htr := rL_tp hm2
          have htb := (sB_tp hB2).1
          have e26b := hm2.2.2.1.2.2.2
          have e30b := hm2.2.2.2.1.2.1
          have e31b := hm2.2.2.2.1.2.2.1
          have hR2 := hm2.1
          have hbq9 := bnd_b (tp (stl bb S out).1)
          refine Go.run hsz hn1 2 (pc' := 96) (lv' := [some (gr 148), some (gi bb)]) (st' := [gi 1, gi bb]) (M' := gw m2 ml) rfl ?_
          refine Go.icmp_ne (by rfl) ⟨by omega, by omega⟩ ⟨by decide, by decide⟩ (fun kq5 => ?_) (fun kq5 => ?_)
          · refine Go.run hsz hn1 5 (pc' := 121) (lv' := [some (gr 148), some (gi bb)]) (st' := [gi (20000 + (m2 148 26)), gr 148]) (M' := gw m2 ml) rfl ?_
            refine Go.callV (As := [gi (20000 + (m2 148 26))]) (b := 148) (st := []) (mc1 := 0) (mc := 0) (ms1 := 0) (ms := 0) (by rfl) rfl (c := 11) (N := 46) (by rfl) (by decide) (by rfl) (gcn 197 (by decide)).1 (gcn 197 (by decide)).2 rfl (Nat.le_of_ble_eq_true rfl) (by omega) (cM_pend hsz (n := n - 1) (by omega) ml mi m2 fr to so va (stl bb S out).1 _ o sd hm2 (20000 + (m2 148 26)) ⟨by omega, by omega⟩ (by omega)) ?_
            rintro _ _ ⟨rfl, m3, rfl, hm3⟩
            refine Go.run hsz hn1 1 (pc' := 125) (lv' := [some (gr 148), some (gi bb)]) (st' := [gi 1]) (M' := gw m3 ml) rfl ?_
            rw [e26b] at hm3
            exact Go.zret (by rfl) (Or.inr rfl) ⟨_, _, rfl, rfl, Or.inl ⟨rfl, _, hgo.1.trans (syO_some (c := bb) hbb (by first | (exfalso; omega) | rw [if_pos (by omega)] | rw [if_neg (by omega)]) (by intro w9; first | omega | (exfalso; omega))), hm3, (by unfold b2; rw [if_pos (by omega), if_pos rfl])⟩⟩
          · refine Go.run hsz hn1 1 (pc' := 100) (lv' := [some (gr 148), some (gi bb)]) (st' := [gr 148]) (M' := gw m2 ml) rfl ?_
            refine Go.callV (As := []) (b := 148) (st := []) (mc1 := 0) (mc := 0) (ms1 := 0) (ms := 0) (by rfl) rfl (c := 11) (N := 46) (by rfl) (by decide) (by rfl) (gcn 196 (by decide)).1 (gcn 196 (by decide)).2 rfl (Nat.le_of_ble_eq_true rfl) (by omega) (cM_top hsz (n := n - 1) (by omega) ml mi m2 _ _ _ _ (stl bb S out).1 _ _ _ hm2 (by omega)) ?_
            rintro _ _ ⟨rfl, rfl⟩
            refine Go.run hsz hn1 0 (pc' := 103) (lv' := [some (gr 148), some (gi bb)]) (st' := [gi (tp (stl bb S out).1)]) (M' := gw m2 ml) rfl ?_
            refine Go.callS (As := [gi (tp (stl bb S out).1)]) (st := []) (mc1 := 0) (mc := 0) (ms1 := 0) (ms := 0) (by rfl) rfl (gcn 200 (by decide)).1 (gcn 200 (by decide)).2 (Nat.le_of_ble_eq_true rfl) (by omega) (cM_binds hsz (n := n - 1) (by omega) m2 ml (tp (stl bb S out).1) htr ⟨by omega, by omega⟩) ?_
            rintro _ _ ⟨rfl, rfl⟩
            refine Go.run hsz hn1 1 (pc' := 107) (lv' := [some (gr 148), some (gi bb)]) (st' := [gi 1, gi (bnd (tp (stl bb S out).1))]) (M' := gw m2 ml) rfl ?_
            refine Go.icmp_ne (by rfl) (bnd_rng _) ⟨by decide, by decide⟩ (fun kq6 => ?_) (fun kq6 => ?_)
            · refine Go.run hsz hn1 5 (pc' := 121) (lv' := [some (gr 148), some (gi bb)]) (st' := [gi (20000 + (m2 148 26)), gr 148]) (M' := gw m2 ml) rfl ?_
              refine Go.callV (As := [gi (20000 + (m2 148 26))]) (b := 148) (st := []) (mc1 := 0) (mc := 0) (ms1 := 0) (ms := 0) (by rfl) rfl (c := 11) (N := 46) (by rfl) (by decide) (by rfl) (gcn 197 (by decide)).1 (gcn 197 (by decide)).2 rfl (Nat.le_of_ble_eq_true rfl) (by omega) (cM_pend hsz (n := n - 1) (by omega) ml mi m2 fr to so va (stl bb S out).1 _ o sd hm2 (20000 + (m2 148 26)) ⟨by omega, by omega⟩ (by omega)) ?_
              rintro _ _ ⟨rfl, m3, rfl, hm3⟩
              refine Go.run hsz hn1 1 (pc' := 125) (lv' := [some (gr 148), some (gi bb)]) (st' := [gi 1]) (M' := gw m3 ml) rfl ?_
              rw [e26b] at hm3
              exact Go.zret (by rfl) (Or.inr rfl) ⟨_, _, rfl, rfl, Or.inl ⟨rfl, _, hgo.1.trans (syO_some (c := bb) hbb (by first | (exfalso; omega) | rw [if_pos (by omega)] | rw [if_neg (by omega)]) (by intro w9; first | omega | (exfalso; omega))), hm3, (by unfold b2; rw [if_pos (by omega), if_pos rfl])⟩⟩
            · refine Go.run hsz hn1 1 (pc' := 111) (lv' := [some (gr 148), some (gi bb)]) (st' := [gi 0]) (M' := gw m2 ml) rfl ?_
              exact Go.zret (by rfl) (Or.inl rfl) ⟨_, _, rfl, rfl, Or.inr ⟨rfl, hgo.1.trans (syO_none hbb (by omega) (by omega)), (false, _, o, _, sd), hm2⟩⟩
        · refine Go.run hsz hn1 2 (pc' := 91) (lv' := [some (gr 148), some (gi bb)]) (st' := [gi 2, gr 148]) (M' := gw m ml) rfl ?_
          refine Go.callV (As := [gi 2]) (b := 148) (st := []) (mc1 := 0) (mc := 0) (ms1 := 0) (ms := 0) (by rfl) rfl (c := 11) (N := 46) (by rfl) (by decide) (by rfl) (gcn 199 (by decide)).1 (gcn 199 (by decide)).2 rfl (Nat.le_of_ble_eq_true rfl) (by omega) (cM_settle hsz (n := n - 1) (by omega) ml mi fr to so va sd S out o m hm (by omega) hB 2 (by omega)) ?_
          rintro _ _ ⟨rfl, m2, rfl, hm2⟩
          have hB2 := sB_stl hB 2 out
          have hl2 := stl_len 2 S out
          have htr := rL_tp hm2
          have htb := (sB_tp hB2).1
          have e26b := hm2.2.2.1.2.2.2
          have e30b := hm2.2.2.2.1.2.1
          have e31b := hm2.2.2.2.1.2.2.1
          have hR2 := hm2.1
          have hbq9 := bnd_b (tp (stl 2 S out).1)
          refine Go.run hsz hn1 2 (pc' := 96) (lv' := [some (gr 148), some (gi bb)]) (st' := [gi 1, gi bb]) (M' := gw m2 ml) rfl ?_
          refine Go.icmp_ne (by rfl) ⟨by omega, by omega⟩ ⟨by decide, by decide⟩ (fun kq7 => ?_) (fun kq7 => ?_)
          · refine Go.run hsz hn1 5 (pc' := 121) (lv' := [some (gr 148), some (gi bb)]) (st' := [gi (20000 + (m2 148 26)), gr 148]) (M' := gw m2 ml) rfl ?_
            refine Go.callV (As := [gi (20000 + (m2 148 26))]) (b := 148) (st := []) (mc1 := 0) (mc := 0) (ms1 := 0) (ms := 0) (by rfl) rfl (c := 11) (N := 46) (by rfl) (by decide) (by rfl) (gcn 197 (by decide)).1 (gcn 197 (by decide)).2 rfl (Nat.le_of_ble_eq_true rfl) (by omega) (cM_pend hsz (n := n - 1) (by omega) ml mi m2 fr to so va (stl 2 S out).1 _ o sd hm2 (20000 + (m2 148 26)) ⟨by omega, by omega⟩ (by omega)) ?_
            rintro _ _ ⟨rfl, m3, rfl, hm3⟩
            refine Go.run hsz hn1 1 (pc' := 125) (lv' := [some (gr 148), some (gi bb)]) (st' := [gi 1]) (M' := gw m3 ml) rfl ?_
            rw [e26b] at hm3
            exact Go.zret (by rfl) (Or.inr rfl) ⟨_, _, rfl, rfl, Or.inl ⟨rfl, _, hgo.1.trans (syO_some (c := 2) hbb (by first | (exfalso; omega) | rw [if_pos (by omega)] | rw [if_neg (by omega)]) (by intro w9; first | omega | (exfalso; omega))), hm3, (by unfold b2; rw [if_pos (by omega), if_pos rfl])⟩⟩
          · refine Go.run hsz hn1 1 (pc' := 100) (lv' := [some (gr 148), some (gi bb)]) (st' := [gr 148]) (M' := gw m2 ml) rfl ?_
            refine Go.callV (As := []) (b := 148) (st := []) (mc1 := 0) (mc := 0) (ms1 := 0) (ms := 0) (by rfl) rfl (c := 11) (N := 46) (by rfl) (by decide) (by rfl) (gcn 196 (by decide)).1 (gcn 196 (by decide)).2 rfl (Nat.le_of_ble_eq_true rfl) (by omega) (cM_top hsz (n := n - 1) (by omega) ml mi m2 _ _ _ _ (stl 2 S out).1 _ _ _ hm2 (by omega)) ?_
            rintro _ _ ⟨rfl, rfl⟩
            refine Go.run hsz hn1 0 (pc' := 103) (lv' := [some (gr 148), some (gi bb)]) (st' := [gi (tp (stl 2 S out).1)]) (M' := gw m2 ml) rfl ?_
            refine Go.callS (As := [gi (tp (stl 2 S out).1)]) (st := []) (mc1 := 0) (mc := 0) (ms1 := 0) (ms := 0) (by rfl) rfl (gcn 200 (by decide)).1 (gcn 200 (by decide)).2 (Nat.le_of_ble_eq_true rfl) (by omega) (cM_binds hsz (n := n - 1) (by omega) m2 ml (tp (stl 2 S out).1) htr ⟨by omega, by omega⟩) ?_
            rintro _ _ ⟨rfl, rfl⟩
            refine Go.run hsz hn1 1 (pc' := 107) (lv' := [some (gr 148), some (gi bb)]) (st' := [gi 1, gi (bnd (tp (stl 2 S out).1))]) (M' := gw m2 ml) rfl ?_
            refine Go.icmp_ne (by rfl) (bnd_rng _) ⟨by decide, by decide⟩ (fun kq8 => ?_) (fun kq8 => ?_)
            · refine Go.run hsz hn1 5 (pc' := 121) (lv' := [some (gr 148), some (gi bb)]) (st' := [gi (20000 + (m2 148 26)), gr 148]) (M' := gw m2 ml) rfl ?_
              refine Go.callV (As := [gi (20000 + (m2 148 26))]) (b := 148) (st := []) (mc1 := 0) (mc := 0) (ms1 := 0) (ms := 0) (by rfl) rfl (c := 11) (N := 46) (by rfl) (by decide) (by rfl) (gcn 197 (by decide)).1 (gcn 197 (by decide)).2 rfl (Nat.le_of_ble_eq_true rfl) (by omega) (cM_pend hsz (n := n - 1) (by omega) ml mi m2 fr to so va (stl 2 S out).1 _ o sd hm2 (20000 + (m2 148 26)) ⟨by omega, by omega⟩ (by omega)) ?_
              rintro _ _ ⟨rfl, m3, rfl, hm3⟩
              refine Go.run hsz hn1 1 (pc' := 125) (lv' := [some (gr 148), some (gi bb)]) (st' := [gi 1]) (M' := gw m3 ml) rfl ?_
              rw [e26b] at hm3
              exact Go.zret (by rfl) (Or.inr rfl) ⟨_, _, rfl, rfl, Or.inl ⟨rfl, _, hgo.1.trans (syO_some (c := 2) hbb (by first | (exfalso; omega) | rw [if_pos (by omega)] | rw [if_neg (by omega)]) (by intro w9; first | omega | (exfalso; omega))), hm3, (by unfold b2; rw [if_pos (by omega), if_pos rfl])⟩⟩
            · refine Go.run hsz hn1 1 (pc' := 111) (lv' := [some (gr 148), some (gi bb)]) (st' := [gi 0]) (M' := gw m2 ml) rfl ?_
              exact Go.zret (by rfl) (Or.inl rfl) ⟨_, _, rfl, rfl, Or.inr ⟨rfl, hgo.1.trans (syO_none hbb (by omega) (by omega)), (false, _, o, _, sd), hm2⟩⟩
      · refine Go.run hsz hn1 2 (pc' := 30) (lv' := [some (gr 148), none]) (st' := [gi 1, gr 148]) (M' := gw m ml) rfl ?_
        refine Go.callV (As := [gi 1]) (b := 148) (st := []) (mc1 := 0) (mc := 0) (ms1 := 0) (ms := 0) (by rfl) rfl (c := 11) (N := 46) (by rfl) (by decide) (by rfl) (gcn 199 (by decide)).1 (gcn 199 (by decide)).2 rfl (Nat.le_of_ble_eq_true rfl) (by omega) (cM_settle hsz (n := n - 1) (by omega) ml mi fr to so va sd S out o m hm (by omega) hB 1 (by omega)) ?_
        rintro _ _ ⟨rfl, m2, rfl, hm2⟩
        have hB2 := sB_stl hB 1 out
        have hl2 := stl_len 1 S out
        have htr := rL_tp hm2
        have htb := (sB_tp hB2).1
        have e26b := hm2.2.2.1.2.2.2
        have e30b := hm2.2.2.2.1.2.1
        have e31b := hm2.2.2.2.1.2.2.1
        have hR2 := hm2.1
        have hbq9 := bnd_b (tp (stl 1 S out).1)
        refine Go.run hsz hn1 1 (pc' := 34) (lv' := [some (gr 148), none]) (st' := [gr 148]) (M' := gw m2 ml) rfl ?_
        refine Go.callV (As := []) (b := 148) (st := []) (mc1 := 0) (mc := 0) (ms1 := 0) (ms := 0) (by rfl) rfl (c := 11) (N := 46) (by rfl) (by decide) (by rfl) (gcn 196 (by decide)).1 (gcn 196 (by decide)).2 rfl (Nat.le_of_ble_eq_true rfl) (by omega) (cM_top hsz (n := n - 1) (by omega) ml mi m2 _ _ _ _ (stl 1 S out).1 _ _ _ hm2 (by omega)) ?_
        rintro _ _ ⟨rfl, rfl⟩
        refine Go.run hsz hn1 0 (pc' := 37) (lv' := [some (gr 148), none]) (st' := [gi (tp (stl 1 S out).1)]) (M' := gw m2 ml) rfl ?_
        refine Go.if_ne (by rfl) htr (fun kq9 => ?_) (fun kq9 => ?_)
        · refine Go.run hsz hn1 0 (pc' := 42) (lv' := [some (gr 148), none]) (st' := []) (M' := gw m2 ml) rfl ?_
          obtain ⟨S1, hS1⟩ := tp_c (S := (stl 1 S out).1) (x := tp (stl 1 S out).1) rfl (by omega)
          have hlS : (stl 1 S out).1.length = S1.length + 1 := (by rw [hS1]; exact List.length_cons)
          refine Go.run hsz hn1 13 (pc' := 63) (lv' := [some (gr 148), none]) (st' := [gr 148]) (M' := gw (gu (gu m2 148 30 ((m2 148 30) - 1)) 148 31 ((m2 148 31) - 1)) ml) rfl ?_
          refine Go.callV (As := []) (b := 148) (st := []) (mc1 := 0) (mc := 0) (ms1 := 0) (ms := 0) (by rfl) rfl (c := 11) (N := 46) (by rfl) (by decide) (by rfl) (gcn 198 (by decide)).1 (gcn 198 (by decide)).2 rfl (Nat.le_of_ble_eq_true rfl) (by omega) (cM_ended hsz (n := n - 1) (by omega) ml mi fr to so va sd S1 (stl 1 S out).2 _ (gu (gu m2 148 30 ((m2 148 30) - 1)) 148 31 ((m2 148 31) - 1)) (by rw [hS1] at hm2; exact (rL_o (rL_pop hm2 (by omega) (by omega)) ⟨by omega, by omega⟩)) (by omega) (by omega)) ?_
          rintro _ _ ⟨rfl, m3, rfl, hm3⟩
          refine Go.run hsz hn1 1 (pc' := 67) (lv' := [some (gr 148), none]) (st' := [gi 1]) (M' := gw m3 ml) rfl ?_
          rw [e31b] at hm3
          exact Go.zret (by rfl) (Or.inr rfl) ⟨_, _, rfl, rfl, Or.inl ⟨rfl, _, syG_c1 hk9 (by omega) (by omega) hS1, hm3, (by unfold b2; dsimp only; rw [if_neg (by omega), if_neg (by decide)])⟩⟩
        · refine Go.run hsz hn1 1 (pc' := 41) (lv' := [some (gr 148), none]) (st' := [gi 0]) (M' := gw m2 ml) rfl ?_
          exact Go.zret (by rfl) (Or.inl rfl) ⟨_, _, rfl, rfl, Or.inr ⟨rfl, syG_c0 hk9 (by omega) (by omega) ((sB_tp hB2).2 (by omega)), (false, _, o, _, sd), hm2⟩⟩
    · refine Go.run hsz hn1 1 (pc' := 18) (lv' := [some (gr 148), none]) (st' := [gi 0]) (M' := gw m ml) rfl ?_
      exact Go.zret (by rfl) (Or.inl rfl) ⟨_, _, rfl, rfl, Or.inr ⟨rfl, syG_none hk9 (by omega), (false, S, o, out, sd), hm⟩⟩

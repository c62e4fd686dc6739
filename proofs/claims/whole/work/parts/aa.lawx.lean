/-! ===== law: both whole ===== -/
theorem lexd_E {b : Nat → Int} {n : Nat} {tk va st : Nat → Int} {E : Nat → Nat} {T k : Nat} (h : lexd b n tk va st E T) (hk : k < T) : E (k + 1) ≤ n := by
  obtain ⟨s, _, _, s3, s4⟩ := h.1.2 k hk
  exact (tokAt_e s4 s3).2
theorem lexd_st {b : Nat → Int} {n : Nat} {tk va st : Nat → Int} {E : Nat → Nat} {T k : Nat} (h : lexd b n tk va st E T) (hk : k ≤ T) : 0 ≤ st k ∧ st k ≤ n := by
  rcases Nat.lt_or_ge k T with q | q
  · obtain ⟨s, s1, _, s3, _⟩ := h.1.2 k q
    omega
  · have : k = T := by omega
    have := h.2.2.2.1
    subst k
    omega
theorem rL_start {mi : Nat → Nat → Int} (h : gR32 mi) : rL mi (gu (gu (gu (gu (gu mi 148 24 0) 148 29 0) 148 30 0) 148 31 0) 148 32 0) (mi 148 23) 0 (mi 148 25) (mi 148 26) [] [] 0 0 := by
  have z : rng 0 := ⟨by decide, by decide⟩
  refine ⟨gR32_gu (gR32_gu (gR32_gu (gR32_gu (gR32_gu h z) z) z) z) z, ⟨fun c k h1 _ _ => ?_, fun k hk => ?_⟩, ⟨rfl, rfl, rfl, rfl⟩, ⟨rfl, rfl, rfl, rfl⟩, fun i hi => absurd hi (by simp), trivial⟩
  · rw [gu_other h1, gu_other h1, gu_other h1, gu_other h1, gu_other h1]
  · rw [gu_ne (Or.inr (by omega)), gu_ne (Or.inr (by omega)), gu_ne (Or.inr (by omega)), gu_ne (Or.inr (by omega)), gu_ne (Or.inr (by omega))]
set_option maxRecDepth 100000 in
set_option maxHeartbeats 4000000 in
theorem lM_rds {G : gG} (hsz : G.2.2.2.2.2.2 = true) {n : Nat} (hn : 6 ≤ n) (ml : Nat → Nat → Int64) (mi : Nat → Nat → Int) (hn0 : 0 ≤ mi 148 22 ∧ mi 148 22 ≤ 120) (hbs : ∀ i : Nat, (i : Int) < mi 148 22 → 0 ≤ mi 164 i ∧ mi 164 i ≤ 255) (tk vv st : Nat → Int) (E : Nat → Nat) (T : Nat) (hx : lexd (mi 164) (mi 148 22).toNat tk vv st E T) : ∀ (f : Nat) (k : Nat) (pt : Bool) (fr to so va : Int) (S out : List Int) (o sd : Int) (m : Nat → Nat → Int) (hm : rL mi m fr to so va S out o sd) (hat : rAt tk vv st E T k fr to so va) (hI : syI k (pt, S, o, out, sd)) (hB : sB S), T - k < f → Go G mX12_reads n 0 0 31 [some (gr 148), some (gi (b2 (pt = true))), none] [] (gw m ml) (fun r M => ∃ (m1 : Nat → Nat → Int) (f1 : Int), M = gw m1 ml ∧ r = some (gi f1) ∧ rdP mi m1 st T (syR tk vv T k (pt, S, o, out, sd)) f1) := by
  have hn1 : 1 ≤ n := by omega
  have hok := lexd_ok hx
  have hT : T ≤ 120 := (by have := hx.2.1; omega)
  intro f
  induction f with
  | zero => intros; omega
  | succ f ih =>
    intro k pt fr to so va S out o sd m hm hat hI hB q0
    have hk9 := hat.2.2.2
    have hz := rTk_z hk9
    have e23 : m 148 23 = fr := hm.2.2.1.1
    have e24 : m 148 24 = to := hm.2.2.1.2.1
    have e25 : m 148 25 = so := hm.2.2.1.2.2.1
    have e26 : m 148 26 = va := hm.2.2.1.2.2.2
    have e29 : m 148 29 = out.length := hm.2.2.2.1.1
    have e30 : m 148 30 = S.length := hm.2.2.2.1.2.1
    have e31 : m 148 31 = o := hm.2.2.2.1.2.2.1
    have e32 : m 148 32 = sd := hm.2.2.2.1.2.2.2
    have e22 : m 148 22 = mi 148 22 := hm.2.1.2 22 (by decide)
    have hR := hm.1
    have hi1 : out.length + S.length ≤ k := hI.1
    have hi2 : (S.length : Int) ≤ k + o := hI.2.1
    have hi3 : o ≤ 8 := hI.2.2.1
    have hi4 : 0 ≤ sd := hI.2.2.2.1
    have hi5 : sd ≤ k := hI.2.2.2.2
    have hsr0 := (rTk_z hk9).2.2.2.2
    have hva := rTk_va hk9
    refine Go.run hsz hn1 2 (pc' := 35) (lv' := [some (gr 148), some (gi (b2 (pt = true))), none]) (st' := [gi (m 148 25)]) (M' := gw m ml) rfl ?_
    refine Go.if_eq (by rfl) (hR _ _) (fun kq1 => ?_) (fun kq1 => ?_)
    · refine Go.run hsz hn1 2 (pc' := 110) (lv' := [some (gr 148), some (gi (b2 (pt = true))), none]) (st' := [gi 1, gr 148]) (M' := gw m ml) rfl ?_
      have hkE : k = T := (by rcases Nat.lt_or_ge k T with w9 | w9; (· exact absurd (hz.1.mp (by omega)) (hok.ne w9)); (· have := hat.1; omega))
      refine Go.callV (As := [gi 1]) (b := 148) (st := []) (mc1 := 0) (mc := 0) (ms1 := 0) (ms := 0) (by rfl) rfl (c := 11) (N := 46) (by rfl) (by decide) (by rfl) (gcn 199 (by decide)).1 (gcn 199 (by decide)).2 rfl (Nat.le_of_ble_eq_true rfl) (by omega) (cM_settle hsz (n := n - 1) (by omega) ml mi fr to so va sd S out o m hm (by omega) hB 1 (by omega)) ?_
      rintro _ _ ⟨rfl, m2, rfl, hm2⟩
      have hl2 := stl_len 1 S out
      have e23b : m2 148 23 = fr := hm2.2.2.1.1
      have e30b := hm2.2.2.2.1.2.1
      have hR2 : gR32 m2 := hm2.1
      refine Go.run hsz hn1 1 (pc' := 114) (lv' := [some (gr 148), some (gi (b2 (pt = true))), none]) (st' := [gi (b2 (pt = true))]) (M' := gw m2 ml) rfl ?_
      refine Go.if_ne (by rfl) (b2_rng _) (fun kq2 => ?_) (fun kq2 => ?_)
      · replace kq2 := b2_pos kq2
        refine Go.run hsz hn1 3 (pc' := 132) (lv' := [some (gr 148), some (gi (b2 (pt = true))), none]) (st' := [gi (m2 148 23)]) (M' := gw m2 ml) rfl ?_
        exact Go.iret (by rfl) ⟨_, _, rfl, rfl, fr, to, so, va, (false, (stl 1 S out).1, o, (stl 1 S out).2, sd), hm2, Or.inl ⟨k, (by subst hkE; rw [syR_end hok]; exact if_pos (by first | exact Or.inl (by assumption) | exact Or.inr (fun w9 => by rw [w9] at e30b; have : ([] : List Int).length = 0 := rfl; omega))), hat.1, (by rw [e23b]; exact hat.2.1)⟩⟩
      · replace kq2 := b2_neg kq2
        refine Go.run hsz hn1 2 (pc' := 121) (lv' := [some (gr 148), some (gi (b2 (pt = true))), none]) (st' := [gi (m2 148 30)]) (M' := gw m2 ml) rfl ?_
        refine Go.if_le (by rfl) (hR2 _ _) (fun kq3 => ?_) (fun kq3 => ?_)
        · refine Go.run hsz hn1 1 (pc' := 132) (lv' := [some (gr 148), some (gi (b2 (pt = true))), none]) (st' := [gi (-1)]) (M' := gw m2 ml) rfl ?_
          have hnil : (stl 1 S out).1 = [] := List.length_eq_zero_iff.mp (by omega)
          exact Go.iret (by rfl) ⟨_, _, rfl, rfl, fr, to, so, va, (false, (stl 1 S out).1, o, (stl 1 S out).2, sd), hm2, Or.inr ⟨(by subst hkE; rw [syR_end hok]; exact if_neg (by rintro (w9 | w9); (· exact absurd w9 (by assumption)); (· exact w9 hnil))), rfl, (by show (stl 1 S out).2.length ≤ 120; omega), hi4, (by show sd ≤ 120; omega)⟩⟩
        · refine Go.run hsz hn1 3 (pc' := 132) (lv' := [some (gr 148), some (gi (b2 (pt = true))), none]) (st' := [gi (m2 148 23)]) (M' := gw m2 ml) rfl ?_
          exact Go.iret (by rfl) ⟨_, _, rfl, rfl, fr, to, so, va, (false, (stl 1 S out).1, o, (stl 1 S out).2, sd), hm2, Or.inl ⟨k, (by subst hkE; rw [syR_end hok]; exact if_pos (by first | exact Or.inl (by assumption) | exact Or.inr (fun w9 => by rw [w9] at e30b; have : ([] : List Int).length = 0 := rfl; omega))), hat.1, (by rw [e23b]; exact hat.2.1)⟩⟩
    · refine Go.run hsz hn1 3 (pc' := 41) (lv' := [some (gr 148), some (gi (b2 (pt = true))), some (gi (b2 (pt = true)))]) (st' := [gi (b2 (pt = true))]) (M' := gw m ml) rfl ?_
      refine Go.if_eq (by rfl) (b2_rng _) (fun kq4 => ?_) (fun kq4 => ?_)
      · replace kq4 := b2_neg kq4
        refine Go.run hsz hn1 1 (pc' := 55) (lv' := [some (gr 148), some (gi (b2 (pt = true))), some (gi (b2 (pt = true)))]) (st' := [gr 148]) (M' := gw m ml) rfl ?_
        have hpt : pt = false := (by have w9 : ¬ pt = true := (by assumption); revert w9; cases pt <;> decide)
        have hkT : k < T := tOK_lt hok hat.1 (fun w9 => by have := hz.1.mpr w9; omega)
        refine Go.callV (As := []) (b := 148) (st := []) (mc1 := 0) (mc := 0) (ms1 := 0) (ms := 0) (by rfl) rfl (c := 11) (N := 46) (by rfl) (by decide) (by rfl) (gcn 202 (by decide)).1 (gcn 202 (by decide)).2 rfl (Nat.le_of_ble_eq_true rfl) (by omega) (cM_goesOn hsz (n := n - 1) (by omega) ml k mi m fr to so va S out o sd hm (tk k) (vv k) hk9 (by rw [hpt] at hI; exact hI) (by omega) hB) ?_
        rintro _ _ ⟨m2, b5, rfl, rfl, h5⟩
        have hb5 := h5.b01
        refine Go.run hsz hn1 0 (pc' := 58) (lv' := [some (gr 148), some (gi (b2 (pt = true))), some (gi (b2 (pt = true)))]) (st' := [gi b5]) (M' := gw m2 ml) rfl ?_
        refine Go.if_ne (by rfl) ⟨by omega, by omega⟩ (fun kq5 => ?_) (fun kq5 => ?_)
        · refine Go.run hsz hn1 0 (pc' := 66) (lv' := [some (gr 148), some (gi (b2 (pt = true))), some (gi (b2 (pt = true)))]) (st' := []) (M' := gw m2 ml) rfl ?_
          obtain ⟨c5, hc5, hL5, hp5⟩ := h5.yes (by omega)
          have e25b : m2 148 25 = so := hL5.2.2.1.2.2.1
          have e26b : m2 148 26 = va := hL5.2.2.1.2.2.2
          have hR2 : gR32 m2 := hL5.1
          refine Go.run hsz hn1 1 (pc' := 67) (lv' := [some (gr 148), some (gi (b2 (pt = true))), some (gi (b2 (pt = true)))]) (st' := [gi (b2 (pt = true))]) (M' := gw m2 ml) rfl ?_
          refine Go.if_eq (by rfl) (b2_rng _) (fun kq6 => ?_) (fun kq6 => ?_)
          · replace kq6 := b2_neg kq6
            refine Go.run hsz hn1 3 (pc' := 92) (lv' := [some (gr 148), some (gi (b2 (pt = true))), some (gi (b2 (pt = true)))]) (st' := [gi 41, gi (m2 148 26)]) (M' := gw m2 ml) rfl ?_
            refine Go.icmp_eq (by rfl) (hR2 _ _) ⟨by decide, by decide⟩ (fun kq7 => ?_) (fun kq7 => ?_)
            · refine Go.run hsz hn1 3 (pc' := 102) (lv' := [some (gr 148), some (gi 0), some (gi (b2 (pt = true)))]) (st' := [gr 148]) (M' := gw m2 ml) rfl ?_
              have hto : to = ((E (k + 1) : Nat) : Int) := hat.2.2.1 hkT
              have hEn := lexd_E hx hkT
              refine Go.callV (As := []) (b := 148) (st := []) (mc1 := 0) (mc := 0) (ms1 := 0) (ms := 0) (by rfl) rfl (c := 11) (N := 46) (by rfl) (by decide) (by rfl) (gcn 194 (by decide)).1 (gcn 194 (by decide)).2 rfl (Nat.le_of_ble_eq_true rfl) (by omega) (cM_adv hsz (n := n - 1) (by omega) ml mi hn0 hbs c5.2.1 c5.2.2.2.1 c5.2.2.1 c5.2.2.2.2 (E (k + 1)) (by omega) m2 fr so va (by rw [← hto]; exact hL5)) ?_
              rintro _ _ ⟨rfl, m6, fr6, to6, so6, va6, rfl, hm6, hadv⟩
              refine Go.run hsz hn1 1 (pc' := 31) (lv' := [some (gr 148), some (gi 0), some (gi (b2 (pt = true)))]) (st' := []) (M' := gw m6 ml) rfl ?_
              refine Go.dropl 2 ?_
              refine Go.run hsz hn1 0 (pc' := 31) (lv' := [some (gr 148), some (gi 0), none]) (st' := []) (M' := gw m6 ml) rfl ?_
              have hst : syStep (tk k) (vv k) (pt, S, o, out, sd) = some c5 := (by unfold syStep; dsimp only; rw [if_neg (by rw [hpt]; decide)]; exact hc5)
              rw [syR_step hok hkT hst]
              have h9 := ih (k + 1) c5.1 fr6 to6 so6 va6 c5.2.1 c5.2.2.2.1 c5.2.2.1 c5.2.2.2.2 m6 hm6 (adv_at hx (by omega) hadv) (syI_step hI hst) (sB_step (c := (pt, S, o, out, sd)) hB hst) (by omega)
              rw [show b2 (c5.1 = true) = 0 from (by rw [← hp5]; unfold b2; first | rw [if_pos (by omega)] | rw [if_neg (by omega)])] at h9
              exact h9
            · refine Go.run hsz hn1 4 (pc' := 102) (lv' := [some (gr 148), some (gi 1), some (gi (b2 (pt = true)))]) (st' := [gr 148]) (M' := gw m2 ml) rfl ?_
              have hto : to = ((E (k + 1) : Nat) : Int) := hat.2.2.1 hkT
              have hEn := lexd_E hx hkT
              refine Go.callV (As := []) (b := 148) (st := []) (mc1 := 0) (mc := 0) (ms1 := 0) (ms := 0) (by rfl) rfl (c := 11) (N := 46) (by rfl) (by decide) (by rfl) (gcn 194 (by decide)).1 (gcn 194 (by decide)).2 rfl (Nat.le_of_ble_eq_true rfl) (by omega) (cM_adv hsz (n := n - 1) (by omega) ml mi hn0 hbs c5.2.1 c5.2.2.2.1 c5.2.2.1 c5.2.2.2.2 (E (k + 1)) (by omega) m2 fr so va (by rw [← hto]; exact hL5)) ?_
              rintro _ _ ⟨rfl, m6, fr6, to6, so6, va6, rfl, hm6, hadv⟩
              refine Go.run hsz hn1 1 (pc' := 31) (lv' := [some (gr 148), some (gi 1), some (gi (b2 (pt = true)))]) (st' := []) (M' := gw m6 ml) rfl ?_
              refine Go.dropl 2 ?_
              refine Go.run hsz hn1 0 (pc' := 31) (lv' := [some (gr 148), some (gi 1), none]) (st' := []) (M' := gw m6 ml) rfl ?_
              have hst : syStep (tk k) (vv k) (pt, S, o, out, sd) = some c5 := (by unfold syStep; dsimp only; rw [if_neg (by rw [hpt]; decide)]; exact hc5)
              rw [syR_step hok hkT hst]
              have h9 := ih (k + 1) c5.1 fr6 to6 so6 va6 c5.2.1 c5.2.2.2.1 c5.2.2.1 c5.2.2.2.2 m6 hm6 (adv_at hx (by omega) hadv) (syI_step hI hst) (sB_step (c := (pt, S, o, out, sd)) hB hst) (by omega)
              rw [show b2 (c5.1 = true) = 1 from (by rw [← hp5]; unfold b2; first | rw [if_pos (by omega)] | rw [if_neg (by omega)])] at h9
              exact h9
          · replace kq6 := b2_pos kq6
            exact absurd (show pt = true by assumption) (by rw [hpt]; decide)
        · refine Go.run hsz hn1 2 (pc' := 65) (lv' := [some (gr 148), some (gi (b2 (pt = true))), some (gi (b2 (pt = true)))]) (st' := [gi (m2 148 23)]) (M' := gw m2 ml) rfl ?_
          obtain ⟨hn5, c5, hL5⟩ := h5.no (by omega)
          have hst : syStep (tk k) (vv k) (pt, S, o, out, sd) = none := (by unfold syStep; dsimp only; rw [if_neg (by rw [hpt]; decide)]; exact hn5)
          exact Go.iret (by rfl) ⟨_, _, rfl, rfl, fr, to, so, va, c5, hL5, Or.inl ⟨k, syR_bad hok hkT hst, hat.1, (by rw [show m2 148 23 = fr from hL5.2.2.1.1]; exact hat.2.1)⟩⟩
      · replace kq4 := b2_pos kq4
        refine Go.run hsz hn1 1 (pc' := 45) (lv' := [some (gr 148), some (gi (b2 (pt = true))), some (gi (b2 (pt = true)))]) (st' := [gr 148]) (M' := gw m ml) rfl ?_
        have hpt : pt = true := by assumption
        have hkT : k < T := tOK_lt hok hat.1 (fun w9 => by have := hz.1.mpr w9; omega)
        refine Go.callV (As := []) (b := 148) (st := []) (mc1 := 0) (mc := 0) (ms1 := 0) (ms := 0) (by rfl) rfl (c := 11) (N := 46) (by rfl) (by decide) (by rfl) (gcn 201 (by decide)).1 (gcn 201 (by decide)).2 rfl (Nat.le_of_ble_eq_true rfl) (by omega) (cM_begins hsz (n := n - 1) (by omega) ml k mi m fr to so va S out o sd hm (tk k) (vv k) hk9 (by rw [hpt] at hI; exact hI) (by omega)) ?_
        rintro _ _ ⟨m2, b5, rfl, rfl, h5⟩
        have hb5 := h5.b01
        refine Go.run hsz hn1 0 (pc' := 48) (lv' := [some (gr 148), some (gi (b2 (pt = true))), some (gi (b2 (pt = true)))]) (st' := [gi b5]) (M' := gw m2 ml) rfl ?_
        refine Go.if_ne (by rfl) ⟨by omega, by omega⟩ (fun kq8 => ?_) (fun kq8 => ?_)
        · refine Go.run hsz hn1 0 (pc' := 66) (lv' := [some (gr 148), some (gi (b2 (pt = true))), some (gi (b2 (pt = true)))]) (st' := []) (M' := gw m2 ml) rfl ?_
          obtain ⟨c5, hc5, hL5, hp5⟩ := h5.yes (by omega)
          have e25b : m2 148 25 = so := hL5.2.2.1.2.2.1
          have e26b : m2 148 26 = va := hL5.2.2.1.2.2.2
          have hR2 : gR32 m2 := hL5.1
          refine Go.run hsz hn1 1 (pc' := 67) (lv' := [some (gr 148), some (gi (b2 (pt = true))), some (gi (b2 (pt = true)))]) (st' := [gi (b2 (pt = true))]) (M' := gw m2 ml) rfl ?_
          refine Go.if_eq (by rfl) (b2_rng _) (fun kq9 => ?_) (fun kq9 => ?_)
          · replace kq9 := b2_neg kq9
            exact absurd hpt (by assumption)
          · replace kq9 := b2_pos kq9
            refine Go.run hsz hn1 3 (pc' := 75) (lv' := [some (gr 148), some (gi (b2 (pt = true))), some (gi (b2 (pt = true)))]) (st' := [gi 3, gi (m2 148 25)]) (M' := gw m2 ml) rfl ?_
            refine Go.icmp_ne (by rfl) (hR2 _ _) ⟨by decide, by decide⟩ (fun kq10 => ?_) (fun kq10 => ?_)
            · refine Go.run hsz hn1 4 (pc' := 102) (lv' := [some (gr 148), some (gi 0), some (gi (b2 (pt = true)))]) (st' := [gr 148]) (M' := gw m2 ml) rfl ?_
              have hto : to = ((E (k + 1) : Nat) : Int) := hat.2.2.1 hkT
              have hEn := lexd_E hx hkT
              refine Go.callV (As := []) (b := 148) (st := []) (mc1 := 0) (mc := 0) (ms1 := 0) (ms := 0) (by rfl) rfl (c := 11) (N := 46) (by rfl) (by decide) (by rfl) (gcn 194 (by decide)).1 (gcn 194 (by decide)).2 rfl (Nat.le_of_ble_eq_true rfl) (by omega) (cM_adv hsz (n := n - 1) (by omega) ml mi hn0 hbs c5.2.1 c5.2.2.2.1 c5.2.2.1 c5.2.2.2.2 (E (k + 1)) (by omega) m2 fr so va (by rw [← hto]; exact hL5)) ?_
              rintro _ _ ⟨rfl, m6, fr6, to6, so6, va6, rfl, hm6, hadv⟩
              refine Go.run hsz hn1 1 (pc' := 31) (lv' := [some (gr 148), some (gi 0), some (gi (b2 (pt = true)))]) (st' := []) (M' := gw m6 ml) rfl ?_
              refine Go.dropl 2 ?_
              refine Go.run hsz hn1 0 (pc' := 31) (lv' := [some (gr 148), some (gi 0), none]) (st' := []) (M' := gw m6 ml) rfl ?_
              have hst : syStep (tk k) (vv k) (pt, S, o, out, sd) = some c5 := (by unfold syStep; dsimp only; rw [if_pos hpt]; exact hc5)
              rw [syR_step hok hkT hst]
              have h9 := ih (k + 1) c5.1 fr6 to6 so6 va6 c5.2.1 c5.2.2.2.1 c5.2.2.1 c5.2.2.2.2 m6 hm6 (adv_at hx (by omega) hadv) (syI_step hI hst) (sB_step (c := (pt, S, o, out, sd)) hB hst) (by omega)
              rw [show b2 (c5.1 = true) = 0 from (by rw [← hp5]; unfold b2; first | rw [if_pos (by omega)] | rw [if_neg (by omega)])] at h9
              exact h9
            · refine Go.run hsz hn1 4 (pc' := 102) (lv' := [some (gr 148), some (gi 1), some (gi (b2 (pt = true)))]) (st' := [gr 148]) (M' := gw m2 ml) rfl ?_
              have hto : to = ((E (k + 1) : Nat) : Int) := hat.2.2.1 hkT
              have hEn := lexd_E hx hkT
              refine Go.callV (As := []) (b := 148) (st := []) (mc1 := 0) (mc := 0) (ms1 := 0) (ms := 0) (by rfl) rfl (c := 11) (N := 46) (by rfl) (by decide) (by rfl) (gcn 194 (by decide)).1 (gcn 194 (by decide)).2 rfl (Nat.le_of_ble_eq_true rfl) (by omega) (cM_adv hsz (n := n - 1) (by omega) ml mi hn0 hbs c5.2.1 c5.2.2.2.1 c5.2.2.1 c5.2.2.2.2 (E (k + 1)) (by omega) m2 fr so va (by rw [← hto]; exact hL5)) ?_
              rintro _ _ ⟨rfl, m6, fr6, to6, so6, va6, rfl, hm6, hadv⟩
              refine Go.run hsz hn1 1 (pc' := 31) (lv' := [some (gr 148), some (gi 1), some (gi (b2 (pt = true)))]) (st' := []) (M' := gw m6 ml) rfl ?_
              refine Go.dropl 2 ?_
              refine Go.run hsz hn1 0 (pc' := 31) (lv' := [some (gr 148), some (gi 1), none]) (st' := []) (M' := gw m6 ml) rfl ?_
              have hst : syStep (tk k) (vv k) (pt, S, o, out, sd) = some c5 := (by unfold syStep; dsimp only; rw [if_pos hpt]; exact hc5)
              rw [syR_step hok hkT hst]
              have h9 := ih (k + 1) c5.1 fr6 to6 so6 va6 c5.2.1 c5.2.2.2.1 c5.2.2.1 c5.2.2.2.2 m6 hm6 (adv_at hx (by omega) hadv) (syI_step hI hst) (sB_step (c := (pt, S, o, out, sd)) hB hst) (by omega)
              rw [show b2 (c5.1 = true) = 1 from (by rw [← hp5]; unfold b2; first | rw [if_pos (by omega)] | rw [if_neg (by omega)])] at h9
              exact h9
        · refine Go.run hsz hn1 3 (pc' := 65) (lv' := [some (gr 148), some (gi (b2 (pt = true))), some (gi (b2 (pt = true)))]) (st' := [gi (m2 148 23)]) (M' := gw m2 ml) rfl ?_
          obtain ⟨hn5, c5, hL5⟩ := h5.no (by omega)
          have hst : syStep (tk k) (vv k) (pt, S, o, out, sd) = none := (by unfold syStep; dsimp only; rw [if_pos hpt]; exact hn5)
          exact Go.iret (by rfl) ⟨_, _, rfl, rfl, fr, to, so, va, c5, hL5, Or.inl ⟨k, syR_bad hok hkT hst, hat.1, (by rw [show m2 148 23 = fr from hL5.2.2.1.1]; exact hat.2.1)⟩⟩
set_option maxRecDepth 100000 in
set_option maxHeartbeats 4000000 in
theorem cM_reads {G : gG} (hsz : G.2.2.2.2.2.2 = true) {n : Nat} (hn : 7 ≤ n) (ml : Nat → Nat → Int64) (mi : Nat → Nat → Int) (hn0 : 0 ≤ mi 148 22 ∧ mi 148 22 ≤ 120) (hbs : ∀ i : Nat, (i : Int) < mi 148 22 → 0 ≤ mi 164 i ∧ mi 164 i ≤ 255) (tk vv st : Nat → Int) (E : Nat → Nat) (T : Nat) (hx : lexd (mi 164) (mi 148 22).toNat tk vv st E T) (hR : gR32 mi) : gM G 203 n 0 0 [gr 148] (gw mi ml) (fun r M => ∃ (m1 : Nat → Nat → Int) (f1 : Int), M = gw m1 ml ∧ r = some (gi f1) ∧ rdP mi m1 st T (syR tk vv T 0 (true, [], 0, [], 0)) f1) := by
  have hn1 : 1 ≤ n := by omega
  refine gM.of mX12_reads okX12_reads (gcp 203 (by decide)).1 (gcp 203 (by decide)).2 (Nat.le_of_ble_eq_true rfl) ?_
  refine Go.run hsz hn1 18 (pc' := 28) (lv' := [some (gr 148), some (gi 1), none]) (st' := [gr 148]) (M' := gw (gu (gu (gu (gu (gu mi 148 24 0) 148 29 0) 148 30 0) 148 31 0) 148 32 0) ml) rfl ?_
  refine Go.callV (As := []) (b := 148) (st := []) (mc1 := 0) (mc := 0) (ms1 := 0) (ms := 0) (by rfl) rfl (c := 11) (N := 46) (by rfl) (by decide) (by rfl) (gcn 194 (by decide)).1 (gcn 194 (by decide)).2 rfl (Nat.le_of_ble_eq_true rfl) (by omega) (cM_adv hsz (n := n - 1) (by omega) ml mi hn0 hbs [] [] 0 0 0 (by omega) (gu (gu (gu (gu (gu mi 148 24 0) 148 29 0) 148 30 0) 148 31 0) 148 32 0) _ _ _ (rL_start hR)) ?_
  rintro _ _ ⟨rfl, m6, fr6, to6, so6, va6, rfl, hm6, hadv⟩
  refine Go.run hsz hn1 0 (pc' := 31) (lv' := [some (gr 148), some (gi 1), none]) (st' := []) (M' := gw m6 ml) rfl ?_
  have h9 := lM_rds hsz (n := n) (by omega) ml mi hn0 hbs tk vv st E T hx (T + 1) 0 true fr6 to6 so6 va6 [] [] 0 0 m6 hm6 (adv_at hx (by omega) (by rw [hx.1.1]; exact hadv)) ⟨by decide, by decide, by decide, by decide, by decide⟩ (fun s hs => absurd hs (by simp)) (by omega); rw [show b2 (true = true) = 1 from rfl] at h9; exact h9
set_option maxRecDepth 100000 in
set_option maxHeartbeats 4000000 in
theorem lM_lw {G : gG} (hsz : G.2.2.2.2.2.2 = true) {n : Nat} (hn : 2 ≤ n) (ml : Nat → Nat → Int64) (m1 : Nat → Nat → Int) (l f0 : Int) (hl : 0 ≤ l ∧ l ≤ 1) (hR : gR32 m1) (h29 : 0 ≤ m1 148 29 ∧ m1 148 29 ≤ 120) : ∀ (f : Nat) (q : Int), 0 ≤ q → q ≤ m1 148 29 → m1 148 29 - q < f → Go G mX12_law n 0 0 45 [some (gr 148), some (gi l), some (gi f0), some (gi q)] [] (gw (gcpy (gu (gu m1 148 22 0) 157 l.toNat (m1 148 29)) 165 0 158 (120 * l).toNat q.toNat) ml) (gret (m1 148 32) (gw (gcpy (gu (gu m1 148 22 0) 157 l.toNat (m1 148 29)) 165 0 158 (120 * l).toNat (m1 148 29).toNat) ml)) := by
  have hn1 : 1 ≤ n := by omega
  have e29 : ∀ q : Int, (gcpy (gu (gu m1 148 22 0) 157 l.toNat (m1 148 29)) 165 0 158 (120 * l).toNat q.toNat) 148 29 = m1 148 29 := fun q => (by rw [gcpy_off (Or.inl (by decide)), gu_other (by decide), gu_ne (by decide)])
  intro f
  induction f with
  | zero => intros; omega
  | succ f ih =>
    intro q q0 q1 q2
    have e29q := e29 q
    refine Go.run hsz hn1 3 (pc' := 50) (lv' := [some (gr 148), some (gi l), some (gi f0), some (gi q)]) (st' := [gi ((gcpy (gu (gu m1 148 22 0) 157 l.toNat (m1 148 29)) 165 0 158 (120 * l).toNat q.toNat) 148 29), gi q]) (M' := gw (gcpy (gu (gu m1 148 22 0) 157 l.toNat (m1 148 29)) 165 0 158 (120 * l).toNat q.toNat) ml) rfl ?_
    refine Go.icmp_ge (by rfl) ⟨by omega, by omega⟩ (gcpy_R (gR32_gu (gR32_gu hR ⟨by decide, by decide⟩) (hR _ _)) _ _) (fun kq1 => ?_) (fun kq1 => ?_)
    · refine Go.run hsz hn1 2 (pc' := 80) (lv' := [some (gr 148), some (gi l), some (gi f0), some (gi q)]) (st' := [gi ((gcpy (gu (gu m1 148 22 0) 157 l.toNat (m1 148 29)) 165 0 158 (120 * l).toNat q.toNat) 148 32)]) (M' := gw (gcpy (gu (gu m1 148 22 0) 157 l.toNat (m1 148 29)) 165 0 158 (120 * l).toNat q.toNat) ml) rfl ?_
      obtain rfl : q = m1 148 29 := by omega
      exact Go.iret (by rfl) ⟨congrArg (fun z => some (gi z)) (by rw [gcpy_off (Or.inl (by decide)), gu_other (by decide), gu_ne (by decide)]), rfl⟩
    · refine Go.run hsz hn1 10 (pc' := 68) (lv' := [some (gr 148), some (gi l), some (gi f0), some (gi q)]) (st' := [gi q, gr 165, gi ((120 * l) + q), gr 158]) (M' := gw (gcpy (gu (gu m1 148 22 0) 157 l.toNat (m1 148 29)) 165 0 158 (120 * l).toNat q.toNat) ml) rfl ?_
      refine Go.iald (by rfl) (N := 120) (by rfl) (by omega) (by omega) (by decide) ?_
      refine Go.run hsz hn1 0 (pc' := 69) (lv' := [some (gr 148), some (gi l), some (gi f0), some (gi q)]) (st' := [gi ((gcpy (gu (gu m1 148 22 0) 157 l.toNat (m1 148 29)) 165 0 158 (120 * l).toNat q.toNat) 165 q.toNat), gi ((120 * l) + q), gr 158]) (M' := gw (gcpy (gu (gu m1 148 22 0) 157 l.toNat (m1 148 29)) 165 0 158 (120 * l).toNat q.toNat) ml) rfl ?_
      refine Go.iast (by rfl) (N := 240) (by rfl) (by omega) (by omega) (by decide) ?_
      refine Go.run hsz hn1 2 (pc' := 45) (lv' := [some (gr 148), some (gi l), some (gi f0), some (gi (q + 1))]) (st' := []) (M' := gw (gu (gcpy (gu (gu m1 148 22 0) 157 l.toNat (m1 148 29)) 165 0 158 (120 * l).toNat q.toNat) 158 (((120 * l) + q).toNat) ((gcpy (gu (gu m1 148 22 0) 157 l.toNat (m1 148 29)) 165 0 158 (120 * l).toNat q.toNat) 165 q.toNat)) ml) rfl ?_
      have h9 := ih (q + 1) (by omega) (by omega) (by omega)
      rw [show gcpy (gu (gu m1 148 22 0) 157 l.toNat (m1 148 29)) 165 0 158 (120 * l).toNat (q + 1).toNat = gu (gcpy (gu (gu m1 148 22 0) 157 l.toNat (m1 148 29)) 165 0 158 (120 * l).toNat q.toNat) 158 (((120 * l) + q).toNat) ((gcpy (gu (gu m1 148 22 0) 157 l.toNat (m1 148 29)) 165 0 158 (120 * l).toNat q.toNat) 165 q.toNat) from ?_] at h9
      · exact h9
      · rw [show (q + 1).toNat = q.toNat + 1 by omega, ← gcpy_s, show (120 * l + q).toNat = (120 * l).toNat + q.toNat by omega, gcpy_off (Or.inl (by decide)), Nat.zero_add]
def rlP (m m1 : Nat → Nat → Int) (st : Nat → Int) (T : Nat) (l f0 : Int) (res : Nat ⊕ (List Int × Int)) (ml : Nat → Nat → Int64) (r : Option gV) (M : gMe) : Prop := rdP m m1 st T res f0 ∧ ((0 ≤ f0 ∧ r = some (gi (-1 - f0)) ∧ M = gw (gu m1 148 22 0) ml) ∨ (f0 < 0 ∧ r = some (gi (m1 148 32)) ∧ M = gw (gcpy (gu (gu m1 148 22 0) 157 l.toNat (m1 148 29)) 165 0 158 (120 * l).toNat (m1 148 29).toNat) ml))
theorem rdP_b {mi m1 : Nat → Nat → Int} {st : Nat → Int} {T : Nat} {res : Nat ⊕ (List Int × Int)} {f : Int} (h : rdP mi m1 st T res f) (hst : ∀ k, k ≤ T → 0 ≤ st k ∧ st k ≤ 120) : gR32 m1 ∧ (-1 ≤ f ∧ f ≤ 120) ∧ (f < 0 → 0 ≤ m1 148 29 ∧ m1 148 29 ≤ 120) := by
  obtain ⟨fr, to, so, va, c, h1, h2⟩ := h
  refine ⟨h1.1, ?_, fun q => ?_⟩
  · rcases h2 with ⟨kf, _, h3, h4⟩ | ⟨_, h3, _⟩
    · have := hst kf h3; omega
    · omega
  · rcases h2 with ⟨kf, _, h3, h4⟩ | ⟨_, h3, h4, _⟩
    · have := hst kf h3; omega
    · have : m1 148 29 = c.2.2.2.1.length := h1.2.2.2.1.1
      omega
set_option maxRecDepth 100000 in
set_option maxHeartbeats 4000000 in
theorem pM_law {G : gG} (hsz : G.2.2.2.2.2.2 = true) {n : Nat} (hn : 8 ≤ n) (ml : Nat → Nat → Int64) (mi : Nat → Nat → Int) (hn0 : 0 ≤ mi 148 22 ∧ mi 148 22 ≤ 120) (hbs : ∀ i : Nat, (i : Int) < mi 148 22 → 0 ≤ mi 164 i ∧ mi 164 i ≤ 255) (tk vv st : Nat → Int) (E : Nat → Nat) (T : Nat) (l : Int) (hx : 0 ≤ l ∧ l ≤ 1 → lexd (mi 164) (mi 148 22).toNat tk vv st E T) (hR : gR32 mi) (hv : SV mi) (r_l : rng l) : gM G 204 n 0 0 [gr 148, gi l] (gw mi ml) (fun r M => (¬ (0 ≤ l ∧ l ≤ 1) ∧ r = some (gi (-1000001)) ∧ M = gw (mFd mi 0) ml) ∨ ((0 ≤ l ∧ l ≤ 1) ∧ ∃ (m1 : Nat → Nat → Int) (f0 : Int), rlP mi m1 st T l f0 (syR tk vv T 0 (true, [], 0, [], 0)) ml r M)) := by
  have hn1 : 1 ≤ n := by omega
  have r_l2 : -2147483648 ≤ l ∧ l < 2147483648 := r_l
  have hlt : 0 ≤ l ∧ l ≤ 1 → rng l := fun _ => r_l
  refine gM.of mX12_law okX12_law (gcp 204 (by decide)).1 (gcp 204 (by decide)).2 (Nat.le_of_ble_eq_true rfl) ?_
  refine Go.run hsz hn1 3 (pc' := 3) (lv' := [some (gr 148), some (gi l), none, none]) (st' := [gi 1, gi 0, gi l]) (M' := gw mi ml) rfl ?_
  refine Go.callS (As := [gi l, gi 0, gi 1]) (st := []) (mc1 := 0) (mc := 0) (ms1 := 0) (ms := 0) (by rfl) rfl (gcn 153 (by decide)).1 (gcn 153 (by decide)).2 (Nat.le_of_ble_eq_true rfl) (by omega) (cM_in hsz (n := n - 1) (by omega) mi ml l 0 1 r_l ⟨by decide, by decide⟩ ⟨by decide, by decide⟩) ?_
  rintro _ _ ⟨rfl, rfl⟩
  refine Go.run hsz hn1 0 (pc' := 6) (lv' := [some (gr 148), some (gi l), none, none]) (st' := [gi (b2 (0 ≤ l ∧ l ≤ 1))]) (M' := gw mi ml) rfl ?_
  refine Go.if_ne (by rfl) (b2_rng _) (fun kq1 => ?_) (fun kq1 => ?_)
  · replace kq1 := b2_pos kq1
    refine Go.run hsz hn1 1 (pc' := 16) (lv' := [some (gr 148), some (gi l), none, none]) (st' := [gr 148]) (M' := gw mi ml) rfl ?_
    replace hx := hx (by omega)
    refine Go.callV (As := []) (b := 148) (st := []) (mc1 := 0) (mc := 0) (ms1 := 0) (ms := 0) (by rfl) rfl (c := 11) (N := 46) (by rfl) (by decide) (by rfl) (gcn 203 (by decide)).1 (gcn 203 (by decide)).2 rfl (Nat.le_of_ble_eq_true rfl) (by omega) (cM_reads hsz (n := n - 1) (by omega) ml mi hn0 hbs tk vv st E T hx hR) ?_
    rintro _ _ ⟨m1, f0, rfl, rfl, hrd⟩
    have hrb := rdP_b hrd (fun k hk => (by have := lexd_st hx hk; omega))
    have hrb2 := hrb.2.1
    have hrb3 := hrb.2.2
    refine Go.run hsz hn1 5 (pc' := 26) (lv' := [some (gr 148), some (gi l), some (gi f0), none]) (st' := [gi f0]) (M' := gw (gu m1 148 22 0) ml) rfl ?_
    refine Go.if_lt (by rfl) ⟨by omega, by omega⟩ (fun kq2 => ?_) (fun kq2 => ?_)
    · refine Go.run hsz hn1 5 (pc' := 42) (lv' := [some (gr 148), some (gi l), some (gi f0), none]) (st' := [gi (m1 148 29), gi l, gr 157]) (M' := gw (gu m1 148 22 0) ml) rfl ?_
      refine Go.iast (by rfl) (N := 2) (by rfl) (by omega) (by omega) (by decide) ?_
      refine Go.run hsz hn1 2 (pc' := 45) (lv' := [some (gr 148), some (gi l), some (gi f0), some (gi 0)]) (st' := []) (M' := gw (gu (gu m1 148 22 0) 157 l.toNat (m1 148 29)) ml) rfl ?_
      have h9 := lM_lw hsz (n := n) (by omega) ml m1 l f0 ⟨by omega, by omega⟩ hrb.1 (hrb3 (by omega)) ((m1 148 29).toNat + 1) 0 (by omega) (by have := hrb3 (by omega); omega) (by have := hrb3 (by omega); omega)
      rw [show (0 : Int).toNat = 0 from rfl, gcpy_0] at h9
      refine Go.imp ?_ h9
      rintro _ _ ⟨rfl, rfl⟩
      exact Or.inr ⟨by omega, m1, f0, hrd, Or.inr ⟨by omega, rfl, rfl⟩⟩
    · refine Go.run hsz hn1 3 (pc' := 32) (lv' := [some (gr 148), some (gi l), some (gi f0), none]) (st' := [gi ((-1) - f0)]) (M' := gw (gu m1 148 22 0) ml) rfl ?_
      exact Go.iret (by rfl) (Or.inr ⟨by omega, m1, f0, hrd, Or.inl ⟨by omega, rfl, rfl⟩⟩)
  · replace kq1 := b2_neg kq1
    refine Go.run hsz hn1 2 (pc' := 11) (lv' := [some (gr 148), some (gi l), none, none]) (st' := [gi 0, gr 148]) (M' := gw mi ml) rfl ?_
    refine Go.callV (As := [gi 0]) (b := 148) (st := []) (mc1 := 0) (mc := 0) (ms1 := 0) (ms := 0) (by rfl) rfl (c := 11) (N := 46) (by rfl) (by decide) (by rfl) (gcn 154 (by decide)).1 (gcn 154 (by decide)).2 rfl (Nat.le_of_ble_eq_true rfl) (by omega) (cM_finds hsz (n := n - 1) (by omega) mi ml 0 (by decide) (by decide)) ?_
    rintro _ _ ⟨rfl, rfl⟩
    refine Go.run hsz hn1 0 (pc' := 14) (lv' := [some (gr 148), some (gi l), none, none]) (st' := [gi (-1000001)]) (M' := gw (mFd mi 0) ml) rfl ?_
    exact Go.iret (by rfl) (Or.inl ⟨by omega, rfl, rfl⟩)

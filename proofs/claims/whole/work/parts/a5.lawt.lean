/-! ===== law: the class's descent ===== -/
def pAns (mi : Nat → Nat → Int) (ml : Nat → Nat → Int64) (T k : Nat) (c : SYc) (Q : Nat → List Int → Int → Prop) (r : Option gV) (M : gMe) : Prop := ∃ (m1 : Nat → Nat → Int) (b : Int), M = gw m1 ml ∧ r = some (gi b) ∧ pA2 mi T k c Q m1 b
def qTm (tk va : Nat → Int) (T k : Nat) (cc S : List Int) (o sd : Int) (k' : Nat) (cc' : List Int) (sd' : Int) : Prop := qL tk va T 3 k cc S o sd k' cc' sd' ∧ ¬ (tk k' = 42 ∨ tk k' = 47)
def qSm (tk va : Nat → Int) (T k : Nat) (cc S : List Int) (o sd : Int) (k' : Nat) (cc' : List Int) (sd' : Int) : Prop := qL tk va T 2 k cc S o sd k' cc' sd' ∧ ¬ (tk k' = 42 ∨ tk k' = 47) ∧ ¬ (tk k' = 43 ∨ tk k' = 45)
def gRd (G : gG) (j n : Nat) (o b : Int) (Q : (Nat → Int) → (Nat → Int) → Nat → Nat → List Int → List Int → Int → Int → Nat → List Int → Int → Prop) : Prop := ∀ (mi : Nat → Nat → Int) (ml : Nat → Nat → Int64) (E : Nat → Nat) (T : Nat) (m : Nat → Nat → Int) (k : Nat) (cc : List Int) (sd : Int) (S : List Int), tBs mi E T → (b < 4 → sOK b S) → cR mi m T k cc sd → gM G j n 0 0 [gr 132, gi o] (gw m ml) (pAns mi ml T k (true, S, o, cc.map tr, sd) (Q (mi 135) (mi 136) T k cc S o sd))
theorem tOK_lt {tk va : Nat → Int} {T k : Nat} (h : tOK tk va T) (hk : k ≤ T) (h0 : ¬ tk k = 0) : k < T := by
  rcases Nat.lt_or_ge k T with q | q
  · exact q
  · have : k = T := by omega
    rw [this] at h0
    exact absurd h.1 h0
theorem qP_len {k k' : Nat} {cc cc' : List Int} (h : qP k k' cc cc') : cc'.length ≤ cc.length + (k' - k) := by
  obtain ⟨p, h1, h2, _⟩ := h
  rw [h1, List.length_append]
  omega
theorem pA2.map {mi m : Nat → Nat → Int} {T k : Nat} {c : SYc} {Q Q' : Nat → List Int → Int → Prop} {b : Int} (h : pA2 mi T k c Q m b) (hq : ∀ k' cc' sd', Q k' cc' sd' → Q' k' cc' sd') : pA2 mi T k c Q' m b := by
  rcases h with ⟨h1, k', cc', sd', h2, h3⟩ | h
  · exact Or.inl ⟨h1, k', cc', sd', h2, hq _ _ _ h3⟩
  · exact Or.inr h
def pCl (mi m1 : Nat → Nat → Int) (k : Nat) (cc : List Int) (sd b : Int) : Prop := (b = 1 ∧ mi 135 k = 41 ∧ cL mi m1 (k + 1) cc sd) ∨ (b = 0 ∧ ¬ mi 135 k = 41 ∧ m1 132 1 = mi 137 k ∧ cL mi m1 k cc sd)
theorem pCl.b01 {mi m1 : Nat → Nat → Int} {k : Nat} {cc : List Int} {sd b : Int} (h : pCl mi m1 k cc sd b) : b = 0 ∨ b = 1 := by
  rcases h with ⟨h, _⟩ | ⟨h, _⟩
  · exact Or.inr h
  · exact Or.inl h
set_option maxRecDepth 100000 in
set_option maxHeartbeats 4000000 in
theorem lT_term {G : gG} (hsz : G.2.2.2.2.2.2 = true) {n : Nat} (hn : 3 ≤ n) (ml : Nat → Nat → Int64) (o : Int) (ho : 0 ≤ o ∧ o ≤ 8) (h1 : gRd G 95 (n - 1) o 4 qOne) (mi : Nat → Nat → Int) (E : Nat → Nat) (T : Nat) (hB : tBs mi E T) (k : Nat) (cc : List Int) (sd : Int) (S : List Int) (hS : sOK 3 S) : ∀ (f : Nat) (q : Int) (b : Int) (m : Nat → Nat → Int) (h : pA2 mi T k (true, S, o, cc.map tr, sd) (fun (k1 : Nat) (cc1 : List Int) (sd1 : Int) => (qL (mi 135) (mi 136) T 3 k cc S o sd k1 cc1 sd1 ∧ True) ∧ q < (k1 : Int)) m b), 0 ≤ q → q ≤ 120 → 120 - q < f → Go G mX9_readTerm n 0 0 8 [some (gr 132), some (gi o), some (gi b), some (gi q), none] [] (gw m ml) (pAns mi ml T k (true, S, o, cc.map tr, sd) (qTm (mi 135) (mi 136) T k cc S o sd)) := by
  have hn1 : 1 ≤ n := by omega
  have hT := hB.ok.2
  intro f
  induction f with
  | zero => intros; omega
  | succ f ih =>
    intro q b m h q0 q1 q2
    have hb01 := h.b01
    refine Go.run hsz hn1 2 (pc' := 11) (lv' := [some (gr 132), some (gi o), some (gi b), some (gi q), none]) (st' := [gi 120, gi q]) (M' := gw m ml) rfl ?_
    refine Go.icmp_ge (by rfl) ⟨by omega, by omega⟩ ⟨by decide, by decide⟩ (fun kq1 => ?_) (fun kq1 => ?_)
    · refine Go.run hsz hn1 1 (pc' := 69) (lv' := [some (gr 132), some (gi o), some (gi b), some (gi q), none]) (st' := [gi b]) (M' := gw m ml) rfl ?_
      by_cases hb0 : b = 0
      · exact Go.zret (by rfl) h.b01 ⟨_, _, rfl, rfl, h.failw hb0⟩
      · obtain ⟨k1, cc1, sd1, hR1, hQ1⟩ := h.yes hb0
        have hR1a := hR1.2
        have hQ1a := hQ1.2
        exfalso
        omega
    · refine Go.run hsz hn1 1 (pc' := 15) (lv' := [some (gr 132), some (gi o), some (gi b), some (gi q), none]) (st' := [gi b]) (M' := gw m ml) rfl ?_
      refine Go.if_eq (by rfl) ⟨by omega, by omega⟩ (fun kq2 => ?_) (fun kq2 => ?_)
      · refine Go.run hsz hn1 1 (pc' := 69) (lv' := [some (gr 132), some (gi o), some (gi b), some (gi q), none]) (st' := [gi b]) (M' := gw m ml) rfl ?_
        by_cases hb0 : b = 0
        · exact Go.zret (by rfl) h.b01 ⟨_, _, rfl, rfl, h.failw hb0⟩
        · obtain ⟨k1, cc1, sd1, hR1, hQ1⟩ := h.yes hb0
          have hR1a := hR1.2
          have hQ1a := hQ1.2
          exfalso
          omega
      · refine Go.run hsz hn1 3 (pc' := 23) (lv' := [some (gr 132), some (gi o), some (gi b), some (gi q), none]) (st' := [gi 47, gi 42, gr 132]) (M' := gw m ml) rfl ?_
        obtain ⟨k1, cc1, sd1, hR1, hQ1⟩ := h.yes (by omega)
        have hR1a := hR1.2
        refine Go.callV (As := [gi 42, gi 47]) (b := 132) (st := []) (mc1 := 0) (mc := 0) (ms1 := 0) (ms := 0) (by rfl) rfl (c := 8) (N := 11) (by rfl) (by decide) (by rfl) (gcn 88 (by decide)).1 (gcn 88 (by decide)).2 rfl (Nat.le_of_ble_eq_true rfl) (by omega) (cT_isAt hsz (n := n - 1) (by omega) ml mi E T hB m k1 cc1 sd1 hR1.1 hR1.2.1 42 47 ⟨by decide, by decide⟩ ⟨by decide, by decide⟩) ?_
        rintro _ _ ⟨rfl, rfl⟩
        refine Go.run hsz hn1 0 (pc' := 26) (lv' := [some (gr 132), some (gi o), some (gi b), some (gi q), none]) (st' := [gi (b2 (mi 135 k1 = 42 ∨ mi 135 k1 = 47))]) (M' := gw m ml) rfl ?_
        refine Go.if_eq (by rfl) (b2_rng _) (fun kq3 => ?_) (fun kq3 => ?_)
        · replace kq3 := b2_neg kq3
          refine Go.run hsz hn1 1 (pc' := 69) (lv' := [some (gr 132), some (gi o), some (gi b), some (gi q), none]) (st' := [gi b]) (M' := gw m ml) rfl ?_
          exact Go.zret (by rfl) h.b01 ⟨_, _, rfl, rfl, Or.inl ⟨by have := h.b01; omega, k1, cc1, sd1, hR1, ⟨hQ1.1.1, by assumption⟩⟩⟩
        · replace kq3 := b2_pos kq3
          refine Go.run hsz hn1 1 (pc' := 30) (lv' := [some (gr 132), some (gi o), some (gi b), some (gi q), none]) (st' := [gr 132]) (M' := gw m ml) rfl ?_
          have hop9 : mi 135 k1 = 42 ∨ mi 135 k1 = 47 := by assumption
          have hk1 : k1 < T := tOK_lt hB.ok.1 hR1.2.1 (by omega)
          refine Go.callV (As := []) (b := 132) (st := []) (mc1 := 0) (mc := 0) (ms1 := 0) (ms := 0) (by rfl) rfl (c := 8) (N := 11) (by rfl) (by decide) (by rfl) (gcn 89 (by decide)).1 (gcn 89 (by decide)).2 rfl (Nat.le_of_ble_eq_true rfl) (by omega) (cT_pass hsz (n := n - 1) (by omega) ml mi E T hB m k1 cc1 sd1 hR1.1 hk1) ?_
          rintro _ _ ⟨m2, rfl, rfl, hm2⟩
          refine Go.run hsz hn1 3 (pc' := 37) (lv' := [some (gr 132), some (gi o), some (gi b), some (gi q), some (gi (mi 135 k1))]) (st' := [gi o, gr 132]) (M' := gw m2 ml) rfl ?_
          have hnT := nT (20000 + mi 135 k1) S (by omega)
          refine Go.callV (As := [gi o]) (b := 132) (st := []) (mc1 := 0) (mc := 0) (ms1 := 0) (ms := 0) (by rfl) rfl (c := 8) (N := 11) (by rfl) (by decide) (by rfl) (gcn 95 (by decide)).1 (gcn 95 (by decide)).2 rfl (Nat.le_of_ble_eq_true rfl) (by omega) (h1 mi ml E T m2 (k1 + 1) cc1 sd1 ((20000 + mi 135 k1) :: S) hB (fun _ => ⟨hnT, by show bnd _ < _; rcases hop9 with w9 | w9 <;> rw [w9] <;> decide⟩) ⟨hm2, by omega, by omega, by omega, by omega⟩) ?_
          rintro _ _ ⟨m3, b3, rfl, rfl, h3⟩
          have hb3 := h3.b01
          refine Go.run hsz hn1 0 (pc' := 40) (lv' := [some (gr 132), some (gi o), some (gi b), some (gi q), some (gi (mi 135 k1))]) (st' := [gi b3]) (M' := gw m3 ml) rfl ?_
          refine Go.if_eq (by rfl) ⟨by omega, by omega⟩ (fun kq4 => ?_) (fun kq4 => ?_)
          · refine Go.run hsz hn1 4 (pc' := 8) (lv' := [some (gr 132), some (gi o), some (gi 0), some (gi (q + 1)), some (gi (mi 135 k1))]) (st' := []) (M' := gw m3 ml) rfl ?_
            refine Go.dropl 4 ?_
            refine Go.run hsz hn1 0 (pc' := 8) (lv' := [some (gr 132), some (gi o), some (gi 0), some (gi (q + 1)), none]) (st' := []) (M' := gw m3 ml) rfl ?_
            have hop := op_in hB.ok.1 (sg3 hop9).2.1 (sg3 hop9).1 (by omega) (by omega) hS.2 (fun w9 => by have := (sg3 hop9).2.2; omega) (by omega) rfl hQ1.1.1
            exact ih (q + 1) 0 m3 (h3.fail (by omega) hop.2) (by omega) (by omega) (by omega)
          · refine Go.run hsz hn1 4 (pc' := 50) (lv' := [some (gr 132), some (gi o), some (gi b), some (gi q), some (gi (mi 135 k1))]) (st' := [gi (20000 + (mi 135 k1)), gr 132]) (M' := gw m3 ml) rfl ?_
            obtain ⟨k2, cc2, sd2, hR2, hQ2⟩ := h3.yes (by omega)
            have hR2a := hR2.2
            have hQ2k : k1 + 1 < k2 ∧ k2 ≤ T := hQ2.1
            have hQ2l := qP_len (show qP (k1 + 1) k2 cc1 cc2 from hQ2.2.1)
            refine Go.callV (As := [gi (20000 + (mi 135 k1))]) (b := 132) (st := []) (mc1 := 0) (mc := 0) (ms1 := 0) (ms := 0) (by rfl) rfl (c := 8) (N := 11) (by rfl) (by decide) (by rfl) (gcn 91 (by decide)).1 (gcn 91 (by decide)).2 rfl (Nat.le_of_ble_eq_true rfl) (by omega) (cT_emit hsz (n := n - 1) (by omega) ml mi E T hB m3 k2 cc2 sd2 hR2.1 hR2.2.1 (20000 + mi 135 k1) ⟨by omega, by omega⟩ (by omega)) ?_
            rintro _ _ ⟨m4, rfl, rfl, hm4⟩
            refine Go.run hsz hn1 0 (pc' := 53) (lv' := [some (gr 132), some (gi o), some (gi b), some (gi q), some (gi (mi 135 k1))]) (st' := [gi 1]) (M' := gw m4 ml) rfl ?_
            refine Go.if_eq (by rfl) ⟨by decide, by decide⟩ (fun kq5 => ?_) (fun kq5 => ?_)
            · exact absurd kq5 (by decide)
            · refine Go.run hsz hn1 5 (pc' := 8) (lv' := [some (gr 132), some (gi o), some (gi 1), some (gi (q + 1)), some (gi (mi 135 k1))]) (st' := []) (M' := gw m4 ml) rfl ?_
              refine Go.dropl 4 ?_
              refine Go.run hsz hn1 0 (pc' := 8) (lv' := [some (gr 132), some (gi o), some (gi 1), some (gi (q + 1)), none]) (st' := []) (M' := gw m4 ml) rfl ?_
              have hop := op_in hB.ok.1 (sg3 hop9).2.1 (sg3 hop9).1 (by omega) (by omega) hS.2 (fun w9 => by have := (sg3 hop9).2.2; omega) (by omega) rfl hQ1.1.1
              exact ih (q + 1) 1 m4 (Or.inl ⟨rfl, k2, cc2 ++ [20000 + mi 135 k1], sd2, ⟨hm4, by omega, by rw [List.length_append, List.length_singleton]; omega, by omega, by omega⟩, ⟨qL_op hB.ok.1 (sg3 hop9).2.1 (sg3 hop9).1 (by omega) (by omega) hS.2 (sg3 hop9).2.2 (by omega) (by omega) rfl hQ1.1.1 (qL_of hnT.1 hnT.2 hQ2), trivial⟩, by omega⟩) (by omega) (by omega) (by omega)
set_option maxRecDepth 100000 in
set_option maxHeartbeats 4000000 in
theorem cT_term {G : gG} (hsz : G.2.2.2.2.2.2 = true) {n : Nat} (hn : 4 ≤ n) (ml : Nat → Nat → Int64) (o : Int) (ho : 0 ≤ o ∧ o ≤ 8) (h1 : gRd G 95 (n - 1) o 4 qOne) (mi : Nat → Nat → Int) (E : Nat → Nat) (T : Nat) (hB : tBs mi E T) (k : Nat) (cc : List Int) (sd : Int) (S : List Int) (hS : sOK 3 S) (m : Nat → Nat → Int) (hm : cR mi m T k cc sd) : gM G 94 n 0 0 [gr 132, gi o] (gw m ml) (pAns mi ml T k (true, S, o, cc.map tr, sd) (qTm (mi 135) (mi 136) T k cc S o sd)) := by
  have hn1 : 1 ≤ n := by omega
  refine gM.of mX9_readTerm okX9_readTerm (gcp 94 (by decide)).1 (gcp 94 (by decide)).2 (Nat.le_of_ble_eq_true rfl) ?_
  refine Go.run hsz hn1 2 (pc' := 2) (lv' := [some (gr 132), some (gi o), none, none, none]) (st' := [gi o, gr 132]) (M' := gw m ml) rfl ?_
  refine Go.callV (As := [gi o]) (b := 132) (st := []) (mc1 := 0) (mc := 0) (ms1 := 0) (ms := 0) (by rfl) rfl (c := 8) (N := 11) (by rfl) (by decide) (by rfl) (gcn 95 (by decide)).1 (gcn 95 (by decide)).2 rfl (Nat.le_of_ble_eq_true rfl) (by omega) (h1 mi ml E T m k cc sd S hB (fun _ => ⟨hS.1, by have := hS.2; omega⟩) hm) ?_
  rintro _ _ ⟨m1, b1, rfl, rfl, h5⟩
  have hb01 := h5.b01
  refine Go.run hsz hn1 3 (pc' := 8) (lv' := [some (gr 132), some (gi o), some (gi b1), some (gi 0), none]) (st' := []) (M' := gw m1 ml) rfl ?_
  exact lT_term hsz (n := n) (by omega) ml o ho h1 mi E T hB k cc sd S hS 121 0 b1 m1 (h5.map (fun k1 cc1 sd1 hq => ⟨⟨qL_of hS.1.1 hS.1.2 hq, trivial⟩, by have := hq.1; omega⟩)) (by omega) (by omega) (by omega)
set_option maxRecDepth 100000 in
set_option maxHeartbeats 4000000 in
theorem lT_sum {G : gG} (hsz : G.2.2.2.2.2.2 = true) {n : Nat} (hn : 3 ≤ n) (ml : Nat → Nat → Int64) (o : Int) (ho : 0 ≤ o ∧ o ≤ 8) (h1 : gRd G 94 (n - 1) o 3 qTm) (mi : Nat → Nat → Int) (E : Nat → Nat) (T : Nat) (hB : tBs mi E T) (k : Nat) (cc : List Int) (sd : Int) (S : List Int) (hS : sOK 2 S) : ∀ (f : Nat) (q : Int) (b : Int) (m : Nat → Nat → Int) (h : pA2 mi T k (true, S, o, cc.map tr, sd) (fun (k1 : Nat) (cc1 : List Int) (sd1 : Int) => (qL (mi 135) (mi 136) T 2 k cc S o sd k1 cc1 sd1 ∧ ¬ (mi 135 k1 = 42 ∨ mi 135 k1 = 47)) ∧ q < (k1 : Int)) m b), 0 ≤ q → q ≤ 120 → 120 - q < f → Go G mX9_readSum n 0 0 8 [some (gr 132), some (gi o), some (gi b), some (gi q), none] [] (gw m ml) (pAns mi ml T k (true, S, o, cc.map tr, sd) (qSm (mi 135) (mi 136) T k cc S o sd)) := by
  have hn1 : 1 ≤ n := by omega
  have hT := hB.ok.2
  intro f
  induction f with
  | zero => intros; omega
  | succ f ih =>
    intro q b m h q0 q1 q2
    have hb01 := h.b01
    refine Go.run hsz hn1 2 (pc' := 11) (lv' := [some (gr 132), some (gi o), some (gi b), some (gi q), none]) (st' := [gi 120, gi q]) (M' := gw m ml) rfl ?_
    refine Go.icmp_ge (by rfl) ⟨by omega, by omega⟩ ⟨by decide, by decide⟩ (fun kq1 => ?_) (fun kq1 => ?_)
    · refine Go.run hsz hn1 1 (pc' := 69) (lv' := [some (gr 132), some (gi o), some (gi b), some (gi q), none]) (st' := [gi b]) (M' := gw m ml) rfl ?_
      by_cases hb0 : b = 0
      · exact Go.zret (by rfl) h.b01 ⟨_, _, rfl, rfl, h.failw hb0⟩
      · obtain ⟨k1, cc1, sd1, hR1, hQ1⟩ := h.yes hb0
        have hR1a := hR1.2
        have hQ1a := hQ1.2
        exfalso
        omega
    · refine Go.run hsz hn1 1 (pc' := 15) (lv' := [some (gr 132), some (gi o), some (gi b), some (gi q), none]) (st' := [gi b]) (M' := gw m ml) rfl ?_
      refine Go.if_eq (by rfl) ⟨by omega, by omega⟩ (fun kq2 => ?_) (fun kq2 => ?_)
      · refine Go.run hsz hn1 1 (pc' := 69) (lv' := [some (gr 132), some (gi o), some (gi b), some (gi q), none]) (st' := [gi b]) (M' := gw m ml) rfl ?_
        by_cases hb0 : b = 0
        · exact Go.zret (by rfl) h.b01 ⟨_, _, rfl, rfl, h.failw hb0⟩
        · obtain ⟨k1, cc1, sd1, hR1, hQ1⟩ := h.yes hb0
          have hR1a := hR1.2
          have hQ1a := hQ1.2
          exfalso
          omega
      · refine Go.run hsz hn1 3 (pc' := 23) (lv' := [some (gr 132), some (gi o), some (gi b), some (gi q), none]) (st' := [gi 45, gi 43, gr 132]) (M' := gw m ml) rfl ?_
        obtain ⟨k1, cc1, sd1, hR1, hQ1⟩ := h.yes (by omega)
        have hR1a := hR1.2
        refine Go.callV (As := [gi 43, gi 45]) (b := 132) (st := []) (mc1 := 0) (mc := 0) (ms1 := 0) (ms := 0) (by rfl) rfl (c := 8) (N := 11) (by rfl) (by decide) (by rfl) (gcn 88 (by decide)).1 (gcn 88 (by decide)).2 rfl (Nat.le_of_ble_eq_true rfl) (by omega) (cT_isAt hsz (n := n - 1) (by omega) ml mi E T hB m k1 cc1 sd1 hR1.1 hR1.2.1 43 45 ⟨by decide, by decide⟩ ⟨by decide, by decide⟩) ?_
        rintro _ _ ⟨rfl, rfl⟩
        refine Go.run hsz hn1 0 (pc' := 26) (lv' := [some (gr 132), some (gi o), some (gi b), some (gi q), none]) (st' := [gi (b2 (mi 135 k1 = 43 ∨ mi 135 k1 = 45))]) (M' := gw m ml) rfl ?_
        refine Go.if_eq (by rfl) (b2_rng _) (fun kq3 => ?_) (fun kq3 => ?_)
        · replace kq3 := b2_neg kq3
          refine Go.run hsz hn1 1 (pc' := 69) (lv' := [some (gr 132), some (gi o), some (gi b), some (gi q), none]) (st' := [gi b]) (M' := gw m ml) rfl ?_
          exact Go.zret (by rfl) h.b01 ⟨_, _, rfl, rfl, Or.inl ⟨by have := h.b01; omega, k1, cc1, sd1, hR1, ⟨hQ1.1.1, hQ1.1.2, by assumption⟩⟩⟩
        · replace kq3 := b2_pos kq3
          refine Go.run hsz hn1 1 (pc' := 30) (lv' := [some (gr 132), some (gi o), some (gi b), some (gi q), none]) (st' := [gr 132]) (M' := gw m ml) rfl ?_
          have hop9 : mi 135 k1 = 43 ∨ mi 135 k1 = 45 := by assumption
          have hk1 : k1 < T := tOK_lt hB.ok.1 hR1.2.1 (by omega)
          refine Go.callV (As := []) (b := 132) (st := []) (mc1 := 0) (mc := 0) (ms1 := 0) (ms := 0) (by rfl) rfl (c := 8) (N := 11) (by rfl) (by decide) (by rfl) (gcn 89 (by decide)).1 (gcn 89 (by decide)).2 rfl (Nat.le_of_ble_eq_true rfl) (by omega) (cT_pass hsz (n := n - 1) (by omega) ml mi E T hB m k1 cc1 sd1 hR1.1 hk1) ?_
          rintro _ _ ⟨m2, rfl, rfl, hm2⟩
          refine Go.run hsz hn1 3 (pc' := 37) (lv' := [some (gr 132), some (gi o), some (gi b), some (gi q), some (gi (mi 135 k1))]) (st' := [gi o, gr 132]) (M' := gw m2 ml) rfl ?_
          have hnT := nT (20000 + mi 135 k1) S (by omega)
          refine Go.callV (As := [gi o]) (b := 132) (st := []) (mc1 := 0) (mc := 0) (ms1 := 0) (ms := 0) (by rfl) rfl (c := 8) (N := 11) (by rfl) (by decide) (by rfl) (gcn 94 (by decide)).1 (gcn 94 (by decide)).2 rfl (Nat.le_of_ble_eq_true rfl) (by omega) (h1 mi ml E T m2 (k1 + 1) cc1 sd1 ((20000 + mi 135 k1) :: S) hB (fun _ => ⟨hnT, by show bnd _ < _; rcases hop9 with w9 | w9 <;> rw [w9] <;> decide⟩) ⟨hm2, by omega, by omega, by omega, by omega⟩) ?_
          rintro _ _ ⟨m3, b3, rfl, rfl, h3⟩
          have hb3 := h3.b01
          refine Go.run hsz hn1 0 (pc' := 40) (lv' := [some (gr 132), some (gi o), some (gi b), some (gi q), some (gi (mi 135 k1))]) (st' := [gi b3]) (M' := gw m3 ml) rfl ?_
          refine Go.if_eq (by rfl) ⟨by omega, by omega⟩ (fun kq4 => ?_) (fun kq4 => ?_)
          · refine Go.run hsz hn1 4 (pc' := 8) (lv' := [some (gr 132), some (gi o), some (gi 0), some (gi (q + 1)), some (gi (mi 135 k1))]) (st' := []) (M' := gw m3 ml) rfl ?_
            refine Go.dropl 4 ?_
            refine Go.run hsz hn1 0 (pc' := 8) (lv' := [some (gr 132), some (gi o), some (gi 0), some (gi (q + 1)), none]) (st' := []) (M' := gw m3 ml) rfl ?_
            have hop := op_in hB.ok.1 (sg2 hop9).2.1 (sg2 hop9).1 (by omega) (by omega) hS.2 (fun w9 => by have := (sg2 hop9).2.2; omega) (by omega) rfl hQ1.1.1
            exact ih (q + 1) 0 m3 (h3.fail (by omega) hop.2) (by omega) (by omega) (by omega)
          · refine Go.run hsz hn1 4 (pc' := 50) (lv' := [some (gr 132), some (gi o), some (gi b), some (gi q), some (gi (mi 135 k1))]) (st' := [gi (20000 + (mi 135 k1)), gr 132]) (M' := gw m3 ml) rfl ?_
            obtain ⟨k2, cc2, sd2, hR2, hQ2⟩ := h3.yes (by omega)
            have hR2a := hR2.2
            have hQ2k : k1 + 1 < k2 ∧ k2 ≤ T := hQ2.1.1
            have hQ2l := qP_len (show qP (k1 + 1) k2 cc1 cc2 from hQ2.1.2.1)
            refine Go.callV (As := [gi (20000 + (mi 135 k1))]) (b := 132) (st := []) (mc1 := 0) (mc := 0) (ms1 := 0) (ms := 0) (by rfl) rfl (c := 8) (N := 11) (by rfl) (by decide) (by rfl) (gcn 91 (by decide)).1 (gcn 91 (by decide)).2 rfl (Nat.le_of_ble_eq_true rfl) (by omega) (cT_emit hsz (n := n - 1) (by omega) ml mi E T hB m3 k2 cc2 sd2 hR2.1 hR2.2.1 (20000 + mi 135 k1) ⟨by omega, by omega⟩ (by omega)) ?_
            rintro _ _ ⟨m4, rfl, rfl, hm4⟩
            refine Go.run hsz hn1 0 (pc' := 53) (lv' := [some (gr 132), some (gi o), some (gi b), some (gi q), some (gi (mi 135 k1))]) (st' := [gi 1]) (M' := gw m4 ml) rfl ?_
            refine Go.if_eq (by rfl) ⟨by decide, by decide⟩ (fun kq5 => ?_) (fun kq5 => ?_)
            · exact absurd kq5 (by decide)
            · refine Go.run hsz hn1 5 (pc' := 8) (lv' := [some (gr 132), some (gi o), some (gi 1), some (gi (q + 1)), some (gi (mi 135 k1))]) (st' := []) (M' := gw m4 ml) rfl ?_
              refine Go.dropl 4 ?_
              refine Go.run hsz hn1 0 (pc' := 8) (lv' := [some (gr 132), some (gi o), some (gi 1), some (gi (q + 1)), none]) (st' := []) (M' := gw m4 ml) rfl ?_
              have hop := op_in hB.ok.1 (sg2 hop9).2.1 (sg2 hop9).1 (by omega) (by omega) hS.2 (fun w9 => by have := (sg2 hop9).2.2; omega) (by omega) rfl hQ1.1.1
              exact ih (q + 1) 1 m4 (Or.inl ⟨rfl, k2, cc2 ++ [20000 + mi 135 k1], sd2, ⟨hm4, by omega, by rw [List.length_append, List.length_singleton]; omega, by omega, by omega⟩, ⟨qL_op hB.ok.1 (sg2 hop9).2.1 (sg2 hop9).1 (by omega) (by omega) hS.2 (sg2 hop9).2.2 (by omega) (by omega) rfl hQ1.1.1 (hQ2.1), hQ2.2⟩, by omega⟩) (by omega) (by omega) (by omega)
set_option maxRecDepth 100000 in
set_option maxHeartbeats 4000000 in
theorem cT_sum {G : gG} (hsz : G.2.2.2.2.2.2 = true) {n : Nat} (hn : 4 ≤ n) (ml : Nat → Nat → Int64) (o : Int) (ho : 0 ≤ o ∧ o ≤ 8) (h1 : gRd G 94 (n - 1) o 3 qTm) (mi : Nat → Nat → Int) (E : Nat → Nat) (T : Nat) (hB : tBs mi E T) (k : Nat) (cc : List Int) (sd : Int) (S : List Int) (hS : sOK 2 S) (m : Nat → Nat → Int) (hm : cR mi m T k cc sd) : gM G 93 n 0 0 [gr 132, gi o] (gw m ml) (pAns mi ml T k (true, S, o, cc.map tr, sd) (qSm (mi 135) (mi 136) T k cc S o sd)) := by
  have hn1 : 1 ≤ n := by omega
  refine gM.of mX9_readSum okX9_readSum (gcp 93 (by decide)).1 (gcp 93 (by decide)).2 (Nat.le_of_ble_eq_true rfl) ?_
  refine Go.run hsz hn1 2 (pc' := 2) (lv' := [some (gr 132), some (gi o), none, none, none]) (st' := [gi o, gr 132]) (M' := gw m ml) rfl ?_
  refine Go.callV (As := [gi o]) (b := 132) (st := []) (mc1 := 0) (mc := 0) (ms1 := 0) (ms := 0) (by rfl) rfl (c := 8) (N := 11) (by rfl) (by decide) (by rfl) (gcn 94 (by decide)).1 (gcn 94 (by decide)).2 rfl (Nat.le_of_ble_eq_true rfl) (by omega) (h1 mi ml E T m k cc sd S hB (fun _ => ⟨hS.1, by have := hS.2; omega⟩) hm) ?_
  rintro _ _ ⟨m1, b1, rfl, rfl, h5⟩
  have hb01 := h5.b01
  refine Go.run hsz hn1 3 (pc' := 8) (lv' := [some (gr 132), some (gi o), some (gi b1), some (gi 0), none]) (st' := []) (M' := gw m1 ml) rfl ?_
  exact lT_sum hsz (n := n) (by omega) ml o ho h1 mi E T hB k cc sd S hS 121 0 b1 m1 (h5.map (fun k1 cc1 sd1 hq => ⟨⟨qL_w hq.1, hq.2⟩, by have := hq.1.1; omega⟩)) (by omega) (by omega) (by omega)
set_option maxRecDepth 100000 in
set_option maxHeartbeats 4000000 in
theorem cT_cmp {G : gG} (hsz : G.2.2.2.2.2.2 = true) {n : Nat} (hn : 4 ≤ n) (ml : Nat → Nat → Int64) (o : Int) (ho : 0 ≤ o ∧ o ≤ 8) (h1 : gRd G 93 (n - 1) o 2 qSm) (mi : Nat → Nat → Int) (E : Nat → Nat) (T : Nat) (hB : tBs mi E T) (k : Nat) (cc : List Int) (sd : Int) (S : List Int) (hS : sOK 1 S) (m : Nat → Nat → Int) (hm : cR mi m T k cc sd) : gM G 92 n 0 0 [gr 132, gi o] (gw m ml) (pAns mi ml T k (true, S, o, cc.map tr, sd) (qCmp (mi 135) (mi 136) T k cc S o sd)) := by
  have hn1 : 1 ≤ n := by omega
  have hT := hB.ok.2
  refine gM.of mX9_readCompared okX9_readCompared (gcp 92 (by decide)).1 (gcp 92 (by decide)).2 (Nat.le_of_ble_eq_true rfl) ?_
  refine Go.run hsz hn1 2 (pc' := 2) (lv' := [some (gr 132), some (gi o), none]) (st' := [gi o, gr 132]) (M' := gw m ml) rfl ?_
  refine Go.callV (As := [gi o]) (b := 132) (st := []) (mc1 := 0) (mc := 0) (ms1 := 0) (ms := 0) (by rfl) rfl (c := 8) (N := 11) (by rfl) (by decide) (by rfl) (gcn 93 (by decide)).1 (gcn 93 (by decide)).2 rfl (Nat.le_of_ble_eq_true rfl) (by omega) (h1 mi ml E T m k cc sd S hB (fun _ => ⟨hS.1, by have := hS.2; omega⟩) hm) ?_
  rintro _ _ ⟨m1, b1, rfl, rfl, h5⟩
  have hb01 := h5.b01
  refine Go.run hsz hn1 0 (pc' := 5) (lv' := [some (gr 132), some (gi o), none]) (st' := [gi b1]) (M' := gw m1 ml) rfl ?_
  refine Go.if_ne (by rfl) ⟨by omega, by omega⟩ (fun kq1 => ?_) (fun kq1 => ?_)
  · refine Go.run hsz hn1 3 (pc' := 15) (lv' := [some (gr 132), some (gi o), none]) (st' := [gi 61, gi 60, gr 132]) (M' := gw m1 ml) rfl ?_
    obtain ⟨k1, cc1, sd1, hR1, hQ1⟩ := h5.yes (by omega)
    have hR1a := hR1.2
    refine Go.callV (As := [gi 60, gi 61]) (b := 132) (st := []) (mc1 := 0) (mc := 0) (ms1 := 0) (ms := 0) (by rfl) rfl (c := 8) (N := 11) (by rfl) (by decide) (by rfl) (gcn 88 (by decide)).1 (gcn 88 (by decide)).2 rfl (Nat.le_of_ble_eq_true rfl) (by omega) (cT_isAt hsz (n := n - 1) (by omega) ml mi E T hB m1 k1 cc1 sd1 hR1.1 hR1.2.1 60 61 ⟨by decide, by decide⟩ ⟨by decide, by decide⟩) ?_
    rintro _ _ ⟨rfl, rfl⟩
    refine Go.run hsz hn1 0 (pc' := 18) (lv' := [some (gr 132), some (gi o), none]) (st' := [gi (b2 (mi 135 k1 = 60 ∨ mi 135 k1 = 61))]) (M' := gw m1 ml) rfl ?_
    refine Go.if_ne (by rfl) (b2_rng _) (fun kq2 => ?_) (fun kq2 => ?_)
    · replace kq2 := b2_pos kq2
      refine Go.run hsz hn1 1 (pc' := 24) (lv' := [some (gr 132), some (gi o), none]) (st' := [gr 132]) (M' := gw m1 ml) rfl ?_
      have hop9 : mi 135 k1 = 60 ∨ mi 135 k1 = 61 := by assumption
      have hk1 : k1 < T := tOK_lt hB.ok.1 hR1.2.1 (by omega)
      refine Go.callV (As := []) (b := 132) (st := []) (mc1 := 0) (mc := 0) (ms1 := 0) (ms := 0) (by rfl) rfl (c := 8) (N := 11) (by rfl) (by decide) (by rfl) (gcn 89 (by decide)).1 (gcn 89 (by decide)).2 rfl (Nat.le_of_ble_eq_true rfl) (by omega) (cT_pass hsz (n := n - 1) (by omega) ml mi E T hB m1 k1 cc1 sd1 hR1.1 hk1) ?_
      rintro _ _ ⟨m2, rfl, rfl, hm2⟩
      refine Go.run hsz hn1 3 (pc' := 30) (lv' := [some (gr 132), some (gi o), some (gi (mi 135 k1))]) (st' := [gi o, gr 132]) (M' := gw m2 ml) rfl ?_
      have hnT := nT (20000 + mi 135 k1) S (by omega)
      refine Go.callV (As := [gi o]) (b := 132) (st := []) (mc1 := 0) (mc := 0) (ms1 := 0) (ms := 0) (by rfl) rfl (c := 8) (N := 11) (by rfl) (by decide) (by rfl) (gcn 93 (by decide)).1 (gcn 93 (by decide)).2 rfl (Nat.le_of_ble_eq_true rfl) (by omega) (h1 mi ml E T m2 (k1 + 1) cc1 sd1 ((20000 + mi 135 k1) :: S) hB (fun _ => ⟨hnT, by show bnd _ < _; rcases hop9 with w9 | w9 <;> rw [w9] <;> decide⟩) ⟨hm2, by omega, by omega, by omega, by omega⟩) ?_
      rintro _ _ ⟨m3, b3, rfl, rfl, h3⟩
      have hb3 := h3.b01
      refine Go.run hsz hn1 0 (pc' := 33) (lv' := [some (gr 132), some (gi o), some (gi (mi 135 k1))]) (st' := [gi b3]) (M' := gw m3 ml) rfl ?_
      refine Go.if_eq (by rfl) ⟨by omega, by omega⟩ (fun kq3 => ?_) (fun kq3 => ?_)
      · refine Go.run hsz hn1 1 (pc' := 53) (lv' := [some (gr 132), some (gi o), some (gi (mi 135 k1))]) (st' := [gi 0]) (M' := gw m3 ml) rfl ?_
        exact Go.zret (by rfl) (Or.inl rfl) ⟨_, _, rfl, rfl, h3.fail (by omega) (op_in hB.ok.1 (sg1 hop9).2.1 (sg1 hop9).1 (by omega) (by omega) (by have := hS.2; omega) (fun _ => by have := hS.2; omega) (by omega) rfl hQ1.1).2⟩
      · refine Go.run hsz hn1 4 (pc' := 42) (lv' := [some (gr 132), some (gi o), some (gi (mi 135 k1))]) (st' := [gi (20000 + (mi 135 k1)), gr 132]) (M' := gw m3 ml) rfl ?_
        obtain ⟨k2, cc2, sd2, hR2, hQ2⟩ := h3.yes (by omega)
        have hR2a := hR2.2
        have hQ2k : k1 + 1 < k2 ∧ k2 ≤ T := hQ2.1.1
        have hQ2l := qP_len (show qP (k1 + 1) k2 cc1 cc2 from hQ2.1.2.1)
        refine Go.callV (As := [gi (20000 + (mi 135 k1))]) (b := 132) (st := []) (mc1 := 0) (mc := 0) (ms1 := 0) (ms := 0) (by rfl) rfl (c := 8) (N := 11) (by rfl) (by decide) (by rfl) (gcn 91 (by decide)).1 (gcn 91 (by decide)).2 rfl (Nat.le_of_ble_eq_true rfl) (by omega) (cT_emit hsz (n := n - 1) (by omega) ml mi E T hB m3 k2 cc2 sd2 hR2.1 hR2.2.1 (20000 + mi 135 k1) ⟨by omega, by omega⟩ (by omega)) ?_
        rintro _ _ ⟨m4, rfl, rfl, hm4⟩
        refine Go.run hsz hn1 0 (pc' := 45) (lv' := [some (gr 132), some (gi o), some (gi (mi 135 k1))]) (st' := [gi 1]) (M' := gw m4 ml) rfl ?_
        refine Go.if_eq (by rfl) ⟨by decide, by decide⟩ (fun kq4 => ?_) (fun kq4 => ?_)
        · exact absurd kq4 (by decide)
        · refine Go.run hsz hn1 2 (pc' := 53) (lv' := [some (gr 132), some (gi o), some (gi (mi 135 k1))]) (st' := [gi 1]) (M' := gw m4 ml) rfl ?_
          exact Go.zret (by rfl) (Or.inr rfl) ⟨_, _, rfl, rfl, Or.inl ⟨rfl, k2, cc2 ++ [20000 + mi 135 k1], sd2, ⟨hm4, by omega, by rw [List.length_append, List.length_singleton]; omega, by omega, by omega⟩, cmp_op hB.ok.1 hop9 hS.2 rfl hQ1.1 hQ2.2 hQ2.1⟩⟩
    · replace kq2 := b2_neg kq2
      refine Go.run hsz hn1 1 (pc' := 22) (lv' := [some (gr 132), some (gi o), none]) (st' := [gi 1]) (M' := gw m1 ml) rfl ?_
      exact Go.zret (by rfl) (Or.inr rfl) ⟨_, _, rfl, rfl, Or.inl ⟨rfl, k1, cc1, sd1, hR1, cmp_no ⟨hQ1.2.1, hQ1.2.2, by assumption⟩ hQ1.1⟩⟩
  · refine Go.run hsz hn1 1 (pc' := 9) (lv' := [some (gr 132), some (gi o), none]) (st' := [gi 0]) (M' := gw m1 ml) rfl ?_
    exact Go.zret (by rfl) (Or.inl rfl) ⟨_, _, rfl, rfl, h5.fail (by omega) rfl⟩
set_option maxRecDepth 100000 in
set_option maxHeartbeats 4000000 in
theorem cT_close {G : gG} (hsz : G.2.2.2.2.2.2 = true) {n : Nat} (hn : 2 ≤ n) (ml : Nat → Nat → Int64) (mi : Nat → Nat → Int) (E : Nat → Nat) (T : Nat) (hB : tBs mi E T) (m : Nat → Nat → Int) (k : Nat) (cc : List Int) (sd : Int) (hm : cL mi m k cc sd) (hk : k ≤ T) : gM G 96 n 0 0 [gr 132] (gw m ml) (fun r M => ∃ (m1 : Nat → Nat → Int) (b : Int), M = gw m1 ml ∧ r = some (gi b) ∧ pCl mi m1 k cc sd b) := by
  have hn1 : 1 ≤ n := by omega
  have hT := hB.ok.2
  have e10 : m 132 10 = k := hm.2.2.1.1
  have e3 : m 132 3 = cc.length := hm.2.2.1.2.2
  have e2 : m 132 2 = sd := hm.2.2.1.2.1
  have e135 : m 135 (m 132 10).toNat = mi 135 k := (by rw [hm.2.1.1 135 _ (by decide) (by decide), e10]; rfl)
  have e137 : m 137 (m 132 10).toNat = mi 137 k := (by rw [hm.2.1.1 137 _ (by decide) (by decide), e10]; rfl)
  have hR := hm.1
  refine gM.of mX9_readClosing okX9_readClosing (gcp 96 (by decide)).1 (gcp 96 (by decide)).2 (Nat.le_of_ble_eq_true rfl) ?_
  refine Go.run hsz hn1 4 (pc' := 8) (lv' := [some (gr 132)]) (st' := [gi (m 132 10), gr 135]) (M' := gw m ml) rfl ?_
  refine Go.iald (by rfl) (N := 121) (by rfl) (by omega) (by omega) (by decide) ?_
  refine Go.run hsz hn1 1 (pc' := 11) (lv' := [some (gr 132)]) (st' := [gi 41, gi (m 135 ((m 132 10).toNat))]) (M' := gw m ml) rfl ?_
  refine Go.icmp_eq (by rfl) (hm.1 _ _) ⟨by decide, by decide⟩ (fun kq1 => ?_) (fun kq1 => ?_)
  · refine Go.run hsz hn1 1 (pc' := 20) (lv' := [some (gr 132)]) (st' := [gr 132]) (M' := gw m ml) rfl ?_
    refine Go.callV (As := []) (b := 132) (st := []) (mc1 := 0) (mc := 0) (ms1 := 0) (ms := 0) (by rfl) rfl (c := 8) (N := 11) (by rfl) (by decide) (by rfl) (gcn 89 (by decide)).1 (gcn 89 (by decide)).2 rfl (Nat.le_of_ble_eq_true rfl) (by omega) (cT_pass hsz (n := n - 1) (by omega) ml mi E T hB m k cc sd hm (tOK_lt hB.ok.1 hk (by omega))) ?_
    rintro _ _ ⟨m2, rfl, rfl, hm2⟩
    refine Go.run hsz hn1 2 (pc' := 25) (lv' := [some (gr 132)]) (st' := [gi 1]) (M' := gw m2 ml) rfl ?_
    exact Go.zret (by rfl) (Or.inr rfl) ⟨_, _, rfl, rfl, Or.inl ⟨rfl, by omega, hm2⟩⟩
  · refine Go.run hsz hn1 1 (pc' := 15) (lv' := [some (gr 132)]) (st' := [gr 132]) (M' := gw m ml) rfl ?_
    refine Go.callV (As := []) (b := 132) (st := []) (mc1 := 0) (mc := 0) (ms1 := 0) (ms := 0) (by rfl) rfl (c := 8) (N := 11) (by rfl) (by decide) (by rfl) (gcn 90 (by decide)).1 (gcn 90 (by decide)).2 rfl (Nat.le_of_ble_eq_true rfl) (by omega) (cT_fault hsz (n := n - 1) (by omega) ml mi E T hB m k cc sd hm hk) ?_
    rintro _ _ ⟨m5, rfl, rfl, hfa, hm5⟩
    refine Go.run hsz hn1 0 (pc' := 18) (lv' := [some (gr 132)]) (st' := [gi 0]) (M' := gw m5 ml) rfl ?_
    exact Go.zret (by rfl) (Or.inl rfl) ⟨_, _, rfl, rfl, Or.inr ⟨rfl, by omega, hfa, hm5⟩⟩
theorem tOK_va {tk va : Nat → Int} {T k : Nat} (h : tOK tk va T) (hk : k ≤ T) (h1 : tk k = 1 ∨ tk k = 2) : 0 ≤ va k ∧ va k ≤ 9999 := by
  have hlt := tOK_lt h hk (by omega)
  have := h.2 k hlt
  unfold isSg at this
  omega
set_option maxRecDepth 100000 in
set_option maxHeartbeats 4000000 in
theorem cT_one {G : gG} (hsz : G.2.2.2.2.2.2 = true) {n : Nat} (hn : 4 ≤ n) (ml : Nat → Nat → Int64) (o : Int) (ho : 0 ≤ o ∧ o ≤ 8) (hI : o < 8 → gRd G 95 (n - 1) (o + 1) 4 qOne ∧ gRd G 92 (n - 1) (o + 1) 1 qCmp) (mi : Nat → Nat → Int) (E : Nat → Nat) (T : Nat) (hB : tBs mi E T) (k : Nat) (cc : List Int) (sd : Int) (S : List Int) (m : Nat → Nat → Int) (hR0 : cR mi m T k cc sd) : gM G 95 n 0 0 [gr 132, gi o] (gw m ml) (pAns mi ml T k (true, S, o, cc.map tr, sd) (qOne (mi 135) (mi 136) T k cc S o sd)) := by
  have hn1 : 1 ≤ n := by omega
  have hR0a := hR0.2
  have hm := hR0.1
  have hk := hR0.2.1
  have hT := hB.ok.2
  have e10 : m 132 10 = k := hm.2.2.1.1
  have e3 : m 132 3 = cc.length := hm.2.2.1.2.2
  have e2 : m 132 2 = sd := hm.2.2.1.2.1
  have e135 : m 135 (m 132 10).toNat = mi 135 k := (by rw [hm.2.1.1 135 _ (by decide) (by decide), e10]; rfl)
  have e137 : m 137 (m 132 10).toNat = mi 137 k := (by rw [hm.2.1.1 137 _ (by decide) (by decide), e10]; rfl)
  have hR := hm.1
  have e136 : m 136 (m 132 10).toNat = mi 136 k := (by rw [hm.2.1.1 136 _ (by decide) (by decide), e10]; rfl)
  refine gM.of mX9_readOne okX9_readOne (gcp 95 (by decide)).1 (gcp 95 (by decide)).2 (Nat.le_of_ble_eq_true rfl) ?_
  refine Go.run hsz hn1 3 (pc' := 3) (lv' := [some (gr 132), some (gi o), none]) (st' := [gi 2, gi 1, gr 132]) (M' := gw m ml) rfl ?_
  refine Go.callV (As := [gi 1, gi 2]) (b := 132) (st := []) (mc1 := 0) (mc := 0) (ms1 := 0) (ms := 0) (by rfl) rfl (c := 8) (N := 11) (by rfl) (by decide) (by rfl) (gcn 88 (by decide)).1 (gcn 88 (by decide)).2 rfl (Nat.le_of_ble_eq_true rfl) (by omega) (cT_isAt hsz (n := n - 1) (by omega) ml mi E T hB m k cc sd hm hk 1 2 ⟨by decide, by decide⟩ ⟨by decide, by decide⟩) ?_
  rintro _ _ ⟨rfl, rfl⟩
  refine Go.run hsz hn1 0 (pc' := 6) (lv' := [some (gr 132), some (gi o), none]) (st' := [gi (b2 (mi 135 k = 1 ∨ mi 135 k = 2))]) (M' := gw m ml) rfl ?_
  refine Go.if_eq (by rfl) (b2_rng _) (fun kq1 => ?_) (fun kq1 => ?_)
  · replace kq1 := b2_neg kq1
    refine Go.run hsz hn1 3 (pc' := 56) (lv' := [some (gr 132), some (gi o), none]) (st' := [gi 45, gi 40, gr 132]) (M' := gw m ml) rfl ?_
    refine Go.callV (As := [gi 40, gi 45]) (b := 132) (st := []) (mc1 := 0) (mc := 0) (ms1 := 0) (ms := 0) (by rfl) rfl (c := 8) (N := 11) (by rfl) (by decide) (by rfl) (gcn 88 (by decide)).1 (gcn 88 (by decide)).2 rfl (Nat.le_of_ble_eq_true rfl) (by omega) (cT_isAt hsz (n := n - 1) (by omega) ml mi E T hB m k cc sd hm hk 40 45 ⟨by decide, by decide⟩ ⟨by decide, by decide⟩) ?_
    rintro _ _ ⟨rfl, rfl⟩
    refine Go.run hsz hn1 0 (pc' := 59) (lv' := [some (gr 132), some (gi o), none]) (st' := [gi (b2 (mi 135 k = 40 ∨ mi 135 k = 45))]) (M' := gw m ml) rfl ?_
    refine Go.if_eq (by rfl) (b2_rng _) (fun kq2 => ?_) (fun kq2 => ?_)
    · replace kq2 := b2_neg kq2
      refine Go.run hsz hn1 1 (pc' := 69) (lv' := [some (gr 132), some (gi o), none]) (st' := [gr 132]) (M' := gw m ml) rfl ?_
      refine Go.callV (As := []) (b := 132) (st := []) (mc1 := 0) (mc := 0) (ms1 := 0) (ms := 0) (by rfl) rfl (c := 8) (N := 11) (by rfl) (by decide) (by rfl) (gcn 90 (by decide)).1 (gcn 90 (by decide)).2 rfl (Nat.le_of_ble_eq_true rfl) (by omega) (cT_fault hsz (n := n - 1) (by omega) ml mi E T hB m k cc sd hm hk) ?_
      rintro _ _ ⟨m5, rfl, rfl, hfa, hm5⟩
      refine Go.run hsz hn1 0 (pc' := 72) (lv' := [some (gr 132), some (gi o), none]) (st' := [gi 0]) (M' := gw m5 ml) rfl ?_
      exact Go.zret (by rfl) (Or.inl rfl) ⟨_, _, rfl, rfl, Or.inr ⟨rfl, k, k, cc, sd, hm5, hk, hfa, one_bad hB.ok.1 hk (by assumption) (by first | exact Or.inl (by assumption) | exact Or.inr (by omega))⟩⟩
    · replace kq2 := b2_pos kq2
      refine Go.run hsz hn1 2 (pc' := 65) (lv' := [some (gr 132), some (gi o), none]) (st' := [gi 8, gi o]) (M' := gw m ml) rfl ?_
      refine Go.icmp_lt (by rfl) ⟨by omega, by omega⟩ ⟨by decide, by decide⟩ (fun kq3 => ?_) (fun kq3 => ?_)
      · refine Go.run hsz hn1 1 (pc' := 74) (lv' := [some (gr 132), some (gi o), none]) (st' := [gr 132]) (M' := gw m ml) rfl ?_
        have hop9 : mi 135 k = 40 ∨ mi 135 k = 45 := by assumption
        have hk1 : k < T := tOK_lt hB.ok.1 hk (by omega)
        refine Go.callV (As := []) (b := 132) (st := []) (mc1 := 0) (mc := 0) (ms1 := 0) (ms := 0) (by rfl) rfl (c := 8) (N := 11) (by rfl) (by decide) (by rfl) (gcn 89 (by decide)).1 (gcn 89 (by decide)).2 rfl (Nat.le_of_ble_eq_true rfl) (by omega) (cT_pass hsz (n := n - 1) (by omega) ml mi E T hB m k cc sd hm hk1) ?_
        rintro _ _ ⟨m2, rfl, rfl, hm2⟩
        refine Go.run hsz hn1 1 (pc' := 79) (lv' := [some (gr 132), some (gi o), none]) (st' := [gi 45, gi (mi 135 k)]) (M' := gw m2 ml) rfl ?_
        refine Go.icmp_ne (by rfl) (hB.1 _ _) ⟨by decide, by decide⟩ (fun kq4 => ?_) (fun kq4 => ?_)
        · refine Go.run hsz hn1 4 (pc' := 112) (lv' := [some (gr 132), some (gi o), none]) (st' := [gi (o + 1), gr 132]) (M' := gw m2 ml) rfl ?_
          refine Go.callV (As := [gi (o + 1)]) (b := 132) (st := []) (mc1 := 0) (mc := 0) (ms1 := 0) (ms := 0) (by rfl) rfl (c := 8) (N := 11) (by rfl) (by decide) (by rfl) (gcn 92 (by decide)).1 (gcn 92 (by decide)).2 rfl (Nat.le_of_ble_eq_true rfl) (by omega) ((hI (by omega)).2 mi ml E T m2 (k + 1) cc sd (20040 :: S) hB (fun _ => ⟨nT _ _ (by decide), by show bnd 20040 < 1; decide⟩) ⟨hm2, by omega, by omega, by omega, by omega⟩) ?_
          rintro _ _ ⟨m3, b3, rfl, rfl, h3⟩
          have hb3 := h3.b01
          refine Go.run hsz hn1 0 (pc' := 115) (lv' := [some (gr 132), some (gi o), none]) (st' := [gi b3]) (M' := gw m3 ml) rfl ?_
          refine Go.if_eq (by rfl) ⟨by omega, by omega⟩ (fun kq5 => ?_) (fun kq5 => ?_)
          · refine Go.run hsz hn1 1 (pc' := 130) (lv' := [some (gr 132), some (gi o), none]) (st' := [gi 0]) (M' := gw m3 ml) rfl ?_
            have h8 := (one_open hB.ok.1 (S := S) (sd := sd) (out := cc.map tr) (o := o) hk hop9 (by omega)).2
            rw [if_pos (by omega)] at h8
            exact Go.zret (by rfl) (Or.inl rfl) ⟨_, _, rfl, rfl, h3.fail (by omega) h8⟩
          · refine Go.run hsz hn1 1 (pc' := 119) (lv' := [some (gr 132), some (gi o), none]) (st' := [gr 132]) (M' := gw m3 ml) rfl ?_
            obtain ⟨k2, cc2, sd2, hR2, hQ2⟩ := h3.yes (by omega)
            have hR2a := hR2.2
            have hpar := one_par hB.ok.1 hk (by omega) (by omega) hQ2
            refine Go.callV (As := []) (b := 132) (st := []) (mc1 := 0) (mc := 0) (ms1 := 0) (ms := 0) (by rfl) rfl (c := 8) (N := 11) (by rfl) (by decide) (by rfl) (gcn 96 (by decide)).1 (gcn 96 (by decide)).2 rfl (Nat.le_of_ble_eq_true rfl) (by omega) (cT_close hsz (n := n - 1) (by omega) ml mi E T hB m3 k2 cc2 sd2 hR2.1 hR2.2.1) ?_
            rintro _ _ ⟨m4, b5, rfl, rfl, h4⟩
            have hb5 := h4.b01
            refine Go.run hsz hn1 0 (pc' := 122) (lv' := [some (gr 132), some (gi o), none]) (st' := [gi b5]) (M' := gw m4 ml) rfl ?_
            refine Go.if_eq (by rfl) ⟨by omega, by omega⟩ (fun kq6 => ?_) (fun kq6 => ?_)
            · refine Go.run hsz hn1 1 (pc' := 130) (lv' := [some (gr 132), some (gi o), none]) (st' := [gi 0]) (M' := gw m4 ml) rfl ?_
              rcases h4 with ⟨_, w1, w2⟩ | ⟨_, w1, w2, w3⟩
              · exfalso; omega
              · exact Go.zret (by rfl) (Or.inl rfl) ⟨_, _, rfl, rfl, Or.inr ⟨rfl, k2, k2, cc2, sd2, w3, hR2.2.1, w2, hpar.2 w1⟩⟩
            · refine Go.run hsz hn1 2 (pc' := 130) (lv' := [some (gr 132), some (gi o), none]) (st' := [gi 1]) (M' := gw m4 ml) rfl ?_
              rcases h4 with ⟨_, w1, w2⟩ | ⟨_, w1, w2, w3⟩
              · exact Go.zret (by rfl) (Or.inr rfl) ⟨_, _, rfl, rfl, Or.inl ⟨rfl, k2 + 1, cc2, sd2, ⟨w2, by have := (hpar.1 w1).1; omega, by omega, by omega, by omega⟩, (hpar.1 w1).2⟩⟩
              · exfalso; omega
        · refine Go.run hsz hn1 4 (pc' := 86) (lv' := [some (gr 132), some (gi o), none]) (st' := [gi (o + 1), gr 132]) (M' := gw m2 ml) rfl ?_
          refine Go.callV (As := [gi (o + 1)]) (b := 132) (st := []) (mc1 := 0) (mc := 0) (ms1 := 0) (ms := 0) (by rfl) rfl (c := 8) (N := 11) (by rfl) (by decide) (by rfl) (gcn 95 (by decide)).1 (gcn 95 (by decide)).2 rfl (Nat.le_of_ble_eq_true rfl) (by omega) ((hI (by omega)).1 mi ml E T m2 (k + 1) cc sd (30000 :: S) hB (fun w9 => absurd w9 (by decide)) ⟨hm2, by omega, by omega, by omega, by omega⟩) ?_
          rintro _ _ ⟨m3, b3, rfl, rfl, h3⟩
          have hb3 := h3.b01
          refine Go.run hsz hn1 0 (pc' := 89) (lv' := [some (gr 132), some (gi o), none]) (st' := [gi b3]) (M' := gw m3 ml) rfl ?_
          refine Go.if_eq (by rfl) ⟨by omega, by omega⟩ (fun kq7 => ?_) (fun kq7 => ?_)
          · refine Go.run hsz hn1 1 (pc' := 107) (lv' := [some (gr 132), some (gi o), none]) (st' := [gi 0]) (M' := gw m3 ml) rfl ?_
            have h8 := (one_open hB.ok.1 (S := S) (sd := sd) (out := cc.map tr) (o := o) hk hop9 (by omega)).2
            rw [if_neg (by omega)] at h8
            exact Go.zret (by rfl) (Or.inl rfl) ⟨_, _, rfl, rfl, h3.fail (by omega) h8⟩
          · refine Go.run hsz hn1 2 (pc' := 96) (lv' := [some (gr 132), some (gi o), none]) (st' := [gi 20000, gr 132]) (M' := gw m3 ml) rfl ?_
            obtain ⟨k2, cc2, sd2, hR2, hQ2⟩ := h3.yes (by omega)
            have hR2a := hR2.2
            have hQ2k : k + 1 < k2 ∧ k2 ≤ T := hQ2.1
            have hQ2l := qP_len (show qP (k + 1) k2 cc cc2 from hQ2.2.1)
            refine Go.callV (As := [gi 20000]) (b := 132) (st := []) (mc1 := 0) (mc := 0) (ms1 := 0) (ms := 0) (by rfl) rfl (c := 8) (N := 11) (by rfl) (by decide) (by rfl) (gcn 91 (by decide)).1 (gcn 91 (by decide)).2 rfl (Nat.le_of_ble_eq_true rfl) (by omega) (cT_emit hsz (n := n - 1) (by omega) ml mi E T hB m3 k2 cc2 sd2 hR2.1 hR2.2.1 20000 ⟨by omega, by omega⟩ (by omega)) ?_
            rintro _ _ ⟨m4, rfl, rfl, hm4⟩
            refine Go.run hsz hn1 0 (pc' := 99) (lv' := [some (gr 132), some (gi o), none]) (st' := [gi 1]) (M' := gw m4 ml) rfl ?_
            refine Go.if_eq (by rfl) ⟨by decide, by decide⟩ (fun kq8 => ?_) (fun kq8 => ?_)
            · exact absurd kq8 (by decide)
            · refine Go.run hsz hn1 2 (pc' := 107) (lv' := [some (gr 132), some (gi o), none]) (st' := [gi 1]) (M' := gw m4 ml) rfl ?_
              exact Go.zret (by rfl) (Or.inr rfl) ⟨_, _, rfl, rfl, Or.inl ⟨rfl, k2, _, sd2, ⟨hm4, by omega, by rw [List.length_append, List.length_singleton]; omega, by omega, by omega⟩, one_neg hB.ok.1 hk (by omega) (by omega) hQ2⟩⟩
      · refine Go.run hsz hn1 1 (pc' := 69) (lv' := [some (gr 132), some (gi o), none]) (st' := [gr 132]) (M' := gw m ml) rfl ?_
        refine Go.callV (As := []) (b := 132) (st := []) (mc1 := 0) (mc := 0) (ms1 := 0) (ms := 0) (by rfl) rfl (c := 8) (N := 11) (by rfl) (by decide) (by rfl) (gcn 90 (by decide)).1 (gcn 90 (by decide)).2 rfl (Nat.le_of_ble_eq_true rfl) (by omega) (cT_fault hsz (n := n - 1) (by omega) ml mi E T hB m k cc sd hm hk) ?_
        rintro _ _ ⟨m5, rfl, rfl, hfa, hm5⟩
        refine Go.run hsz hn1 0 (pc' := 72) (lv' := [some (gr 132), some (gi o), none]) (st' := [gi 0]) (M' := gw m5 ml) rfl ?_
        exact Go.zret (by rfl) (Or.inl rfl) ⟨_, _, rfl, rfl, Or.inr ⟨rfl, k, k, cc, sd, hm5, hk, hfa, one_bad hB.ok.1 hk (by assumption) (by first | exact Or.inl (by assumption) | exact Or.inr (by omega))⟩⟩
  · replace kq1 := b2_pos kq1
    refine Go.run hsz hn1 4 (pc' := 17) (lv' := [some (gr 132), some (gi o), none]) (st' := [gi (m 132 10), gr 136]) (M' := gw m ml) rfl ?_
    refine Go.iald (by rfl) (N := 121) (by rfl) (by omega) (by omega) (by decide) ?_
    refine Go.run hsz hn1 9 (pc' := 31) (lv' := [some (gr 132), some (gi o), some (gi (m 136 ((m 132 10).toNat)))]) (st' := [gr 132, gr 132]) (M' := gw (gu m 132 2 ((m 132 2) + 1)) ml) rfl ?_
    have hop9 : mi 135 k = 1 ∨ mi 135 k = 2 := by assumption
    have hk1 : k < T := tOK_lt hB.ok.1 hk (by omega)
    have hva := tOK_va hB.ok.1 hk hop9
    refine Go.callV (As := []) (b := 132) (st := [gr 132]) (mc1 := 0) (mc := 0) (ms1 := 0) (ms := 0) (by rfl) rfl (c := 8) (N := 11) (by rfl) (by decide) (by rfl) (gcn 89 (by decide)).1 (gcn 89 (by decide)).2 rfl (Nat.le_of_ble_eq_true rfl) (by omega) (cT_pass hsz (n := n - 1) (by omega) ml mi E T hB (gu m 132 2 ((m 132 2) + 1)) k cc (m 132 2 + 1) (cL_sd hm ⟨by omega, by omega⟩) hk1) ?_
    rintro _ _ ⟨m2, rfl, rfl, hm2⟩
    refine Go.run hsz hn1 1 (pc' := 35) (lv' := [some (gr 132), some (gi o), some (gi (m 136 ((m 132 10).toNat)))]) (st' := [gi 1, gi (mi 135 k), gr 132]) (M' := gw m2 ml) rfl ?_
    refine Go.icmp_ne (by rfl) (hB.1 _ _) ⟨by decide, by decide⟩ (fun kq9 => ?_) (fun kq9 => ?_)
    · refine Go.run hsz hn1 3 (pc' := 47) (lv' := [some (gr 132), some (gi o), some (gi (m 136 ((m 132 10).toNat)))]) (st' := [gi (10000 + (m 136 ((m 132 10).toNat))), gr 132]) (M' := gw m2 ml) rfl ?_
      refine Go.callV (As := [gi (10000 + (m 136 ((m 132 10).toNat)))]) (b := 132) (st := []) (mc1 := 0) (mc := 0) (ms1 := 0) (ms := 0) (by rfl) rfl (c := 8) (N := 11) (by rfl) (by decide) (by rfl) (gcn 91 (by decide)).1 (gcn 91 (by decide)).2 rfl (Nat.le_of_ble_eq_true rfl) (by omega) (cT_emit hsz (n := n - 1) (by omega) ml mi E T hB m2 (k + 1) cc (m 132 2 + 1) hm2 (by omega) (10000 + (m 136 ((m 132 10).toNat))) ⟨by omega, by omega⟩ (by omega)) ?_
      rintro _ _ ⟨m4, rfl, rfl, hm4⟩
      refine Go.run hsz hn1 0 (pc' := 50) (lv' := [some (gr 132), some (gi o), some (gi (m 136 ((m 132 10).toNat)))]) (st' := [gi 1]) (M' := gw m4 ml) rfl ?_
      have h9 := one_num hB.ok.1 (cc := cc) (S := S) (o := o) (sd := sd) hop9 hk
      first | rw [if_pos (by assumption)] at h9 | rw [if_neg (by assumption)] at h9
      rw [e136, e2] at hm4
      exact Go.zret (by rfl) (Or.inr rfl) ⟨_, _, rfl, rfl, Or.inl ⟨rfl, k + 1, _, sd + 1, ⟨hm4, by omega, by rw [List.length_append, List.length_singleton]; omega, by omega, by omega⟩, h9⟩⟩
    · refine Go.run hsz hn1 2 (pc' := 47) (lv' := [some (gr 132), some (gi o), some (gi (m 136 ((m 132 10).toNat)))]) (st' := [gi (m 136 ((m 132 10).toNat)), gr 132]) (M' := gw m2 ml) rfl ?_
      refine Go.callV (As := [gi (m 136 ((m 132 10).toNat))]) (b := 132) (st := []) (mc1 := 0) (mc := 0) (ms1 := 0) (ms := 0) (by rfl) rfl (c := 8) (N := 11) (by rfl) (by decide) (by rfl) (gcn 91 (by decide)).1 (gcn 91 (by decide)).2 rfl (Nat.le_of_ble_eq_true rfl) (by omega) (cT_emit hsz (n := n - 1) (by omega) ml mi E T hB m2 (k + 1) cc (m 132 2 + 1) hm2 (by omega) (m 136 ((m 132 10).toNat)) ⟨by omega, by omega⟩ (by omega)) ?_
      rintro _ _ ⟨m4, rfl, rfl, hm4⟩
      refine Go.run hsz hn1 0 (pc' := 50) (lv' := [some (gr 132), some (gi o), some (gi (m 136 ((m 132 10).toNat)))]) (st' := [gi 1]) (M' := gw m4 ml) rfl ?_
      have h9 := one_num hB.ok.1 (cc := cc) (S := S) (o := o) (sd := sd) hop9 hk
      first | rw [if_pos (by assumption)] at h9 | rw [if_neg (by assumption)] at h9
      rw [e136, e2] at hm4
      exact Go.zret (by rfl) (Or.inr rfl) ⟨_, _, rfl, rfl, Or.inl ⟨rfl, k + 1, _, sd + 1, ⟨hm4, by omega, by rw [List.length_append, List.length_singleton]; omega, by omega, by omega⟩, h9⟩⟩
theorem cT_up {G : gG} (hsz : G.2.2.2.2.2.2 = true) {n : Nat} (o : Int) (ho : 0 ≤ o ∧ o ≤ 8) (hn : 8 ≤ n) (h : gRd G 95 (n - 3) o 4 qOne) : gRd G 92 n o 1 qCmp := by
  have t : gRd G 94 (n - 1 - 1) o 3 qTm := fun mi ml E T m k cc sd S hB hS hR => cT_term hsz (n := n - 1 - 1) (by omega) ml o ho (by rw [show n - 1 - 1 - 1 = n - 3 by omega]; exact h) mi E T hB k cc sd S (hS (by decide)) m hR
  have s : gRd G 93 (n - 1) o 2 qSm := fun mi ml E T m k cc sd S hB hS hR => cT_sum hsz (n := n - 1) (by omega) ml o ho t mi E T hB k cc sd S (hS (by decide)) m hR
  exact fun mi ml E T m k cc sd S hB hS hR => cT_cmp hsz (n := n) (by omega) ml o ho s mi E T hB k cc sd S (hS (by decide)) m hR
theorem cT_all {G : gG} (hsz : G.2.2.2.2.2.2 = true) : ∀ (d : Nat) (o : Int), 0 ≤ o → o + d = 8 → (∀ n : Nat, 4 * d + 5 ≤ n → gRd G 95 n o 4 qOne) ∧ (∀ n : Nat, 4 * d + 8 ≤ n → gRd G 92 n o 1 qCmp) := by
  intro d
  induction d with
  | zero =>
    intro o o0 od
    have one : ∀ n : Nat, 4 * 0 + 5 ≤ n → gRd G 95 n o 4 qOne := fun n hn mi ml E T m k cc sd S hB _ hR => cT_one hsz (n := n) (by omega) ml o ⟨by omega, by omega⟩ (fun ho => absurd ho (by omega)) mi E T hB k cc sd S m hR
    exact ⟨one, fun n hn => cT_up hsz o ⟨by omega, by omega⟩ (by omega) (one (n - 3) (by omega))⟩
  | succ d ih =>
    intro o o0 od
    have h := ih (o + 1) (by omega) (by omega)
    have one : ∀ n : Nat, 4 * (d + 1) + 5 ≤ n → gRd G 95 n o 4 qOne := fun n hn mi ml E T m k cc sd S hB _ hR => cT_one hsz (n := n) (by omega) ml o ⟨by omega, by omega⟩ (fun ho => ⟨h.1 (n - 1) (by omega), h.2 (n - 1) (by omega)⟩) mi E T hB k cc sd S m hR
    exact ⟨one, fun n hn => cT_up hsz o ⟨by omega, by omega⟩ (by omega) (one (n - 3) (by omega))⟩

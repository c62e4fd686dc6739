theorem cnt_pos {g : Nat → Int} {x : Int} : ∀ {n : Nat}, 1 ≤ cntB (fun p => decide (g p = x)) n → ∃ p, p < n ∧ g p = x
  | 0, h => absurd h (by show ¬ 1 ≤ 0; omega)
  | n + 1, h => by
    have h : 1 ≤ cntB (fun p => decide (g p = x)) n + (decide (g n = x)).toNat := h
    by_cases e : g n = x
    · exact ⟨n, by omega, e⟩
    · rw [decide_eq_false e] at h
      simp only [Bool.toNat_false] at h
      obtain ⟨p, h1, h2⟩ := cnt_pos (g := g) (x := x) (n := n) (by omega)
      exact ⟨p, by omega, h2⟩
theorem cnt_ge {g : Nat → Int} {x : Int} {p n : Nat} (hp : p < n) (h : g p = x) : 1 ≤ cntB (fun p => decide (g p = x)) n := by
  have hm := cntB_mono (f := fun i => if i = p then true else false) (g := fun p => decide (g p = x)) (n := n) (fun i hi hh => by
    by_cases ei : i = p
    · rw [ei]; exact decide_eq_true h
    · simp only [if_neg ei] at hh; cases hh)
  have hu := cntB_upd (g := fun _ => false) (b := true) (p := p) (n := n) hp
  have hz := cntB_false (f := fun _ => false) (n := n) (fun _ _ => rfl)
  simp only [Bool.toNat_true, Bool.toNat_false] at hu
  omega
/-- what holds in mostFrom ahead of the j-th -/
def rMf (mi m : Nat → Nat → Int) (i S j : Int) (c : Int) : Prop := rOff m mi ∧ gR32 m ∧ rG m ∧ mVal (rOp mi (mi 1 2)) j.toNat i.toNat (ib S) (fun p => m 131 p) ∧ ∃ z : Nat, c = z ∧ mCnt (fun p => m 131 p) = z ∧ mMax (rOp mi (mi 1 2)) j.toNat i.toNat (ib S) z
theorem rMf_won {mi m m2 : Nat → Nat → Int} {i S j c : Int} (h : rMf mi m i S j c) (i0 : 0 ≤ i) (hij : i ≤ j) (hp : rPost (gu m 127 6 S) m2 j 1) : rMf mi m2 i S (j + 1) (c + 1) := by
  obtain ⟨h1, h2, h3, h4, z, hz1, hz2, hz3⟩ := h
  obtain ⟨q1, q2, q3, q4, q5⟩ := hp
  have o1 : rOff (gu m 127 6 S) mi := fun c j hc hj => (gu_ne hj).trans (h1 c j hc hj)
  have g1 : ∀ p, gu m 127 6 S 131 p = m 131 p := fun p => gu_ne (Or.inl (by decide))
  have s1 : gu m 127 6 S 127 6 = S := gu_self _ _ _ _
  have p12 : gu m 127 6 S 1 2 = mi 1 2 := o1 1 2 (by decide) (Or.inl (by decide))
  rcases q5 with ⟨x, -⟩ | ⟨-, r1, r2, r3⟩
  · omega
  · rw [p12, s1] at r2
    simp only [g1] at r2 r3
    have ej : (j + 1).toNat = j.toNat + 1 := by omega
    have cnt : ∀ x : Int, 0 ≤ x → cntB (fun p => decide (m2 131 p = x)) 12 = cntB (fun p => decide (m 131 p = x)) 12 + (decide (j = x)).toNat := fun x x0 => r3 (fun v => decide (v = x)) (decide_eq_false (by omega))
    have one : ∀ x : Int, 0 ≤ x → cntB (fun p => decide (m 131 p = x)) 12 ≤ 1 := fun x x0 => cntB_one (fun p q hp hq a b => by
      rw [decide_eq_true_eq] at a b
      exact h4.2 p q hp hq (show 0 ≤ m 131 p by omega) (show m 131 p = m 131 q by omega))
    have none : cntB (fun p => decide (m 131 p = j)) 12 = 0 := cntB_false (fun p hp => decide_eq_false (fun e => by
      have := h4.1 p hp (show 0 ≤ m 131 p by omega)
      have this : i.toNat ≤ (m 131 p).toNat ∧ (m 131 p).toNat < j.toNat ∧ _ := this
      omega))
    have le1 : ∀ x : Int, 0 ≤ x → cntB (fun p => decide (m2 131 p = x)) 12 ≤ 1 := fun x x0 => by
      rw [cnt x x0]
      by_cases e : j = x
      · rw [← e, none, decide_eq_true rfl]; decide
      · rw [decide_eq_false e]
        have := one x x0
        simp only [Bool.toNat_false]; omega
    have hv : mVal (rOp mi (mi 1 2)) (j + 1).toNat i.toNat (ib S) (fun p => m2 131 p) := by
      refine ⟨fun p hp h0 => ?_, fun p q hp hq h0 e => ?_⟩
      · have h0 : 0 ≤ m2 131 p := h0
        show i.toNat ≤ (m2 131 p).toNat ∧ (m2 131 p).toNat < (j + 1).toNat ∧ rOp mi (mi 1 2) (m2 131 p).toNat p = true ∧ ib S p = false
        have hin : i.toNat ≤ (m2 131 p).toNat ∧ (m2 131 p).toNat < (j + 1).toNat := by
          by_cases e : j = m2 131 p
          · omega
          · have hge := cnt_ge (g := fun p => m2 131 p) (x := m2 131 p) hp rfl
            rw [cnt _ h0, decide_eq_false e] at hge
            simp only [Bool.toNat_false] at hge
            obtain ⟨q, hq, eq⟩ := cnt_pos (g := fun p => m 131 p) (n := 12) (by omega)
            have eq : m 131 q = m2 131 p := eq
            have := h4.1 q hq (show 0 ≤ m 131 q by omega)
            have this : i.toNat ≤ (m 131 q).toNat ∧ (m 131 q).toNat < j.toNat ∧ _ := this
            omega
        rcases r2 p hp with a | ⟨a, b, c⟩
        · have := h4.1 p hp (show 0 ≤ m 131 p by omega)
          have this : i.toNat ≤ (m 131 p).toNat ∧ (m 131 p).toNat < j.toNat ∧ rOp mi (mi 1 2) (m 131 p).toNat p = true ∧ ib S p = false := this
          rw [a] at hin ⊢
          exact ⟨hin.1, hin.2, this.2.2⟩
        · exact ⟨hin.1, hin.2, by rw [← rOp_c o1]; exact b, c⟩
      · by_cases ne : p = q
        · exact ne
        · exfalso
          have h0 : 0 ≤ m2 131 p := h0
          have e : m2 131 p = m2 131 q := e
          have hle := le1 (m2 131 p) h0
          rcases Nat.lt_or_ge p q with c | c
          · have := cntB_two (f := fun r => decide (m2 131 r = m2 131 p)) c hq (decide_eq_true rfl) (decide_eq_true e.symm)
            omega
          · have := cntB_two (f := fun r => decide (m2 131 r = m2 131 p)) (show q < p by omega) hp (decide_eq_true e.symm) (decide_eq_true rfl)
            omega
    have hc : mCnt (fun p => m2 131 p) = z + 1 := by
      have := r3 (fun v => decide (0 ≤ v)) (decide_eq_false (by omega))
      rw [decide_eq_true (show 0 ≤ j by omega)] at this
      simp only [Bool.toNat_true] at this
      have hz2' : cntB (fun p => decide (0 ≤ m 131 p)) 12 = z := hz2
      show cntB (fun p => decide (0 ≤ m2 131 p)) 12 = z + 1
      omega
    refine ⟨fun c j hc hj => (q1 c j hc hj).trans (o1 c j hc hj), q2, q3, hv, z + 1, by omega, hc, ?_⟩
    rw [ej] at hv ⊢
    exact mMax_won hz3 hv hc
theorem rMf_lost {mi m m2 : Nat → Nat → Int} {i S j c : Int} (h : rMf mi m i S j c) (i0 : 0 ≤ i) (hij : i ≤ j) (hp : rPost (gu m 127 6 S) m2 j 0) : rMf mi m2 i S (j + 1) c := by
  obtain ⟨h1, h2, h3, h4, z, hz1, hz2, hz3⟩ := h
  obtain ⟨q1, q2, q3, q4, q5⟩ := hp
  have o1 : rOff (gu m 127 6 S) mi := fun c j hc hj => (gu_ne hj).trans (h1 c j hc hj)
  have g1 : ∀ p, gu m 127 6 S 131 p = m 131 p := fun p => gu_ne (Or.inl (by decide))
  have s1 : gu m 127 6 S 127 6 = S := gu_self _ _ _ _
  have p12 : gu m 127 6 S 1 2 = mi 1 2 := o1 1 2 (by decide) (Or.inl (by decide))
  have ej : (j + 1).toNat = j.toNat + 1 := by omega
  rcases q5 with ⟨-, r1, r2, r3⟩ | ⟨x, -⟩
  · rw [p12] at r2 r3
    rw [s1] at r3
    simp only [g1] at r1 r3
    have eg : (fun p => m2 131 p) = fun p => m 131 p := by funext p; exact r1 p
    refine ⟨fun c j hc hj => (q1 c j hc hj).trans (o1 c j hc hj), q2, q3, ?_, z, hz1, by rw [eg]; exact hz2, ?_⟩
    · rw [eg, ej]
      exact ⟨fun p hp h0 => by have := h4.1 p hp h0; exact ⟨this.1, by omega, this.2.2⟩, h4.2⟩
    · rw [ej]
      refine mMax_lost (R := ib (m2 127 6)) hz3 h4 (fun p hp hop => r2 p hp (by rw [rOp_c o1]; exact hop)) (fun p hp hs => ?_)
      rcases r3 p hp hs with a | ⟨a, b⟩
      · exact Or.inl a
      · exact Or.inr ⟨a, fun q hq hop => b q hq (by rw [rOp_c o1]; exact hop)⟩
  · omega
def rNeg (mi : Nat → Nat → Int) (k : Nat) : Nat → Nat → Int := fun c j => if c = 131 ∧ j < k then -1 else mi c j
theorem rNeg_0 (mi : Nat → Nat → Int) : rNeg mi 0 = mi := by
  funext c j; unfold rNeg; rw [if_neg (by omega)]
theorem rNeg_s (mi : Nat → Nat → Int) (k : Nat) : gu (rNeg mi k) 131 k (-1) = rNeg mi (k + 1) := by
  funext c j
  rw [gu_eq]
  unfold rNeg
  by_cases h : c = 131 ∧ j = k
  · rw [if_pos h, if_pos (by omega)]
  · rw [if_neg h]
    by_cases h2 : c = 131 ∧ j < k
    · rw [if_pos h2, if_pos (by omega)]
    · rw [if_neg h2, if_neg (by omega)]
set_option maxRecDepth 100000 in
set_option maxHeartbeats 4000000 in
theorem lR_most {G : gG} (hsz : G.2.2.2.2.2.2 = true) {n : Nat} (hn : 16 ≤ n) (mi : Nat → Nat → Int) (ml : Nat → Nat → Int64) (i S : Int) (i0 : 0 ≤ i) (i1 : i ≤ mi 127 1) (rS : rng S) (hP : 0 ≤ mi 1 2 ∧ mi 1 2 ≤ 12) (hz : 0 ≤ mi 127 1 ∧ mi 127 1 ≤ 24) : ∀ (f : Nat) (k : Int) (m : Nat → Nat → Int) (c : Int) (hm : rMf mi m i S k c), i ≤ k → k ≤ mi 127 1 → mi 127 1 - k < f → Go G mX6_mostFrom n 0 0 26 [some (gr 127), some (gi i), some (gi S), some (gi c), some (gi k)] [] (gw m ml) (fun r M => ∃ (z : Nat) (m : Nat → Nat → Int), mMax (rOp mi (mi 1 2)) (mi 127 1).toNat i.toNat (ib S) z ∧ rOff m mi ∧ gR32 m ∧ r = some (gi ((z : Nat) : Int)) ∧ M = gw m ml) := by
  have hn1 : 1 ≤ n := by omega

  intro f
  induction f with
  | zero => intros; omega
  | succ f ih =>
    intro k m c hm k0 k1 k2
    have e12 : m 1 2 = mi 1 2 := hm.1 1 2 (by decide) (Or.inl (by decide))
    have e71 : m 127 1 = mi 127 1 := hm.1 127 1 (by decide) (Or.inr (by decide))
    refine Go.run hsz hn1 3 (pc' := 32) (lv' := [some (gr 127), some (gi i), some (gi S), some (gi c), some (gi k)]) (st' := [gi (m 127 1), gi k]) (M' := gw m ml) rfl ?_
    refine Go.icmp_ge (by rfl) ⟨by omega, by omega⟩ (hm.2.1 _ _) (fun kq1 => ?_) (fun kq1 => ?_)
    · refine Go.run hsz hn1 1 (pc' := 60) (lv' := [some (gr 127), some (gi i), some (gi S), some (gi c), some (gi k)]) (st' := [gi c]) (M' := gw m ml) rfl ?_
      have hk : k = mi 127 1 := by omega
      subst hk
      obtain ⟨a1, a2, a3, a4, z, b1, b2, b3⟩ := hm
      exact Go.iret (by rfl) ⟨z, m, b3, a1, a2, congrArg (fun z => some (gi z)) b1, rfl⟩
    · refine Go.run hsz hn1 6 (pc' := 44) (lv' := [some (gr 127), some (gi i), some (gi S), some (gi c), some (gi k)]) (st' := [gi 0, gi k, gr 127]) (M' := gw (gu m 127 6 S) ml) rfl ?_
      refine Go.callV (As := [gi k, gi 0]) (b := 127) (st := []) (mc1 := 0) (mc := 0) (ms1 := 0) (ms := 0) (by rfl) rfl (c := 5) (N := 7) (by rfl) (by decide) (by rfl) (gcn 51 (by decide)).1 (gcn 51 (by decide)).2 rfl (Nat.le_of_ble_eq_true rfl) (by omega) (cR_finds hsz ml 13 (n - 1) (by omega) k 0 (gu m 127 6 S) ⟨gR32_gu hm.2.1 rS, by rw [gu_other (by decide), e12]; exact hP, by rw [gu_ne (Or.inr (by decide)), e71]; exact hz, (fun p hp => by rw [gu_ne (Or.inl (by decide)), gu_ne (Or.inr (by decide))]; exact hm.2.2.1 p hp), by rw [gu_ne (Or.inr (by decide)), e71]; omega, by omega, by omega⟩ (by omega)) ?_
      rintro _ _ ⟨z9, m9, hp9, rfl, rfl⟩
      have hz9 : z9 = 0 ∨ z9 = 1 := (by rcases hp9.2.2.2.2 with q | q <;> omega)
      refine Go.run hsz hn1 0 (pc' := 47) (lv' := [some (gr 127), some (gi i), some (gi S), some (gi c), some (gi k)]) (st' := [gi z9]) (M' := gw m9 ml) rfl ?_
      refine Go.if_eq (by rfl) ⟨by omega, by omega⟩ (fun kq2 => ?_) (fun kq2 => ?_)
      · refine Go.run hsz hn1 2 (pc' := 26) (lv' := [some (gr 127), some (gi i), some (gi S), some (gi c), some (gi (k + 1))]) (st' := []) (M' := gw m9 ml) rfl ?_
        have hz0 : z9 = 0 := by omega
        rw [hz0] at hp9
        exact ih (k + 1) m9 c (rMf_lost hm i0 (by omega) hp9) (by omega) (by omega) (by omega)
      · refine Go.run hsz hn1 3 (pc' := 26) (lv' := [some (gr 127), some (gi i), some (gi S), some (gi (c + 1)), some (gi (k + 1))]) (st' := []) (M' := gw m9 ml) rfl ?_
        have hz1 : z9 = 1 := by omega
        rw [hz1] at hp9
        exact ih (k + 1) m9 (c + 1) (rMf_won hm i0 (by omega) hp9) (by omega) (by omega) (by omega)
set_option maxRecDepth 100000 in
set_option maxHeartbeats 4000000 in
theorem lR_most0 {G : gG} (hsz : G.2.2.2.2.2.2 = true) {n : Nat} (hn : 16 ≤ n) (mi : Nat → Nat → Int) (ml : Nat → Nat → Int64) (i S : Int) (i0 : 0 ≤ i) (i1 : i ≤ mi 127 1) (rS : rng S) (hP : 0 ≤ mi 1 2 ∧ mi 1 2 ≤ 12) (hz : 0 ≤ mi 127 1 ∧ mi 127 1 ≤ 24) (hR : gR32 mi) : ∀ (f : Nat) (k : Int), 0 ≤ k → k ≤ 12 → 12 - k < f → Go G mX6_mostFrom n 0 0 2 [some (gr 127), some (gi i), some (gi S), some (gi k), none] [] (gw (rNeg mi k.toNat) ml) (fun r M => ∃ (z : Nat) (m : Nat → Nat → Int), mMax (rOp mi (mi 1 2)) (mi 127 1).toNat i.toNat (ib S) z ∧ rOff m mi ∧ gR32 m ∧ r = some (gi ((z : Nat) : Int)) ∧ M = gw m ml) := by
  have hn1 : 1 ≤ n := by omega

  intro f
  induction f with
  | zero => intros; omega
  | succ f ih =>
    intro k k0 k1 k2
    refine Go.run hsz hn1 2 (pc' := 5) (lv' := [some (gr 127), some (gi i), some (gi S), some (gi k), none]) (st' := [gi 12, gi k]) (M' := gw (rNeg mi k.toNat) ml) rfl ?_
    refine Go.icmp_ge (by rfl) ⟨by omega, by omega⟩ ⟨by decide, by decide⟩ (fun kq1 => ?_) (fun kq1 => ?_)
    · refine Go.run hsz hn1 4 (pc' := 26) (lv' := [some (gr 127), some (gi i), some (gi S), some (gi 0), some (gi i)]) (st' := []) (M' := gw (rNeg mi k.toNat) ml) rfl ?_
      obtain rfl : k = 12 := by omega
      have hneg : ∀ p, p < 12 → rNeg mi 12 131 p = -1 := fun p hp => if_pos ⟨rfl, hp⟩
      refine lR_most hsz (n := n) (by omega) mi ml i S i0 i1 rS hP hz ((mi 127 1 - i).toNat + 1) i (rNeg mi 12) 0 ⟨fun c j hc hj => if_neg (fun q => hc q.1), ?_, fun p hp => ?_, mVal_none _ (fun p hp => ?_), 0, rfl, mCnt_none (fun p hp => ?_), mMax_end (Nat.le_refl _)⟩ (by omega) (by omega) (by omega)
      · intro c j; unfold rNeg; split
        · exact ⟨by decide, by decide⟩
        · exact hR c j
      · rw [hneg p hp, show rNeg mi 12 127 1 = mi 127 1 from rfl]; omega
      · show rNeg mi 12 131 p < 0; rw [hneg p hp]; omega
      · show rNeg mi 12 131 p < 0; rw [hneg p hp]; omega
    · refine Go.run hsz hn1 4 (pc' := 14) (lv' := [some (gr 127), some (gi i), some (gi S), some (gi k), none]) (st' := [gi (-1), gi k, gr 131]) (M' := gw (rNeg mi k.toNat) ml) rfl ?_
      refine Go.iast (by rfl) (N := 12) (by rfl) (by omega) (by omega) (by decide) ?_
      refine Go.run hsz hn1 2 (pc' := 2) (lv' := [some (gr 127), some (gi i), some (gi S), some (gi (k + 1)), none]) (st' := []) (M' := gw (gu (rNeg mi k.toNat) 131 k.toNat (-1)) ml) rfl ?_
      have h9 := ih (k + 1) (by omega) (by omega) (by omega)
      rw [show (k + 1).toNat = k.toNat + 1 by omega, ← rNeg_s] at h9
      exact h9
set_option maxRecDepth 100000 in
set_option maxHeartbeats 4000000 in
theorem cR_most {G : gG} (hsz : G.2.2.2.2.2.2 = true) {n : Nat} (hn : 16 ≤ n) (mi : Nat → Nat → Int) (ml : Nat → Nat → Int64) (i S : Int) (i0 : 0 ≤ i) (i1 : i ≤ mi 127 1) (rS : rng S) (hP : 0 ≤ mi 1 2 ∧ mi 1 2 ≤ 12) (hz : 0 ≤ mi 127 1 ∧ mi 127 1 ≤ 24) (hR : gR32 mi) : gM G 50 n 0 0 [gr 127, gi i, gi S] (gw mi ml) (fun r M => ∃ (z : Nat) (m : Nat → Nat → Int), mMax (rOp mi (mi 1 2)) (mi 127 1).toNat i.toNat (ib S) z ∧ rOff m mi ∧ gR32 m ∧ r = some (gi ((z : Nat) : Int)) ∧ M = gw m ml) := by
  have hn1 : 1 ≤ n := by omega
  refine gM.of mX6_mostFrom okX6_mostFrom (gcp 50 (by decide)).1 (gcp 50 (by decide)).2 (Nat.le_of_ble_eq_true rfl) ?_
  refine Go.run hsz hn1 2 (pc' := 2) (lv' := [some (gr 127), some (gi i), some (gi S), some (gi 0), none]) (st' := []) (M' := gw mi ml) rfl ?_
  have h9 := lR_most0 hsz hn mi ml i S i0 i1 rS hP hz hR 13 0 (by omega) (by omega) (by omega)
  rw [show (0 : Int).toNat = 0 from rfl, rNeg_0] at h9
  exact h9
/-- the least pitch with which as many as L are still moved -/
def rCh (can : Nat → Nat → Bool) (w i : Nat) (S L : Int) (p : Nat) : Prop := can i p = true ∧ ib S p = false ∧ ∃ d : Nat, mMax can w (i + 1) (ib (orI S (shlI 1 (p : Nat)))) d ∧ 1 + (d : Int) = L
def rGoal (can : Nat → Nat → Bool) (w i : Nat) (S L z : Int) : Prop := (z = -1 ∧ ∀ p : Nat, p < 12 → ¬ rCh can w i S L p) ∨ ((0 ≤ z ∧ z < 12) ∧ rCh can w i S L z.toNat ∧ ∀ p : Nat, (p : Int) < z → ¬ rCh can w i S L p)
theorem rGoal_u {can : Nat → Nat → Bool} {w i : Nat} {S L z z' : Int} (h : rGoal can w i S L z) (h' : rGoal can w i S L z') : z = z' := by
  rcases h with ⟨a1, a2⟩ | ⟨a1, a2, a3⟩ <;> rcases h' with ⟨b1, b2⟩ | ⟨b1, b2, b3⟩
  · omega
  · exact absurd b2 (a2 z'.toNat (by omega))
  · exact absurd a2 (b2 z.toNat (by omega))
  · rcases (show z < z' ∨ z = z' ∨ z' < z by omega) with c | c | c
    · exact absurd a2 (b3 z.toNat (by omega))
    · exact c
    · exact absurd b2 (a3 z'.toNat (by omega))
theorem rBit2 {mi : Nat → Nat → Int} {S : Int} {i k : Int} (k0 : 0 ≤ k) (k1 : k < mi 1 2) (hp : mi 1 2 ≤ 12) : (andI (shrI (andI (mi 129 i.toNat) (xorI S (-1))) k) 1 = 0 ↔ ¬ (rOp mi (mi 1 2) i.toNat k.toNat = true ∧ ib S k.toNat = false)) := by
  have e : k = ((k.toNat : Nat) : Int) := by omega
  have hb := bit_ib (andI (mi 129 i.toNat) (xorI S (-1))) (p := k.toNat) (by omega)
  rw [← e] at hb
  rw [hb, ib_and, ib_not _ (by omega)]
  unfold rOp
  rw [decide_eq_true (show ((k.toNat : Nat) : Int) < mi 1 2 by omega), Bool.and_true]
  cases ib (mi 129 i.toNat) k.toNat <;> cases ib S k.toNat <;> simp
set_option maxRecDepth 100000 in
set_option maxHeartbeats 4000000 in
theorem lR_goal {G : gG} (hsz : G.2.2.2.2.2.2 = true) {n : Nat} (hn : 17 ≤ n) (mi : Nat → Nat → Int) (ml : Nat → Nat → Int64) (i S L : Int) (i0 : 0 ≤ i) (i1 : i < mi 127 1) (rL : rng L) (hP : 0 ≤ mi 1 2 ∧ mi 1 2 ≤ 12) (hz : 0 ≤ mi 127 1 ∧ mi 127 1 ≤ 24) : ∀ (f : Nat) (k : Int) (m : Nat → Nat → Int) (hm : rOff m mi) (hmR : gR32 m) (hno : ∀ p : Nat, (p : Int) < k → ¬ rCh (rOp mi (mi 1 2)) (mi 127 1).toNat i.toNat S L p), 0 ≤ k → k ≤ mi 1 2 → mi 1 2 - k < f → Go G mX6_leastGoal n 0 0 3 [some (gr 127), some (gi i), some (gi S), some (gi L), some (gi k), none] [] (gw m ml) (fun r M => ∃ (z : Int) (m : Nat → Nat → Int), rGoal (rOp mi (mi 1 2)) (mi 127 1).toNat i.toNat S L z ∧ z < mi 1 2 ∧ rOff m mi ∧ gR32 m ∧ r = some (gi z) ∧ M = gw m ml) := by
  have hn1 : 1 ≤ n := by omega

  intro f
  induction f with
  | zero => intros; omega
  | succ f ih =>
    intro k m hm hmR hno k0 k1 k2
    have e12 : m 1 2 = mi 1 2 := hm 1 2 (by decide) (Or.inl (by decide))
    have e71 : m 127 1 = mi 127 1 := hm 127 1 (by decide) (Or.inr (by decide))
    have e29 : m 129 i.toNat = mi 129 i.toNat := hm 129 _ (by decide) (Or.inl (by decide))
    refine Go.run hsz hn1 4 (pc' := 12) (lv' := [some (gr 127), some (gi i), some (gi S), some (gi L), some (gi k), none]) (st' := [gi (m 1 2), gi k]) (M' := gw m ml) rfl ?_
    refine Go.icmp_ge (by rfl) ⟨by omega, by omega⟩ (hmR _ _) (fun kq1 => ?_) (fun kq1 => ?_)
    · refine Go.run hsz hn1 1 (pc' := 74) (lv' := [some (gr 127), some (gi i), some (gi S), some (gi L), some (gi k), none]) (st' := [gi (-1)]) (M' := gw m ml) rfl ?_
      refine Go.iret (by rfl) ⟨-1, m, Or.inl ⟨rfl, fun p hp => ?_⟩, by omega, hm, hmR, rfl, rfl⟩
      by_cases e : (p : Int) < k
      · exact hno p e
      · rintro ⟨a, -⟩
        unfold rOp at a; rw [Bool.and_eq_true, decide_eq_true_eq] at a; omega
    · refine Go.run hsz hn1 3 (pc' := 20) (lv' := [some (gr 127), some (gi i), some (gi S), some (gi L), some (gi k), none]) (st' := [gi i, gr 129]) (M' := gw m ml) rfl ?_
      refine Go.iald (by rfl) (N := 24) (by rfl) (by omega) (by omega) (by decide) ?_
      refine Go.run hsz hn1 8 (pc' := 30) (lv' := [some (gr 127), some (gi i), some (gi S), some (gi L), some (gi k), none]) (st' := [gi (andI (shrI (andI (m 129 i.toNat) (xorI S (-1))) k) 1)]) (M' := gw m ml) rfl ?_
      refine Go.if_eq (by rfl) (rng_of _) (fun kq2 => ?_) (fun kq2 => ?_)
      · refine Go.run hsz hn1 3 (pc' := 42) (lv' := [some (gr 127), some (gi i), some (gi S), some (gi L), some (gi k), some (gi 0)]) (st' := [gi 0]) (M' := gw m ml) rfl ?_
        refine Go.if_eq (by rfl) ⟨by decide, by decide⟩ (fun kq3 => ?_) (fun kq3 => ?_)
        · refine Go.run hsz hn1 2 (pc' := 3) (lv' := [some (gr 127), some (gi i), some (gi S), some (gi L), some (gi (k + 1)), some (gi 0)]) (st' := []) (M' := gw m ml) rfl ?_
          refine Go.dropl 5 ?_
          refine Go.run hsz hn1 0 (pc' := 3) (lv' := [some (gr 127), some (gi i), some (gi S), some (gi L), some (gi (k + 1)), none]) (st' := []) (M' := gw m ml) rfl ?_
          exact ih (k + 1) m hm hmR (fun p hp => (by
            by_cases e : (p : Int) = k
            · rw [show p = k.toNat by omega]
              rintro ⟨a, b, -⟩
              exact (rBit2 k0 (by omega) hP.2).mp (by rw [← e29]; assumption) ⟨a, b⟩
            · exact hno p (by omega))) (by omega) (by omega) (by omega)
        · exact absurd kq3 (by decide)
      · refine Go.run hsz hn1 4 (pc' := 42) (lv' := [some (gr 127), some (gi i), some (gi S), some (gi L), some (gi k), some (gi 1)]) (st' := [gi 1]) (M' := gw m ml) rfl ?_
        refine Go.if_eq (by rfl) ⟨by decide, by decide⟩ (fun kq4 => ?_) (fun kq4 => ?_)
        · exact absurd kq4 (by decide)
        · refine Go.run hsz hn1 10 (pc' := 56) (lv' := [some (gr 127), some (gi i), some (gi S), some (gi L), some (gi k), some (gi 1)]) (st' := [gi (orI S (shlI 1 k)), gi (i + 1), gr 127, gi 1]) (M' := gw m ml) rfl ?_
          refine Go.callV (As := [gi (i + 1), gi (orI S (shlI 1 k))]) (b := 127) (st := [gi 1]) (mc1 := 0) (mc := 0) (ms1 := 0) (ms := 0) (by rfl) rfl (c := 5) (N := 7) (by rfl) (by decide) (by rfl) (gcn 50 (by decide)).1 (gcn 50 (by decide)).2 rfl (Nat.le_of_ble_eq_true rfl) (by omega) (cR_most hsz (n := n - 1) (by omega) m ml (i + 1) (orI S (shlI 1 k)) (by omega) (by rw [e71]; omega) (orI_rng _ _) (by rw [e12]; exact hP) (by rw [e71]; exact hz) hmR) ?_
          rintro _ _ ⟨z9, m9, hx9, ho9, hR9, rfl, rfl⟩
          rw [e12, e71, show rOp m (mi 1 2) = rOp mi (mi 1 2) from funext (fun a => funext (fun b => rOp_c hm _ a b)), show (i + 1).toNat = i.toNat + 1 by omega] at hx9
          have hz9 : (z9 : Int) ≤ 12 := (by obtain ⟨⟨f9, -, e9⟩, -⟩ := hx9; have := cntB_le (fun p => decide (0 ≤ f9 p)) 12; unfold mCnt at e9; omega)
          refine Go.run hsz hn1 2 (pc' := 61) (lv' := [some (gr 127), some (gi i), some (gi S), some (gi L), some (gi k), some (gi 1)]) (st' := [gi L, gi (1 + ((z9 : Nat) : Int))]) (M' := gw m9 ml) rfl ?_
          refine Go.icmp_ne (by rfl) ⟨by omega, by omega⟩ rL (fun kq5 => ?_) (fun kq5 => ?_)
          · refine Go.run hsz hn1 2 (pc' := 3) (lv' := [some (gr 127), some (gi i), some (gi S), some (gi L), some (gi (k + 1)), some (gi 1)]) (st' := []) (M' := gw m9 ml) rfl ?_
            refine Go.dropl 5 ?_
            refine Go.run hsz hn1 0 (pc' := 3) (lv' := [some (gr 127), some (gi i), some (gi S), some (gi L), some (gi (k + 1)), none]) (st' := []) (M' := gw m9 ml) rfl ?_
            have ho : rOff m9 mi := fun c j hc hj => (ho9 c j hc hj).trans (hm c j hc hj)
            exact ih (k + 1) m9 ho hR9 (fun p hp => (by
              by_cases e : (p : Int) = k
              · rw [show p = k.toNat by omega]
                rintro ⟨a, b, d, hd, he⟩
                rw [show ((k.toNat : Nat) : Int) = k by omega] at hd
                have := mMax_u hd hx9
                omega
              · exact hno p (by omega))) (by omega) (by omega) (by omega)
          · refine Go.run hsz hn1 1 (pc' := 66) (lv' := [some (gr 127), some (gi i), some (gi S), some (gi L), some (gi k), some (gi 1)]) (st' := [gi k]) (M' := gw m9 ml) rfl ?_
            have hbt : rOp mi (mi 1 2) i.toNat k.toNat = true ∧ ib S k.toNat = false := Classical.not_not.mp (fun q => absurd ((rBit2 k0 (by omega) hP.2).mpr q) (by rw [← e29]; assumption))
            exact Go.iret (by rfl) ⟨k, m9, Or.inr ⟨by omega, ⟨hbt.1, hbt.2, z9, (by rw [show ((k.toNat : Nat) : Int) = k by omega]; exact hx9), by omega⟩, hno⟩, by omega, fun c j hc hj => (ho9 c j hc hj).trans (hm c j hc hj), hR9, rfl, rfl⟩
set_option maxRecDepth 100000 in
set_option maxHeartbeats 4000000 in
theorem cR_goal {G : gG} (hsz : G.2.2.2.2.2.2 = true) {n : Nat} (hn : 17 ≤ n) (mi : Nat → Nat → Int) (ml : Nat → Nat → Int64) (i S L : Int) (i0 : 0 ≤ i) (i1 : i < mi 127 1) (rL : rng L) (hP : 0 ≤ mi 1 2 ∧ mi 1 2 ≤ 12) (hz : 0 ≤ mi 127 1 ∧ mi 127 1 ≤ 24) (hR : gR32 mi) : gM G 49 n 0 0 [gr 127, gi i, gi S, gi L] (gw mi ml) (fun r M => ∃ (z : Int) (m : Nat → Nat → Int), rGoal (rOp mi (mi 1 2)) (mi 127 1).toNat i.toNat S L z ∧ z < mi 1 2 ∧ rOff m mi ∧ gR32 m ∧ r = some (gi z) ∧ M = gw m ml) := by
  have hn1 : 1 ≤ n := by omega
  refine gM.of mX6_leastGoal okX6_leastGoal (gcp 49 (by decide)).1 (gcp 49 (by decide)).2 (Nat.le_of_ble_eq_true rfl) ?_
  refine Go.run hsz hn1 2 (pc' := 3) (lv' := [some (gr 127), some (gi i), some (gi S), some (gi L), some (gi 0), none]) (st' := []) (M' := gw mi ml) rfl ?_
  exact lR_goal hsz hn mi ml i S L i0 i1 rL hP hz ((mi 1 2).toNat + 1) 0 mi (fun _ _ _ _ => rfl) hR (fun p hp => by omega) (by omega) (by omega) (by omega)

/-! ===== the rescue, class. 127: 1 size, 6 seen; 128 wets, 129 open, 130 goals, 131 givenTo ===== -/
def rOp (mi : Nat → Nat → Int) (P : Int) (i : Nat) (p : Nat) : Bool := ib (mi 129 i) p && decide ((p : Int) < P)
def rOff (m mi : Nat → Nat → Int) : Prop := ∀ c j : Nat, c ≠ 131 → (c ≠ 127 ∨ j ≠ 6) → m c j = mi c j
def rG (mi : Nat → Nat → Int) : Prop := ∀ p : Nat, p < 12 → -1 ≤ mi 131 p ∧ mi 131 p < mi 127 1
/-- what a search leaves: none found, or one found -/
def rPost (mi m : Nat → Nat → Int) (i z : Int) : Prop := rOff m mi ∧ gR32 m ∧ rG m ∧ (∀ p, p < 12 → ib (mi 127 6) p = true → ib (m 127 6) p = true) ∧ ((z = 0 ∧ (∀ p, m 131 p = mi 131 p) ∧ (∀ p, p < 12 → rOp mi (mi 1 2) i.toNat p = true → ib (m 127 6) p = true) ∧ (∀ p, p < 12 → ib (m 127 6) p = true → ib (mi 127 6) p = true ∨ (0 ≤ mi 131 p ∧ ∀ q, q < 12 → rOp mi (mi 1 2) (mi 131 p).toNat q = true → ib (m 127 6) q = true))) ∨ (z = 1 ∧ (∀ p, p < 12 → ib (mi 127 6) p = true → m 131 p = mi 131 p) ∧ (∀ p, p < 12 → m 131 p = mi 131 p ∨ (0 ≤ m 131 p ∧ rOp mi (mi 1 2) (m 131 p).toNat p = true ∧ ib (mi 127 6) p = false)) ∧ ∀ φ : Int → Bool, φ (-1) = false → cntB (fun p => φ (m 131 p)) 12 = cntB (fun p => φ (mi 131 p)) 12 + (φ i).toNat))
def rPre (mi : Nat → Nat → Int) (i d : Int) : Prop := gR32 mi ∧ (0 ≤ mi 1 2 ∧ mi 1 2 ≤ 12) ∧ (0 ≤ mi 127 1 ∧ mi 127 1 ≤ 24) ∧ rG mi ∧ (0 ≤ i ∧ i < mi 127 1) ∧ 0 ≤ d ∧ d ≤ (cntB (ib (mi 127 6)) 12 : Nat)
/-- the state in the midst of a search -/
def rMid (mi m : Nat → Nat → Int) (i k : Int) : Prop := rOff m mi ∧ gR32 m ∧ (∀ p, m 131 p = mi 131 p) ∧ (∀ p, p < 12 → ib (mi 127 6) p = true → ib (m 127 6) p = true) ∧ (∀ p : Nat, (p : Int) < k → rOp mi (mi 1 2) i.toNat p = true → ib (m 127 6) p = true) ∧ (∀ p, p < 12 → ib (m 127 6) p = true → ib (mi 127 6) p = true ∨ (0 ≤ mi 131 p ∧ ∀ q, q < 12 → rOp mi (mi 1 2) (mi 131 p).toNat q = true → ib (m 127 6) q = true))
theorem rMid_cnt {mi m : Nat → Nat → Int} {i k : Int} (h : rMid mi m i k) : cntB (ib (mi 127 6)) 12 ≤ cntB (ib (m 127 6)) 12 := cntB_mono (fun p hp q => h.2.2.2.1 p hp q)
theorem ib_add (s : Int) {p q : Nat} (hp : p < 12) (hq : q < 12) : ib (orI s (shlI 1 (p : Nat))) q = (ib s q || decide (q = p)) := by rw [ib_or, ib_shl p hp q hq]
theorem cnt_add {s : Int} {p : Nat} (hp : p < 12) (h : ib s p = false) : cntB (ib (orI s (shlI 1 (p : Nat)))) 12 = cntB (ib s) 12 + 1 := by
  have e : cntB (ib (orI s (shlI 1 (p : Nat)))) 12 = cntB (fun q => if q = p then true else ib s q) 12 := cntB_congr (fun q hq => by
    rw [ib_add s hp hq]
    by_cases e : q = p
    · rw [if_pos e, decide_eq_true e, Bool.or_true]
    · rw [if_neg e, decide_eq_false e, Bool.or_false])
  have hu := cntB_upd (g := ib s) (b := true) (p := p) (n := 12) hp
  rw [h] at hu
  simp only [Bool.toNat_true, Bool.toNat_false] at hu
  omega
theorem rOp_c {m mi : Nat → Nat → Int} (h : rOff m mi) (P : Int) (i p : Nat) : rOp m P i p = rOp mi P i p := by
  unfold rOp
  rw [h 129 i (by decide) (Or.inl (by decide))]
/-- the pitch is open and not seen -/
theorem rBit {m mi : Nat → Nat → Int} (h : rOff m mi) {i k : Int} (k0 : 0 ≤ k) (k1 : k < mi 1 2) (hp : mi 1 2 ≤ 12) : (andI (shrI (andI (m 129 i.toNat) (xorI (m 127 6) (-1))) k) 1 = 0 ↔ ¬ (rOp mi (mi 1 2) i.toNat k.toNat = true ∧ ib (m 127 6) k.toNat = false)) := by
  have e : k = ((k.toNat : Nat) : Int) := by omega
  have hb := bit_ib (andI (m 129 i.toNat) (xorI (m 127 6) (-1))) (p := k.toNat) (by omega)
  rw [← e] at hb
  rw [hb, ib_and, ib_not _ (by omega), h 129 _ (by decide) (Or.inl (by decide))]
  unfold rOp
  rw [decide_eq_true (show ((k.toNat : Nat) : Int) < mi 1 2 by omega), Bool.and_true]
  cases ib (mi 129 i.toNat) k.toNat <;> cases ib (m 127 6) k.toNat <;> simp
theorem rMid_skip {mi m : Nat → Nat → Int} {i k : Int} (h : rMid mi m i k) (k0 : 0 ≤ k) (hb : ¬ (rOp mi (mi 1 2) i.toNat k.toNat = true ∧ ib (m 127 6) k.toNat = false)) : rMid mi m i (k + 1) := by
  obtain ⟨h1, h2, h3, h4, h5, h6⟩ := h
  refine ⟨h1, h2, h3, h4, fun p hp hop => ?_, h6⟩
  by_cases e : (p : Int) = k
  · have e' : p = k.toNat := by omega
    rw [e'] at hop ⊢
    cases hc : ib (m 127 6) k.toNat
    · exact absurd ⟨hop, hc⟩ hb
    · rfl
  · exact h5 p (by omega) hop
/-- the pitch is free: given at once -/
theorem rMid_free {mi m m' : Nat → Nat → Int} {i k : Int} (h : rMid mi m i k) (hpre : rG mi) (hi : 0 ≤ i ∧ i < mi 127 1) (k0 : 0 ≤ k) (k1 : k < mi 1 2) (hP : mi 1 2 ≤ 12) (hb : rOp mi (mi 1 2) i.toNat k.toNat = true ∧ ib (m 127 6) k.toNat = false) (hg : mi 131 k.toNat = -1) (hm : m' = gu (gu m 127 6 (orI (m 127 6) (shlI 1 k))) 131 k.toNat i) (hi24 : mi 127 1 ≤ 24) : rPost mi m' i 1 := by
  obtain ⟨h1, h2, h3, h4, h5, h6⟩ := h
  have ek : k = ((k.toNat : Nat) : Int) := by omega
  have e6 : m' 127 6 = orI (m 127 6) (shlI 1 k) := by rw [hm, gu_other (by decide), gu_self]
  have eg : ∀ p, m' 131 p = if p = k.toNat then i else mi 131 p := fun p => by
    rw [hm, gu_eq]
    by_cases e : p = k.toNat
    · rw [if_pos ⟨rfl, e⟩, if_pos e]
    · rw [if_neg (fun z => e z.2), if_neg e, gu_ne (Or.inl (by decide)), h3]
  have off : rOff m' mi := fun c j hc hj => by rw [hm, gu_other hc, gu_ne hj]; exact h1 c j hc hj
  have ns : ib (mi 127 6) k.toNat = false := by
    cases hc : ib (mi 127 6) k.toNat
    · rfl
    · rw [h4 k.toNat (by omega) hc] at hb; cases hb.2
  refine ⟨off, by rw [hm]; exact gR32_gu (gR32_gu h2 (orI_rng _ _)) ⟨by omega, by omega⟩, fun p hp => ?_, fun p hp hs => ?_, Or.inr ⟨rfl, fun p hp hs => ?_, fun p hp => ?_, fun φ hφ => ?_⟩⟩
  · rw [eg, off 127 1 (by decide) (Or.inr (by decide))]
    split
    · omega
    · exact hpre p hp
  · rw [e6, ek, ib_add _ (by omega) hp, h4 p hp hs]; rfl
  · rw [eg, if_neg]
    intro e
    rw [e, ns] at hs
    cases hs
  · rw [eg]
    by_cases e : p = k.toNat
    · rw [if_pos e, e]
      exact Or.inr ⟨by omega, hb.1, ns⟩
    · rw [if_neg e]; exact Or.inl rfl
  · have hu := cntB_upd (g := fun p => φ (mi 131 p)) (b := φ i) (p := k.toNat) (n := 12) (by omega)
    have e : cntB (fun p => φ (m' 131 p)) 12 = cntB (fun p => if p = k.toNat then φ i else φ (mi 131 p)) 12 := cntB_congr (fun p hp => by
      rw [eg]
      by_cases e : p = k.toNat
      · rw [if_pos e, if_pos e]
      · rw [if_neg e, if_neg e])
    rw [e]
    simp only [hg, hφ, Bool.toNat_false] at hu
    omega
/-- it is taken, and its party finds no other -/
theorem rMid_lost {mi m m1 m2 : Nat → Nat → Int} {i k : Int} (h : rMid mi m i k) (k0 : 0 ≤ k) (k1 : k < mi 1 2) (hP : mi 1 2 ≤ 12) (hm : m1 = gu m 127 6 (orI (m 127 6) (shlI 1 k))) (hg : 0 ≤ mi 131 k.toNat) (hp : rPost m1 m2 (mi 131 k.toNat) 0) : rMid mi m2 i (k + 1) := by
  obtain ⟨h1, h2, h3, h4, h5, h6⟩ := h
  obtain ⟨q1, q2, q3, q4, q5⟩ := hp
  have ek : k = ((k.toNat : Nat) : Int) := by omega
  have e6 : m1 127 6 = orI (m 127 6) (shlI 1 k) := by rw [hm, gu_self]
  have o1 : rOff m1 mi := fun c j hc hj => by rw [hm, gu_ne hj]; exact h1 c j hc hj
  have g1 : ∀ p, m1 131 p = mi 131 p := fun p => by rw [hm, gu_ne (Or.inl (by decide)), h3]
  have p12 : m1 1 2 = mi 1 2 := o1 1 2 (by decide) (Or.inl (by decide))
  have s1 : ∀ p, p < 12 → ib (m1 127 6) p = (ib (m 127 6) p || decide (p = k.toNat)) := fun p hp => by
    rw [e6, ek]; exact ib_add _ (by omega) hp
  have up : ∀ p, p < 12 → ib (m 127 6) p = true → ib (m2 127 6) p = true := fun p hp hs => q4 p hp (by rw [s1 p hp, hs]; rfl)
  have upk : ib (m2 127 6) k.toNat = true := q4 k.toNat (by omega) (by rw [s1 _ (by omega), decide_eq_true rfl, Bool.or_true])
  rcases q5 with ⟨-, r1, r2, r3⟩ | ⟨z, -⟩
  · rw [p12] at r2 r3
    have r2' : ∀ q, q < 12 → rOp mi (mi 1 2) (mi 131 k.toNat).toNat q = true → ib (m2 127 6) q = true := fun q hq hh => r2 q hq (by rw [rOp_c o1]; exact hh)
    refine ⟨fun c j hc hj => (q1 c j hc hj).trans (o1 c j hc hj), q2, fun p => (r1 p).trans (g1 p), fun p hp hs => up p hp (h4 p hp hs), fun p hp hop => ?_, fun p hp hs => ?_⟩
    · by_cases e : (p : Int) = k
      · have e' : p = k.toNat := by omega
        rw [e']; exact upk
      · exact up p (by omega) (h5 p (by omega) hop)
    · rcases r3 p hp hs with a | ⟨a, b⟩
      · rw [s1 p hp] at a
        by_cases e : p = k.toNat
        · rw [e]
          exact Or.inr ⟨hg, r2'⟩
        · rw [decide_eq_false e, Bool.or_false] at a
          rcases h6 p hp a with x | ⟨x, y⟩
          · exact Or.inl x
          · exact Or.inr ⟨x, fun q hq hh => up q hq (y q hq hh)⟩
      · rw [g1] at a b
        exact Or.inr ⟨a, fun q hq hh => b q hq (by rw [rOp_c o1]; exact hh)⟩
  · omega
/-- it is taken, and its party finds another -/
theorem rMid_won {mi m m1 m2 m' : Nat → Nat → Int} {i k : Int} (h : rMid mi m i k) (hi : 0 ≤ i ∧ i < mi 127 1) (hi24 : mi 127 1 ≤ 24) (k0 : 0 ≤ k) (k1 : k < mi 1 2) (hP : mi 1 2 ≤ 12) (hb : rOp mi (mi 1 2) i.toNat k.toNat = true ∧ ib (m 127 6) k.toNat = false) (hm : m1 = gu m 127 6 (orI (m 127 6) (shlI 1 k))) (hp : rPost m1 m2 (mi 131 k.toNat) 1) (hm' : m' = gu m2 131 k.toNat i) : rPost mi m' i 1 := by
  obtain ⟨h1, h2, h3, h4, h5, h6⟩ := h
  obtain ⟨q1, q2, q3, q4, q5⟩ := hp
  have ek : k = ((k.toNat : Nat) : Int) := by omega
  have e6 : m1 127 6 = orI (m 127 6) (shlI 1 k) := by rw [hm, gu_self]
  have o1 : rOff m1 mi := fun c j hc hj => by rw [hm, gu_ne hj]; exact h1 c j hc hj
  have g1 : ∀ p, m1 131 p = mi 131 p := fun p => by rw [hm, gu_ne (Or.inl (by decide)), h3]
  have p12 : m1 1 2 = mi 1 2 := o1 1 2 (by decide) (Or.inl (by decide))
  have s1 : ∀ p, p < 12 → ib (m1 127 6) p = (ib (m 127 6) p || decide (p = k.toNat)) := fun p hp => by
    rw [e6, ek]; exact ib_add _ (by omega) hp
  have ns : ib (mi 127 6) k.toNat = false := by
    cases hc : ib (mi 127 6) k.toNat
    · rfl
    · rw [h4 k.toNat (by omega) hc] at hb; cases hb.2
  have sk : ib (m1 127 6) k.toNat = true := by rw [s1 _ (by omega), decide_eq_true rfl, Bool.or_true]
  rcases q5 with ⟨z, -⟩ | ⟨-, r1, r2, r3⟩
  · omega
  · rw [p12] at r2
    have eg : ∀ p, m' 131 p = if p = k.toNat then i else m2 131 p := fun p => by
      rw [hm', gu_eq]
      by_cases e : p = k.toNat
      · rw [if_pos ⟨rfl, e⟩, if_pos e]
      · rw [if_neg (fun z => e z.2), if_neg e]
    have e6' : m' 127 6 = m2 127 6 := by rw [hm', gu_other (by decide)]
    have o2 : rOff m2 mi := fun c j hc hj => (q1 c j hc hj).trans (o1 c j hc hj)
    have off : rOff m' mi := fun c j hc hj => by rw [hm', gu_other hc]; exact o2 c j hc hj
    have sz : m2 127 1 = mi 127 1 := o2 127 1 (by decide) (Or.inr (by decide))
    refine ⟨off, by rw [hm']; exact gR32_gu q2 ⟨by omega, by omega⟩, fun p hp => ?_, fun p hp hs => ?_, Or.inr ⟨rfl, fun p hp hs => ?_, fun p hp => ?_, fun φ hφ => ?_⟩⟩
    · rw [eg, off 127 1 (by decide) (Or.inr (by decide))]
      split
      · omega
      · rw [← sz]; exact q3 p hp
    · rw [e6']
      exact q4 p hp (by rw [s1 p hp, h4 p hp hs]; rfl)
    · have hne : p ≠ k.toNat := fun e => by rw [e, ns] at hs; cases hs
      rw [eg, if_neg hne, r1 p hp (by rw [s1 p hp, h4 p hp hs]; rfl), g1]
    · rw [eg]
      by_cases e : p = k.toNat
      · rw [if_pos e, e]
        exact Or.inr ⟨by omega, hb.1, ns⟩
      · rw [if_neg e]
        rcases r2 p hp with a | ⟨a, b, c⟩
        · exact Or.inl (a.trans (g1 p))
        · refine Or.inr ⟨a, by rw [← rOp_c o1]; exact b, ?_⟩
          cases hc : ib (mi 127 6) p
          · rfl
          · rw [s1 p hp, h4 p hp hc] at c; cases c
    · have hu := cntB_upd (g := fun p => φ (m2 131 p)) (b := φ i) (p := k.toNat) (n := 12) (by omega)
      have e : cntB (fun p => φ (m' 131 p)) 12 = cntB (fun p => if p = k.toNat then φ i else φ (m2 131 p)) 12 := cntB_congr (fun p hp => by
        rw [eg]
        by_cases e : p = k.toNat
        · rw [if_pos e, if_pos e]
        · rw [if_neg e, if_neg e])
      have h3' := r3 φ hφ
      have e4 : cntB (fun p => φ (m1 131 p)) 12 = cntB (fun p => φ (mi 131 p)) 12 := cntB_congr (fun p hp => by rw [g1])
      have e5 : m2 131 k.toNat = mi 131 k.toNat := (r1 k.toNat (by omega) sk).trans (g1 _)
      rw [e]
      simp only [e5] at hu
      omega
theorem rMid_end {mi m : Nat → Nat → Int} {i k : Int} (h : rMid mi m i k) (hG : rG mi) (hk : mi 1 2 ≤ k) : rPost mi m i 0 := by
  obtain ⟨h1, h2, h3, h4, h5, h6⟩ := h
  refine ⟨h1, h2, fun p hp => ?_, h4, Or.inl ⟨rfl, h3, fun p hp hop => h5 p ?_ hop, h6⟩⟩
  · rw [h3, h1 127 1 (by decide) (Or.inr (by decide))]; exact hG p hp
  · unfold rOp at hop
    rw [Bool.and_eq_true, decide_eq_true_eq] at hop
    omega
set_option maxRecDepth 100000 in
set_option maxHeartbeats 4000000 in
theorem lR_finds {G : gG} (hsz : G.2.2.2.2.2.2 = true) {n : Nat} (hn : 2 ≤ n) (mi : Nat → Nat → Int) (ml : Nat → Nat → Int64) (i d : Int) (hpre : rPre mi i d) (rec : ∀ (i1 : Int) (m1 : Nat → Nat → Int), rPre m1 i1 (d + 1) → gM G 51 (n - 1) 0 0 [gr 127, gi i1, gi (d + 1)] (gw m1 ml) (fun r M => ∃ (z : Int) (m : Nat → Nat → Int), rPost m1 m i1 z ∧ r = some (gi z) ∧ M = gw m ml)) : ∀ (f : Nat) (k : Int) (m : Nat → Nat → Int) (hm : rMid mi m i k), 0 ≤ k → k ≤ mi 1 2 → mi 1 2 - k < f → Go G mX6_finds n 0 0 2 [some (gr 127), some (gi i), some (gi d), some (gi k)] [] (gw m ml) (fun r M => ∃ (z : Int) (m : Nat → Nat → Int), rPost mi m i z ∧ r = some (gi z) ∧ M = gw m ml) := by
  have hn1 : 1 ≤ n := by omega
  obtain ⟨hR, hP, hz, hG, hi, hd, hd2⟩ := id hpre
  have hd3 := cntB_le (ib (mi 127 6)) 12
  intro f
  induction f with
  | zero => intros; omega
  | succ f ih =>
    intro k m hm k0 k1 k2
    have e12 : m 1 2 = mi 1 2 := hm.1 1 2 (by decide) (Or.inl (by decide))
    have e71 : m 127 1 = mi 127 1 := hm.1 127 1 (by decide) (Or.inr (by decide))
    refine Go.run hsz hn1 2 (pc' := 5) (lv' := [some (gr 127), some (gi i), some (gi d), some (gi k)]) (st' := [gi 12, gi d]) (M' := gw m ml) rfl ?_
    refine Go.icmp_gt (by rfl) ⟨by omega, by omega⟩ ⟨by decide, by decide⟩ (fun kq1 => ?_) (fun kq1 => ?_)
    · refine Go.run hsz hn1 1 (pc' := 93) (lv' := [some (gr 127), some (gi i), some (gi d), some (gi k)]) (st' := [gi 0]) (M' := gw m ml) rfl ?_
      first | exact Go.zret (by rfl) (Or.inl rfl) ⟨0, _, rMid_end hm hG (by omega), rfl, rfl⟩ | (exfalso; omega)
    · refine Go.run hsz hn1 4 (pc' := 16) (lv' := [some (gr 127), some (gi i), some (gi d), some (gi k)]) (st' := [gi (m 1 2), gi k]) (M' := gw m ml) rfl ?_
      refine Go.icmp_ge (by rfl) ⟨by omega, by omega⟩ (hm.2.1 _ _) (fun kq2 => ?_) (fun kq2 => ?_)
      · refine Go.run hsz hn1 1 (pc' := 93) (lv' := [some (gr 127), some (gi i), some (gi d), some (gi k)]) (st' := [gi 0]) (M' := gw m ml) rfl ?_
        first | exact Go.zret (by rfl) (Or.inl rfl) ⟨0, _, rMid_end hm hG (by omega), rfl, rfl⟩ | (exfalso; omega)
      · refine Go.run hsz hn1 3 (pc' := 24) (lv' := [some (gr 127), some (gi i), some (gi d), some (gi k)]) (st' := [gi i, gr 129]) (M' := gw m ml) rfl ?_
        refine Go.iald (by rfl) (N := 24) (by rfl) (by omega) (by omega) (by decide) ?_
        refine Go.run hsz hn1 9 (pc' := 36) (lv' := [some (gr 127), some (gi i), some (gi d), some (gi k)]) (st' := [gi (andI (shrI (andI (m 129 i.toNat) (xorI (m 127 6) (-1))) k) 1)]) (M' := gw m ml) rfl ?_
        refine Go.if_eq (by rfl) (rng_of _) (fun kq3 => ?_) (fun kq3 => ?_)
        · refine Go.run hsz hn1 2 (pc' := 2) (lv' := [some (gr 127), some (gi i), some (gi d), some (gi (k + 1))]) (st' := []) (M' := gw m ml) rfl ?_
          exact ih (k + 1) m (rMid_skip hm k0 ((rBit hm.1 k0 (by omega) hP.2).mp (by assumption))) (by omega) (by omega) (by omega)
        · refine Go.run hsz hn1 0 (pc' := 39) (lv' := [some (gr 127), some (gi i), some (gi d), some (gi k)]) (st' := []) (M' := gw m ml) rfl ?_
          have hbt : rOp mi (mi 1 2) i.toNat k.toNat = true ∧ ib (m 127 6) k.toNat = false := Classical.not_not.mp (fun q => absurd ((rBit hm.1 k0 (by omega) hP.2).mpr q) (by assumption))
          have hgk : m 131 k.toNat = mi 131 k.toNat := hm.2.2.1 _
          have hGk := hG k.toNat (by omega)
          refine Go.run hsz hn1 11 (pc' := 56) (lv' := [some (gr 127), some (gi i), some (gi d), some (gi k)]) (st' := [gi k, gr 131]) (M' := gw (gu m 127 6 (orI (m 127 6) (shlI 1 k))) ml) rfl ?_
          refine Go.iald (by rfl) (N := 12) (by rfl) (by omega) (by omega) (by decide) ?_
          refine Go.run hsz hn1 0 (pc' := 57) (lv' := [some (gr 127), some (gi i), some (gi d), some (gi k)]) (st' := [gi ((gu m 127 6 (orI (m 127 6) (shlI 1 k))) 131 k.toNat)]) (M' := gw (gu m 127 6 (orI (m 127 6) (shlI 1 k))) ml) rfl ?_
          rw [show (gu m 127 6 (orI (m 127 6) (shlI 1 k))) 131 k.toNat = m 131 k.toNat from gu_ne (Or.inl (by decide))]
          refine Go.run hsz hn1 1 (pc' := 58) (lv' := [some (gr 127), some (gi i), some (gi d), some (gi k)]) (st' := [gi (-1), gi (m 131 k.toNat)]) (M' := gw (gu m 127 6 (orI (m 127 6) (shlI 1 k))) ml) rfl ?_
          refine Go.icmp_eq (by rfl) (hm.2.1 _ _) ⟨by decide, by decide⟩ (fun kq4 => ?_) (fun kq4 => ?_)
          · refine Go.run hsz hn1 4 (pc' := 83) (lv' := [some (gr 127), some (gi i), some (gi d), some (gi k)]) (st' := [gi i, gi k, gr 131]) (M' := gw (gu m 127 6 (orI (m 127 6) (shlI 1 k))) ml) rfl ?_
            refine Go.iast (by rfl) (N := 12) (by rfl) (by omega) (by omega) (by decide) ?_
            refine Go.run hsz hn1 1 (pc' := 85) (lv' := [some (gr 127), some (gi i), some (gi d), some (gi k)]) (st' := [gi 1]) (M' := gw (gu (gu m 127 6 (orI (m 127 6) (shlI 1 k))) 131 k.toNat i) ml) rfl ?_
            exact Go.zret (by rfl) (Or.inr rfl) ⟨1, _, rMid_free hm hG hi k0 (by omega) hP.2 hbt (by omega) rfl hz.2, rfl, rfl⟩
          · refine Go.run hsz hn1 4 (pc' := 67) (lv' := [some (gr 127), some (gi i), some (gi d), some (gi k)]) (st' := [gi k, gr 131, gr 127]) (M' := gw (gu m 127 6 (orI (m 127 6) (shlI 1 k))) ml) rfl ?_
            refine Go.iald (by rfl) (N := 12) (by rfl) (by omega) (by omega) (by decide) ?_
            refine Go.run hsz hn1 0 (pc' := 68) (lv' := [some (gr 127), some (gi i), some (gi d), some (gi k)]) (st' := [gi ((gu m 127 6 (orI (m 127 6) (shlI 1 k))) 131 k.toNat), gr 127]) (M' := gw (gu m 127 6 (orI (m 127 6) (shlI 1 k))) ml) rfl ?_
            rw [show (gu m 127 6 (orI (m 127 6) (shlI 1 k))) 131 k.toNat = m 131 k.toNat from gu_ne (Or.inl (by decide))]
            refine Go.run hsz hn1 3 (pc' := 71) (lv' := [some (gr 127), some (gi i), some (gi d), some (gi k)]) (st' := [gi (d + 1), gi (m 131 k.toNat), gr 127]) (M' := gw (gu m 127 6 (orI (m 127 6) (shlI 1 k))) ml) rfl ?_
            refine Go.callV (As := [gi (m 131 k.toNat), gi (d + 1)]) (b := 127) (st := []) (mc1 := 0) (mc := 0) (ms1 := 0) (ms := 0) (by rfl) rfl (c := 5) (N := 7) (by rfl) (by decide) (by rfl) (gcn 51 (by decide)).1 (gcn 51 (by decide)).2 rfl (Nat.le_of_ble_eq_true rfl) (by omega) (rec (m 131 k.toNat) (gu m 127 6 (orI (m 127 6) (shlI 1 k))) ⟨gR32_gu hm.2.1 (orI_rng _ _), by rw [gu_other (by decide), e12]; exact hP, by rw [gu_ne (Or.inr (by decide)), e71]; exact hz, (fun p hp => by rw [gu_ne (Or.inl (by decide)), gu_ne (Or.inr (by decide)), hm.2.2.1, e71]; exact hG p hp), by rw [gu_ne (Or.inr (by decide)), e71]; omega, by omega, by rw [gu_self, show k = ((k.toNat : Nat) : Int) by omega, cnt_add (by omega) hbt.2]; have := rMid_cnt hm; omega⟩) ?_
            rintro _ _ ⟨z9, m9, hp9, rfl, rfl⟩
            have hz9 : z9 = 0 ∨ z9 = 1 := (by rcases hp9.2.2.2.2 with q | q <;> omega)
            refine Go.run hsz hn1 0 (pc' := 74) (lv' := [some (gr 127), some (gi i), some (gi d), some (gi k)]) (st' := [gi z9]) (M' := gw m9 ml) rfl ?_
            refine Go.if_eq (by rfl) ⟨by omega, by omega⟩ (fun kq5 => ?_) (fun kq5 => ?_)
            · refine Go.run hsz hn1 2 (pc' := 2) (lv' := [some (gr 127), some (gi i), some (gi d), some (gi (k + 1))]) (st' := []) (M' := gw m9 ml) rfl ?_
              have hz0 : z9 = 0 := by omega
              rw [hz0, hm.2.2.1] at hp9
              exact ih (k + 1) m9 (rMid_lost hm k0 (by omega) hP.2 rfl (by omega) hp9) (by omega) (by omega) (by omega)
            · refine Go.run hsz hn1 4 (pc' := 83) (lv' := [some (gr 127), some (gi i), some (gi d), some (gi k)]) (st' := [gi i, gi k, gr 131]) (M' := gw m9 ml) rfl ?_
              refine Go.iast (by rfl) (N := 12) (by rfl) (by omega) (by omega) (by decide) ?_
              refine Go.run hsz hn1 1 (pc' := 85) (lv' := [some (gr 127), some (gi i), some (gi d), some (gi k)]) (st' := [gi 1]) (M' := gw (gu m9 131 k.toNat i) ml) rfl ?_
              have hz1 : z9 = 1 := by omega
              rw [hz1, hm.2.2.1] at hp9
              exact Go.zret (by rfl) (Or.inr rfl) ⟨1, _, rMid_won hm hi hz.2 k0 (by omega) hP.2 hbt rfl hp9 rfl, rfl, rfl⟩
set_option maxRecDepth 100000 in
set_option maxHeartbeats 4000000 in
theorem cR_finds {G : gG} (hsz : G.2.2.2.2.2.2 = true) (ml : Nat → Nat → Int64) : ∀ (e n : Nat), e + 2 ≤ n → ∀ (i d : Int) (mi : Nat → Nat → Int), rPre mi i d → 13 - d ≤ e → gM G 51 n 0 0 [gr 127, gi i, gi d] (gw mi ml) (fun r M => ∃ (z : Int) (m : Nat → Nat → Int), rPost mi m i z ∧ r = some (gi z) ∧ M = gw m ml)
  | 0, n, hn, i, d, mi, hpre, he => absurd he (by have := hpre.2.2.2.2.2.2; have := cntB_le (ib (mi 127 6)) 12; omega)
  | e + 1, n, hn, i, d, mi, hpre, he => by
    have hn1 : 1 ≤ n := by omega
    refine gM.of mX6_finds okX6_finds (gcp 51 (by decide)).1 (gcp 51 (by decide)).2 (Nat.le_of_ble_eq_true rfl) ?_
    refine Go.run hsz hn1 2 (pc' := 2) (lv' := [some (gr 127), some (gi i), some (gi d), some (gi 0)]) (st' := []) (M' := gw mi ml) rfl ?_
    exact lR_finds hsz (n := n) (by omega) mi ml i d hpre (fun i1 m1 h1 => cR_finds hsz ml e (n - 1) (by omega) i1 (d + 1) m1 h1 (by omega)) ((mi 1 2).toNat + 1) 0 mi ⟨fun _ _ _ _ => rfl, hpre.1, fun _ => rfl, fun _ _ h => h, fun p hp => by omega, fun p _ h => Or.inl h⟩ (by omega) (by have := hpre.2.1; omega) (by omega)

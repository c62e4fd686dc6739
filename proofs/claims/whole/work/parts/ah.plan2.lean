/-! ===== plan: the class: calendar, ways, best so far, over a base u in which the members wait ===== -/
theorem i64_back {x L : Int64} (h : x &&& L = Int64.ofInt 0) : (x ||| L) &&& (L ^^^ Int64.ofInt (-1)) = x := lbit_ext (fun i hi => by
  have h1 : lbit (x &&& L) i = false := by rw [h]; exact lbit_zero i
  rw [lbit_and] at h1
  rw [lbit_and, lbit_or, lbit_not L hi]
  revert h1
  cases lbit x i <;> cases lbit L i <;> decide)
theorem lLeave_take {ml : Nat → Nat → Int64} {p : Int} {L H : Int64} (h : ¬ lFree ml p L H = 0) : lLeave (lTake ml p L H) p L H = ml := by
  obtain ⟨h1, h2⟩ := b2_pos h
  funext a k
  have e8 : lTake ml p L H 108 p.toNat = ml 108 p.toNat ||| L := by
    unfold lTake
    rw [gu_other (by decide), gu_self]
  have e9 : lTake ml p L H 109 p.toNat = ml 109 p.toNat ||| H := by
    unfold lTake
    rw [gu_self]
  unfold lLeave
  rw [e8, e9, i64_back h1, i64_back h2]
  by_cases c9 : a = 109 ∧ k = p.toNat
  · rw [c9.1, c9.2, gu_self]
  · rw [gu_ne (by omega)]
    by_cases c8 : a = 108 ∧ k = p.toNat
    · rw [c8.1, c8.2, gu_self]
    · rw [gu_ne (by omega)]
      unfold lTake
      rw [gu_ne (by omega), gu_ne (by omega)]
def calR (u : Nat → Nat → Int) (on : Nat → Int) (ml : Nat → Nat → Int64) : Prop := ∀ p : Nat, (p : Int) < u 148 2 → ∀ n : Nat, n < 128 → nb (ml 108 p) (ml 109 p) n = oTk u on p n (u 148 6).toNat
section CAL
variable {u : Nat → Nat → Int} {on : Nat → Int} {ml : Nat → Nat → Int64} {a : Nat} {p : Int}
theorem calR_take (h : calR u on ml) (ha : a < (u 148 6).toNat) (hn : on a < 0) (p0 : 0 ≤ p) : calR u (oUp on a p) (lTake ml p (lLow (mOf u a 4) (mOf u a 5)) (lHigh (mOf u a 4) (mOf u a 5))) := fun q hq n hn2 => by
  have e := lTake_nb (ml := ml) (p := (q : Int)) (q := p) (L := lLow (mOf u a 4) (mOf u a 5)) (H := lHigh (mOf u a 4) (mOf u a 5)) (by omega) p0 n
  rw [show ((q : Nat) : Int).toNat = q by omega] at e
  rw [e, h q hq n hn2, nb_stay n hn2, oTk_up ha hn (by omega)]
theorem calR_free (hv : SV u) (h : calR u on ml) (ha : a < (u 148 6).toNat) (hn : on a < 0) (p0 : 0 ≤ p) (p1 : p < u 148 2) : ¬ lFree ml p (lLow (mOf u a 4) (mOf u a 5)) (lHigh (mOf u a 4) (mOf u a 5)) = 0 ↔ oFr u on (u 148 6).toNat a p := by
  have hN : 0 ≤ u 148 6 ∧ u 148 6 ≤ 24 := hv.2.2.2.1
  have hpa : PV u a := hv.2.2.2.2.1 a (by omega) (by omega)
  have hc : ∀ n : Nat, n < 128 → nb (ml 108 p.toNat) (ml 109 p.toNat) n = oTk u on p n (u 148 6).toNat := fun n hn => by
    have := h p.toNat (by omega) n hn
    rw [show ((p.toNat : Nat) : Int) = p by omega] at this
    exact this
  unfold lFree
  rw [b2_nz, nb_free]
  constructor
  · intro hf b hb hne e
    by_cases c : mMeet u a b = 0
    · exact c
    · exfalso
      rw [mMeet_iff] at c
      have hpb : PV u b := hv.2.2.2.2.1 b (by omega) (by omega)
      obtain ⟨-, -, -, -, u4, u5, u6, -⟩ := hpa
      obtain ⟨-, -, -, -, v4, v5, v6, -⟩ := hpb
      by_cases hc2 : mOf u a 4 ≤ mOf u b 4
      · refine hf (mOf u b 4).toNat (by omega) ⟨?_, ?_⟩
        · rw [hc _ (by omega), oTk_iff]
          exact ⟨b, hb, e, by omega, by omega⟩
        · rw [nb_stay _ (by omega), decide_eq_true_eq]
          omega
      · refine hf (mOf u a 4).toNat (by omega) ⟨?_, ?_⟩
        · rw [hc _ (by omega), oTk_iff]
          exact ⟨b, hb, e, by omega, by omega⟩
        · rw [nb_stay _ (by omega), decide_eq_true_eq]
          omega
  · rintro hf n hn2 ⟨g1, g2⟩
    rw [hc n hn2, oTk_iff] at g1
    rw [nb_stay _ hn2, decide_eq_true_eq] at g2
    obtain ⟨b, hb, c1, c2, c3⟩ := g1
    have := hf b hb (fun e => by rw [e] at c1; omega) c1
    have h9 : ¬ mMeet u a b = 0 := by
      rw [mMeet_iff]
      omega
    exact h9 this
theorem calR_lon (hv : SV u) (h : calR u on ml) (p0 : 0 ≤ p) (p1 : p < u 148 2) : lLon (ml 108 p.toNat) (ml 109 p.toNat) = (oG u on (u 148 6).toNat p : Nat) := by
  have hN : 0 ≤ u 148 6 ∧ u 148 6 ≤ 24 := hv.2.2.2.1
  have hc : ∀ n : Nat, n < 128 → nb (ml 108 p.toNat) (ml 109 p.toNat) n = oTk u on p n (u 148 6).toNat := fun n hn => by
    have := h p.toNat (by omega) n hn
    rw [show ((p.toNat : Nat) : Int) = p by omega] at this
    exact this
  rw [lLon_gap]
  · refine congrArg (fun n : Nat => (n : Int)) ?_
    exact gapN_congr (fun n hn => hc n (by omega))
  · intro n hn hn2
    rw [hc n hn2, Bool.eq_false_iff]
    intro q
    obtain ⟨b, hb, -, q2, q3⟩ := (oTk_iff _ _ _).mp q
    have := (hv.2.2.2.2.1 (b : Int) (by omega) (by omega)).2.2.2.2.2.2.1
    omega
theorem oY_up {b : Nat} {q : Int} (hb : on b < 0) : ∀ k : Nat, oY u (oUp on b q) a p k = oY u on a p k + (if b < k ∧ ¬ b = a ∧ 0 ≤ q then oWi u a b * mFar u p q else 0)
  | 0 => by show (0 : Int) = 0 + _; rw [if_neg (by omega)]; rfl
  | k + 1 => by
    have ih := oY_up (q := q) hb k
    show oY u (oUp on b q) a p k + oY1 u (oUp on b q) a p k = oY u on a p k + oY1 u on a p k + _
    rw [ih]
    by_cases e : b = k
    · subst e
      have e1 : oY1 u on a p b = 0 := if_neg (by omega)
      rw [if_neg (by omega), e1]
      unfold oY1
      rw [oUp_a]
      by_cases c : ¬ b = a ∧ 0 ≤ q
      · rw [if_pos c, if_pos ⟨by omega, c⟩]
      · rw [if_neg c, if_neg (by omega)]
    · have e1 : oY1 u (oUp on b q) a p k = oY1 u on a p k := by
        unfold oY1
        rw [oUp_n on q (fun w => e w.symm)]
      rw [e1]
      by_cases c : b < k ∧ ¬ b = a ∧ 0 ≤ q
      · rw [if_pos c, if_pos (by omega)]
        omega
      · rw [if_neg c, if_neg (by omega)]
        omega
end CAL
/-- what earlier members bind a member to -/
def wYs (u : Nat → Nat → Int) (mem : Nat → Nat) (d : Nat → Int) (a : Nat) (p : Int) : Nat → Int
  | 0 => 0
  | j + 1 => wYs u mem d a p j + (if 0 ≤ d j then oWi u a (mem j) * mFar u p (d j) else 0)
section WAY
variable {u : Nat → Nat → Int} {mem : Nat → Nat} {on0 : Nat → Int} {z : Nat} {d : Nat → Int}
theorem oY_as (hM : wM u mem on0 z) {i : Nat} (hi : i < z) (p : Int) : ∀ j : Nat, j ≤ i → oY u (wAs mem on0 d j) (mem i) p (u 148 6).toNat = oY u on0 (mem i) p (u 148 6).toNat + wYs u mem d (mem i) p j
  | 0, _ => by show _ = _ + (0 : Int); rw [Int.add_zero]; rfl
  | j + 1, hj => by
    have ih := oY_as hM hi p j (by omega)
    show oY u (oUp (wAs mem on0 d j) (mem j) (d j)) (mem i) p (u 148 6).toNat = _ + (wYs u mem d (mem i) p j + _)
    have hlt := wAs_late hM (d := d) (Nat.le_refl j) (show j < z by omega)
    rw [oY_up (by omega), ih]
    have h1 := (hM.1 j (by omega)).1
    have h2 : ¬ mem j = mem i := fun e => by have := hM.2.1 j i (by omega) hi e; omega
    by_cases c : 0 ≤ d j
    · rw [if_pos ⟨h1, h2, c⟩, if_pos c]
      omega
    · rw [if_neg (by omega), if_neg c]
      omega
/-- a member comes on a pitch -/
theorem way_on (hv : SV u) (hM : wM u mem on0 z) {i : Nat} (hi : i < z) (c : 0 ≤ d i) (c2 : d i < u 148 2) : wO d (i + 1) = wO d i + 1 ∧ wGp u mem on0 (i + 1) d = wGp u mem on0 i d + ((oG u (wAs mem on0 d (i + 1)) (u 148 6).toNat (d i) : Int) - oG u (wAs mem on0 d i) (u 148 6).toNat (d i)) ∧ wFa u mem on0 (i + 1) d = wFa u mem on0 i d + (oY u on0 (mem i) (d i) (u 148 6).toNat + wYs u mem d (mem i) (d i) i) := by
  have hm := hM.1 i hi
  have hN : 0 ≤ u 148 6 ∧ u 148 6 ≤ 24 := hv.2.2.2.1
  have hl := wAs_late hM (d := d) (Nat.le_refl i) hi
  have hpv := hv.2.2.2.2.1 (mem i) (by omega) (by omega)
  have g1 := oGs_up (mi := u) (on := wAs mem on0 d i) (N := (u 148 6).toNat) (a := mem i) (p := d i) hm.1 (by omega) c (u 148 2).toNat
  rw [if_pos (by omega)] at g1
  have f1 := oA_up (mi := u) (on := wAs mem on0 d i) (N := (u 148 6).toNat) (a := mem i) (p := d i) hm.1 (by omega) c (by have := hpv.2.2.2.2.2.2.2.2.1; omega)
  refine ⟨?_, g1, ?_⟩
  · show wO d i + (if 0 ≤ d i then 1 else 0) = _
    rw [if_pos c]
  · rw [← oY_as hM hi (d i) i (Nat.le_refl _)]
    exact f1
theorem way_wait (hM : wM u mem on0 z) {i : Nat} (hi : i < z) (c : d i = -1) : wO d (i + 1) = wO d i ∧ wGp u mem on0 (i + 1) d = wGp u mem on0 i d ∧ wFa u mem on0 (i + 1) d = wFa u mem on0 i d ∧ wAs mem on0 d (i + 1) = wAs mem on0 d i := by
  have hw := wAs_wait hM hi c
  refine ⟨?_, by unfold wGp; rw [hw], by unfold wFa; rw [hw], hw⟩
  show wO d i + (if 0 ≤ d i then 1 else 0) = _
  rw [if_neg (by omega)]
  omega
/-- the best so far over a set of ways; gaps and distances from a base -/
def bI (P z : Nat) (W : pWay) (S : (Nat → Int) → Prop) (G0 F0 : Int) (m : Nat → Nat → Int) : Prop := (m 110 11 = -1 ∧ ∀ d, inr P d z → S d → ¬ W.1 d) ∨ ∃ e : Nat → Int, pB P z W S e ∧ (∀ k, k < z → m 126 k = e k) ∧ m 110 11 = W.2.1 e ∧ m 110 12 = W.2.2.1 e - G0 ∧ m 110 13 = W.2.2.2 e - F0
def sLt (P : Nat) (d : Nat → Int) (i : Nat) (e : Nat → Int) : Prop := cdd P e i < cdd P d i
def sLe' (P : Nat) (d : Nat → Int) (i : Nat) (e : Nat → Int) : Prop := cdd P e i ≤ cdd P d i
def sQ (P : Nat) (d : Nat → Int) (i q : Nat) (e : Nat → Int) : Prop := cdd P e i < cdd P d i ∨ (cdd P e i = cdd P d i ∧ dig P (e i) < q)
theorem bI_m {P z : Nat} {W : pWay} {S : (Nat → Int) → Prop} {G0 F0 : Int} {m m' : Nat → Nat → Int} (h : bI P z W S G0 F0 m) (h1 : ∀ k, k < z → m' 126 k = m 126 k) (h2 : m' 110 11 = m 110 11) (h3 : m' 110 12 = m 110 12) (h4 : m' 110 13 = m 110 13) : bI P z W S G0 F0 m' := by
  rcases h with ⟨a, b⟩ | ⟨e, a, b, c, d, f⟩
  · exact Or.inl ⟨h2.trans a, b⟩
  · exact Or.inr ⟨e, a, fun k hk => (h1 k hk).trans (b k hk), h2.trans c, h3.trans d, h4.trans f⟩
theorem bI_iff {P z : Nat} {W : pWay} {S S' : (Nat → Int) → Prop} {G0 F0 : Int} {m : Nat → Nat → Int} (h : bI P z W S G0 F0 m) (hs : ∀ d', inr P d' z → (S d' ↔ S' d')) : bI P z W S' G0 F0 m := by
  rcases h with ⟨a, b⟩ | ⟨e, a, b⟩
  · exact Or.inl ⟨a, fun d hd hS => b d hd ((hs d hd).mpr hS)⟩
  · exact Or.inr ⟨e, pB_iff a hs, b⟩
theorem bI_skip {P z : Nat} {W : pWay} {S S' : (Nat → Int) → Prop} {G0 F0 : Int} {m : Nat → Nat → Int} (h : bI P z W S G0 F0 m) (hc : pDC P z S) (hs : ∀ d', inr P d' z → S d' → S' d') (hn : ∀ d', inr P d' z → S' d' → ¬ S d' → W.1 d' → 0 ≤ m 110 11 ∧ ¬ bet (W.2.1 d') (W.2.2.1 d' - G0) (W.2.2.2 d' - F0) (m 110 11) (m 110 12) (m 110 13)) : bI P z W S' G0 F0 m := by
  rcases h with ⟨a, b⟩ | ⟨e, a, b, c1, c2, c3⟩
  · refine Or.inl ⟨a, fun d hd hS hW => ?_⟩
    by_cases w : S d
    · exact b d hd w hW
    · have := (hn d hd hS w hW).1
      omega
  · refine Or.inr ⟨e, pB_skip a hc hs (fun d' hd hS hS2 hW => ?_), b, c1, c2, c3⟩
    have := (hn d' hd hS hS2 hW).2
    rw [c1, c2, c3] at this
    unfold pBet
    unfold bet at this ⊢
    omega
theorem bI_take {P z : Nat} {W : pWay} {S S' : (Nat → Int) → Prop} {G0 F0 : Int} {m m' : Nat → Nat → Int} {d : Nat → Int} (hx : pExt W z) (h : bI P z W S G0 F0 m) (hd : inr P d z) (hV : W.1 d) (hb : bet (W.2.1 d) (W.2.2.1 d - G0) (W.2.2.2 d - F0) (m 110 11) (m 110 12) (m 110 13)) (hS : S' d) (hs : ∀ d', inr P d' z → S' d' → S d' ∨ cdd P d' z = cdd P d z) (h1 : ∀ k, k < z → m' 126 k = d k) (h2 : m' 110 11 = W.2.1 d) (h3 : m' 110 12 = W.2.2.1 d - G0) (h4 : m' 110 13 = W.2.2.2 d - F0) : bI P z W S' G0 F0 m' := by
  refine Or.inr ⟨d, ?_, h1, h2, h3, h4⟩
  rcases h with ⟨a, b⟩ | ⟨e, a, b, c1, c2, c3⟩
  · exact pB_first hx b hd hV hS hs
  · refine pB_take hx a hd hV ?_ hS hs
    rw [c1, c2, c3] at hb
    unfold pBet
    unfold bet at hb ⊢
    omega
theorem sLt_dc {P z i : Nat} {d : Nat → Int} (hi : i ≤ z) : pDC P z (sLt P d i) := fun e e' he he' hle hS => by
  have := cdd_mono he he' hi hi (Nat.le_refl _) hle
  unfold sLt at *
  omega
/-- what the class has prepared before it tries: members, open pitches, bounds, ways to others, bonds -/
def cPr (u mp : Nat → Nat → Int) (ml : Nat → Nat → Int64) (mem : Nat → Nat) (z : Nat) : Prop := (gR32 mp ∧ SV u ∧ z ≤ 4 ∧ wM u mem (pOn u) z) ∧ (mp 110 2 = z ∧ mp 1 2 = u 148 2) ∧ (∀ i, i < z → mp 111 i = mem i ∧ ml (24 + mem i) 6 = lLow (mOf u (mem i) 4) (mOf u (mem i) 5) ∧ ml (24 + mem i) 7 = lHigh (mOf u (mem i) 4) (mOf u (mem i) 5)) ∧ (∀ i, i < z → ∀ p : Nat, p < 12 → (ib (mp 112 i) p = true ↔ (p : Int) < u 148 2 ∧ wOk u mem (pOn u) i p)) ∧ (wBd u mem (pOn u) z (mp 113) (mp 114) ∧ ∀ i, i ≤ z → (0 ≤ mp 113 i ∧ mp 113 i ≤ 4) ∧ (0 ≤ mp 114 i ∧ mp 114 i ≤ 4)) ∧ (∀ i, i < z → (∀ p : Nat, (p : Int) < u 148 2 → mp (116 + i) p = oY u (pOn u) (mem i) p (u 148 6).toNat) ∧ ∀ j, j < z → mp (121 + i) j = oWi u (mem i) (mem j)) ∧ ∀ p : Int, 0 ≤ p → p < u 148 2 → CQV mp p ∧ ∀ q : Int, 0 ≤ q → q < u 148 2 → cFar mp p q = mFar u p q
def tM (mp m : Nat → Nat → Int) : Prop := gR32 m ∧ ∀ a k : Nat, a ≠ 125 → a ≠ 126 → (a ≠ 110 ∨ k < 11) → m a k = mp a k
end WAY

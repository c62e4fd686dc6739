/-! ===== law: the class's own rows while it reads ===== -/
theorem lEnd_congr {p : Int → Prop} {b b' : Nat → Int} {n i e : Nat} (hb : ∀ j, j < n → b' j = b j) (h : lEnd p b n i e) : lEnd p b' n i e := by
  obtain ⟨h1, h2, h3, h4⟩ := h
  refine ⟨h1, h2, fun j a1 a2 => by rw [hb j (by omega)]; exact h3 j a1 a2, ?_⟩
  rcases h4 with q | q
  · exact Or.inl q
  · rcases Nat.lt_or_ge e n with w | w
    · exact Or.inr (by rw [hb e w]; exact q)
    · exact Or.inl (by omega)
theorem nV_congr {b b' : Nat → Int} {n i : Nat} (hb : ∀ j, j < n → b' j = b j) : ∀ m, i + m ≤ n → nV b' i m = nV b i m
  | 0, _ => rfl
  | m + 1, h => by
    have ih := nV_congr (i := i) hb m (by omega)
    unfold nV
    rw [ih, hb (i + m) (by omega)]
theorem tokAt_congr {b b' : Nat → Int} {n i e : Nat} {t v : Int} (hb : ∀ j, j < n → b' j = b j) (hi : i < n) (h : tokAt b n i t v e) : tokAt b' n i t v e := by
  have he := tokAt_e h hi
  unfold tokAt
  rw [hb i hi, nV_congr (i := i) hb (e - i) (by omega)]
  rcases h with ⟨h1, h2, h3⟩ | ⟨h1, h2, h3⟩ | h
  · exact Or.inl ⟨h1, lEnd_congr hb h2, h3⟩
  · exact Or.inr (Or.inl ⟨h1, lEnd_congr hb h2, h3⟩)
  · exact Or.inr (Or.inr h)
theorem lexd_congr {b b' : Nat → Int} {n : Nat} {tk va st : Nat → Int} {E : Nat → Nat} {T : Nat} (hb : ∀ j, j < n → b' j = b j) (h : lexd b n tk va st E T) : lexd b' n tk va st E T := by
  obtain ⟨⟨h0, h1⟩, h2, h3, h4⟩ := h
  refine ⟨⟨h0, fun k hk => ?_⟩, h2, lEnd_congr hb h3, h4⟩
  obtain ⟨s, s1, s2, s3, s4⟩ := h1 k hk
  exact ⟨s, s1, lEnd_congr hb s2, s3, tokAt_congr hb s3 s4⟩
def mAdd (m : Nat → Nat → Int) (t v s : Int) : Nat → Nat → Int := gu (gu (gu (gu m 135 (m 132 9).toNat t) 136 (m 132 9).toNat v) 137 (m 132 9).toNat s) 132 9 (m 132 9 + 1)
section MADD
variable {mi m : Nat → Nat → Int} {t v s : Int}
theorem mAdd_off {a k : Nat} (h : a ≠ 132 ∧ a ≠ 135 ∧ a ≠ 136 ∧ a ≠ 137) : mAdd m t v s a k = m a k := by
  unfold mAdd
  rw [gu_other h.1, gu_other h.2.2.2, gu_other h.2.2.1, gu_other h.2.1]
theorem mAdd_132 {k : Nat} (h : k ≠ 9) : mAdd m t v s 132 k = m 132 k := by
  unfold mAdd
  rw [gu_ne (Or.inr h), gu_other (by decide), gu_other (by decide), gu_other (by decide)]
theorem mAdd_9 : mAdd m t v s 132 9 = m 132 9 + 1 := gu_self _ _ _ _
theorem mAdd_135 (k : Nat) : mAdd m t v s 135 k = if k = (m 132 9).toNat then t else m 135 k := by
  unfold mAdd
  rw [gu_other (by decide), gu_other (by decide), gu_other (by decide)]
  split
  · rename_i h; rw [h, gu_self]
  · rename_i h; rw [gu_ne (Or.inr h)]
theorem mAdd_136 (k : Nat) : mAdd m t v s 136 k = if k = (m 132 9).toNat then v else m 136 k := by
  unfold mAdd
  rw [gu_other (by decide), gu_other (by decide)]
  split
  · rename_i h; rw [h, gu_self]
  · rename_i h; rw [gu_ne (Or.inr h), gu_other (by decide)]
theorem mAdd_137 (k : Nat) : mAdd m t v s 137 k = if k = (m 132 9).toNat then s else m 137 k := by
  unfold mAdd
  rw [gu_other (by decide)]
  split
  · rename_i h; rw [h, gu_self]
  · rename_i h; rw [gu_ne (Or.inr h), gu_other (by decide), gu_other (by decide)]
theorem mAdd_R (h : gR32 m) (ht : rng t) (hv : rng v) (hs : rng s) (h9 : rng (m 132 9 + 1)) : gR32 (mAdd m t v s) := gR32_gu (gR32_gu (gR32_gu (gR32_gu h ht) hv) hs) h9
def cXf (mi m : Nat → Nat → Int) : Prop := (∀ a k : Nat, a ≠ 132 → a ≠ 135 → a ≠ 136 → a ≠ 137 → m a k = mi a k) ∧ ∀ k : Nat, k ≠ 9 → m 132 k = mi 132 k
theorem cXf_add (h : cXf mi m) : cXf mi (mAdd m t v s) := ⟨fun a k h1 h2 h3 h4 => by rw [mAdd_off ⟨h1, h2, h3, h4⟩]; exact h.1 a k h1 h2 h3 h4, fun k hk => by rw [mAdd_132 hk]; exact h.2 k hk⟩
/-- the class as it cuts: c tokens up to i -/
def cX (mi m : Nat → Nat → Int) (c i : Nat) : Prop := gR32 m ∧ cXf mi m ∧ m 132 9 = c ∧ ∃ E, lxI (m 134) (m 132 0).toNat (m 135) (m 136) (m 137) E c i
theorem cX_add {c i e : Nat} (h : cX mi m c i) (hz : m 132 0 ≤ 120) (hi : i < (m 132 0).toNat) (ht : tokAt (m 134) (m 132 0).toNat i t v e) (hnb : ¬ m 134 i = 32) (hs : s = i) (hrt : rng t) (hrv : rng v) : cX mi (mAdd m t v s) (c + 1) e := by
  obtain ⟨h1, h2, h3, E, h4⟩ := h
  have hc : c ≤ i := h4.2.1
  have e4 : mAdd m t v s 134 = m 134 := funext fun k => mAdd_off (by decide)
  refine ⟨mAdd_R h1 hrt hrv ⟨by omega, by omega⟩ ⟨by omega, by omega⟩, cXf_add h2, by rw [mAdd_9]; omega, ?_⟩
  rw [e4, mAdd_132 (by decide)]
  exact lxI_add h4 hi ht hnb (fun k hk => ⟨by rw [mAdd_135, if_neg (by omega)], by rw [mAdd_136, if_neg (by omega)], by rw [mAdd_137, if_neg (by omega)]⟩) ⟨by rw [mAdd_135, if_pos (by omega)], by rw [mAdd_136, if_pos (by omega)], by rw [mAdd_137, if_pos (by omega)]; exact hs⟩
theorem cX_blank {c i : Nat} (h : cX mi m c i) (hi : i < (m 132 0).toNat) (hb : m 134 i = 32) : cX mi m c (i + 1) := by
  obtain ⟨h1, h2, h3, E, h4⟩ := h
  exact ⟨h1, h2, h3, E, lxI_blank h4 hi hb⟩
/-- the class's tokens -/
def tBs (mi : Nat → Nat → Int) (E : Nat → Nat) (T : Nat) : Prop := gR32 mi ∧ (0 ≤ mi 132 0 ∧ mi 132 0 ≤ 120) ∧ lexd (mi 134) (mi 132 0).toNat (mi 135) (mi 136) (mi 137) E T
theorem cX_end {c : Nat} (hz : 0 ≤ m 132 0 ∧ m 132 0 ≤ 120) (h : cX mi m c (m 132 0).toNat) : cXf mi (mAdd m 0 0 (m 132 0)) ∧ ∃ E T, tBs (mAdd m 0 0 (m 132 0)) E T := by
  obtain ⟨h1, h2, h3, E, h4⟩ := h
  have hc : c ≤ (m 132 0).toNat := h4.2.1
  have e4 : mAdd m 0 0 (m 132 0) 134 = m 134 := funext fun k => mAdd_off (by decide)
  refine ⟨cXf_add h2, E, c, mAdd_R h1 ⟨by decide, by decide⟩ ⟨by decide, by decide⟩ (h1 _ _) ⟨by omega, by omega⟩, by rw [mAdd_132 (by decide)]; exact hz, ?_⟩
  rw [e4, mAdd_132 (by decide)]
  exact lxI_end h4 (fun k hk => ⟨by rw [mAdd_135, if_neg (by omega)], by rw [mAdd_136, if_neg (by omega)], by rw [mAdd_137, if_neg (by omega)]⟩) ⟨by rw [mAdd_135, if_pos (by omega)], by rw [mAdd_137, if_pos (by omega)]; omega⟩
theorem tBs.ok {E : Nat → Nat} {T : Nat} (h : tBs mi E T) : tOK (mi 135) (mi 136) T ∧ T ≤ 120 := ⟨lexd_ok h.2.2, by have := h.2.2.2.1; have := h.2.1; omega⟩
end MADD
def cR (mi m : Nat → Nat → Int) (T k : Nat) (cc : List Int) (sd : Int) : Prop := cL mi m k cc sd ∧ k ≤ T ∧ cc.length ≤ k ∧ 0 ≤ sd ∧ sd ≤ k
/-- how a reading ended -/
def pA2 (mi : Nat → Nat → Int) (T k : Nat) (c : SYc) (Q : Nat → List Int → Int → Prop) (m : Nat → Nat → Int) (b : Int) : Prop := (b = 1 ∧ ∃ (k' : Nat) (cc' : List Int) (sd' : Int), cR mi m T k' cc' sd' ∧ Q k' cc' sd') ∨ (b = 0 ∧ ∃ (kf k' : Nat) (cc' : List Int) (sd' : Int), cL mi m k' cc' sd' ∧ kf ≤ T ∧ m 132 1 = mi 137 kf ∧ syR (mi 135) (mi 136) T k c = Sum.inl kf)
section PA2
variable {mi m : Nat → Nat → Int} {T k : Nat} {c : SYc} {Q Q' : Nat → List Int → Int → Prop} {b : Int}
theorem pA2.b01 (h : pA2 mi T k c Q m b) : b = 0 ∨ b = 1 := by
  rcases h with ⟨h, _⟩ | ⟨h, _⟩
  · exact Or.inr h
  · exact Or.inl h
theorem pA2.yes (h : pA2 mi T k c Q m b) (hb : ¬ b = 0) : ∃ (k' : Nat) (cc' : List Int) (sd' : Int), cR mi m T k' cc' sd' ∧ Q k' cc' sd' := by
  rcases h with ⟨_, h⟩ | ⟨h, _⟩
  · exact h
  · exact absurd h hb
theorem pA2.no (h : pA2 mi T k c Q m b) (hb : b = 0) : ∃ (kf k' : Nat) (cc' : List Int) (sd' : Int), cL mi m k' cc' sd' ∧ kf ≤ T ∧ m 132 1 = mi 137 kf ∧ syR (mi 135) (mi 136) T k c = Sum.inl kf := by
  rcases h with ⟨h, _⟩ | ⟨_, h⟩
  · omega
  · exact h
/-- a failing reading in a later place is one here too -/
theorem pA2.fail {k2 : Nat} {c2 : SYc} (h : pA2 mi T k2 c2 Q' m b) (hb : b = 0) (he : syR (mi 135) (mi 136) T k c = syR (mi 135) (mi 136) T k2 c2) : pA2 mi T k c Q m 0 := by
  obtain ⟨kf, k', cc', sd', h1, h2, h3, h4⟩ := h.no hb
  exact Or.inr ⟨rfl, kf, k', cc', sd', h1, h2, h3, he.trans h4⟩
theorem pA2.failw (h : pA2 mi T k c Q' m b) (hb : b = 0) : pA2 mi T k c Q m b := Or.inr ⟨hb, h.no hb⟩
end PA2
theorem nT (s : Int) (S : List Int) (h : ¬ s = 30000) : cntT (s :: S) = 0 ∧ dropT (s :: S) = s :: S := ⟨if_neg h, if_neg h⟩
theorem sg3 {t : Int} (h : t = 42 ∨ t = 47) : isSg t ∧ 3 = sLe t ∧ bnd (20000 + t) = 3 := by
  rcases h with h | h <;> subst h <;> decide
theorem sg2 {t : Int} (h : t = 43 ∨ t = 45) : isSg t ∧ 2 = sLe t ∧ bnd (20000 + t) = 2 := by
  rcases h with h | h <;> subst h <;> decide
theorem sg1 {t : Int} (h : t = 60 ∨ t = 61) : isSg t ∧ 2 = sLe t ∧ bnd (20000 + t) = 1 := by
  rcases h with h | h <;> subst h <;> decide
/-- context of a sum, a term: nothing turned above -/
def sOK (b : Int) (S : List Int) : Prop := (cntT S = 0 ∧ dropT S = S) ∧ bt S < b

/-! ===== plan: the first of the best ways =====
A way is d : Nat → Int, d k the pitch of the k-th member, -1 where it waits; its number to the base P + 1 is cdd. -/
def dig (P : Nat) (z : Int) : Nat := if z < 0 then P else z.toNat
def cdd (P : Nat) (d : Nat → Int) : Nat → Nat
  | 0 => 0
  | i + 1 => cdd P d i * (P + 1) + dig P (d i)
def inr (P : Nat) (d : Nat → Int) (n : Nat) : Prop := ∀ k, k < n → -1 ≤ d k ∧ d k < P
theorem dig_le {P : Nat} {z : Int} (h : z < P) : dig P z ≤ P := by
  unfold dig; split <;> omega
theorem dig_inj {P : Nat} {z y : Int} (h1 : -1 ≤ z ∧ z < P) (h2 : -1 ≤ y ∧ y < P) (h : dig P z = dig P y) : z = y := by
  unfold dig at h
  split at h <;> split at h <;> omega
theorem two_le {B x y u v : Nat} (hu : u < B) (hv : v < B) : x * B + u < y * B + v ↔ x < y ∨ (x = y ∧ u < v) := by
  constructor
  · intro h
    by_cases c : x < y
    · exact Or.inl c
    · by_cases e : x = y
      · subst e; exact Or.inr ⟨rfl, by omega⟩
      · exfalso
        have h1 : (y + 1) * B ≤ x * B := Nat.mul_le_mul_right B (by omega)
        rw [Nat.add_mul, Nat.one_mul] at h1
        omega
  · rintro (h | ⟨rfl, h⟩)
    · have h1 : (x + 1) * B ≤ y * B := Nat.mul_le_mul_right B (by omega)
      rw [Nat.add_mul, Nat.one_mul] at h1
      omega
    · omega
section PL
variable {P : Nat} {d d' : Nat → Int}
theorem cdd_congr : ∀ {i : Nat}, (∀ k, k < i → d k = d' k) → cdd P d i = cdd P d' i
  | 0, _ => rfl
  | i + 1, h => by
    have ih := cdd_congr (i := i) (fun k hk => h k (by omega))
    show cdd P d i * (P + 1) + dig P (d i) = cdd P d' i * (P + 1) + dig P (d' i)
    rw [ih, h i (by omega)]
theorem cdd_lt {n i : Nat} (h : inr P d n) (h' : inr P d' n) (hi : i < n) : cdd P d (i + 1) < cdd P d' (i + 1) ↔ cdd P d i < cdd P d' i ∨ (cdd P d i = cdd P d' i ∧ dig P (d i) < dig P (d' i)) :=
  two_le (by have := dig_le (h i hi).2; omega) (by have := dig_le (h' i hi).2; omega)
theorem cdd_inj {n : Nat} (h : inr P d n) (h' : inr P d' n) : ∀ {i : Nat}, i ≤ n → cdd P d i = cdd P d' i → ∀ k, k < i → d k = d' k
  | 0, _, _, k, hk => absurd hk (by omega)
  | i + 1, hi, e, k, hk => by
    have a := cdd_lt h h' (i := i) (by omega)
    have b := cdd_lt h' h (i := i) (by omega)
    have e1 : cdd P d i = cdd P d' i := by omega
    have e2 : dig P (d i) = dig P (d' i) := by omega
    by_cases c : k = i
    · subst c; exact dig_inj (h k (by omega)) (h' k (by omega)) e2
    · exact cdd_inj h h' (i := i) (by omega) e1 k (by omega)
theorem cdd_mono {n : Nat} (h : inr P d n) (h' : inr P d' n) {i : Nat} (hi : i ≤ n) : ∀ {j : Nat}, i ≤ j → j ≤ n → cdd P d j ≤ cdd P d' j → cdd P d i ≤ cdd P d' i := by
  intro j hij
  induction hij with
  | refl => intro _ e; exact e
  | step hij ih =>
    rename_i j
    intro hj e
    have e : cdd P d (j + 1) ≤ cdd P d' (j + 1) := e
    have b := cdd_lt h' h (i := j) (by omega)
    exact ih (by omega) (by omega)
end PL
def bet (o g f o' g' f' : Int) : Prop := o' < o ∨ (o = o' ∧ (g < g' ∨ (g = g' ∧ f < f')))
/-- what a way is worth, and whether it can be -/
def pWay : Type := ((Nat → Int) → Prop) × ((Nat → Int) → Int) × ((Nat → Int) → Int) × ((Nat → Int) → Int)
def pBet (W : pWay) (d d' : Nat → Int) : Prop := bet (W.2.1 d) (W.2.2.1 d) (W.2.2.2 d) (W.2.1 d') (W.2.2.1 d') (W.2.2.2 d')
def pExt (W : pWay) (n : Nat) : Prop := ∀ d d' : Nat → Int, (∀ k, k < n → d k = d' k) → (W.1 d → W.1 d') ∧ W.2.1 d = W.2.1 d' ∧ W.2.2.1 d = W.2.2.1 d' ∧ W.2.2.2 d = W.2.2.2 d'
def pB (P n : Nat) (W : pWay) (S : (Nat → Int) → Prop) (d : Nat → Int) : Prop := inr P d n ∧ S d ∧ W.1 d ∧ ∀ d', inr P d' n → S d' → W.1 d' → ¬ pBet W d' d ∧ (cdd P d' n < cdd P d n → pBet W d d')
def pDC (P n : Nat) (S : (Nat → Int) → Prop) : Prop := ∀ d d' : Nat → Int, inr P d n → inr P d' n → cdd P d n ≤ cdd P d' n → S d' → S d
section PB
variable {P n : Nat} {W : pWay} {S S' : (Nat → Int) → Prop} {d e : Nat → Int}
theorem pB_iff (h : pB P n W S d) (hs : ∀ d', inr P d' n → (S d' ↔ S' d')) : pB P n W S' d := by
  obtain ⟨h1, h2, h3, h4⟩ := h
  exact ⟨h1, (hs d h1).mp h2, h3, fun d' a b c => h4 d' a ((hs d' a).mpr b) c⟩
/-- ways behind are passed: none is better -/
theorem pB_skip (h : pB P n W S d) (hc : pDC P n S) (hs : ∀ d', inr P d' n → S d' → S' d') (hn : ∀ d', inr P d' n → S' d' → ¬ S d' → W.1 d' → ¬ pBet W d' d) : pB P n W S' d := by
  obtain ⟨h1, h2, h3, h4⟩ := h
  refine ⟨h1, hs d h1 h2, h3, fun d' a b c => ?_⟩
  by_cases q : S d'
  · exact h4 d' a q c
  · exact ⟨hn d' a b q c, fun z => absurd (hc d' d a h1 (by omega) h2) q⟩
theorem bet_irr {o g f : Int} : ¬ bet o g f o g f := by unfold bet; omega
theorem bet_tr {o g f o1 g1 f1 o2 g2 f2 : Int} (h : bet o g f o1 g1 f1) (h' : ¬ bet o2 g2 f2 o1 g1 f1) : bet o g f o2 g2 f2 := by unfold bet at *; omega
/-- one way more, better than the best one so far -/
theorem pB_take (hx : pExt W n) (h : pB P n W S d) (he : inr P e n) (hV : W.1 e) (hb : pBet W e d) (hS : S' e) (hs : ∀ d', inr P d' n → S' d' → S d' ∨ cdd P d' n = cdd P e n) : pB P n W S' e := by
  obtain ⟨h1, h2, h3, h4⟩ := h
  refine ⟨he, hS, hV, fun d' a b c => ?_⟩
  rcases hs d' a b with q | q
  · have h9 := bet_tr hb (h4 d' a q c).1
    exact ⟨fun z => by unfold pBet bet at *; omega, fun _ => h9⟩
  · obtain ⟨x1, x2, x3, x4⟩ := hx d' e (cdd_inj a he (Nat.le_refl _) q)
    refine ⟨?_, fun z => by omega⟩
    unfold pBet
    rw [x2, x3, x4]
    exact bet_irr
theorem pB_first (hx : pExt W n) (hno : ∀ d', inr P d' n → S d' → ¬ W.1 d') (he : inr P e n) (hV : W.1 e) (hS : S' e) (hs : ∀ d', inr P d' n → S' d' → S d' ∨ cdd P d' n = cdd P e n) : pB P n W S' e := by
  refine ⟨he, hS, hV, fun d' a b c => ?_⟩
  rcases hs d' a b with q | q
  · exact absurd c (hno d' a q)
  · obtain ⟨x1, x2, x3, x4⟩ := hx d' e (cdd_inj a he (Nat.le_refl _) q)
    refine ⟨?_, fun z => by omega⟩
    unfold pBet
    rw [x2, x3, x4]
    exact bet_irr
/-- one way more, no better -/
theorem pB_pass (hx : pExt W n) (h : pB P n W S d) (hc : pDC P n S) (he : inr P e n) (hb : W.1 e → ¬ pBet W e d) (hs : ∀ d', inr P d' n → (S' d' ↔ S d' ∨ cdd P d' n = cdd P e n)) : pB P n W S' d := by
  refine pB_skip h hc (fun d' a q => (hs d' a).mpr (Or.inl q)) (fun d' a b q c => ?_)
  rcases (hs d' a).mp b with z | z
  · exact absurd z q
  · obtain ⟨x1, x2, x3, x4⟩ := hx d' e (cdd_inj a he (Nat.le_refl _) z)
    have := hb (x1 c)
    unfold pBet at *
    rw [x2, x3, x4]
    exact this
/-- the best way is one, also where the worths are told from elsewhere on -/
theorem pB_u {W' : pWay} (h : pB P n W S d) (h' : pB P n W' S' e) (hS : ∀ d', inr P d' n → S d' ∧ S' d') (hV : ∀ d', inr P d' n → (W.1 d' ↔ W'.1 d')) {a b : Int} (ho : ∀ d', inr P d' n → W.2.1 d' = W'.2.1 d') (hg : ∀ d', inr P d' n → W.2.2.1 d' = W'.2.2.1 d' + a) (hf : ∀ d', inr P d' n → W.2.2.2 d' = W'.2.2.2 d' + b) : ∀ k, k < n → d k = e k := by
  obtain ⟨h1, h2, h3, h4⟩ := h
  obtain ⟨k1, k2, k3, k4⟩ := h'
  have a1 := h4 e k1 (hS e k1).1 ((hV e k1).mpr k3)
  have a2 := k4 d h1 (hS d h1).2 ((hV d h1).mp h3)
  have o1 := ho e k1
  have o2 := ho d h1
  have g1 := hg e k1
  have g2 := hg d h1
  have f1 := hf e k1
  have f2 := hf d h1
  refine cdd_inj h1 k1 (Nat.le_refl _) ?_
  unfold pBet bet at *
  by_cases c : cdd P d n < cdd P e n
  · exfalso
    have := a2.2 c
    omega
  · by_cases c' : cdd P e n < cdd P d n
    · exfalso
      have := a1.2 c'
      omega
    · omega
end PB

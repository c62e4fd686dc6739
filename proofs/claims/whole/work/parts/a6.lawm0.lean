/-! ===== law: the reference's tokens ===== -/
def bAt (b : Nat → Int) (n k : Int) : Int := if k < n then b k.toNat else -1
theorem bAt_f (b : Nat → Int) (n k : Int) : (k < n → bAt b n k = b k.toNat) ∧ (¬ k < n → bAt b n k = -1) := ⟨fun h => if_pos h, fun h => if_neg h⟩
def rtok (b : Nat → Int) (n i : Nat) (so va : Int) (e : Nat) : Prop := (lD (b i) ∧ lEnd lD b n i e ∧ va = rV b i (e - i) ∧ so = if 9999 < va then 4 else 2) ∨ (lA (b i) ∧ lEnd lA b n i e ∧ va = b i ∧ so = if e = i + 1 ∧ isNm (b i) then 1 else 4) ∨ (¬ lD (b i) ∧ ¬ lA (b i) ∧ e = i + 1 ∧ va = b i ∧ so = if isSg (b i) then 3 else 4)
def advR (b : Nat → Int) (n t0 : Nat) (fr to so va : Int) : Prop := ∃ s e : Nat, fr = s ∧ to = e ∧ lEnd lB b n t0 s ∧ ((s = n ∧ e = n ∧ so = 0) ∨ (s < n ∧ rtok b n s so va e))
def rTk (t v so v' : Int) : Prop := (t = 0 ∧ so = 0) ∨ (t = 1 ∧ so = 2 ∧ v' = v) ∨ (t = 2 ∧ so = 1 ∧ v' = ltr v) ∨ (t = 3 ∧ so = 4) ∨ (isSg t ∧ so = 3 ∧ v' = t)
theorem rtok_tk {b : Nat → Int} {n i e e' : Nat} {t v so va : Int} (h : tokAt b n i t v e) (h' : rtok b n i so va e') : e = e' ∧ rTk t v so va := by
  rcases h with ⟨h1, h2, h3, h4⟩ | ⟨h1, h2, h3, h4⟩ | ⟨h1, h2, h3, h4, h5, h6⟩
  · rcases h' with ⟨g1, g2, g3, g4⟩ | ⟨g1, _⟩ | ⟨g1, _⟩
    · obtain rfl := lEnd_uniq h2 g2
      refine ⟨rfl, ?_⟩
      have hn := nV_rV (b := b) (i := i) (e - i) (fun j q q2 => h2.2.2.1 j q (by omega))
      by_cases c : rV b i (e - i) < 10000
      · have hv : v = va := by rw [h3, hn.2, if_pos c, g3]
        rw [if_neg (by omega)] at g4 h4
        exact Or.inr (Or.inl ⟨h4, g4, hv.symm⟩)
      · have hv : v = 10000 := by rw [h3, hn.2, if_neg c]
        rw [if_pos (by omega)] at g4 h4
        exact Or.inr (Or.inr (Or.inr (Or.inl ⟨h4, g4⟩)))
    · unfold lD at h1; unfold lA at g1; omega
    · exact absurd h1 g1
  · rcases h' with ⟨g1, _⟩ | ⟨g1, g2, g3, g4⟩ | ⟨_, g1, _⟩
    · unfold lD at g1; unfold lA at h1; omega
    · obtain rfl := lEnd_uniq h2 g2
      refine ⟨rfl, ?_⟩
      have hn := nmI_nm (b i)
      by_cases c : e = i + 1 ∧ isNm (b i)
      · rw [if_pos c] at g4
        rw [if_pos ⟨c.1, by rw [h3]; exact hn.1.mpr c.2⟩] at h4
        exact Or.inr (Or.inr (Or.inl ⟨h4, g4, by rw [g3, h3]; exact (hn.2.2.2 c.2).symm⟩))
      · rw [if_neg c] at g4
        rw [if_neg (fun w => c ⟨w.1, hn.1.mp (by rw [← h3]; exact w.2)⟩)] at h4
        exact Or.inr (Or.inr (Or.inr (Or.inl ⟨h4, g4⟩)))
    · exact absurd h1 g1
  · rcases h' with ⟨g1, _⟩ | ⟨g1, _⟩ | ⟨g1, g2, g3, g4, g5⟩
    · exact absurd g1 h1
    · exact absurd g1 h2
    · refine ⟨by omega, ?_⟩
      by_cases c : isSg (b i)
      · rw [if_pos c] at g5 h6
        exact Or.inr (Or.inr (Or.inr (Or.inr ⟨by rw [h6]; exact c, g5, by rw [g4, h6]⟩)))
      · rw [if_neg c] at g5 h6
        exact Or.inr (Or.inr (Or.inr (Or.inl ⟨h6, g5⟩)))
/-- the reference stands at token k -/
def rAt (tk va st : Nat → Int) (E : Nat → Nat) (T k : Nat) (fr to so v : Int) : Prop := k ≤ T ∧ fr = st k ∧ (k < T → to = E (k + 1)) ∧ rTk (tk k) (va k) so v
theorem adv_at {b : Nat → Int} {n : Nat} {tk va st : Nat → Int} {E : Nat → Nat} {T k : Nat} {fr to so v : Int} (h : lexd b n tk va st E T) (hk : k ≤ T) (ha : advR b n (E k) fr to so v) : rAt tk va st E T k fr to so v := by
  obtain ⟨s, e, h1, h2, h3, h4⟩ := ha
  rcases Nat.lt_or_ge k T with q | q
  · obtain ⟨s', a1, a2, a3, a4⟩ := h.1.2 k q
    obtain rfl := lEnd_uniq a2 h3
    rcases h4 with ⟨w, _⟩ | ⟨_, w⟩
    · omega
    · have := rtok_tk a4 w
      exact ⟨hk, by rw [h1, a1], fun _ => by rw [h2, this.1], this.2⟩
  · obtain rfl : k = T := by omega
    obtain rfl := lEnd_uniq h.2.2.1 h3
    rcases h4 with ⟨_, _, w⟩ | ⟨w, _⟩
    · exact ⟨hk, by rw [h1, h.2.2.2.1], fun w2 => by omega, Or.inl ⟨h.2.2.2.2, w⟩⟩
    · omega
theorem rTk_z {t v so v' : Int} (h : rTk t v so v') : (so = 0 ↔ t = 0) ∧ (so = 1 ∨ so = 2 ↔ t = 1 ∨ t = 2) ∧ (so = 3 ↔ isSg t) ∧ (so = 3 → v' = t) ∧ (0 ≤ so ∧ so ≤ 4) := by
  unfold rTk isSg at *
  omega
/-- bounds kept by each step -/
def syI (k : Nat) (c : SYc) : Prop := c.2.2.2.1.length + c.2.1.length ≤ k ∧ (c.2.1.length : Int) ≤ k + c.2.2.1 ∧ c.2.2.1 ≤ 8 ∧ 0 ≤ c.2.2.2.2 ∧ c.2.2.2.2 ≤ k
theorem edd_len (S : List Int) (o : Int) (out : List Int) : (edd S o out).1.length + (edd S o out).2.2.length = S.length + out.length ∧ ((edd S o out).1.length : Int) - (edd S o out).2.1 = S.length - o ∧ (edd S o out).2.1 ≤ o := by
  induction S generalizing o out with
  | nil => simp [edd]
  | cons s S ih =>
    unfold edd
    by_cases h : s = 30000
    · rw [if_pos h]
      have := ih (o - 1) (out ++ [30000])
      rw [List.length_append, List.length_singleton] at this
      rw [List.length_cons]
      omega
    · rw [if_neg h]
      exact ⟨rfl, rfl, Int.le_refl _⟩
theorem stl_len (b : Int) (S out : List Int) : (stl b S out).1.length + (stl b S out).2.length = S.length + out.length ∧ (stl b S out).1.length ≤ S.length := by
  induction S generalizing out with
  | nil => simp [stl]
  | cons s S ih =>
    unfold stl
    by_cases h : b ≤ bnd s
    · rw [if_pos h]
      have := ih (out ++ [s])
      rw [List.length_append, List.length_singleton] at this
      rw [List.length_cons]
      omega
    · rw [if_neg h]
      exact ⟨rfl, Nat.le_refl _⟩
theorem syI_step {k : Nat} {t v : Int} {c c' : SYc} (h : syI k c) (hs : syStep t v c = some c') : syI (k + 1) c' := by
  obtain ⟨p, S, o, out, sd⟩ := c
  unfold syI at h
  dsimp only at h
  unfold syStep at hs
  dsimp only at hs
  cases p with
  | true =>
    rw [if_pos rfl] at hs
    unfold syB at hs
    by_cases h1 : t = 1 ∨ t = 2
    · rw [if_pos h1] at hs
      obtain rfl := (Option.some.inj hs).symm
      have := edd_len S o (out ++ [if t = 1 then v else 10000 + ltr v])
      rw [List.length_append, List.length_singleton] at this
      unfold syI
      dsimp only
      omega
    · rw [if_neg h1] at hs
      by_cases h2 : (t = 40 ∨ t = 45) ∧ ¬ o = 8
      · rw [if_pos h2] at hs
        obtain rfl := (Option.some.inj hs).symm
        unfold syI
        dsimp only
        rw [List.length_cons]
        omega
      · rw [if_neg h2] at hs
        exact absurd hs (by simp)
  | false =>
    rw [if_neg (by decide)] at hs
    unfold syG at hs
    by_cases h1 : isSg t ∧ ¬ t = 40
    · rw [if_pos h1] at hs
      by_cases h2 : t = 41
      · rw [if_pos h2] at hs
        unfold syC at hs
        have hl := stl_len 1 S out
        cases e : (stl 1 S out).1 with
        | nil => rw [e] at hs; exact absurd hs (by simp)
        | cons s S' =>
          rw [e] at hs hl
          obtain rfl := (Option.some.inj hs).symm
          have := edd_len S' (o - 1) (stl 1 S out).2
          rw [List.length_cons] at hl
          unfold syI
          dsimp only
          omega
      · rw [if_neg h2] at hs
        unfold syO at hs
        have hl := stl_len (sLe t) S out
        by_cases h3 : bnd (20000 + t) = 1 ∧ bt (stl (sLe t) S out).1 = 1
        · rw [if_pos h3] at hs; exact absurd hs (by simp)
        · rw [if_neg h3] at hs
          obtain rfl := (Option.some.inj hs).symm
          unfold syI
          dsimp only
          rw [List.length_cons]
          omega
    · rw [if_neg h1] at hs
      exact absurd hs (by simp)
def tp : List Int → Int
  | [] => 0
  | s :: _ => s
theorem bt_tp (S : List Int) : bt S = bnd (tp S) := by
  cases S with
  | nil => rfl
  | cons s S => rfl
/-- what begins, goesOn answer -/
def rLc (mi m : Nat → Nat → Int) (fr to so va : Int) (c : SYc) : Prop := rL mi m fr to so va c.2.1 c.2.2.2.1 c.2.2.1 c.2.2.2.2
def rB2 (mi m : Nat → Nat → Int) (fr to so va : Int) (res : Option SYc) (p : Int) (b : Int) : Prop := (b = 1 ∧ ∃ c, res = some c ∧ rLc mi m fr to so va c ∧ p = b2 (c.1 = true)) ∨ (b = 0 ∧ res = none ∧ ∃ c, rLc mi m fr to so va c)
theorem rB2.b01 {mi m : Nat → Nat → Int} {fr to so va : Int} {res : Option SYc} {p b : Int} (h : rB2 mi m fr to so va res p b) : b = 0 ∨ b = 1 := by
  rcases h with ⟨h, _⟩ | ⟨h, _⟩
  · exact Or.inr h
  · exact Or.inl h
theorem rB2.yes {mi m : Nat → Nat → Int} {fr to so va : Int} {res : Option SYc} {p b : Int} (h : rB2 mi m fr to so va res p b) (hb : ¬ b = 0) : ∃ c, res = some c ∧ rLc mi m fr to so va c ∧ p = b2 (c.1 = true) := by
  rcases h with ⟨_, h⟩ | ⟨h, _⟩
  · exact h
  · exact absurd h hb
theorem rB2.no {mi m : Nat → Nat → Int} {fr to so va : Int} {res : Option SYc} {p b : Int} (h : rB2 mi m fr to so va res p b) (hb : b = 0) : res = none ∧ ∃ c, rLc mi m fr to so va c := by
  rcases h with ⟨h, _⟩ | ⟨_, h⟩
  · omega
  · exact h
/-- what the whole reading answers -/
def rdP (mi m : Nat → Nat → Int) (st : Nat → Int) (T : Nat) (res : Nat ⊕ (List Int × Int)) (f : Int) : Prop := ∃ (fr to so va : Int) (c : SYc), rLc mi m fr to so va c ∧ ((∃ kf, res = Sum.inl kf ∧ kf ≤ T ∧ f = st kf) ∨ (res = Sum.inr (c.2.2.2.1, c.2.2.2.2) ∧ f = -1 ∧ c.2.2.2.1.length ≤ 120 ∧ 0 ≤ c.2.2.2.2 ∧ c.2.2.2.2 ≤ 120))

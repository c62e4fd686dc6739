/-! ===== law: what is read can be worked ===== -/
theorem dp_split : ∀ (a b : List Int) (d e : Int), dp d (a ++ b) = some e → ∃ x, dp d a = some x ∧ dp x b = some e
  | [], b, d, e, h => ⟨d, rfl, h⟩
  | c :: a, b, d, e, h => by
    replace h : dp d (c :: (a ++ b)) = some e := h
    rw [dp_c] at h ⊢
    by_cases h1 : c = 20000
    · rw [if_pos h1] at h ⊢
      by_cases h2 : 1 ≤ d
      · rw [if_pos h2] at h ⊢; exact dp_split a b d e h
      · rw [if_neg h2] at h; exact absurd h (by simp)
    · rw [if_neg h1] at h ⊢
      by_cases h2 : 20000 < c
      · rw [if_pos h2] at h ⊢
        by_cases h3 : 2 ≤ d
        · rw [if_pos h3] at h ⊢; exact dp_split a b _ e h
        · rw [if_neg h3] at h; exact absurd h (by simp)
      · rw [if_neg h2] at h ⊢; exact dp_split a b _ e h
theorem tr_rel {c : Int} (h : cOK c) : cdRel c (tr c) := by
  unfold cOK at h
  rcases h with h | h | h
  · refine Or.inl ⟨h.1, h.2, ?_⟩
    unfold tr
    rw [if_neg (by omega), if_neg (by omega)]
  · have : c = 10000 ∨ c = 10001 ∨ c = 10002 ∨ c = 10003 ∨ c = 10004 ∨ c = 10005 := by omega
    rcases this with q | q | q | q | q | q <;> subst q
    · exact Or.inr (Or.inl ⟨rfl, by decide⟩)
    · exact Or.inr (Or.inr (Or.inl ⟨rfl, by decide⟩))
    · exact Or.inr (Or.inr (Or.inr (Or.inl ⟨rfl, by decide⟩)))
    · exact Or.inr (Or.inr (Or.inr (Or.inr (Or.inl ⟨rfl, by decide⟩))))
    · exact Or.inr (Or.inr (Or.inr (Or.inr (Or.inr (Or.inl ⟨rfl, by decide⟩)))))
    · exact Or.inr (Or.inr (Or.inr (Or.inr (Or.inr (Or.inr (Or.inl ⟨rfl, by decide⟩))))))
  · by_cases h2 : c = 20000
    · subst h2
      exact Or.inr (Or.inr (Or.inr (Or.inr (Or.inr (Or.inr (Or.inr (Or.inl ⟨rfl, by decide⟩)))))))
    · refine Or.inr (Or.inr (Or.inr (Or.inr (Or.inr (Or.inr (Or.inr (Or.inr ⟨?_, by omega⟩)))))))
      unfold tr
      rw [if_neg h2, if_neg (by omega)]
theorem take_at {l : List Int} {i : Nat} (hi : i < l.length) : l.take (i + 1) = l.take i ++ [l.getD i 0] ∧ l = l.take i ++ (l.getD i 0 :: l.drop (i + 1)) := by
  have e : l.getD i 0 = l[i] := by rw [List.getD_eq_getElem?_getD, List.getElem?_eq_getElem hi]; rfl
  constructor
  · rw [e, List.take_succ_eq_append_getElem hi]
  · rw [e, ← List.drop_eq_getElem_cons hi, List.take_append_drop]
theorem dp_cls {c : Int} (hc : cOK c) (d : Int) : (tr c = 30000 ↔ c = 20000) ∧ ((20000 ≤ tr c ∧ tr c < 30000) ↔ 20000 < c) := by
  unfold cOK at hc
  unfold tr
  by_cases h1 : c = 20000
  · rw [if_pos h1]; omega
  · rw [if_neg h1]
    by_cases h2 : 10000 ≤ c ∧ c < 20000
    · rw [if_pos h2]
      unfold ltr
      split <;> (try split) <;> (try split) <;> (try split) <;> (try split) <;> omega
    · rw [if_neg h2]; omega
theorem law_dep {cc : List Int} (h : pcs cc) {σ : Nat → Nat → Int} {l : Nat} (hσ : ∀ i, i < cc.length → σ 10 (120 * l + i) = tr (cc.getD i 0)) : (∀ i, i < cc.length → cdRel (cc.getD i 0) (σ 10 (120 * l + i)) ∧ (σ 10 (120 * l + i) = 30000 → 1 ≤ vDep σ l i) ∧ (20000 ≤ σ 10 (120 * l + i) → σ 10 (120 * l + i) < 30000 → 2 ≤ vDep σ l i)) ∧ vDep σ l cc.length = 1 ∧ 0 < cc.length := by
  have hall := h.1 0 (by omega)
  have hmem : ∀ i, i < cc.length → cOK (cc.getD i 0) := fun i hi => h.2 _ (by
    rw [List.getD_eq_getElem?_getD, List.getElem?_eq_getElem hi]
    exact List.getElem_mem hi)
  have key : ∀ i, i ≤ cc.length → dp 0 (cc.take i) = some (vDep σ l i) := by
    intro i
    induction i with
    | zero => intro _; rw [List.take_zero]; rfl
    | succ i ih =>
      intro hi
      have h1 := ih (by omega)
      obtain ⟨t1, t2⟩ := take_at (show i < cc.length by omega)
      have hc := hmem i (by omega)
      have hcl := dp_cls hc 0
      have hs := hσ i (by omega)
      rw [t2] at hall
      obtain ⟨x, x1, x2⟩ := dp_split _ _ _ _ hall
      rw [h1] at x1
      obtain rfl : vDep σ l i = x := Option.some.inj x1
      rw [t1, dp_app _ _ _ _ h1]
      have e1 : vDep σ l (i + 1) = if σ 10 (120 * l + ((i : Nat) : Int).toNat) = 30000 then vDep σ l i else if 20000 ≤ σ 10 (120 * l + ((i : Nat) : Int).toNat) then vDep σ l i - 1 else vDep σ l i + 1 := rfl
      rw [e1, show ((i : Nat) : Int).toNat = i by omega, hs]
      rw [dp_c] at x2 ⊢
      by_cases q1 : cc.getD i 0 = 20000
      · rw [if_pos q1] at x2 ⊢
        rw [if_pos (hcl.1.mpr q1)]
        by_cases q2 : 1 ≤ vDep σ l i
        · rw [if_pos q2]; rfl
        · rw [if_neg q2] at x2; exact absurd x2 (by simp)
      · rw [if_neg q1] at x2 ⊢
        rw [if_neg (fun w => q1 (hcl.1.mp w))]
        by_cases q2 : 20000 < cc.getD i 0
        · rw [if_pos q2] at x2 ⊢
          rw [if_pos (hcl.2.mpr q2).1]
          by_cases q3 : 2 ≤ vDep σ l i
          · rw [if_pos q3]; rfl
          · rw [if_neg q3] at x2; exact absurd x2 (by simp)
        · rw [if_neg q2, if_neg (fun w => ?_)]
          · rfl
          · by_cases w2 : tr (cc.getD i 0) < 30000
            · exact q2 (hcl.2.mp ⟨w, w2⟩)
            · unfold cOK at hc
              have h3 := tr_rel (hmem i (by omega))
              unfold cdRel at h3
              omega
  have klen := key cc.length (Nat.le_refl _)
  rw [List.take_length, hall] at klen
  refine ⟨fun i hi => ?_, (Option.some.inj klen).symm, ?_⟩
  · obtain ⟨t1, t2⟩ := take_at hi
    have hc := hmem i hi
    have hcl := dp_cls hc 0
    have h1 := key i (by omega)
    rw [t2] at hall
    obtain ⟨x, x1, x2⟩ := dp_split _ _ _ _ hall
    rw [h1] at x1
    obtain rfl : vDep σ l i = x := Option.some.inj x1
    rw [hσ i hi]
    rw [dp_c] at x2
    refine ⟨tr_rel hc, fun q => ?_, fun q q' => ?_⟩
    · rw [if_pos (hcl.1.mp q)] at x2
      by_cases q2 : 1 ≤ vDep σ l i
      · exact q2
      · rw [if_neg q2] at x2; exact absurd x2 (by simp)
    · have q3 := hcl.2.mp ⟨q, q'⟩
      rw [if_neg (by omega), if_pos q3] at x2
      by_cases q2 : 2 ≤ vDep σ l i
      · exact q2
      · rw [if_neg q2] at x2; exact absurd x2 (by simp)
  · rcases Nat.eq_zero_or_pos cc.length with q | q
    · have : cc = [] := List.length_eq_zero_iff.mp q
      rw [this] at hall
      have := Option.some.inj (show some (0 : Int) = some (0 + 1) from hall)
      omega
    · exact q

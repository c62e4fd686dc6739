/-! ===== law: the reference's steps, as it takes them ===== -/
def sB (S : List Int) : Prop := ∀ s, s ∈ S → 1 ≤ s ∧ s ≤ 30000
theorem sB_tp {S : List Int} (h : sB S) : (0 ≤ tp S ∧ tp S ≤ 30000) ∧ (tp S = 0 → S = []) := by
  cases S with
  | nil => exact ⟨⟨by decide, by decide⟩, fun _ => rfl⟩
  | cons s S =>
    have := h s List.mem_cons_self
    exact ⟨⟨by show 0 ≤ s; omega, this.2⟩, fun q => by have : s = 0 := q; omega⟩
theorem tp_c {S : List Int} {x : Int} (h : tp S = x) (hx : ¬ x = 0) : ∃ S1, S = x :: S1 := by
  cases S with
  | nil => exact absurd h.symm hx
  | cons s S => exact ⟨S, by rw [← h]; rfl⟩
theorem edd_c (S : List Int) (o : Int) (out : List Int) : edd (30000 :: S) o out = edd S (o - 1) (out ++ [30000]) := by
  show (if (30000 : Int) = 30000 then _ else _) = _
  rw [if_pos rfl]
theorem edd_n {S : List Int} (h : ¬ tp S = 30000) (o : Int) (out : List Int) : edd S o out = (S, o, out) := by
  cases S with
  | nil => rfl
  | cons s S =>
    show (if s = 30000 then _ else _) = _
    rw [if_neg (show ¬ s = 30000 from h)]
theorem stl_c {b s : Int} (h : b ≤ bnd s) (S out : List Int) : stl b (s :: S) out = stl b S (out ++ [s]) := by
  show (if b ≤ bnd s then _ else _) = _
  rw [if_pos h]
theorem stl_n {b : Int} {S : List Int} (hb : 0 < b) (h : tp S = 0 ∨ bnd (tp S) < b) (out : List Int) : stl b S out = (S, out) := by
  cases S with
  | nil => rfl
  | cons s S =>
    show (if b ≤ bnd s then _ else _) = _
    rw [if_neg]
    rcases h with h | h
    · have : s = 0 := h
      rw [this, show bnd 0 = 0 from by decide]
      omega
    · have : bnd s < b := h
      omega
theorem edd_sub (S : List Int) (o : Int) (out : List Int) : ∀ s, s ∈ (edd S o out).1 → s ∈ S := by
  induction S generalizing o out with
  | nil => intro s hs; exact hs
  | cons x S ih =>
    intro s hs
    by_cases h : x = 30000
    · subst h
      rw [edd_c] at hs
      exact List.mem_cons_of_mem _ (ih _ _ s hs)
    · rw [edd_n (S := x :: S) h] at hs
      exact hs
theorem stl_sub (b : Int) (S out : List Int) : ∀ s, s ∈ (stl b S out).1 → s ∈ S := by
  induction S generalizing out with
  | nil => intro s hs; exact hs
  | cons x S ih =>
    intro s hs
    by_cases h : b ≤ bnd x
    · rw [stl_c h] at hs
      exact List.mem_cons_of_mem _ (ih _ s hs)
    · have e : stl b (x :: S) out = (x :: S, out) := by show (if b ≤ bnd x then _ else _) = _; rw [if_neg h]
      rw [e] at hs
      exact hs
theorem sB_edd {S : List Int} (h : sB S) (o : Int) (out : List Int) : sB (edd S o out).1 := fun s hs => h s (edd_sub _ _ _ s hs)
theorem sB_stl {S : List Int} (h : sB S) (b : Int) (out : List Int) : sB (stl b S out).1 := fun s hs => h s (stl_sub _ _ _ s hs)
theorem sB_tl {S : List Int} {s : Int} (h : sB (s :: S)) : sB S := fun x hx => h x (List.mem_cons_of_mem _ hx)
theorem sB_cons {S : List Int} {s : Int} (h : sB S) (hs : 1 ≤ s ∧ s ≤ 30000) : sB (s :: S) := fun x hx => by
  rcases List.mem_cons.mp hx with q | q
  · rw [q]; exact hs
  · exact h x q
theorem sB_step {t v : Int} {c c' : SYc} (h : sB c.2.1) (hs : syStep t v c = some c') : sB c'.2.1 := by
  obtain ⟨p, S, o, out, sd⟩ := c
  dsimp only at h
  unfold syStep at hs
  dsimp only at hs
  cases p with
  | true =>
    rw [if_pos rfl] at hs
    unfold syB at hs
    by_cases h1 : t = 1 ∨ t = 2
    · rw [if_pos h1] at hs
      obtain rfl := (Option.some.inj hs).symm
      exact sB_edd h _ _
    · rw [if_neg h1] at hs
      by_cases h2 : (t = 40 ∨ t = 45) ∧ ¬ o = 8
      · rw [if_pos h2] at hs
        obtain rfl := (Option.some.inj hs).symm
        exact sB_cons h (by split <;> omega)
      · rw [if_neg h2] at hs
        exact absurd hs (by simp)
  | false =>
    rw [if_neg (by decide)] at hs
    unfold syG at hs
    by_cases h1 : isSg t ∧ ¬ t = 40
    · rw [if_pos h1] at hs
      by_cases h2 : t = 41
      · rw [if_pos h2] at hs
        unfold syC at hs
        have hl := sB_stl h 1 out
        cases e : (stl 1 S out).1 with
        | nil => rw [e] at hs; exact absurd hs (by simp)
        | cons s S' =>
          rw [e] at hs hl
          obtain rfl := (Option.some.inj hs).symm
          exact sB_edd (sB_tl hl) _ _
      · rw [if_neg h2] at hs
        unfold syO at hs
        by_cases h3 : bnd (20000 + t) = 1 ∧ bt (stl (sLe t) S out).1 = 1
        · rw [if_pos h3] at hs; exact absurd hs (by simp)
        · rw [if_neg h3] at hs
          obtain rfl := (Option.some.inj hs).symm
          exact sB_cons (sB_stl h _ _) (by have := h1.1; unfold isSg at this; omega)
    · rw [if_neg h1] at hs
      exact absurd hs (by simp)
section SYX
variable {t v so va : Int} {S out : List Int} {o sd : Int}
theorem syB_num (h : rTk t v so va) (h1 : so = 1 ∨ so = 2) {x : Int} (hx : x = if so = 1 then 10000 + va else va) : syB t v S o out sd = some (false, (edd S o (out ++ [x])).1, (edd S o (out ++ [x])).2.1, (edd S o (out ++ [x])).2.2, sd + 1) := by
  have h2 : t = 1 ∨ t = 2 := (rTk_z h).2.1.mp h1
  have e : (if t = 1 then v else 10000 + ltr v) = x := by
    rw [hx]
    unfold rTk isSg at h
    by_cases q : t = 1
    · rw [if_pos q, if_neg (by omega)]; omega
    · rw [if_neg q, if_pos (by omega)]; omega
  unfold syB
  rw [if_pos h2, e]
theorem syB_none (h : rTk t v so va) (h1 : ¬ (so = 1 ∨ so = 2)) (h2 : ¬ so = 3 ∨ (¬ va = 40 ∧ ¬ va = 45) ∨ o = 8) : syB t v S o out sd = none := by
  have hz := rTk_z h
  unfold syB
  rw [if_neg (fun q => h1 (hz.2.1.mpr q)), if_neg]
  rintro ⟨q1, q2⟩
  have : isSg t := by unfold isSg; omega
  have h3 := hz.2.2.1.mpr this
  have h4 := hz.2.2.2.1 h3
  omega
theorem syB_open (h : rTk t v so va) (h1 : so = 3) (h2 : va = 40 ∨ va = 45) (h3 : ¬ o = 8) : syB t v S o out sd = some (true, (if va = 40 then 20040 else 30000) :: S, o + 1, out, sd) := by
  have hz := rTk_z h
  have h4 := hz.2.2.2.1 h1
  unfold syB
  rw [if_neg (by omega), if_pos ⟨by omega, h3⟩, h4]
theorem syG_none (h : rTk t v so va) (h2 : ¬ so = 3 ∨ va = 40) : syG t S o out sd = none := by
  have hz := rTk_z h
  unfold syG
  rw [if_neg]
  rintro ⟨q1, q2⟩
  have h3 := hz.2.2.1.mpr q1
  have h4 := hz.2.2.2.1 h3
  omega
theorem syG_c0 (h : rTk t v so va) (h1 : so = 3) (h2 : va = 41) (hS : (stl 1 S out).1 = []) : syG t S o out sd = none := by
  have hz := rTk_z h
  have h4 := hz.2.2.2.1 h1
  unfold syG
  rw [if_pos ⟨hz.2.2.1.mp h1, by omega⟩, if_pos (by omega)]
  unfold syC
  rw [hS]
theorem syG_c1 (h : rTk t v so va) (h1 : so = 3) (h2 : va = 41) {s : Int} {S1 : List Int} (hS : (stl 1 S out).1 = s :: S1) : syG t S o out sd = some (false, (edd S1 (o - 1) (stl 1 S out).2).1, (edd S1 (o - 1) (stl 1 S out).2).2.1, (edd S1 (o - 1) (stl 1 S out).2).2.2, sd) := by
  have hz := rTk_z h
  have h4 := hz.2.2.2.1 h1
  unfold syG
  rw [if_pos ⟨hz.2.2.1.mp h1, by omega⟩, if_pos (by omega)]
  unfold syC
  rw [hS]
theorem syG_o (h : rTk t v so va) (h1 : so = 3) (h2 : ¬ va = 41) (h3 : ¬ va = 40) : syG t S o out sd = syO va S o out sd ∧ 1 ≤ bnd (20000 + va) ∧ bnd (20000 + va) ≤ 3 ∧ (40 ≤ va ∧ va ≤ 61) := by
  have hz := rTk_z h
  have h4 := hz.2.2.2.1 h1
  have h5 := hz.2.2.1.mp h1
  rw [h4] at h2 h3 ⊢
  refine ⟨?_, ?_⟩
  · unfold syG
    rw [if_pos ⟨h5, h3⟩, if_neg h2]
  · unfold isSg at h5
    rcases h5 with q | q | q | q | q | q | q | q
    · exact absurd q h3
    · exact absurd q h2
    all_goals (subst q; decide)
theorem syO_none {b : Int} (hb : b = bnd (20000 + va)) (h1 : b = 1) (h2 : bnd (tp (stl 2 S out).1) = 1) : syO va S o out sd = none := by
  have e : sLe va = 2 := by unfold sLe; rw [if_pos (by omega)]
  unfold syO
  rw [e, bt_tp, if_pos ⟨by omega, h2⟩]
theorem syO_some {b c : Int} (hb : b = bnd (20000 + va)) (hc : c = if b = 1 then 2 else b) (h2 : b = 1 → ¬ bnd (tp (stl c S out).1) = 1) : syO va S o out sd = some (true, (20000 + va) :: (stl c S out).1, o, (stl c S out).2, sd) := by
  have e : sLe va = c := by unfold sLe; rw [hc, hb]
  unfold syO
  rw [e, bt_tp, if_neg (fun w => h2 (by omega) w.2)]
end SYX
theorem rL_tp {mi m : Nat → Nat → Int} {fr to so va o sd : Int} {S out : List Int} (h : rL mi m fr to so va S out o sd) : rng (tp S) := by
  have hS := h.2.2.2.2.2
  cases S with
  | nil => exact ⟨by decide, by decide⟩
  | cons s S =>
    have := h.1 166 S.length
    rw [hS.1] at this
    exact this
theorem rTk_va {t v so va : Int} (h : rTk t v so va) : (so = 1 → 97 ≤ va ∧ va ≤ 111) ∧ (so = 3 → 40 ≤ va ∧ va ≤ 61) := by
  have hl : 97 ≤ ltr v ∧ ltr v ≤ 111 := by
    unfold ltr
    split <;> (try split) <;> (try split) <;> (try split) <;> (try split) <;> omega
  unfold rTk isSg at h
  omega

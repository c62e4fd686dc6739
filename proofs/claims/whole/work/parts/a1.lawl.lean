/-! ===== law: how bytes are cut into tokens ===== -/
abbrev lD (c : Int) : Prop := 48 ≤ c ∧ c ≤ 57
abbrev lA (c : Int) : Prop := 97 ≤ c ∧ c ≤ 122
abbrev lB (c : Int) : Prop := c = 32
def lEnd (p : Int → Prop) (b : Nat → Int) (n i e : Nat) : Prop := i ≤ e ∧ e ≤ n ∧ (∀ j, i ≤ j → j < e → p (b j)) ∧ (e = n ∨ ¬ p (b e))
theorem lEnd_uniq {p : Int → Prop} {b : Nat → Int} {n i e e' : Nat} (h : lEnd p b n i e) (h' : lEnd p b n i e') : e = e' := by
  obtain ⟨a1, a2, a3, a4⟩ := h
  obtain ⟨c1, c2, c3, c4⟩ := h'
  rcases Nat.lt_trichotomy e e' with q | q | q
  · rcases a4 with w | w
    · omega
    · exact absurd (c3 e (by omega) q) w
  · exact q
  · rcases c4 with w | w
    · omega
    · exact absurd (a3 e' (by omega) q) w
def nV (b : Nat → Int) (i : Nat) : Nat → Int
  | 0 => 0
  | m + 1 => if 10 * nV b i m + b (i + m) - 48 < 10000 then 10 * nV b i m + b (i + m) - 48 else 10000
def rV (b : Nat → Int) (i : Nat) : Nat → Int
  | 0 => 0
  | m + 1 => if 9999 < rV b i m then 10000 else 10 * rV b i m + b (i + m) - 48
theorem nV_rV {b : Nat → Int} {i : Nat} : ∀ m, (∀ j, i ≤ j → j < i + m → lD (b j)) → (0 ≤ rV b i m ∧ rV b i m ≤ 100000) ∧ nV b i m = if rV b i m < 10000 then rV b i m else 10000
  | 0, _ => by
    show ((0 : Int) ≤ 0 ∧ (0 : Int) ≤ 100000) ∧ (0 : Int) = if (0 : Int) < 10000 then 0 else 10000
    decide
  | m + 1, h => by
    have ih := nV_rV m (fun j h1 h2 => h j h1 (by omega))
    have hd := h (i + m) (by omega) (by omega)
    unfold lD at hd
    unfold nV rV
    obtain ⟨x, hx⟩ : ∃ x, x = rV b i m := ⟨_, rfl⟩
    obtain ⟨y, hy⟩ : ∃ y, y = nV b i m := ⟨_, rfl⟩
    rw [← hx, ← hy] at ih ⊢
    rcases Int.lt_or_le x 10000 with q | q
    · rw [if_pos q] at ih
      rw [ih.2, if_neg (by omega)]
      constructor
      · omega
      · split <;> rfl
    · rw [if_neg (by omega)] at ih
      rw [ih.2, if_pos (by omega), if_neg (by omega), if_neg (by omega)]
      omega
def nmI (c : Int) : Int := if c = 108 then 0 else if c = 97 then 1 else if c = 110 then 2 else if c = 107 then 3 else if c = 100 then 4 else if c = 111 then 5 else -1
abbrev isNm (c : Int) : Prop := c = 108 ∨ c = 97 ∨ c = 110 ∨ c = 107 ∨ c = 100 ∨ c = 111
theorem nmI_nm (c : Int) : (0 ≤ nmI c ↔ isNm c) ∧ -1 ≤ nmI c ∧ nmI c ≤ 5 ∧ (isNm c → ltr (nmI c) = c) := by
  by_cases h : isNm c
  · have : nmI c = 0 ∨ nmI c = 1 ∨ nmI c = 2 ∨ nmI c = 3 ∨ nmI c = 4 ∨ nmI c = 5 := by
      unfold isNm at h
      rcases h with h | h | h | h | h | h <;> subst h <;> decide
    refine ⟨⟨fun _ => h, fun _ => by omega⟩, by omega, by omega, fun _ => ?_⟩
    unfold isNm at h
    rcases h with h | h | h | h | h | h <;> subst h <;> decide
  · have : nmI c = -1 := by
      unfold isNm at h
      unfold nmI
      rw [if_neg (by omega), if_neg (by omega), if_neg (by omega), if_neg (by omega), if_neg (by omega), if_neg (by omega)]
    exact ⟨⟨fun _ => by omega, fun q => absurd q h⟩, by omega, by omega, fun q => absurd q h⟩
def tokAt (b : Nat → Int) (n i : Nat) (t v : Int) (e : Nat) : Prop := (lD (b i) ∧ lEnd lD b n i e ∧ v = nV b i (e - i) ∧ t = if 9999 < v then 3 else 1) ∨ (lA (b i) ∧ lEnd lA b n i e ∧ v = nmI (b i) ∧ t = if e = i + 1 ∧ 0 ≤ v then 2 else 3) ∨ (¬ lD (b i) ∧ ¬ lA (b i) ∧ ¬ b i = 32 ∧ e = i + 1 ∧ v = 0 ∧ t = if isSg (b i) then b i else 3)
theorem lEnd_one {p : Int → Prop} {b : Nat → Int} {n i e : Nat} (h : lEnd p b n i e) (hi : i < n) (hp : p (b i)) : i + 1 ≤ e := by
  rcases Nat.lt_or_ge i e with q | q
  · exact q
  · obtain rfl : i = e := by have := h.1; omega
    rcases h.2.2.2 with w | w
    · omega
    · exact absurd hp w
theorem tokAt_e {b : Nat → Int} {n i e : Nat} {t v : Int} (h : tokAt b n i t v e) (hi : i < n) : i + 1 ≤ e ∧ e ≤ n := by
  rcases h with h | h | h
  · exact ⟨lEnd_one h.2.1 hi h.1, h.2.1.2.1⟩
  · exact ⟨lEnd_one h.2.1 hi h.1, h.2.1.2.1⟩
  · omega
theorem tokAt_ok {b : Nat → Int} {n i e : Nat} {t v : Int} (h : tokAt b n i t v e) : ((t = 1 ∧ 0 ≤ v ∧ v ≤ 9999) ∨ (t = 2 ∧ 0 ≤ v ∧ v ≤ 5) ∨ t = 3 ∨ isSg t) := by
  rcases h with ⟨h1, h2, h3, h4⟩ | ⟨h1, h2, h3, h4⟩ | ⟨h1, h2, h3, h4, h5, h6⟩
  · have := nV_rV (b := b) (i := i) (e - i) (fun j q q2 => h2.2.2.1 j q (by omega))
    by_cases c : 9999 < v
    · rw [if_pos c] at h4; omega
    · rw [if_neg c] at h4
      refine Or.inl ⟨h4, ?_, by omega⟩
      rw [h3, this.2]
      split <;> omega
  · have := nmI_nm (b i)
    split at h4 <;> omega
  · by_cases c : isSg (b i)
    · rw [if_pos c] at h6
      rw [h6]
      exact Or.inr (Or.inr (Or.inr c))
    · rw [if_neg c] at h6
      omega
def lxE (b : Nat → Int) (n : Nat) (tk va st : Nat → Int) (E : Nat → Nat) (c : Nat) : Prop := E 0 = 0 ∧ ∀ k, k < c → ∃ s : Nat, st k = s ∧ lEnd lB b n (E k) s ∧ s < n ∧ tokAt b n s (tk k) (va k) (E (k + 1))
def lexd (b : Nat → Int) (n : Nat) (tk va st : Nat → Int) (E : Nat → Nat) (T : Nat) : Prop := lxE b n tk va st E T ∧ T ≤ n ∧ lEnd lB b n (E T) n ∧ st T = n ∧ tk T = 0
theorem lexd_ok {b : Nat → Int} {n : Nat} {tk va st : Nat → Int} {E : Nat → Nat} {T : Nat} (h : lexd b n tk va st E T) : tOK tk va T := ⟨h.2.2.2.2, fun k hk => by
  obtain ⟨s, _, _, _, h4⟩ := h.1.2 k hk
  exact tokAt_ok h4⟩
/-- what the class has cut, up to i -/
def lxI (b : Nat → Int) (n : Nat) (tk va st : Nat → Int) (E : Nat → Nat) (c i : Nat) : Prop := lxE b n tk va st E c ∧ c ≤ i ∧ i ≤ n ∧ E c ≤ i ∧ ∀ j, E c ≤ j → j < i → b j = 32
theorem lxI_0 (b : Nat → Int) (n : Nat) (tk va st : Nat → Int) : lxI b n tk va st (fun _ => 0) 0 0 := ⟨⟨rfl, fun k hk => by omega⟩, by omega, by omega, Nat.le_refl _, fun j _ hj => by omega⟩
theorem lxI_blank {b : Nat → Int} {n : Nat} {tk va st : Nat → Int} {E : Nat → Nat} {c i : Nat} (h : lxI b n tk va st E c i) (hi : i < n) (hb : b i = 32) : lxI b n tk va st E c (i + 1) := ⟨h.1, by have := h.2.1; omega, by omega, by have := h.2.2.2.1; omega, fun j h1 h2 => by
  by_cases e : j = i
  · rw [e]; exact hb
  · exact h.2.2.2.2 j h1 (by omega)⟩
theorem lxI_add {b : Nat → Int} {n : Nat} {tk va st tk' va' st' : Nat → Int} {E : Nat → Nat} {c i e : Nat} {t v : Int} (h : lxI b n tk va st E c i) (hi : i < n) (ht : tokAt b n i t v e) (hnb : ¬ b i = 32) (h1 : ∀ k, k < c → tk' k = tk k ∧ va' k = va k ∧ st' k = st k) (h2 : tk' c = t ∧ va' c = v ∧ st' c = i) : ∃ E', lxI b n tk' va' st' E' (c + 1) e := by
  obtain ⟨⟨a0, a1⟩, a2, a3, a4, a5⟩ := h
  have he := tokAt_e ht hi
  obtain ⟨E', hE1, hE2⟩ : ∃ E' : Nat → Nat, E' (c + 1) = e ∧ ∀ k, k ≠ c + 1 → E' k = E k := ⟨fun k => if k = c + 1 then e else E k, if_pos rfl, fun k hk => if_neg hk⟩
  refine ⟨E', ⟨by rw [hE2 0 (by omega)]; exact a0, fun k hk => ?_⟩, by omega, by omega, by omega, fun j q1 q2 => by omega⟩
  by_cases ek : k = c
  · subst ek
    refine ⟨i, h2.2.2, ?_, hi, ?_⟩
    · rw [hE2 k (by omega)]
      exact ⟨a4, by omega, a5, Or.inr hnb⟩
    · rw [hE1, h2.1, h2.2.1]
      exact ht
  · obtain ⟨s, s1, s2, s3, s4⟩ := a1 k (by omega)
    have h3 := h1 k (by omega)
    refine ⟨s, h3.2.2.trans s1, ?_, s3, ?_⟩
    · rw [hE2 k (by omega)]; exact s2
    · rw [hE2 (k + 1) (by omega), h3.1, h3.2.1]; exact s4
theorem lxI_end {b : Nat → Int} {n : Nat} {tk va st tk' va' st' : Nat → Int} {E : Nat → Nat} {c : Nat} (h : lxI b n tk va st E c n) (h1 : ∀ k, k < c → tk' k = tk k ∧ va' k = va k ∧ st' k = st k) (h2 : tk' c = 0 ∧ st' c = n) : lexd b n tk' va' st' E c := by
  obtain ⟨⟨a0, a1⟩, a2, a3, a4, a5⟩ := h
  refine ⟨⟨a0, fun k hk => ?_⟩, a2, ⟨a4, Nat.le_refl _, a5, Or.inl rfl⟩, h2.2, h2.1⟩
  obtain ⟨s, s1, s2, s3, s4⟩ := a1 k hk
  have h3 := h1 k hk
  exact ⟨s, h3.2.2.trans s1, s2, s3, by rw [h3.1, h3.2.1]; exact s4⟩
/-! ===== law: what the lists are in memory ===== -/
def arR (m : Nat → Int) (l : List Int) : Prop := ∀ i, i < l.length → m i = l.getD i 0
def stR (m : Nat → Int) : List Int → Prop
  | [] => True
  | s :: S => m S.length = s ∧ stR m S
theorem arR_congr {m m' : Nat → Int} {l : List Int} (h : arR m l) (h1 : ∀ i, i < l.length → m' i = m i) : arR m' l := fun i hi => (h1 i hi).trans (h i hi)
theorem stR_congr {m m' : Nat → Int} : ∀ {S : List Int}, stR m S → (∀ i, i < S.length → m' i = m i) → stR m' S
  | [], _, _ => trivial
  | s :: S, h, h1 => ⟨(h1 S.length (by simp)).trans h.1, stR_congr h.2 (fun i hi => h1 i (by simp; omega))⟩
theorem arR_app {m m' : Nat → Int} {l : List Int} {x : Int} (h : arR m l) (h1 : ∀ i, i < l.length → m' i = m i) (h2 : m' l.length = x) : arR m' (l ++ [x]) := fun i hi => by
  rw [List.length_append, List.length_singleton] at hi
  rw [List.getD_eq_getElem?_getD]
  by_cases e : i = l.length
  · rw [e, h2, List.getElem?_append_right (Nat.le_refl _), Nat.sub_self]
    rfl
  · rw [List.getElem?_append_left (by omega), h1 i (by omega), h i (by omega), List.getD_eq_getElem?_getD]
/-- the reference as it reads -/
def rL (mi m : Nat → Nat → Int) (fr to so va : Int) (S out : List Int) (o sd : Int) : Prop := gR32 m ∧ ((∀ c k : Nat, c ≠ 148 → c ≠ 165 → c ≠ 166 → m c k = mi c k) ∧ ∀ k : Nat, k < 23 ∨ 32 < k → m 148 k = mi 148 k) ∧ (m 148 23 = fr ∧ m 148 24 = to ∧ m 148 25 = so ∧ m 148 26 = va) ∧ (m 148 29 = out.length ∧ m 148 30 = S.length ∧ m 148 31 = o ∧ m 148 32 = sd) ∧ arR (m 165) out ∧ stR (m 166) S
section RLS
variable {mi m : Nat → Nat → Int} {fr to so va o sd : Int} {S out : List Int}
theorem rL_w (h : rL mi m fr to so va S out o sd) {k : Nat} {v : Int} (hk : k = 23 ∨ k = 24 ∨ k = 25 ∨ k = 26 ∨ k = 31 ∨ k = 32) (hv : rng v) : rL mi (gu m 148 k v) (if k = 23 then v else fr) (if k = 24 then v else to) (if k = 25 then v else so) (if k = 26 then v else va) S out (if k = 31 then v else o) (if k = 32 then v else sd) := by
  obtain ⟨h1, ⟨h2, h3⟩, ⟨a1, a2, a3, a4⟩, ⟨b1, b2, b3, b4⟩, h5, h6⟩ := h
  refine ⟨gR32_gu h1 hv, ⟨fun c j q1 q2 q3 => by rw [gu_other q1]; exact h2 c j q1 q2 q3, fun j q => by rw [gu_ne (Or.inr (by omega))]; exact h3 j q⟩, ⟨?_, ?_, ?_, ?_⟩, ⟨?_, ?_, ?_, ?_⟩, arR_congr h5 (fun i _ => gu_other (by decide)), stR_congr h6 (fun i _ => gu_other (by decide))⟩
  · by_cases e : k = 23
    · subst e; rw [if_pos rfl, gu_self]
    · rw [if_neg e, gu_ne (Or.inr (by omega))]; exact a1
  · by_cases e : k = 24
    · subst e; rw [if_pos rfl, gu_self]
    · rw [if_neg e, gu_ne (Or.inr (by omega))]; exact a2
  · by_cases e : k = 25
    · subst e; rw [if_pos rfl, gu_self]
    · rw [if_neg e, gu_ne (Or.inr (by omega))]; exact a3
  · by_cases e : k = 26
    · subst e; rw [if_pos rfl, gu_self]
    · rw [if_neg e, gu_ne (Or.inr (by omega))]; exact a4
  · rw [gu_ne (Or.inr (by omega))]; exact b1
  · rw [gu_ne (Or.inr (by omega))]; exact b2
  · by_cases e : k = 31
    · subst e; rw [if_pos rfl, gu_self]
    · rw [if_neg e, gu_ne (Or.inr (by omega))]; exact b3
  · by_cases e : k = 32
    · subst e; rw [if_pos rfl, gu_self]
    · rw [if_neg e, gu_ne (Or.inr (by omega))]; exact b4
theorem rL_fr (h : rL mi m fr to so va S out o sd) {v : Int} (hv : rng v) : rL mi (gu m 148 23 v) v to so va S out o sd := rL_w h (by decide) hv
theorem rL_to (h : rL mi m fr to so va S out o sd) {v : Int} (hv : rng v) : rL mi (gu m 148 24 v) fr v so va S out o sd := rL_w h (by decide) hv
theorem rL_so (h : rL mi m fr to so va S out o sd) {v : Int} (hv : rng v) : rL mi (gu m 148 25 v) fr to v va S out o sd := rL_w h (by decide) hv
theorem rL_va (h : rL mi m fr to so va S out o sd) {v : Int} (hv : rng v) : rL mi (gu m 148 26 v) fr to so v S out o sd := rL_w h (by decide) hv
theorem rL_o (h : rL mi m fr to so va S out o sd) {v : Int} (hv : rng v) : rL mi (gu m 148 31 v) fr to so va S out v sd := rL_w h (by decide) hv
theorem rL_sd (h : rL mi m fr to so va S out o sd) {v : Int} (hv : rng v) : rL mi (gu m 148 32 v) fr to so va S out o v := rL_w h (by decide) hv
theorem rL_emit (h : rL mi m fr to so va S out o sd) {v : Int} (hv : rng v) {i : Nat} (hi : i = out.length) (hl : out.length < 120) : rL mi (gu (gu m 165 i v) 148 29 ((i : Int) + 1)) fr to so va S (out ++ [v]) o sd := by
  obtain ⟨h1, ⟨h2, h3⟩, ⟨a1, a2, a3, a4⟩, ⟨b1, b2, b3, b4⟩, h5, h6⟩ := h
  subst hi
  have e : ∀ c j : Nat, (c ≠ 165) → (c ≠ 148 ∨ j ≠ 29) → gu (gu m 165 out.length v) 148 29 ((out.length : Int) + 1) c j = m c j := fun c j q1 q2 => by rw [gu_ne q2, gu_other q1]
  refine ⟨gR32_gu (gR32_gu h1 hv) ⟨by omega, by omega⟩, ⟨fun c j q1 q2 q3 => by rw [e c j q2 (Or.inl q1)]; exact h2 c j q1 q2 q3, fun j q => by rw [e 148 j (by decide) (Or.inr (by omega))]; exact h3 j q⟩, ⟨by rw [e _ _ (by decide) (by decide)]; exact a1, by rw [e _ _ (by decide) (by decide)]; exact a2, by rw [e _ _ (by decide) (by decide)]; exact a3, by rw [e _ _ (by decide) (by decide)]; exact a4⟩, ⟨by rw [gu_self, List.length_append, List.length_singleton]; omega, by rw [e _ _ (by decide) (by decide)]; exact b2, by rw [e _ _ (by decide) (by decide)]; exact b3, by rw [e _ _ (by decide) (by decide)]; exact b4⟩, arR_app h5 (fun i hi => by rw [gu_other (by decide), gu_ne (Or.inr (by omega))]) (by rw [gu_other (by decide), gu_self]), stR_congr h6 (fun i _ => e _ _ (by decide) (Or.inl (by decide)))⟩
theorem rL_pend (h : rL mi m fr to so va S out o sd) {v : Int} (hv : rng v) {i : Nat} (hi : i = S.length) (hl : S.length < 120) : rL mi (gu (gu m 166 i v) 148 30 ((i : Int) + 1)) fr to so va (v :: S) out o sd := by
  obtain ⟨h1, ⟨h2, h3⟩, ⟨a1, a2, a3, a4⟩, ⟨b1, b2, b3, b4⟩, h5, h6⟩ := h
  subst hi
  have e : ∀ c j : Nat, (c ≠ 166) → (c ≠ 148 ∨ j ≠ 30) → gu (gu m 166 S.length v) 148 30 ((S.length : Int) + 1) c j = m c j := fun c j q1 q2 => by rw [gu_ne q2, gu_other q1]
  refine ⟨gR32_gu (gR32_gu h1 hv) ⟨by omega, by omega⟩, ⟨fun c j q1 q2 q3 => by rw [e c j q3 (Or.inl q1)]; exact h2 c j q1 q2 q3, fun j q => by rw [e 148 j (by decide) (Or.inr (by omega))]; exact h3 j q⟩, ⟨by rw [e _ _ (by decide) (by decide)]; exact a1, by rw [e _ _ (by decide) (by decide)]; exact a2, by rw [e _ _ (by decide) (by decide)]; exact a3, by rw [e _ _ (by decide) (by decide)]; exact a4⟩, ⟨by rw [e _ _ (by decide) (by decide)]; exact b1, by rw [gu_self, List.length_cons]; omega, by rw [e _ _ (by decide) (by decide)]; exact b3, by rw [e _ _ (by decide) (by decide)]; exact b4⟩, arR_congr h5 (fun i _ => e _ _ (by decide) (Or.inl (by decide))), ?_, stR_congr h6 (fun i hi => by rw [gu_other (by decide), gu_ne (Or.inr (by omega))])⟩
  rw [gu_other (by decide), gu_self]
theorem rL_pop {s : Int} (h : rL mi m fr to so va (s :: S) out o sd) {v : Int} (hv : v = S.length) (hl : S.length < 120) : rL mi (gu m 148 30 v) fr to so va S out o sd := by
  obtain ⟨h1, ⟨h2, h3⟩, ⟨a1, a2, a3, a4⟩, ⟨b1, b2, b3, b4⟩, h5, h6⟩ := h
  have e : ∀ c j : Nat, (c ≠ 148 ∨ j ≠ 30) → gu m 148 30 v c j = m c j := fun c j q2 => gu_ne q2
  exact ⟨gR32_gu h1 ⟨by omega, by omega⟩, ⟨fun c j q1 q2 q3 => by rw [e c j (Or.inl q1)]; exact h2 c j q1 q2 q3, fun j q => by rw [e 148 j (Or.inr (by omega))]; exact h3 j q⟩, ⟨by rw [e _ _ (by decide)]; exact a1, by rw [e _ _ (by decide)]; exact a2, by rw [e _ _ (by decide)]; exact a3, by rw [e _ _ (by decide)]; exact a4⟩, ⟨by rw [e _ _ (by decide)]; exact b1, by rw [gu_self]; exact hv, by rw [e _ _ (by decide)]; exact b3, by rw [e _ _ (by decide)]; exact b4⟩, arR_congr h5 (fun i _ => e _ _ (Or.inl (by decide))), stR_congr h6.2 (fun i hi => e _ _ (Or.inl (by decide)))⟩
end RLS
/-- the class as it reads: k the token, cc the code -/
def cL (mi m : Nat → Nat → Int) (k : Nat) (cc : List Int) (sd : Int) : Prop := gR32 m ∧ ((∀ c j : Nat, c ≠ 132 → c ≠ 133 → m c j = mi c j) ∧ m 132 0 = mi 132 0) ∧ (m 132 10 = k ∧ m 132 2 = sd ∧ m 132 3 = cc.length) ∧ arR (m 133) cc
section CLS
variable {mi m : Nat → Nat → Int} {k : Nat} {sd : Int} {cc : List Int}
theorem cL_at (h : cL mi m k cc sd) {v : Int} {k' : Nat} (hv : v = k') (hk : k' < 200) : cL mi (gu m 132 10 v) k' cc sd := by
  obtain ⟨h1, ⟨h2, h3⟩, ⟨a1, a2, a3⟩, h5⟩ := h
  exact ⟨gR32_gu h1 ⟨by omega, by omega⟩, ⟨fun c j q1 q2 => by rw [gu_other q1]; exact h2 c j q1 q2, by rw [gu_ne (by decide)]; exact h3⟩, ⟨by rw [gu_self]; exact hv, by rw [gu_ne (by decide)]; exact a2, by rw [gu_ne (by decide)]; exact a3⟩, arR_congr h5 (fun i _ => gu_other (by decide))⟩
theorem cL_sd (h : cL mi m k cc sd) {v : Int} (hv : rng v) : cL mi (gu m 132 2 v) k cc v := by
  obtain ⟨h1, ⟨h2, h3⟩, ⟨a1, a2, a3⟩, h5⟩ := h
  exact ⟨gR32_gu h1 hv, ⟨fun c j q1 q2 => by rw [gu_other q1]; exact h2 c j q1 q2, by rw [gu_ne (by decide)]; exact h3⟩, ⟨by rw [gu_ne (by decide)]; exact a1, by rw [gu_self], by rw [gu_ne (by decide)]; exact a3⟩, arR_congr h5 (fun i _ => gu_other (by decide))⟩
theorem cL_fa (h : cL mi m k cc sd) {v : Int} (hv : rng v) : cL mi (gu m 132 1 v) k cc sd := by
  obtain ⟨h1, ⟨h2, h3⟩, ⟨a1, a2, a3⟩, h5⟩ := h
  exact ⟨gR32_gu h1 hv, ⟨fun c j q1 q2 => by rw [gu_other q1]; exact h2 c j q1 q2, by rw [gu_ne (by decide)]; exact h3⟩, ⟨by rw [gu_ne (by decide)]; exact a1, by rw [gu_ne (by decide)]; exact a2, by rw [gu_ne (by decide)]; exact a3⟩, arR_congr h5 (fun i _ => gu_other (by decide))⟩
theorem cL_emit (h : cL mi m k cc sd) {v : Int} (hv : rng v) {i : Nat} (hi : i = cc.length) (hl : cc.length < 120) : cL mi (gu (gu m 133 i v) 132 3 ((i : Int) + 1)) k (cc ++ [v]) sd := by
  obtain ⟨h1, ⟨h2, h3⟩, ⟨a1, a2, a3⟩, h5⟩ := h
  subst hi
  have e : ∀ c j : Nat, (c ≠ 133) → (c ≠ 132 ∨ j ≠ 3) → gu (gu m 133 cc.length v) 132 3 ((cc.length : Int) + 1) c j = m c j := fun c j q1 q2 => by rw [gu_ne q2, gu_other q1]
  exact ⟨gR32_gu (gR32_gu h1 hv) ⟨by omega, by omega⟩, ⟨fun c j q1 q2 => by rw [e c j q2 (Or.inl q1)]; exact h2 c j q1 q2, by rw [e _ _ (by decide) (by decide)]; exact h3⟩, ⟨by rw [e _ _ (by decide) (by decide)]; exact a1, by rw [e _ _ (by decide) (by decide)]; exact a2, by rw [gu_self, List.length_append, List.length_singleton]; omega⟩, arR_app h5 (fun i hi => by rw [gu_other (by decide), gu_ne (Or.inr (by omega))]) (by rw [gu_other (by decide), gu_self])⟩
end CLS

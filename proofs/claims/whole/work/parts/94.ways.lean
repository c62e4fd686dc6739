/-! ===== plan: who is where, the gaps, how far apart ===== -/
theorem cntB_or (f g : Nat → Bool) : ∀ n, cntB (fun i => f i || g i) n ≤ cntB f n + cntB g n
  | 0 => Nat.le_refl _
  | n + 1 => by
    have ih := cntB_or f g n
    show cntB (fun i => f i || g i) n + (f n || g n).toNat ≤ cntB f n + (f n).toNat + (cntB g n + (g n).toNat)
    cases f n <;> cases g n <;> simp <;> omega
theorem gapN_add {T T' : Nat → Bool} {f w : Int} (hw : 1 ≤ w) (hT : ∀ n, n < 100 → T' n = (T n || decide (f ≤ n ∧ (n : Int) < f + w))) (hd : ∀ n : Nat, n < 100 → f ≤ (n : Int) → (n : Int) < f + w → T n = false) : gapN T ≤ gapN T' + (if w = 1 then 1 else 0) := by
  have key : ∀ i, i < 98 → (T i && !T (i + 1) && T (i + 2)) = true → (T' i && !T' (i + 1) && T' (i + 2)) = true ∨ (w = 1 ∧ (i : Int) + 1 = f) := fun i hi h => by
    rw [Bool.and_eq_true, Bool.and_eq_true, Bool.not_eq_true'] at h
    obtain ⟨⟨h1, h2⟩, h3⟩ := h
    rw [hT i (by omega), hT (i + 1) (by omega), hT (i + 2) (by omega), h1, h2, h3]
    by_cases c : f ≤ ((i + 1 : Nat) : Int) ∧ ((i + 1 : Nat) : Int) < f + w
    · right
      have a1 : ¬ (f ≤ i ∧ (i : Int) < f + w) := fun q => by rw [hd i (by omega) q.1 q.2] at h1; exact absurd h1 (by decide)
      have a2 : ¬ (f ≤ ((i + 2 : Nat) : Int) ∧ ((i + 2 : Nat) : Int) < f + w) := fun q => by rw [hd (i + 2) (by omega) q.1 q.2] at h3; exact absurd h3 (by decide)
      omega
    · left
      rw [decide_eq_false c]
      rfl
  unfold gapN
  by_cases c : w = 1
  · rw [if_pos c]
    have h1 : cntB (fun i => T i && !T (i + 1) && T (i + 2)) 98 ≤ cntB (fun i => (T' i && !T' (i + 1) && T' (i + 2)) || decide ((i : Int) + 1 = f)) 98 := cntB_mono (fun i hi h => by
      rcases key i hi h with q | q
      · show ((T' i && !T' (i + 1) && T' (i + 2)) || decide ((i : Int) + 1 = f)) = true
        rw [q]; rfl
      · show ((T' i && !T' (i + 1) && T' (i + 2)) || decide ((i : Int) + 1 = f)) = true
        rw [decide_eq_true q.2, Bool.or_true])
    have h2 := cntB_or (fun i => T' i && !T' (i + 1) && T' (i + 2)) (fun i => decide ((i : Int) + 1 = f)) 98
    have h3 : cntB (fun i => decide ((i : Int) + 1 = f)) 98 ≤ 1 := cntB_one (fun p q _ _ a b => by
      have a := of_decide_eq_true a
      have b := of_decide_eq_true b
      omega)
    omega
  · rw [if_neg c]
    have h1 : cntB (fun i => T i && !T (i + 1) && T (i + 2)) 98 ≤ cntB (fun i => T' i && !T' (i + 1) && T' (i + 2)) 98 := cntB_mono (fun i hi h => by
      rcases key i hi h with q | q
      · exact q
      · exact absurd q.1 c)
    omega
def oUp (on : Nat → Int) (a : Nat) (p : Int) : Nat → Int := fun b => if b = a then p else on b
theorem oUp_a (on : Nat → Int) (a : Nat) (p : Int) : oUp on a p a = p := if_pos rfl
theorem oUp_n (on : Nat → Int) {a b : Nat} (p : Int) (h : ¬ b = a) : oUp on a p b = on b := if_neg h
def oTk (mi : Nat → Nat → Int) (on : Nat → Int) (p : Int) (n : Nat) : Nat → Bool
  | 0 => false
  | k + 1 => decide (on k = p ∧ mOf mi k 4 ≤ n ∧ (n : Int) < mOf mi k 4 + mOf mi k 5) || oTk mi on p n k
def oG (mi : Nat → Nat → Int) (on : Nat → Int) (N : Nat) (p : Int) : Nat := gapN (fun n => oTk mi on p n N)
def oGs (mi : Nat → Nat → Int) (on : Nat → Int) (N : Nat) : Nat → Int
  | 0 => 0
  | p + 1 => oGs mi on N p + oG mi on N p
def oFr (mi : Nat → Nat → Int) (on : Nat → Int) (N a : Nat) (p : Int) : Prop := ∀ b : Nat, b < N → ¬ b = a → on b = p → mMeet mi a b = 0
def oW (mi : Nat → Nat → Int) (on : Nat → Int) (a : Nat) : Int := if 0 ≤ mOf mi a 7 ∧ 0 ≤ on a ∧ 0 ≤ on (mOf mi a 7).toNat then mFar mi (on a) (on (mOf mi a 7).toNat) else 0
def oA (mi : Nat → Nat → Int) (on : Nat → Int) : Nat → Int
  | 0 => 0
  | a + 1 => oA mi on a + oW mi on a
def oWi (mi : Nat → Nat → Int) (a b : Nat) : Int := (if mOf mi a 7 = b then 1 else 0) + (if mOf mi b 7 = a then 1 else 0)
def oY1 (mi : Nat → Nat → Int) (on : Nat → Int) (a : Nat) (p : Int) (b : Nat) : Int := if ¬ b = a ∧ 0 ≤ on b then oWi mi a b * mFar mi p (on b) else 0
def oY (mi : Nat → Nat → Int) (on : Nat → Int) (a : Nat) (p : Int) : Nat → Int
  | 0 => 0
  | b + 1 => oY mi on a p b + oY1 mi on a p b
section OW
variable {mi : Nat → Nat → Int} {on : Nat → Int}
theorem oTk_iff (p : Int) (n : Nat) : ∀ k : Nat, oTk mi on p n k = true ↔ ∃ b : Nat, b < k ∧ on b = p ∧ mOf mi b 4 ≤ n ∧ (n : Int) < mOf mi b 4 + mOf mi b 5
  | 0 => ⟨fun h => absurd h (by show ¬ false = true; decide), fun ⟨b, hb, _⟩ => by omega⟩
  | k + 1 => by
    have ih := oTk_iff p n k
    show (decide (on k = p ∧ mOf mi k 4 ≤ n ∧ (n : Int) < mOf mi k 4 + mOf mi k 5) || oTk mi on p n k) = true ↔ _
    rw [Bool.or_eq_true, decide_eq_true_eq, ih]
    constructor
    · rintro (h | ⟨b, hb, h⟩)
      · exact ⟨k, by omega, h⟩
      · exact ⟨b, by omega, h⟩
    · rintro ⟨b, hb, h⟩
      by_cases e : b = k
      · subst e; exact Or.inl h
      · exact Or.inr ⟨b, by omega, h⟩
theorem oTk_up {N a : Nat} {p q : Int} (ha : a < N) (hn : on a < 0) (hq : 0 ≤ q) (n : Nat) : oTk mi (oUp on a p) q n N = (oTk mi on q n N || (decide (q = p) && decide (mOf mi a 4 ≤ n ∧ (n : Int) < mOf mi a 4 + mOf mi a 5))) := by
  rw [Bool.eq_iff_iff, Bool.or_eq_true, oTk_iff, oTk_iff, Bool.and_eq_true, decide_eq_true_eq, decide_eq_true_eq]
  constructor
  · rintro ⟨b, hb, h1, h2⟩
    by_cases e : b = a
    · subst e
      rw [oUp_a] at h1
      exact Or.inr ⟨h1.symm, h2⟩
    · rw [oUp_n _ _ e] at h1
      exact Or.inl ⟨b, hb, h1, h2⟩
  · rintro (⟨b, hb, h1, h2⟩ | ⟨h1, h2⟩)
    · exact ⟨b, hb, by rw [oUp_n _ _ (fun e => by subst e; omega)]; exact h1, h2⟩
    · exact ⟨a, ha, by rw [oUp_a]; exact h1.symm, h2⟩
theorem oG_up {N a : Nat} {p q : Int} (ha : a < N) (hn : on a < 0) (hq : 0 ≤ q) (hne : ¬ q = p) : oG mi (oUp on a p) N q = oG mi on N q := by
  unfold oG
  congr 1
  funext n
  rw [oTk_up ha hn hq, decide_eq_false hne, Bool.false_and, Bool.or_false]
theorem oGs_up {N a : Nat} {p : Int} (ha : a < N) (hn : on a < 0) (p0 : 0 ≤ p) : ∀ k : Nat, oGs mi (oUp on a p) N k = oGs mi on N k + (if p < k then (oG mi (oUp on a p) N p : Int) - oG mi on N p else 0)
  | 0 => by rw [if_neg (by omega)]; rfl
  | k + 1 => by
    have ih := oGs_up ha hn p0 k
    show oGs mi (oUp on a p) N k + oG mi (oUp on a p) N k = oGs mi on N k + oG mi on N k + _
    by_cases e : (k : Int) = p
    · rw [ih, if_neg (by omega), if_pos (by omega), e]; omega
    · rw [ih, oG_up ha hn (q := k) (by omega) e]
      by_cases c : p < k
      · rw [if_pos c, if_pos (by omega)]; omega
      · rw [if_neg c, if_neg (by omega)]; omega
theorem oG_low {N a : Nat} {p : Int} (ha : a < N) (hn : on a < 0) (p0 : 0 ≤ p) (hw : 1 ≤ mOf mi a 5) (hf : oFr mi on N a p) : oG mi on N p ≤ oG mi (oUp on a p) N p + (if mOf mi a 5 = 1 then 1 else 0) := by
  refine gapN_add (f := mOf mi a 4) hw (fun n _ => ?_) (fun n _ h1 h2 => ?_)
  · show oTk mi (oUp on a p) p n N = _
    rw [oTk_up ha hn p0, decide_eq_true rfl, Bool.true_and]
  · show oTk mi on p n N = false
    rw [Bool.eq_false_iff]
    intro h
    obtain ⟨b, hb, c1, c2, c3⟩ := (oTk_iff p n N).mp h
    have := hf b hb (fun e => by subst e; omega) c1
    exact b2_neg this ⟨by omega, by omega⟩
theorem absI_neg (x : Int) : absI (-x) = absI x := by unfold absI; split <;> split <;> omega
theorem mFar_sym (p q : Int) : mFar mi p q = mFar mi q p := by
  unfold mFar
  rw [show mPx mi p - mPx mi q = -(mPx mi q - mPx mi p) by omega, show mPi mi p 1 - mPi mi q 1 = -(mPi mi q 1 - mPi mi p 1) by omega, absI_neg, absI_neg]
theorem mFar_self (p : Int) : mFar mi p p = 0 := by unfold mFar absI; simp
/-- the two halves of the ways: whom it wishes, who wishes it -/
def oYa (mi : Nat → Nat → Int) (on : Nat → Int) (a : Nat) (p : Int) : Nat → Int
  | 0 => 0
  | b + 1 => oYa mi on a p b + if (¬ b = a ∧ 0 ≤ on b) ∧ mOf mi a 7 = b then mFar mi p (on b) else 0
def oYb (mi : Nat → Nat → Int) (on : Nat → Int) (a : Nat) (p : Int) : Nat → Int
  | 0 => 0
  | b + 1 => oYb mi on a p b + if (¬ b = a ∧ 0 ≤ on b) ∧ mOf mi b 7 = a then mFar mi p (on b) else 0
theorem oY_ab (a : Nat) (p : Int) : ∀ k, oY mi on a p k = oYa mi on a p k + oYb mi on a p k
  | 0 => rfl
  | k + 1 => by
    have ih := oY_ab a p k
    simp only [oY, oYa, oYb, oY1, oWi]
    rw [ih]
    by_cases c : ¬ k = a ∧ 0 ≤ on k
    · rw [if_pos c]
      by_cases c1 : mOf mi a 7 = k
      · by_cases c2 : mOf mi k 7 = a
        · rw [if_pos c1, if_pos c2, if_pos ⟨c, c1⟩, if_pos ⟨c, c2⟩]; omega
        · rw [if_pos c1, if_neg c2, if_pos ⟨c, c1⟩, if_neg (fun q => c2 q.2)]; omega
      · by_cases c2 : mOf mi k 7 = a
        · rw [if_neg c1, if_pos c2, if_neg (fun q => c1 q.2), if_pos ⟨c, c2⟩]; omega
        · rw [if_neg c1, if_neg c2, if_neg (fun q => c1 q.2), if_neg (fun q => c2 q.2)]; omega
    · rw [if_neg c, if_neg (fun q => c q.1), if_neg (fun q => c q.1)]; omega
theorem oYa_at (a : Nat) (p : Int) : ∀ k : Nat, oYa mi on a p k = if 0 ≤ mOf mi a 7 ∧ mOf mi a 7 < k ∧ ¬ mOf mi a 7 = a ∧ 0 ≤ on (mOf mi a 7).toNat then mFar mi p (on (mOf mi a 7).toNat) else 0
  | 0 => by rw [if_neg (by omega)]; rfl
  | k + 1 => by
    have ih := oYa_at a p k
    show oYa mi on a p k + _ = _
    rw [ih]
    by_cases e : mOf mi a 7 = k
    · rw [if_neg (by omega), show (mOf mi a 7).toNat = k by omega]
      by_cases c : ¬ k = a ∧ 0 ≤ on k
      · rw [if_pos ⟨c, e⟩, if_pos (by omega)]; omega
      · rw [if_neg (fun q => c q.1), if_neg (by omega)]; omega
    · rw [if_neg (c := (¬ k = a ∧ 0 ≤ on k) ∧ mOf mi a 7 = k) (fun q => e q.2), Int.add_zero]
      by_cases c : 0 ≤ mOf mi a 7 ∧ mOf mi a 7 < k ∧ ¬ mOf mi a 7 = a ∧ 0 ≤ on (mOf mi a 7).toNat
      · rw [if_pos c, if_pos (by omega)]
      · rw [if_neg c, if_neg (by omega)]
theorem oA_b (a : Nat) (p : Int) (hn : on a < 0) (p0 : 0 ≤ p) : ∀ k : Nat, oA mi (oUp on a p) k = oA mi on k + oYb mi on a p k + (if a < k then oW mi (oUp on a p) a else 0)
  | 0 => by rw [if_neg (by omega)]; rfl
  | k + 1 => by
    have ih := oA_b a p hn p0 k
    show oA mi (oUp on a p) k + oW mi (oUp on a p) k = oA mi on k + oW mi on k + (oYb mi on a p k + _) + _
    rw [ih]
    by_cases e : k = a
    · subst e
      have h0 : oW mi on k = 0 := if_neg (by omega)
      rw [if_neg (by omega), if_neg (by omega), if_pos (by omega), h0]; omega
    · have hk : (if a < k + 1 then oW mi (oUp on a p) a else 0) = (if a < k then oW mi (oUp on a p) a else 0) := by
        by_cases c : a < k
        · rw [if_pos c, if_pos (by omega)]
        · rw [if_neg c, if_neg (by omega)]
      rw [hk]
      have h1 : oW mi (oUp on a p) k = oW mi on k + (if (¬ k = a ∧ 0 ≤ on k) ∧ mOf mi k 7 = a then mFar mi p (on k) else 0) := by
        unfold oW
        rw [oUp_n _ _ e]
        by_cases c : mOf mi k 7 = a
        · have ea : (mOf mi k 7).toNat = a := by omega
          rw [ea, oUp_a, if_neg (c := 0 ≤ mOf mi k 7 ∧ 0 ≤ on k ∧ 0 ≤ on a) (by omega)]
          by_cases c2 : 0 ≤ on k
          · rw [if_pos (by omega), if_pos ⟨⟨e, c2⟩, c⟩, mFar_sym]; omega
          · rw [if_neg (by omega), if_neg (fun q => c2 q.1.2)]; omega
        · rw [if_neg (c := (¬ k = a ∧ 0 ≤ on k) ∧ mOf mi k 7 = a) (fun q => c q.2), Int.add_zero]
          by_cases c3 : 0 ≤ mOf mi k 7
          · rw [oUp_n _ _ (show ¬ (mOf mi k 7).toNat = a by omega)]
          · rw [if_neg (fun q => c3 q.1), if_neg (fun q => c3 q.1)]
      omega
theorem oA_up {N a : Nat} {p : Int} (ha : a < N) (hn : on a < 0) (p0 : 0 ≤ p) (hN : mOf mi a 7 < N) : oA mi (oUp on a p) N = oA mi on N + oY mi on a p N := by
  rw [oA_b a p hn p0, if_pos ha, oY_ab, oYa_at]
  have : oW mi (oUp on a p) a = if 0 ≤ mOf mi a 7 ∧ mOf mi a 7 < N ∧ ¬ mOf mi a 7 = a ∧ 0 ≤ on (mOf mi a 7).toNat then mFar mi p (on (mOf mi a 7).toNat) else 0 := by
    unfold oW
    rw [oUp_a]
    by_cases e : mOf mi a 7 = a
    · have ea : (mOf mi a 7).toNat = a := by omega
      rw [ea, oUp_a, if_neg (c := 0 ≤ mOf mi a 7 ∧ mOf mi a 7 < N ∧ ¬ mOf mi a 7 = a ∧ 0 ≤ on a) (by omega), mFar_self]
      split <;> rfl
    · by_cases c3 : 0 ≤ mOf mi a 7
      · rw [oUp_n _ _ (show ¬ (mOf mi a 7).toNat = a by omega)]
        by_cases c4 : 0 ≤ on (mOf mi a 7).toNat
        · rw [if_pos ⟨c3, p0, c4⟩, if_pos ⟨c3, hN, e, c4⟩]
        · rw [if_neg (fun q => c4 q.2.2), if_neg (fun q => c4 q.2.2.2)]
      · rw [if_neg (fun q => c3 q.1), if_neg (fun q => c3 q.1)]
  rw [this]
  omega
end OW

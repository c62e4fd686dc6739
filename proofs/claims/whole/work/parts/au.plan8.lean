/-! ===== plan: both sides alike ===== -/
def plScr (m mi : Nat → Nat → Int) : Prop := ∀ a k : Nat, a < 110 ∨ 126 < a → a ≠ 160 → a ≠ 161 → a ≠ 162 → (a ≠ 148 ∨ k ≠ 20) → m a k = mi a k
theorem grel_pl {a k : Nat} (hk : grel a k = true) : (a < 110 ∨ 126 < a) ∧ a ≠ 160 ∧ a ≠ 161 ∧ a ≠ 162 ∧ (a ≠ 148 ∨ k ≠ 20) := by
  have z : ∀ c : Nat, c = 160 ∨ c = 161 ∨ c = 162 → a ≠ c := fun c hc e => by
    subst e
    rcases hc with e | e | e <;> subst e <;> revert hk <;> unfold grel <;> simp
  refine ⟨?_, z _ (by decide), z _ (by decide), z _ (by decide), ?_⟩
  · by_cases e : a < 110 ∨ 126 < a
    · exact e
    · exfalso
      have : a = 110 ∨ a = 111 ∨ a = 112 ∨ a = 113 ∨ a = 114 ∨ a = 115 ∨ a = 116 ∨ a = 117 ∨ a = 118 ∨ a = 119 ∨ a = 120 ∨ a = 121 ∨ a = 122 ∨ a = 123 ∨ a = 124 ∨ a = 125 ∨ a = 126 := by omega
      rcases this with e | e | e | e | e | e | e | e | e | e | e | e | e | e | e | e | e <;> subst e <;> revert hk <;> unfold grel <;> simp
  · by_cases e : a = 148
    · subst e
      by_cases e2 : k = 20
      · subst e2
        exfalso
        revert hk
        unfold grel
        simp
      · exact Or.inr e2
    · exact Or.inl e
theorem Inv.plS {t : Nat} {m mi : Nat → Nat → Int} {ml : Nat → Nat → Int64} (h : Inv t mi ml) (hR : gR32 m) (hm : plScr m mi) : Inv t m ml := h.fr (Nat.le_refl _) hR (fun a k hk => by
  have := grel_pl hk
  exact hm a k this.1 this.2.1 this.2.2.1 this.2.2.2.1 this.2.2.2.2) (fun _ _ _ => rfl)
theorem Inv.plN {t : Nat} {mi mF : Nat → Nat → Int} {ml ml1 : Nat → Nat → Int64} {mem : Nat → Nat} {z : Nat} {e : Nat → Int} (h : Inv t mi ml) (hR : gR32 mF) (hmem : ∀ i, i < z → (mem i : Int) < mi 148 6)
    (hA : ∀ a k : Nat, a < 110 ∨ 126 < a → a ≠ 152 → a ≠ 160 → a ≠ 161 → a ≠ 162 → (a ≠ 148 ∨ k ≠ 20) → (∀ i, i < z → ¬ (a = 24 + mem i ∧ k = 8)) → mF a k = mi a k)
    (hB : ∀ i, i < z → mF (24 + mem i) 8 = e i) (hC : ∀ j : Nat, (∀ i, i < z → j ≠ 12 * mem i + 6) → mF 152 j = mi 152 j) (hD : ∀ i, i < z → mF 152 (12 * mem i + 6) = e i) (hr : ∀ i, i < z → -1 ≤ e i ∧ e i < mi 148 2)
    (hl : ∀ a k : Nat, a ≠ 108 → a ≠ 109 → ml1 a k = ml a k) (hdj : ∀ i, i < z → 0 ≤ e i → ∀ b : Nat, (b : Int) < mi 148 6 → ¬ b = mem i → mOf mF b 6 = e i → mMeet mi (mem i) b = 0) : Inv (t + 1) mF ml1 := by
  obtain ⟨mC, hC1, hC2⟩ : ∃ mC : Nat → Nat → Int, (∀ a k : Nat, ((24 ≤ a ∧ a < 48) ∨ a = 152) → mC a k = mi a k) ∧ ∀ a k : Nat, ¬ ((24 ≤ a ∧ a < 48) ∨ a = 152) → mC a k = mF a k := ⟨fun a k => if (24 ≤ a ∧ a < 48) ∨ a = 152 then mi a k else mF a k, fun a k q => if_pos q, fun a k q => if_neg q⟩
  have b6 : 0 ≤ mi 148 6 ∧ mi 148 6 ≤ 24 := h.2.1.1.2.2.2.2.2.2.1
  have bq : 0 ≤ mi 148 2 ∧ mi 148 2 ≤ 12 := h.2.1.1.2.2.2.2.2.1
  have hRC : gR32 mC := fun a k => by
    by_cases q : (24 ≤ a ∧ a < 48) ∨ a = 152
    · rw [hC1 a k q]; exact h.1 a k
    · rw [hC2 a k q]; exact hR a k
  have hIC : Inv t mC ml := h.plS hRC (fun a k q1 q2 q3 q4 q5 => by
    by_cases q : (24 ≤ a ∧ a < 48) ∨ a = 152
    · exact hC1 a k q
    · rw [hC2 a k q]
      exact hA a k q1 (by omega) q2 q3 q4 q5 (fun i hi w => by have := hmem i hi; omega))
  have eqo : ∀ a k : Nat, ¬ ((24 ≤ a ∧ a < 48) ∨ a = 152) → mF a k = mC a k := fun a k q => (hC2 a k q).symm
  have s0 : ∀ k, sg mF 0 k = sg mC 0 k := sg0 (fun k => eqo 148 k (by omega))
  have s1 : ∀ k, sg mF 1 k = sg mC 1 k := fun k => eqo 149 k (by omega)
  have s2 : ∀ k, sg mF 2 k = sg mC 2 k := fun k => eqo 150 k (by omega)
  have s3 : ∀ k, sg mF 3 k = sg mC 3 k := fun k => eqo 151 k (by omega)
  have s5 : ∀ k, sg mF 5 k = sg mC 5 k := fun k => eqo 153 k (by omega)
  have s6 : ∀ k, sg mF 6 k = sg mC 6 k := fun k => eqo 154 k (by omega)
  have s7 : ∀ k, sg mF 7 k = sg mC 7 k := fun k => eqo 155 k (by omega)
  have s8 : ∀ k, sg mF 8 k = sg mC 8 k := fun k => eqo 156 k (by omega)
  have s9 : ∀ k, sg mF 9 k = sg mC 9 k := fun k => eqo 157 k (by omega)
  have s10 : ∀ k, sg mF 10 k = sg mC 10 k := fun k => eqo 158 k (by omega)
  have n3 : sg mF 0 3 = mi 148 6 := hA 148 6 (by decide) (by decide) (by decide) (by decide) (by decide) (by decide) (fun i hi w => by omega)
  have n2 : sg mF 0 2 = mi 148 2 := hA 148 2 (by decide) (by decide) (by decide) (by decide) (by decide) (by decide) (fun i hi w => by omega)
  obtain ⟨r1, r2, -, -, r5, r6, r7, r8⟩ := hIC.2.1
  have c2_ : sg mC 0 2 ≤ 12 := r1.2.2.2.2.2.1.2
  have vo : ∀ (a w : Int), 0 ≤ a → 0 ≤ w → w < 12 → w ≠ 6 → vOf (sg mF) a w = vOf (sg mi) a w := fun a w a0 w0 w1 hw => hC _ (fun i _ => by omega)
  have von : ∀ a : Int, 0 ≤ a → (∀ i, i < z → ¬ (mem i : Int) = a) → vOf (sg mF) a 6 = vOf (sg mi) a 6 := fun a a0 hn => hC _ (fun i hi w => hn i hi (by omega))
  have vom : ∀ i, i < z → vOf (sg mF) (mem i) 6 = e i := fun i hi => by
    show mF 152 (12 * ((mem i : Nat) : Int) + 6).toNat = _
    rw [show (12 * ((mem i : Nat) : Int) + 6).toNat = 12 * mem i + 6 by omega]
    exact hD i hi
  refine hIC.live (by omega) hR (fun a k q => eqo a k (by omega)) (fun a k q1 q2 => hl a k (by omega) (by omega)) ⟨r1.fr (by omega) (fun k => eqo 1 k (by omega)) s0, r2.fr (by omega) (s0 2) c2_ (fun d k hd => eqo _ k (by omega)) s1 s2 s3, fun a a0 a1 => ?_, fun a b a0 a1 b0 b1 hne q0 q1 => ?_, r5.fr (fun k => eqo 4 k (by omega)) s5, r6.fr (by rw [s0 3]; exact Int.le_refl _) (fun k => eqo 5 k (by omega)) s8, r7.fr (fun l k hl2 => ⟨eqo _ k (by omega), eqo _ k (by omega)⟩) s9 s10, r8.fr (eqo 7 0 (by omega)) (s0 4) (fun k => eqo 8 k (by omega)) (fun k => eqo 9 k (by omega)) s6 s7⟩
  · rw [n3] at a1
    obtain ⟨p1, p2, p3, p4, p5⟩ := h.2.1.2.2.1 a a0 a1
    have hcl : ∀ k : Nat, (∀ i, i < z → ¬ ((mem i : Int) = a ∧ k = 8)) → mF (1 + 23 + a.toNat) k = mi (1 + 23 + a.toNat) k := fun k hk => hA _ _ (by omega) (by omega) (by omega) (by omega) (by omega) (by omega) (fun i hi w => hk i hi (by omega))
    refine ⟨fun w hw => ?_, fun w hw hw2 => ?_, ?_, ?_, ?_⟩
    · rw [hcl w (fun i hi q => by omega), vo a w a0 (by omega) (by omega) (by omega)]
      exact p1 w hw
    · by_cases e6 : w = 6
      · subst e6
        by_cases hm : ∃ i, i < z ∧ (mem i : Int) = a
        · obtain ⟨i, hi, rfl⟩ := hm
          show mF (1 + 23 + ((mem i : Nat) : Int).toNat) (6 + 2) = vOf (sg mF) _ ((6 : Nat) : Int)
          rw [show 1 + 23 + ((mem i : Nat) : Int).toNat = 24 + mem i by omega, hB i hi]
          exact (vom i hi).symm
        · rw [hcl (6 + 2) (fun i hi q => hm ⟨i, hi, q.1⟩)]
          rw [show vOf (sg mF) a ((6 : Nat) : Int) = vOf (sg mi) a ((6 : Nat) : Int) from von a a0 (fun i hi q => hm ⟨i, hi, q⟩)]
          exact p2 6 hw hw2
      · rw [hcl (w + 2) (fun i hi q => by omega), vo a w a0 (by omega) (by omega) (by omega)]
        exact p2 w hw hw2
    · have hon : -2 ≤ vOf (sg mF) a 6 ∧ vOf (sg mF) a 6 < mi 148 2 := by
        by_cases hm : ∃ i, i < z ∧ (mem i : Int) = a
        · obtain ⟨i, hi, rfl⟩ := hm
          rw [vom i hi]
          have := hr i hi
          omega
        · rw [von a a0 (fun i hi q => hm ⟨i, hi, q⟩)]
          exact p3.2.2.2.2.2.2.2.1
      unfold PVs at p3 ⊢
      rw [vo a 0 a0 (by decide) (by decide) (by decide), vo a 1 a0 (by decide) (by decide) (by decide), vo a 2 a0 (by decide) (by decide) (by decide), vo a 3 a0 (by decide) (by decide) (by decide), vo a 4 a0 (by decide) (by decide) (by decide), vo a 5 a0 (by decide) (by decide) (by decide), vo a 7 a0 (by decide) (by decide) (by decide), vo a 8 a0 (by decide) (by decide) (by decide), vo a 9 a0 (by decide) (by decide) (by decide), vo a 10 a0 (by decide) (by decide) (by decide), vo a 11 a0 (by decide) (by decide) (by decide), n2, n3]
      obtain ⟨x1, x2, x3, x4, x5, x6, x7, x8, x9⟩ := p3
      exact ⟨x1, x2, x3, x4, x5, x6, x7, hon, x9⟩
    · rw [hl _ _ (by omega) (by omega), vo a 4 a0 (by decide) (by decide) (by decide), vo a 5 a0 (by decide) (by decide) (by decide)]
      exact p4
    · rw [hl _ _ (by omega) (by omega), vo a 4 a0 (by decide) (by decide) (by decide), vo a 5 a0 (by decide) (by decide) (by decide)]
      exact p5
  · rw [n3] at a1 b1
    rw [vo a 4 a0 (by decide) (by decide) (by decide), vo a 5 a0 (by decide) (by decide) (by decide), vo b 4 b0 (by decide) (by decide) (by decide), vo b 5 b0 (by decide) (by decide) (by decide)]
    have key : ∀ (i : Nat) (c : Int), i < z → 0 ≤ c → c < mi 148 6 → ¬ (mem i : Int) = c → 0 ≤ e i → vOf (sg mF) c 6 = e i → vOf (sg mi) (mem i) 4 + vOf (sg mi) (mem i) 5 ≤ vOf (sg mi) c 4 ∨ vOf (sg mi) c 4 + vOf (sg mi) c 5 ≤ vOf (sg mi) (mem i) 4 := fun i c hi c0 c1 hn he hc => by
      have h9 := hdj i hi he c.toNat (by omega) (fun w => hn (by omega)) (by rw [show ((c.toNat : Nat) : Int) = c by omega]; exact hc)
      rw [show ((c.toNat : Nat) : Int) = c by omega] at h9
      have h8 : ¬ (mOf mi (mem i) 4 < mOf mi c 4 + mOf mi c 5 ∧ mOf mi c 4 < mOf mi (mem i) 4 + mOf mi (mem i) 5) := fun w => (mMeet_iff _ _).mpr w h9
      show mOf mi (mem i) 4 + mOf mi (mem i) 5 ≤ mOf mi c 4 ∨ mOf mi c 4 + mOf mi c 5 ≤ mOf mi (mem i) 4
      omega
    by_cases hma : ∃ i, i < z ∧ (mem i : Int) = a
    · obtain ⟨i, hi, rfl⟩ := hma
      rw [vom i hi] at q0 q1
      exact key i b hi b0 b1 hne q0 q1.symm
    · by_cases hmb : ∃ i, i < z ∧ (mem i : Int) = b
      · obtain ⟨i, hi, rfl⟩ := hmb
        have hvi := vom i hi
        have := key i a hi a0 a1 (fun w => hne w.symm) (by omega) (by omega)
        omega
      · rw [von a a0 (fun i hi q => hma ⟨i, hi, q⟩)] at q0 q1
        rw [von b b0 (fun i hi q => hmb ⟨i, hi, q⟩)] at q1
        exact h.2.1.2.2.2.1 a b a0 a1 b0 b1 hne q0 q1

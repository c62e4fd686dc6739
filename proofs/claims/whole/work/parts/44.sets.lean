/-! ===== one field of a party, of a pitch, is set on both sides ===== -/
theorem gu_comm {α : Type} {f : Nat → Nat → α} {a k b j : Nat} {v w : α} (h : a ≠ b) : gu (gu f a k v) b j w = gu (gu f b j w) a k v := by
  funext c l
  simp only [gu_eq]
  by_cases h1 : c = b ∧ l = j
  · have h2 : ¬ (c = a ∧ l = k) := fun q => h (q.1.symm.trans h1.1)
    simp only [h1, and_self, if_true]
    rw [if_neg (fun q => h2 ⟨h1.1.trans q.1, h1.2.trans q.2⟩)]
  · rw [if_neg h1]
    by_cases h2 : c = a ∧ l = k
    · rw [if_pos h2, if_pos h2]
    · rw [if_neg h2, if_neg h2, if_neg h1]
section ST
variable {t t' s : Nat} {mi mi' σ σ' : Nat → Nat → Int} {ml : Nat → Nat → Int64}
theorem Rsc.fr (h : Rsc t s mi σ) (ht : t ≤ t') (h1 : ∀ k, mi' s k = mi s k) (h2 : ∀ k, σ' 0 k = σ 0 k) : Rsc t' s mi' σ' := by
  obtain ⟨c0, c1, c2, c3, c4, c5, c6, c7⟩ := h
  unfold Rsc
  simp only [h1, h2]
  exact ⟨c0, c1, c2, c3, c4, c5, c6, by omega, by omega⟩
theorem sg0 (h : ∀ k, mi' 148 k = mi 148 k) : ∀ k, sg mi' 0 k = sg mi 0 k
  | 0 => h 0
  | 1 => h 1
  | 2 => h 2
  | 3 => h 6
  | _ + 4 => h 9
/-- all of the present site but what stands in two cells -/
theorem Rep.two {x y : Nat} (h : Rep t 1 mi ml (sg mi)) (ht : t ≤ t') (off : ∀ a k : Nat, a ≠ x → a ≠ y → mi' a k = mi a k) (hx : 1 < x ∧ x < 54) (hy : 149 ≤ y ∧ y ≤ 158)
    (hpi : (x < 12 ∨ 24 ≤ x) ∧ ¬ y = 149 ∧ ¬ y = 150 ∧ ¬ y = 151 ∨ Rpi t' 1 mi' (sg mi')) (hpa : (x < 24 ∨ 48 ≤ x) ∧ ¬ y = 152 ∨ Rpa 1 mi' ml (sg mi') ∧ Rdj (sg mi')) (hli : ¬ x = 4 ∧ ¬ y = 153 ∨ Rli 1 mi' (sg mi')) (hsp : ¬ x = 5 ∧ ¬ y = 156 ∨ Rsp 1 mi' (sg mi')) (hlw : x < 48 ∧ ¬ y = 157 ∧ ¬ y = 158 ∨ Rlw 1 mi' (sg mi')) (hwa : ¬ x = 7 ∧ ¬ x = 8 ∧ ¬ x = 9 ∧ ¬ y = 154 ∧ ¬ y = 155 ∨ Rwa 1 mi' (sg mi')) : Rep t' 1 mi' ml (sg mi') := by
  obtain ⟨rsc, rpi, rpa, rdj, rli, rsp, rlw, rwa⟩ := h
  have e0 : ∀ k, sg mi' 0 k = sg mi 0 k := sg0 (fun k => off 148 k (by omega) (by omega))
  have hb := rsc.2.2.2.2.2.1.2
  have hc := rsc.2.2.2.2.2.2.1.2
  refine ⟨rsc.fr ht (fun k => off 1 k (by omega) (by omega)) e0, ?_, ?_, ?_, ?_, ?_, ?_, ?_⟩
  · rcases hpi with ⟨a, b, c, d⟩ | g
    · exact rpi.fr ht (e0 2) hb (fun d k hd => off _ _ (by omega) (by omega)) (fun k => off 149 k (by omega) (by omega)) (fun k => off 150 k (by omega) (by omega)) (fun k => off 151 k (by omega) (by omega))
    · exact g
  · rcases hpa with ⟨a, b⟩ | g
    · exact rpa.fr (e0 3) (e0 2) hc (fun d k hd => off _ _ (by omega) (by omega)) (fun _ _ _ => rfl) (fun k => off 152 k (by omega) (by omega))
    · exact g.1
  · rcases hpa with ⟨a, b⟩ | g
    · exact rdj.fr (e0 3) (fun k => off 152 k (by omega) (by omega))
    · exact g.2
  · rcases hli with ⟨a, b⟩ | g
    · exact rli.fr (fun k => off 4 k (by omega) (by omega)) (fun k => off 153 k (by omega) (by omega))
    · exact g
  · rcases hsp with ⟨a, b⟩ | g
    · exact rsp.fr (by rw [e0 3]; exact Int.le_refl _) (fun k => off 5 k (by omega) (by omega)) (fun k => off 156 k (by omega) (by omega))
    · exact g
  · rcases hlw with ⟨a, b, c⟩ | g
    · exact rlw.fr (fun l k hl => ⟨off _ _ (by omega) (by omega), off _ _ (by omega) (by omega)⟩) (fun k => off 157 k (by omega) (by omega)) (fun k => off 158 k (by omega) (by omega))
    · exact g
  · rcases hwa with ⟨a, b, c, d, e⟩ | g
    · exact rwa.fr (off 7 0 (by omega) (by omega)) (e0 4) (fun k => off 8 k (by omega) (by omega)) (fun k => off 9 k (by omega) (by omega)) (fun k => off 154 k (by omega) (by omega)) (fun k => off 155 k (by omega) (by omega))
    · exact g
end ST
/-- party a's number w (6 to 11) is set to v on both sides -/
def stA (mi : Nat → Nat → Int) (a : Int) (w : Nat) (v : Int) : Nat → Nat → Int := gu (gu mi (24 + a.toNat) (w + 2) v) 152 (12 * a + w).toNat v
theorem stA_off {mi : Nat → Nat → Int} {a : Int} {w : Nat} {v : Int} (c k : Nat) (h1 : c ≠ 24 + a.toNat) (h2 : c ≠ 152) : stA mi a w v c k = mi c k := by unfold stA; rw [gu_other h2, gu_other h1]
theorem stA_vOf {mi : Nat → Nat → Int} {a : Int} {w : Nat} {v : Int} (a0 : 0 ≤ a) (hw : w < 12) (ha : a < 24) (b x : Int) (b0 : 0 ≤ b) (x0 : 0 ≤ x) (hx : x < 12) : vOf (sg (stA mi a w v)) b x = if b = a ∧ x = w then v else mOf mi b x := by
  show stA mi a w v 152 (12 * b + x).toNat = _
  unfold stA
  rw [gu_eq]
  by_cases e : b = a ∧ x = w
  · rw [if_pos e, if_pos ⟨rfl, by rw [e.1, e.2]⟩]
  · rw [if_neg e, if_neg (fun q => e (by have := q.2; omega))]
    exact gu_other (by omega)
theorem stA_PV {mi : Nat → Nat → Int} {a : Int} {w : Nat} {v : Int} (a0 : 0 ≤ a) (hw : w < 12) (ha : a < 24) {b : Int} (b0 : 0 ≤ b) (hb : PV mi b) (h : ¬ b = a ∨ (w = 7 ∧ -1 ≤ v ∧ v < mi 148 6) ∨ (w = 6 ∧ -2 ≤ v ∧ v < mi 148 2) ∨ (w = 8 ∧ -1 ≤ v ∧ v ≤ 299970) ∨ (w = 9 ∧ 0 ≤ v ∧ v ≤ 16777215) ∨ (w = 10 ∧ 0 ≤ v ∧ v ≤ 40) ∨ (w = 11 ∧ (v = 0 ∨ v = 1))) : PVs (sg (stA mi a w v)) b := by
  have e3 : sg (stA mi a w v) 0 3 = mi 148 6 := stA_off 148 6 (by omega) (by omega)
  have e2 : sg (stA mi a w v) 0 2 = mi 148 2 := stA_off 148 2 (by omega) (by omega)
  have ev := fun x x0 hx => stA_vOf (mi := mi) (v := v) a0 hw ha b x b0 x0 hx
  unfold PVs
  unfold PV at hb
  rw [e2, e3, ev 0 (by omega) (by omega), ev 1 (by omega) (by omega), ev 2 (by omega) (by omega), ev 3 (by omega) (by omega), ev 4 (by omega) (by omega), ev 5 (by omega) (by omega), ev 6 (by omega) (by omega), ev 7 (by omega) (by omega), ev 8 (by omega) (by omega), ev 9 (by omega) (by omega), ev 10 (by omega) (by omega), ev 11 (by omega) (by omega)]
  rcases h with h | h | h | h | h | h | h
  · simp only [h, false_and, if_false]
    exact hb
  all_goals
    obtain ⟨rfl, h⟩ := h
    refine ⟨?_, ?_, ?_, ?_, ?_, ?_, ?_, ?_, ?_, ?_, ?_, ?_, ?_⟩ <;> (repeat' split) <;> omega
theorem Rep.setA {t t' : Nat} {mi : Nat → Nat → Int} {ml : Nat → Nat → Int64} {a : Int} {w : Nat} {v : Int} (h : Rep t 1 mi ml (sg mi)) (ht : t ≤ t') (a0 : 0 ≤ a) (a1 : a < mi 148 6) (h6 : 6 ≤ w) (hw : w < 12) (hpv : ∀ b : Int, 0 ≤ b → b < mi 148 6 → PVs (sg (stA mi a w v)) b) (hdj : Rdj (sg (stA mi a w v))) : Rep t' 1 (stA mi a w v) ml (sg (stA mi a w v)) := by
  have hq : mi 148 6 ≤ 24 := h.1.2.2.2.2.2.2.1.2
  refine h.two (x := 24 + a.toNat) (y := 152) ht (fun c k h1 h2 => stA_off c k h1 h2) (by omega) (by omega) (Or.inl (by omega)) (Or.inr ⟨fun b b0 b1 => ?_, hdj⟩) (Or.inl (by omega)) (Or.inl (by omega)) (Or.inl (by omega)) (Or.inl (by omega))
  have b1 : b < mi 148 6 := by
    have e : sg (stA mi a w v) 0 3 = mi 148 6 := stA_off 148 6 (by omega) (by omega)
    rw [e] at b1
    exact b1
  obtain ⟨d1, d2, d3, d4, d5⟩ := h.2.2.1 b b0 b1
  have ev := fun x x0 hx => stA_vOf (mi := mi) (v := v) a0 hw (show a < 24 by omega) b x b0 x0 hx
  have ec : ∀ k, stA mi a w v (1 + 23 + b.toNat) k = if b = a ∧ k = w + 2 then v else mi (1 + 23 + b.toNat) k := fun k => by
    unfold stA
    rw [gu_other (by omega), gu_eq]
    by_cases e : b = a ∧ k = w + 2
    · rw [if_pos e, if_pos ⟨by rw [e.1], e.2⟩]
    · rw [if_neg e, if_neg (fun q => e ⟨by have := q.1; omega, q.2⟩)]
  refine ⟨fun x hx => ?_, fun x h6x hx => ?_, hpv b b0 b1, ?_, ?_⟩
  · rw [ec, ev x (by omega) (by omega), if_neg (by omega), if_neg (by omega)]
    exact d1 x hx
  · rw [ec, ev x (by omega) (by omega)]
    by_cases e : b = a ∧ x = w
    · rw [if_pos ⟨e.1, by omega⟩, if_pos ⟨e.1, by omega⟩]
    · rw [if_neg (fun q => e ⟨q.1, by omega⟩), if_neg (fun q => e ⟨q.1, by omega⟩)]
      exact d2 x h6x hx
  · rw [ev 4 (by omega) (by omega), ev 5 (by omega) (by omega), if_neg (by omega), if_neg (by omega)]
    exact d4
  · rw [ev 4 (by omega) (by omega), ev 5 (by omega) (by omega), if_neg (by omega), if_neg (by omega)]
    exact d5
/-- the number isn't where the party is: what is apart stays so -/
theorem stA_dj {mi : Nat → Nat → Int} {a : Int} {w : Nat} {v : Int} (a0 : 0 ≤ a) (h7 : 7 ≤ w) (hw : w < 12) (ha : a < 24) (h : Rdj (sg mi)) : Rdj (sg (stA mi a w v)) := by
  have e3 : sg (stA mi a w v) 0 3 = mi 148 6 := stA_off 148 6 (by omega) (by omega)
  intro b c b0 b1 c0 c1 hne
  rw [e3] at b1 c1
  have ev := fun b x b0 x0 hx => stA_vOf (mi := mi) (v := v) a0 hw ha b x b0 x0 hx
  rw [ev b 6 b0 (by omega) (by omega), ev c 6 c0 (by omega) (by omega), ev b 4 b0 (by omega) (by omega), ev c 4 c0 (by omega) (by omega), ev b 5 b0 (by omega) (by omega), ev c 5 c0 (by omega) (by omega), if_neg (by omega), if_neg (by omega), if_neg (by omega), if_neg (by omega), if_neg (by omega), if_neg (by omega)]
  exact h b c b0 b1 c0 c1 hne
theorem Inv.setA {t : Nat} {mi : Nat → Nat → Int} {ml : Nat → Nat → Int64} {a : Int} {w : Nat} {v : Int} (h : Inv t mi ml) {t' : Nat} (ht : t ≤ t') (a0 : 0 ≤ a) (a1 : a < mi 148 6) (h6 : 6 ≤ w) (hw : w < 12) (hrv : rng v) (hpv : ∀ b : Int, 0 ≤ b → b < mi 148 6 → PVs (sg (stA mi a w v)) b) (hdj : Rdj (sg (stA mi a w v))) : Inv t' (stA mi a w v) ml := by
  have hq : mi 148 6 ≤ 24 := h.2.1.1.2.2.2.2.2.2.1.2
  exact h.live ht (gR32_gu (gR32_gu h.1 hrv) hrv) (fun c k hk => stA_off c k (by omega) (by omega)) (fun _ _ _ _ => rfl) (h.2.1.setA ht a0 a1 h6 hw hpv hdj)

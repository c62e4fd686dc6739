/-! ===== law: both sides alike ===== -/
theorem vDep_congr {σ σ' : Nat → Nat → Int} {l : Nat} : ∀ k : Nat, (∀ i : Nat, i < k → σ' 10 (120 * l + i) = σ 10 (120 * l + i)) → vDep σ' l k = vDep σ l k
  | 0, _ => rfl
  | k + 1, h => by
    have ih := vDep_congr k (fun i hi => h i (by omega))
    have e : ∀ σ : Nat → Nat → Int, vDep σ l (k + 1) = if σ 10 (120 * l + ((k : Nat) : Int).toNat) = 30000 then vDep σ l k else if 20000 ≤ σ 10 (120 * l + ((k : Nat) : Int).toNat) then vDep σ l k - 1 else vDep σ l k + 1 := fun _ => rfl
    rw [e, e, ih, show ((k : Nat) : Int).toNat = k by omega, h k (by omega)]
def lawScr (m mi : Nat → Nat → Int) : Prop := ∀ a k : Nat, a ≠ 133 → a ≠ 135 → a ≠ 136 → a ≠ 137 → a ≠ 165 → a ≠ 166 → (a ≠ 132 ∨ k = 0) → (a ≠ 148 ∨ k < 23 ∨ 32 < k) → m a k = mi a k
theorem Inv.lawS {t : Nat} {m mi : Nat → Nat → Int} {ml : Nat → Nat → Int64} (h : Inv t mi ml) (hR : gR32 m) (hm : lawScr m mi) : Inv t m ml := h.fr (Nat.le_refl _) hR (fun a k hk => by
  have z : ∀ c : Nat, c = 133 ∨ c = 135 ∨ c = 136 ∨ c = 137 ∨ c = 165 ∨ c = 166 → a ≠ c := fun c hc e => by
    subst e
    rcases hc with e | e | e | e | e | e <;> subst e <;> revert hk <;> unfold grel <;> simp
  refine hm a k (z _ (by decide)) (z _ (by decide)) (z _ (by decide)) (z _ (by decide)) (z _ (by decide)) (z _ (by decide)) ?_ ?_
  · by_cases e : a = 132
    · subst e
      refine Or.inr ?_
      revert hk
      unfold grel
      simp
    · exact Or.inl e
  · by_cases e : a = 148
    · subst e
      refine Or.inr ?_
      by_cases q : k < 23 ∨ 32 < k
      · exact q
      · exfalso
        have : k = 23 ∨ k = 24 ∨ k = 25 ∨ k = 26 ∨ k = 27 ∨ k = 28 ∨ k = 29 ∨ k = 30 ∨ k = 31 ∨ k = 32 := by omega
        rcases this with e | e | e | e | e | e | e | e | e | e <;> subst e <;> revert hk <;> unfold grel <;> simp
    · exact Or.inl e) (fun _ _ _ => rfl)
theorem rT2.fr {mi m0 m1 : Nat → Nat → Int} {T : Nat} {b : Int} (h : rT2 m0 m1 T b) (hx : cXf mi m0) : (∀ a k : Nat, a ≠ 132 → a ≠ 133 → a ≠ 135 → a ≠ 136 → a ≠ 137 → m1 a k = mi a k) ∧ m1 132 0 = mi 132 0 := by
  have key : ∀ {k : Nat} {cc : List Int} {sd : Int}, cL m0 m1 k cc sd → (∀ a k : Nat, a ≠ 132 → a ≠ 133 → a ≠ 135 → a ≠ 136 → a ≠ 137 → m1 a k = mi a k) ∧ m1 132 0 = mi 132 0 := fun h1 => ⟨fun a k q1 q2 q3 q4 q5 => (h1.2.1.1 a k q1 q2).trans (hx.1 a k q1 q3 q4 q5), h1.2.1.2.trans (hx.2 0 (by decide))⟩
  rcases h with ⟨_, k, cc, sd, h1, _⟩ | ⟨_, kf, k, cc, sd, h1, _⟩
  · exact key h1
  · exact key h1
theorem getD_map {cc : List Int} {i : Nat} (hi : i < cc.length) : (cc.map tr).getD i 0 = tr (cc.getD i 0) := by
  rw [List.getD_eq_getElem?_getD, List.getElem?_map, List.getElem?_eq_getElem hi, List.getD_eq_getElem?_getD, List.getElem?_eq_getElem hi]
  rfl
/-- a law has been written on both sides -/
theorem Inv.lawN {t : Nat} {mi mF : Nat → Nat → Int} {ml : Nat → Nat → Int64} {L : Nat} {cc : List Int} (h : Inv t mi ml) (hL : L < 2) (hR : gR32 mF) (hp : pcs cc) (hlen : cc.length ≤ 120)
    (hF : ∀ a k : Nat, a ≠ 48 + 3 * L → a ≠ 49 + 3 * L → a ≠ 157 → a ≠ 158 → a ≠ 132 → a ≠ 133 → a ≠ 135 → a ≠ 136 → a ≠ 137 → a ≠ 148 → a ≠ 165 → a ≠ 166 → mF a k = mi a k)
    (h132 : mF 132 0 = 0) (h22 : mF 148 22 = 0) (h148 : ∀ k : Nat, k < 22 ∨ 32 < k → mF 148 k = mi 148 k)
    (h157 : mF 157 L = cc.length) (h157o : ∀ k : Nat, k ≠ L → mF 157 k = mi 157 k)
    (h158 : ∀ i : Nat, i < cc.length → mF 158 (120 * L + i) = tr (cc.getD i 0)) (h158o : ∀ j : Nat, j < 120 * L ∨ 120 * L + 120 ≤ j → mF 158 j = mi 158 j)
    (hc0 : mF (48 + 3 * L) 0 = 1) (hc1 : mF (48 + 3 * L) 1 = cc.length) (hcc : ∀ i : Nat, i < cc.length → mF (49 + 3 * L) i = cc.getD i 0) : Inv (t + 1) mF ml := by
  obtain ⟨mC, hC1, hC2⟩ : ∃ mC : Nat → Nat → Int, (∀ a k : Nat, (a = 48 + 3 * L ∨ a = 49 + 3 * L ∨ a = 157 ∨ a = 158) → mC a k = mi a k) ∧ ∀ a k : Nat, ¬ (a = 48 + 3 * L ∨ a = 49 + 3 * L ∨ a = 157 ∨ a = 158) → mC a k = mF a k := ⟨fun a k => if a = 48 + 3 * L ∨ a = 49 + 3 * L ∨ a = 157 ∨ a = 158 then mi a k else mF a k, fun a k q => if_pos q, fun a k q => if_neg q⟩
  have hRC : gR32 mC := fun a k => by
    by_cases q : a = 48 + 3 * L ∨ a = 49 + 3 * L ∨ a = 157 ∨ a = 158
    · rw [hC1 a k q]; exact h.1 a k
    · rw [hC2 a k q]; exact hR a k
  have hIC : Inv (t + 1) mC ml := (inv_wipe h).lawS hRC (fun a k q1 q2 q3 q4 q5 q6 q7 q8 => by
    by_cases q : a = 48 + 3 * L ∨ a = 49 + 3 * L ∨ a = 157 ∨ a = 158
    · rw [hC1 a k q, gu_other (by omega), gu_other (by omega)]
    · rw [hC2 a k q]
      by_cases e : a = 132
      · subst e
        obtain rfl : k = 0 := by omega
        rw [h132]
        rfl
      · by_cases e2 : a = 148
        · subst e2
          by_cases e3 : k = 22
          · subst e3
            rw [h22, gu_self]
          · rw [h148 k (by omega), gu_ne (Or.inr e3), gu_other (by decide)]
        · rw [gu_other e2, gu_other e]
          exact hF a k (by omega) (by omega) (by omega) (by omega) e q1 q2 q3 q4 e2 q5 q6)
  have eqo : ∀ a k : Nat, ¬ (a = 48 + 3 * L ∨ a = 49 + 3 * L ∨ a = 157 ∨ a = 158) → mF a k = mC a k := fun a k q => (hC2 a k q).symm
  have s0 : ∀ k, sg mF 0 k = sg mC 0 k := sg0 (fun k => eqo 148 k (by omega))
  have s1 : ∀ k, sg mF 1 k = sg mC 1 k := fun k => eqo 149 k (by omega)
  have s2 : ∀ k, sg mF 2 k = sg mC 2 k := fun k => eqo 150 k (by omega)
  have s3 : ∀ k, sg mF 3 k = sg mC 3 k := fun k => eqo 151 k (by omega)
  have s4 : ∀ k, sg mF 4 k = sg mC 4 k := fun k => eqo 152 k (by omega)
  have s5 : ∀ k, sg mF 5 k = sg mC 5 k := fun k => eqo 153 k (by omega)
  have s6 : ∀ k, sg mF 6 k = sg mC 6 k := fun k => eqo 154 k (by omega)
  have s7 : ∀ k, sg mF 7 k = sg mC 7 k := fun k => eqo 155 k (by omega)
  have s8 : ∀ k, sg mF 8 k = sg mC 8 k := fun k => eqo 156 k (by omega)
  have hrep := hIC.2.1
  obtain ⟨r1, r2, r3, r4, r5, r6, r7, r8⟩ := hrep
  have b2_ : sg mC 0 2 ≤ 12 := r1.2.2.2.2.2.1.2
  have b3_ : sg mC 0 3 ≤ 24 := r1.2.2.2.2.2.2.1.2
  refine hIC.live (Nat.le_refl _) hR (fun a k q => eqo a k (by omega)) (fun _ _ _ _ => rfl) ⟨r1.fr (Nat.le_refl _) (fun k => eqo 1 k (by omega)) s0, r2.fr (Nat.le_refl _) (s0 2) b2_ (fun d k hd => eqo _ k (by omega)) s1 s2 s3, r3.fr (s0 3) (s0 2) b3_ (fun d k hd => eqo _ k (by omega)) (fun _ _ _ => rfl) s4, r4.fr (s0 3) s4, r5.fr (fun k => eqo 4 k (by omega)) s5, r6.fr (by rw [s0 3]; exact Int.le_refl _) (fun k => eqo 5 k (by omega)) s8, ?_, r8.fr (eqo 7 0 (by omega)) (s0 4) (fun k => eqo 8 k (by omega)) (fun k => eqo 9 k (by omega)) s6 s7⟩
  have h9 : ∀ k, sg mF 9 k = mF 157 k := fun _ => rfl
  have h10 : ∀ k, sg mF 10 k = mF 158 k := fun _ => rfl
  have hld := law_dep hp (σ := sg mF) (l := L) (fun i hi => by rw [h10]; exact h158 i hi)
  intro l hl
  by_cases e : l = L
  · subst e
    rw [h9, h157, show 1 + 47 + 3 * l = 48 + 3 * l by omega, show 1 + 48 + 3 * l = 49 + 3 * l by omega, hc0, hc1]
    refine ⟨?_, by omega, fun _ => ⟨rfl, fun i hi => ?_, ?_⟩⟩
    · unfold b2
      rw [if_pos (by omega)]
    · rw [hcc i (by omega)]
      exact hld.1 i (by omega)
    · rw [show ((cc.length : Nat) : Int).toNat = cc.length by omega]
      exact hld.2.1
  · obtain ⟨d1, d2, d3⟩ := r7 l hl
    have c9 : ∀ k, k ≠ L → sg mF 9 k = sg mC 9 k := fun k hk => by show mF 157 k = mC 157 k; rw [hC1 157 k (by omega)]; exact h157o k hk
    have c10 : ∀ i : Nat, i < 120 → sg mF 10 (120 * l + i) = sg mC 10 (120 * l + i) := fun i hi => by show mF 158 _ = mC 158 _; rw [hC1 158 _ (by omega)]; exact h158o _ (by omega)
    rw [c9 l e, eqo (1 + 47 + 3 * l) 0 (by omega), eqo (1 + 47 + 3 * l) 1 (by omega)]
    refine ⟨d1, d2, fun w => ?_⟩
    obtain ⟨g1, g2, g3⟩ := d3 w
    refine ⟨g1, fun i hi => ?_, ?_⟩
    · rw [eqo (1 + 48 + 3 * l) i (by omega), c10 i (by omega), vDep_congr i (fun j hj => c10 j (by omega))]
      exact g2 i hi
    · rw [vDep_congr _ (fun j hj => c10 j (by omega))]
      exact g3
set_option maxHeartbeats 4000000 in
theorem op_law {G : gG} (hsz : G.2.2.2.2.2.2 = true) : gOp G Inv 119 204 1 := by
  intro t mi ml xs hlen hr ht hI
  match xs, hlen, hr with
  | [l], _, hr =>
    have hR := hI.1
    have r_l : rng l := hr l List.mem_cons_self
    have htp := hI.2.2.1
    have hz22 := htp.2.1
    have e0 := htp.1
    refine ⟨_, pC_law hsz (n := 399) (by decide) ml mi (by omega) (fun i hi => (by rw [(htp.2.2 i (by omega)).1]; exact (htp.2.2 i (by omega)).2)) hR hI.CV l r_l, ?_⟩
    rintro r M1 (⟨c, rfl, rfl⟩ | ⟨c, m0, m1, E, T, b, hXf, hB, h2, hca⟩)
    · have hm8 : ∀ a k : Nat, 148 ≤ a → (cFd mi 0) a k = mi a k := fun a k ha => gu_other (by omega)
      have hR1 : gR32 (cFd mi 0) := gR32_gu hR ⟨by have := hI.2.2.2.1 0 (by decide); omega, by have := hI.2.2.2.1 0 (by decide); omega⟩
      refine ⟨_, rfl, ⟨by decide, by decide⟩, _, _, rfl, _, pM_law hsz (n := 399) (by decide) ml (cFd mi 0) (by rw [hm8 148 22 (by decide)]; exact hz22) (fun i hi => (by rw [hm8 148 22 (by decide)] at hi; rw [hm8 164 i (by decide)]; exact (htp.2.2 i hi).2)) (fun _ => 0) (fun _ => 0) (fun _ => 0) (fun _ => 0) 0 l (fun w => absurd w c) hR1 (hI.SV.low hR1 hm8) r_l, ?_⟩
      rintro r2 M2 (⟨c2, rfl, rfl⟩ | ⟨c2, _⟩)
      · exact ⟨rfl, _, _, rfl, hI.find ht (by decide)⟩
      · exact absurd c2 c
    · have hf := h2.fr hXf
      have hbb := h2.b hB
      have n0 : m0 132 0 = mi 148 22 := (hXf.2 0 (by decide)).trans e0
      have hlx : ∀ m : Nat → Nat → Int, (∀ a k : Nat, 148 ≤ a → m a k = mi a k) → lexd (m 164) (m 148 22).toNat (m0 135) (m0 136) (m0 137) E T := fun m hm => by
        rw [hm 148 22 (by decide), ← n0]
        refine lexd_congr (fun j hj => ?_) hB.2.2
        rw [hm 164 j (by decide), hXf.1 134 j (by decide) (by decide) (by decide) (by decide)]
        exact (htp.2.2 j (by omega)).1.symm
      have hn9 : ∀ m : Nat → Nat → Int, (∀ a k : Nat, 148 ≤ a → m a k = mi a k) → (0 ≤ m 148 22 ∧ m 148 22 ≤ 120) ∧ ∀ i : Nat, (i : Int) < m 148 22 → 0 ≤ m 164 i ∧ m 164 i ≤ 255 := fun m hm => by
        rw [hm 148 22 (by decide)]
        exact ⟨hz22, fun i hi => by rw [hm 164 i (by decide)]; exact (htp.2.2 i hi).2⟩
      rcases hca with ⟨hb0, rfl, rfl⟩ | ⟨hb1, rfl, rfl⟩
      · have hfa := hbb.2.1 hb0
        have hm8 : ∀ a k : Nat, 148 ≤ a → (gu m1 132 0 0) a k = mi a k := fun a k ha => by rw [gu_other (by omega)]; exact hf.1 a k (by omega) (by omega) (by omega) (by omega) (by omega)
        have hR1 : gR32 (gu m1 132 0 0) := gR32_gu hbb.1 ⟨by decide, by decide⟩
        refine ⟨_, rfl, ⟨by omega, by omega⟩, _, _, rfl, _, pM_law hsz (n := 399) (by decide) ml (gu m1 132 0 0) (hn9 _ hm8).1 (hn9 _ hm8).2 (m0 135) (m0 136) (m0 137) E T l (fun _ => hlx _ hm8) hR1 (hI.SV.low hR1 hm8) r_l, ?_⟩
        rintro r2 M2 (⟨c2, _⟩ | ⟨_, m2, f0, ⟨fr, to, so, va, c5, hL5, h6⟩, hca2⟩)
        · exact absurd c c2
        · rcases h2 with ⟨w, _⟩ | ⟨_, kf, k9, cc, sd, hcl, hkf, hft, hsy⟩
          · omega
          · rw [hsy] at h6
            have hst := lexd_st hB.2.2 hkf
            have hf0 : f0 = m0 137 kf := by
              rcases h6 with ⟨kg, w1, w2, w3⟩ | ⟨w1, _⟩
              · rw [w3, Sum.inl.inj w1]
              · exact absurd w1 (by simp)
            rcases hca2 with ⟨w1, rfl, rfl⟩ | ⟨w1, _⟩
            · refine ⟨by rw [hf0, hft], _, _, rfl, (inv_wipe hI).lawS (gR32_gu hL5.1 ⟨by decide, by decide⟩) (fun a k q1 q2 q3 q4 q5 q6 q7 q8 => ?_)⟩
              by_cases e2 : a = 148
              · subst e2
                by_cases e3 : k = 22
                · subst e3
                  rw [gu_self, gu_self]
                · rw [gu_ne (Or.inr e3), gu_ne (Or.inr e3), hL5.2.1.2 k (by omega), gu_other (by decide), gu_other (by decide)]
                  exact hf.1 148 k (by decide) (by decide) (by decide) (by decide) (by decide)
              · rw [gu_other e2, gu_other e2, hL5.2.1.1 a k e2 q5 q6]
                by_cases e : a = 132
                · subst e
                  obtain rfl : k = 0 := by omega
                  rw [gu_self, gu_self]
                · rw [gu_other e, gu_other e]
                  exact hf.1 a k e q1 q2 q3 q4
            · exfalso
              omega
      · rcases h2 with ⟨_, k9, cc, sd, hcl, hpc, hcl9, hsd, hsy⟩ | ⟨w, _⟩
        · have hL2 : l.toNat < 2 := by omega
          have e3 : m1 132 3 = cc.length := hcl.2.2.1.2.2
          have e2 : m1 132 2 = sd := hcl.2.2.1.2.1
          have hcM : ∀ a k : Nat, a ≠ 132 → a ≠ 48 + 3 * l.toNat → a ≠ 49 + 3 * l.toNat → cLwM m1 l.toNat a k = m1 a k := fun a k q1 q2 q3 => by
            unfold cLwM
            rw [gcpy_off (Or.inl q3), gu_other q2, gu_other q2, gu_other q1]
          have hm8 : ∀ a k : Nat, 148 ≤ a → (cLwM m1 l.toNat) a k = mi a k := fun a k ha => by rw [hcM a k (by omega) (by omega) (by omega)]; exact hf.1 a k (by omega) (by omega) (by omega) (by omega) (by omega)
          have hR1 : gR32 (cLwM m1 l.toNat) := gcpy_R (gR32_gu (gR32_gu (gR32_gu hbb.1 ⟨by decide, by decide⟩) ⟨by decide, by decide⟩) (hbb.1 _ _))
          refine ⟨_, rfl, (hbb.1 _ _), _, _, rfl, _, pM_law hsz (n := 399) (by decide) ml (cLwM m1 l.toNat) (hn9 _ hm8).1 (hn9 _ hm8).2 (m0 135) (m0 136) (m0 137) E T l (fun _ => hlx _ hm8) hR1 (hI.SV.low hR1 hm8) r_l, ?_⟩
          rintro r2 M2 (⟨c2, _⟩ | ⟨_, m2, f0, ⟨fr, to, so, va, c5, hL5, h6⟩, hca2⟩)
          · exact absurd c c2
          · rw [hsy] at h6
            obtain ⟨hout, hsd5, hf0⟩ : c5.2.2.2.1 = cc.map tr ∧ c5.2.2.2.2 = sd ∧ f0 = -1 := by
              rcases h6 with ⟨kg, w1, _⟩ | ⟨w1, w2, _⟩
              · exact absurd w1 (by simp)
              · have := Sum.inr.inj w1
                exact ⟨(congrArg Prod.fst this).symm, (congrArg Prod.snd this).symm, w2⟩
            clear h6
            have e32 : m2 148 32 = sd := (hL5.2.2.2.1.2.2.2).trans hsd5
            have e29 : m2 148 29 = cc.length := by
              rw [show m2 148 29 = c5.2.2.2.1.length from hL5.2.2.2.1.1, hout, List.length_map]
            have h165 : ∀ i : Nat, i < cc.length → m2 165 i = tr (cc.getD i 0) := fun i hi => by
              have := hL5.2.2.2.2.1 i (by rw [hout, List.length_map]; exact hi)
              rw [hout, getD_map hi] at this
              exact this
            rcases hca2 with ⟨w1, _⟩ | ⟨w1, rfl, rfl⟩
            · exfalso
              omega
            · refine ⟨by rw [e32, e2], _, _, rfl, ?_⟩
              have e29n : (m2 148 29).toNat = cc.length := by omega
              have e120 : (120 * l).toNat = 120 * l.toNat := by omega
              rw [e29n, e120]
              have hd := (law_dep hpc (σ := fun _ j => tr (cc.getD j 0)) (l := 0) (fun i hi => by show tr (cc.getD (120 * 0 + i) 0) = _; rw [Nat.mul_zero, Nat.zero_add])).2.2
              have hF0 : ∀ a k : Nat, a ≠ 157 → a ≠ 158 → a ≠ 148 → gcpy (gu (gu m2 148 22 0) 157 l.toNat (m2 148 29)) 165 0 158 (120 * l.toNat) cc.length a k = m2 a k := fun a k q1 q2 q3 => by rw [gcpy_off (Or.inl q2), gu_other q1, gu_other q3]
              have hm2 : ∀ a k : Nat, a ≠ 148 → a ≠ 165 → a ≠ 166 → m2 a k = cLwM m1 l.toNat a k := fun a k q1 q2 q3 => hL5.2.1.1 a k q1 q2 q3
              refine hI.lawN hL2 (gcpy_R (gR32_gu (gR32_gu hL5.1 ⟨by decide, by decide⟩) (hL5.1 _ _))) hpc hcl9 (fun a k q1 q2 q3 q4 q5 q6 q7 q8 q9 q10 q11 q12 => ?_) ?_ ?_ (fun k hk => ?_) ?_ (fun k hk => ?_) (fun i hi => ?_) (fun j hj => ?_) ?_ ?_ (fun i hi => ?_)
              · rw [hF0 a k q3 q4 q10, hm2 a k q10 q11 q12, hcM a k q5 q1 q2]
                exact hf.1 a k q5 q6 q7 q8 q9
              · rw [hF0 132 0 (by decide) (by decide) (by decide), hm2 132 0 (by decide) (by decide) (by decide)]
                unfold cLwM
                rw [gcpy_off (Or.inl (by omega)), gu_other (by omega), gu_other (by omega), gu_self]
              · rw [gcpy_off (Or.inl (by decide)), gu_other (by decide), gu_self]
              · rw [gcpy_off (Or.inl (by decide)), gu_other (by decide), gu_ne (Or.inr (by omega)), hL5.2.1.2 k (by omega)]
                exact hm8 148 k (by decide)
              · rw [gcpy_off (Or.inl (by decide)), gu_self, e29]
              · rw [gcpy_off (Or.inl (by decide)), gu_ne (Or.inr hk), gu_other (by decide), hm2 157 k (by decide) (by decide) (by decide)]
                exact hm8 157 k (by decide)
              · rw [gcpy_in (by omega) (by omega), gu_other (by decide), gu_other (by decide), show 0 + (120 * l.toNat + i - 120 * l.toNat) = i by omega]
                exact h165 i hi
              · rw [gcpy_off (Or.inr (by omega)), gu_other (by decide), gu_other (by decide), hm2 158 j (by decide) (by decide) (by decide)]
                exact hm8 158 j (by decide)
              · rw [hF0 _ 0 (by omega) (by omega) (by omega), hm2 _ 0 (by omega) (by omega) (by omega)]
                unfold cLwM
                rw [gcpy_off (Or.inl (by omega)), gu_ne (Or.inr (by decide)), gu_self]
              · rw [hF0 _ 1 (by omega) (by omega) (by omega), hm2 _ 1 (by omega) (by omega) (by omega)]
                unfold cLwM
                rw [gcpy_off (Or.inl (by omega)), gu_self, e3]
              · rw [hF0 _ i (by omega) (by omega) (by omega), hm2 _ i (by omega) (by omega) (by omega)]
                unfold cLwM
                rw [gcpy_in (by omega) (by omega), gu_other (by omega), gu_other (by omega), gu_other (by decide), show 0 + (i - 0) = i by omega]
                exact hcl.2.2.2 i hi
        · omega

/-! ===== the whole: the start, and all calls ===== -/
theorem gM.sw {G : gG} {j n mc ms : Nat} {av : List gV} {M M' : gMe} {P : Option gV → gMe → Prop} (h : ∀ H, gWd G M H → gWd G M' H) (hM : gM G j n mc ms av M' P) : gM G j n mc ms av M P := fun l p e ha hc hk s m args below hf hpre hP hK => hM l p e ha hc hk s m args below hf hpre ⟨hP.1, hP.2.1, hP.2.2.1, hP.2.2.2.1, h _ hP.2.2.2.2⟩ hK
/-- ints as the machine holds them -/
def gIn (mi : Nat → Nat → Int) (a k : Nat) : Int := (iI (mi a k)).toInt
theorem gWd_I {G : gG} {H : Heap} {mi : Nat → Nat → Int} {ml : Nat → Nat → Int64} (h : gWd G (gw mi ml) H) : gWd G (gw (gIn mi) ml) H := by
  refine ⟨h.1, h.2.1, fun a q hq => ?_⟩
  have h1 := h.2.2 a q hq
  have e : gent G (gw (gIn mi) ml) a q = gent G (gw mi ml) a q := by
    have hi : ∀ k, iI (gIn mi a k) = iI (mi a k) := fun k => iI_of _
    unfold gent gfv gw
    simp only [hi]
  rw [e]
  exact h1
def InvW (t : Nat) (mi : Nat → Nat → Int) (ml : Nat → Nat → Int64) : Prop := ∃ mi', Inv t mi' ml ∧ ∀ (G : gG) (H : Heap), gWd G (gw mi ml) H → gWd G (gw mi' ml) H
theorem op_up {G : gG} {jc jm np : Nat} (h : gOp G Inv jc jm np) : gOp G InvW jc jm np := by
  rintro t mi ml xs hlen hr ht ⟨mi', hI, hsw⟩
  obtain ⟨P1, h1, h2⟩ := h t mi' ml xs hlen hr ht hI
  refine ⟨P1, h1.sw (fun H => hsw G H), fun r M1 hP => ?_⟩
  obtain ⟨z, a, b, mi1, ml1, c, P2, d, f⟩ := h2 r M1 hP
  refine ⟨z, a, b, mi1, ml1, c, P2, d, fun r2 M2 hP2 => ?_⟩
  obtain ⟨g1, mi2, ml2, g2, g3⟩ := f r2 M2 hP2
  exact ⟨g1, mi2, ml2, g2, mi2, g3, fun _ _ w => w⟩
set_option maxRecDepth 1000000 in
theorem gM2_0 : ([(0, 8), (1, 0), (1, 1), (1, 2), (1, 3), (148, 0), (148, 1), (148, 2), (148, 6), (148, 9), (148, 22), (148, 42), (132, 0), (48, 0), (48, 1), (51, 0), (51, 1), (157, 0), (157, 1), (7, 0), (147, 0), (147, 1), (147, 2), (147, 3), (147, 4), (147, 5), (147, 6), (159, 0), (159, 1), (159, 2), (159, 3), (159, 4), (159, 5), (159, 6), (139, 0), (139, 1), (141, 0), (141, 1), (143, 0), (143, 1), (145, 0), (145, 1), (172, 0), (172, 1), (172, 2), (172, 3), (173, 0), (173, 1), (173, 2), (173, 3)] : List (Nat × Nat)).all (fun q => decide (gM2.2.1 q.1 q.2 = 0)) = true := by decide +kernel
set_option maxRecDepth 1000000 in
theorem gM2_32 : ([(4, 0), (4, 1), (4, 2), (4, 3), (153, 0), (153, 1), (153, 2), (153, 3)] : List (Nat × Nat)).all (fun q => decide (gM2.2.1 q.1 q.2 = 32)) = true := by decide +kernel
set_option maxRecDepth 1000000 in
theorem gM2_m : ([(5, 0), (5, 1), (5, 2), (5, 3), (5, 4), (5, 5), (5, 6), (5, 7), (5, 8), (5, 9), (156, 0), (156, 1), (156, 2), (156, 3), (156, 4), (156, 5), (156, 6), (156, 7), (156, 8), (156, 9)] : List (Nat × Nat)).all (fun q => decide (gM2.2.1 q.1 q.2 = -1)) = true := by decide +kernel
theorem Inv_of0 {mi : Nat → Nat → Int} {ml : Nat → Nat → Int64} (hR : gR32 mi) (h0 : ∀ a k : Nat, (a, k) ∈ ([(0, 8), (1, 0), (1, 1), (1, 2), (1, 3), (148, 0), (148, 1), (148, 2), (148, 6), (148, 9), (148, 22), (148, 42), (132, 0), (48, 0), (48, 1), (51, 0), (51, 1), (157, 0), (157, 1), (7, 0), (147, 0), (147, 1), (147, 2), (147, 3), (147, 4), (147, 5), (147, 6), (159, 0), (159, 1), (159, 2), (159, 3), (159, 4), (159, 5), (159, 6), (139, 0), (139, 1), (141, 0), (141, 1), (143, 0), (143, 1), (145, 0), (145, 1), (172, 0), (172, 1), (172, 2), (172, 3), (173, 0), (173, 1), (173, 2), (173, 3)] : List (Nat × Nat)) → mi a k = 0) (h32 : ∀ i : Nat, i < 4 → mi 4 i = 32 ∧ mi 153 i = 32) (hm : ∀ i : Nat, i < 10 → mi 5 i = -1 ∧ mi 156 i = -1) : Inv 0 mi ml := by
  have z : ∀ a k : Nat, (a, k) ∈ ([(0, 8), (1, 0), (1, 1), (1, 2), (1, 3), (148, 0), (148, 1), (148, 2), (148, 6), (148, 9), (148, 22), (148, 42), (132, 0), (48, 0), (48, 1), (51, 0), (51, 1), (157, 0), (157, 1), (7, 0), (147, 0), (147, 1), (147, 2), (147, 3), (147, 4), (147, 5), (147, 6), (159, 0), (159, 1), (159, 2), (159, 3), (159, 4), (159, 5), (159, 6), (139, 0), (139, 1), (141, 0), (141, 1), (143, 0), (143, 1), (145, 0), (145, 1), (172, 0), (172, 1), (172, 2), (172, 3), (173, 0), (173, 1), (173, 2), (173, 3)] : List (Nat × Nat)) → mi a k = 0 := h0
  have a1 : sg mi 0 0 = 0 := z 148 0 (by decide)
  have a2 : sg mi 0 1 = 0 := z 148 1 (by decide)
  have a3 : sg mi 0 2 = 0 := z 148 2 (by decide)
  have a4 : sg mi 0 3 = 0 := z 148 6 (by decide)
  have a5 : sg mi 0 4 = 0 := z 148 9 (by decide)
  have b0 := z 0 8 (by decide)
  have b1 := z 148 42 (by decide)
  have b2_ := z 148 22 (by decide)
  refine ⟨hR, ⟨⟨?_, ?_, ?_, ?_, by omega, by omega, by omega, by omega⟩, fun p p0 p1 => by omega, fun a a0 a1 => by omega, fun a b q0 q1 => by omega, fun i hi => ?_, fun i hi => ?_, fun l hl => ?_, ?_⟩, ⟨?_, by omega, fun i hi => by omega⟩, fun i hi => ?_, fun s hs => ?_, ?_, by omega, fun q => by omega⟩
  · rw [a1]; exact z 1 0 (by decide)
  · rw [a2]; exact z 1 1 (by decide)
  · rw [a3]; exact z 1 2 (by decide)
  · rw [a4]; exact z 1 3 (by decide)
  · have := h32 i hi
    show mi (1 + 3) i = mi 153 i ∧ 0 ≤ mi 153 i ∧ mi 153 i ≤ 200
    rw [this.2, show mi (1 + 3) i = 32 from this.1]
    omega
  · have := hm i hi
    show mi (1 + 4) i = mi 156 i ∧ -1 ≤ mi 156 i ∧ mi 156 i < sg mi 0 3
    rw [this.2, show mi (1 + 4) i = -1 from this.1, a4]
    omega
  · have e9 : sg mi 9 l = 0 := by
      rcases (show l = 0 ∨ l = 1 by omega) with e | e <;> subst e
      · exact z 157 0 (by decide)
      · exact z 157 1 (by decide)
    have e0 : mi (1 + 47 + 3 * l) 0 = 0 ∧ mi (1 + 47 + 3 * l) 1 = 0 := by
      rcases (show l = 0 ∨ l = 1 by omega) with e | e <;> subst e
      · exact ⟨z 48 0 (by decide), z 48 1 (by decide)⟩
      · exact ⟨z 51 0 (by decide), z 51 1 (by decide)⟩
    rw [e9, e0.1, e0.2]
    exact ⟨by decide, by decide, fun q => absurd q (by decide)⟩
  · refine ⟨?_, by omega, fun i hi => by omega, fun i => i, fun i hi => by omega, fun i j _ hj => by omega⟩
    rw [a5]
    exact z 7 0 (by decide)
  · rw [b2_]
    exact z 132 0 (by decide)
  · rcases (show i = 0 ∨ i = 1 ∨ i = 2 ∨ i = 3 ∨ i = 4 ∨ i = 5 ∨ i = 6 by omega) with e | e | e | e | e | e | e <;> subst e
    · rw [z 147 0 (by decide), z 159 0 (by decide)]; omega
    · rw [z 147 1 (by decide), z 159 1 (by decide)]; omega
    · rw [z 147 2 (by decide), z 159 2 (by decide)]; omega
    · rw [z 147 3 (by decide), z 159 3 (by decide)]; omega
    · rw [z 147 4 (by decide), z 159 4 (by decide)]; omega
    · rw [z 147 5 (by decide), z 159 5 (by decide)]; omega
    · rw [z 147 6 (by decide), z 159 6 (by decide)]; omega
  · rcases (show s = 0 ∨ s = 1 ∨ s = 2 ∨ s = 3 by omega) with e | e | e | e <;> subst e
    · have w1 := z 139 0 (by decide); have w2 := z 139 1 (by decide); have w3 := z 172 0 (by decide); have w4 := z 173 0 (by decide); refine ⟨?_, ?_, by omega, by omega, fun _ => w4, fun i hi => ?_⟩; (· rw [w3]; exact w1); (· rw [w4]; exact w2); (· rw [w3]; exact ⟨fun q => absurd q (by decide), fun q => absurd q (by decide), fun q => absurd q (by decide)⟩)
    · have w1 := z 141 0 (by decide); have w2 := z 141 1 (by decide); have w3 := z 172 1 (by decide); have w4 := z 173 1 (by decide); refine ⟨?_, ?_, by omega, by omega, fun _ => w4, fun i hi => ?_⟩; (· rw [w3]; exact w1); (· rw [w4]; exact w2); (· rw [w3]; exact ⟨fun q => absurd q (by decide), fun q => absurd q (by decide), fun q => absurd q (by decide)⟩)
    · have w1 := z 143 0 (by decide); have w2 := z 143 1 (by decide); have w3 := z 172 2 (by decide); have w4 := z 173 2 (by decide); refine ⟨?_, ?_, by omega, by omega, fun _ => w4, fun i hi => ?_⟩; (· rw [w3]; exact w1); (· rw [w4]; exact w2); (· rw [w3]; exact ⟨fun q => absurd q (by decide), fun q => absurd q (by decide), fun q => absurd q (by decide)⟩)
    · have w1 := z 145 0 (by decide); have w2 := z 145 1 (by decide); have w3 := z 172 3 (by decide); have w4 := z 173 3 (by decide); refine ⟨?_, ?_, by omega, by omega, fun _ => w4, fun i hi => ?_⟩; (· rw [w3]; exact w1); (· rw [w4]; exact w2); (· rw [w3]; exact ⟨fun q => absurd q (by decide), fun q => absurd q (by decide), fun q => absurd q (by decide)⟩)
  · rw [b0, b1]
theorem all_at {mi : Nat → Nat → Int} {l : List (Nat × Nat)} {v : Int} (h : l.all (fun q => decide (mi q.1 q.2 = v)) = true) {a k : Nat} (hm : (a, k) ∈ l) : mi a k = v := by
  have := List.all_eq_true.mp h (a, k) hm
  simpa using this
theorem Inv0 : InvW 0 gM2.2.1 gM2.2.2.1 := by
  have k0 : ∀ a k : Nat, gM2.2.1 a k = 0 → gIn gM2.2.1 a k = 0 := fun a k h => by unfold gIn; rw [h]; decide
  have k32 : ∀ a k : Nat, gM2.2.1 a k = 32 → gIn gM2.2.1 a k = 32 := fun a k h => by unfold gIn; rw [h]; decide
  have km : ∀ a k : Nat, gM2.2.1 a k = -1 → gIn gM2.2.1 a k = -1 := fun a k h => by unfold gIn; rw [h]; decide
  refine ⟨gIn gM2.2.1, Inv_of0 (fun a k => rng_of _) (fun a k h => k0 a k ?_) (fun i hi => ⟨k32 4 i ?_, k32 153 i ?_⟩) (fun i hi => ⟨km 5 i ?_, km 156 i ?_⟩), fun G H => gWd_I⟩
  · exact all_at (mi := gM2.2.1) gM2_0 h
  · exact all_at (mi := gM2.2.1) gM2_32 (by rcases (show i = 0 ∨ i = 1 ∨ i = 2 ∨ i = 3 by omega) with e | e | e | e <;> subst e <;> decide)
  · exact all_at (mi := gM2.2.1) gM2_32 (by rcases (show i = 0 ∨ i = 1 ∨ i = 2 ∨ i = 3 by omega) with e | e | e | e <;> subst e <;> decide)
  · exact all_at (mi := gM2.2.1) gM2_m (by rcases (show i = 0 ∨ i = 1 ∨ i = 2 ∨ i = 3 ∨ i = 4 ∨ i = 5 ∨ i = 6 ∨ i = 7 ∨ i = 8 ∨ i = 9 by omega) with e | e | e | e | e | e | e | e | e | e <;> subst e <;> decide)
  · exact all_at (mi := gM2.2.1) gM2_m (by rcases (show i = 0 ∨ i = 1 ∨ i = 2 ∨ i = 3 ∨ i = 4 ∨ i = 5 ∨ i = 6 ∨ i = 7 ∨ i = 8 ∨ i = 9 by omega) with e | e | e | e | e | e | e | e | e | e <;> subst e <;> decide)

set_option maxRecDepth 1000000 in
theorem gl_1546 : gat mL_law 1546 = some (5, 6, 3, 0, 1549) := by decide +kernel
set_option maxRecDepth 1000000 in
theorem gl_1549 : gat mL_law 1549 = some (60, 0, 18, 0, 1552) := by decide +kernel
set_option maxRecDepth 1000000 in
theorem gl_1552 : gat mL_law 1552 = some (0, 1, 0, 0, 1553) := by decide +kernel
set_option maxRecDepth 1000000 in
theorem gl_1553 : gat mL_law 1553 = some (70, 0, 0, 1, 1554) := by decide +kernel
theorem gl_nL : 3 < (gH mL_law.1).2.2.1 := by decide +kernel
/-- one call: class and reference answer alike, and what holds between them holds again -/
def gOp (G : gG) (Inv : Nat → (Nat → Nat → Int) → (Nat → Nat → Int64) → Prop) (jc jm np : Nat) : Prop := ∀ (t : Nat) (mi : Nat → Nat → Int) (ml : Nat → Nat → Int64) (xs : List Int), xs.length = np → (∀ x ∈ xs, rng x) → t < 64 → Inv t mi ml → ∃ P1 : Option gV → gMe → Prop, gM G jc 399 0 0 (gr 0 :: xs.map gi) (gw mi ml) P1 ∧ ∀ (r : Option gV) (M1 : gMe), P1 r M1 → ∃ z : Int, r = some (gi z) ∧ rng z ∧ ∃ (mi1 : Nat → Nat → Int) (ml1 : Nat → Nat → Int64), M1 = gw mi1 ml1 ∧ ∃ P2 : Option gV → gMe → Prop, gM G jm 399 0 0 (gr 148 :: xs.map gi) (gw mi1 ml1) P2 ∧ ∀ (r2 : Option gV) (M2 : gMe), P2 r2 M2 → r2 = some (gi z) ∧ ∃ (mi' : Nat → Nat → Int) (ml' : Nat → Nat → Int64), M2 = gw mi' ml' ∧ Inv (t + 1) mi' ml'
section LAW
variable {G : gG} {P : Option gV → gMe → Prop}
/-- the ints of a call, pushed one by one -/
theorem law_push {lv : List (Option gV)} {M : gMe} {q : Nat} {i6 : Int} (hlv : lv[0]? = some (some (gs 2))) (hlv3 : lv[3]? = some (some (gi i6))) (h0 : 0 ≤ i6) (hL : gsn G 2 ≤ 384) (h1 : i6 + 6 ≤ gsn G 2) : ∀ (np : Nat) (st : List gV), np ≤ 5 → gpush q np = true → Go G mL_law 400 0 0 (q + 5 * np) lv (((List.range np).map (fun (i : Nat) => gi (gsc G 2 (i6 + ((i : Int) + 1)).toNat))).reverse ++ st) M P → Go G mL_law 400 0 0 q lv st M P := by
  intro np
  induction np with
  | zero => intro st _ _ k; exact k
  | succ np ih =>
    intro st h5 hp k
    unfold gpush at hp
    rw [List.range_succ, List.all_append, Bool.and_eq_true] at hp
    obtain ⟨hp1, hh⟩ := hp
    refine ih st (by omega) hp1 ?_
    simp only [List.all_cons, List.all_nil, Bool.and_true, Bool.and_eq_true, decide_eq_true_eq] at hh
    obtain ⟨⟨⟨⟨c1, c2⟩, c3⟩, c4⟩, c5⟩ := hh
    refine Go.load c1 hlv rfl ?_
    refine Go.load c2 hlv3 rfl ?_
    refine Go.const c3 ?_
    refine Go.iadd c4 ?_
    refine Go.sald c5 (Or.inr rfl) (by omega) (by omega) (by omega) ?_
    rw [List.range_succ, List.map_append, List.reverse_append] at k
    exact k
theorem law_case {Inv : Nat → (Nat → Nat → Int) → (Nat → Nat → Int64) → Prop} {c : Nat × Nat × Nat × Nat} (hc : gcase c = true) (hop : gOp G Inv c.2.2.1 c.2.2.2 c.2.1) {t : Nat} {mi : Nat → Nat → Int} {ml : Nat → Nat → Int64} (hI : Inv t mi ml) (ht : t < 64) {i6 : Int} (h0 : 0 ≤ i6) (hL : gsn G 2 ≤ 384) (h1 : i6 + 6 ≤ gsn G 2) (hr : ∀ k, rng (gsc G 2 k)) (kk : ∀ mi' ml', Inv (t + 1) mi' ml' → Go G mL_law 400 0 0 1546 [some (gs 2), some (gr 0), some (gr 148), some (gi i6)] [] (gw mi' ml') P) : Go G mL_law 400 0 0 c.1 [some (gs 2), some (gr 0), some (gr 148), some (gi i6)] [] (gw mi ml) P := by
  obtain ⟨p0, np, jc, jm⟩ := c
  unfold gcase at hc
  simp only [Bool.and_eq_true, decide_eq_true_eq] at hc
  obtain ⟨⟨⟨⟨⟨⟨⟨⟨⟨⟨⟨c1, c2⟩, c3⟩, c4⟩, c5⟩, c6⟩, c7⟩, c8⟩, c9⟩, c10⟩, c11⟩, c12⟩ := hc
  have hd : ∀ {C : String}, (C = RX11 ∨ C = RX12) → C ≠ "java/lang/invoke/MethodHandle" ∧ C ≠ "java/lang/invoke/VarHandle" := by
    rintro C (rfl | rfl) <;> exact ⟨by decide +kernel, by decide +kernel⟩
  obtain ⟨P1, hM1, hP1⟩ := hop t mi ml ((List.range np).map (fun (i : Nat) => gsc G 2 (i6 + ((i : Int) + 1)).toNat)) (by simp) (fun x hx => by
    obtain ⟨i, -, rfl⟩ := List.mem_map.mp hx
    exact hr _) ht hI
  have hmap : ((List.range np).map (fun (i : Nat) => gsc G 2 (i6 + ((i : Int) + 1)).toNat)).map gi = (List.range np).map (fun (i : Nat) => gi (gsc G 2 (i6 + ((i : Int) + 1)).toNat)) := by simp
  rw [hmap] at hM1
  refine Go.load c1 (v := gr 0) rfl rfl ?_
  refine law_push rfl rfl h0 hL h1 np [gr 0] c8 c2 ?_
  refine Go.callV (mc1 := 0) (mc := 0) (ms1 := 0) (ms := 0) (n1 := 399) (st := []) c3 (by simp) (c := 10) (N := 9) (by rfl) (by decide) c9 (hd (Or.inl c9.symm)) c11 rfl (by decide) (by decide) hM1 ?_
  intro r M1 hr1
  obtain ⟨z, rfl, hz, mi1, ml1, rfl, P2, hM2, hP2⟩ := hP1 r M1 hr1
  rw [hmap] at hM2
  refine Go.load c4 (v := gr 148) rfl rfl ?_
  refine law_push rfl rfl h0 hL h1 np [gr 148, gi z] c8 c5 ?_
  refine Go.callV (mc1 := 0) (mc := 0) (ms1 := 0) (ms := 0) (n1 := 399) (st := [gi z]) c6 (by simp) (c := 11) (N := 46) (by rfl) (by decide) c10 (hd (Or.inr c10.symm)) c12 rfl (Nat.le_of_ble_eq_true rfl) (by decide) hM2 ?_
  intro r2 M2 hr2
  obtain ⟨rfl, mi', ml', rfl, hI'⟩ := hP2 r2 M2 hr2
  exact Go.icmp_eq c7 hz hz (fun _ => kk mi' ml' hI') (fun h => absurd rfl h)
theorem law_loop {Inv : Nat → (Nat → Nat → Int) → (Nat → Nat → Int64) → Prop} (hops : ∀ c ∈ gcs, gOp G Inv c.2.2.1 c.2.2.2 c.2.1) (hmono : ∀ t mi ml, Inv t mi ml → Inv (t + 1) mi ml) (hL : gsn G 2 ≤ 384) (hr : ∀ k, rng (gsc G 2 k)) (hP : ∀ M, P (some (gi 1)) M) : ∀ (f t : Nat) (mi : Nat → Nat → Int) (ml : Nat → Nat → Int64), f + 6 * t = gsn G 2 + 6 ∨ (gsn G 2 < 6 * t ∧ 6 * t ≤ gsn G 2 + 6) → Inv t mi ml → Go G mL_law 400 0 0 18 [some (gs 2), some (gr 0), some (gr 148), some (gi (6 * t))] [] (gw mi ml) P := by
  intro f
  induction f using Nat.strongRecOn with
  | ind f ih =>
    intro t mi ml hf hI
    have ht : 6 * t ≤ gsn G 2 + 6 := by omega
    refine Go.load (by rfl) (v := gi (6 * t)) rfl rfl ?_
    refine Go.load (by rfl) (v := gs 2) rfl rfl ?_
    refine Go.salen (by rfl) (Or.inr rfl) ?_
    refine Go.const (by rfl) ?_
    refine Go.isub (by rfl) ?_
    refine Go.icmp_gt (by rfl) ⟨by omega, by omega⟩ ⟨by omega, by omega⟩ (fun hgt => ?_) (fun hle => ?_)
    · refine Go.const gl_1552 ?_
      exact Go.zret gl_1553 (Or.inr rfl) (hP _)
    · have h6 : (6 * t : Int) + 6 ≤ gsn G 2 := by omega
      have next : ∀ mi' ml', Inv (t + 1) mi' ml' → Go G mL_law 400 0 0 1546 [some (gs 2), some (gr 0), some (gr 148), some (gi (6 * t))] [] (gw mi' ml') P := by
        intro mi' ml' hI'
        refine Go.iinc gl_1546 (w := 6 * t) rfl gl_nL ?_
        refine Go.goto gl_1549 ?_
        have := ih (gsn G 2 + 6 - 6 * (t + 1)) (by omega) (t + 1) mi' ml' (by omega) hI'
        rw [show (6 * ((t + 1 : Nat) : Int)) = 6 * (t : Int) + 6 by omega] at this
        exact this
      refine Go.load (by rfl) (v := gs 2) rfl rfl ?_
      refine Go.load (by rfl) (v := gi (6 * t)) rfl rfl ?_
      refine Go.sald (by rfl) (Or.inr rfl) (by omega) (by omega) (by omega) ?_
      refine Go.const (by rfl) ?_
      refine Go.iand (by rfl) ?_
      generalize (iI (gsc G 2 (6 * (t : Int)).toNat) &&& iI 63) = w
      have hw := rng_of w
      generalize w.toInt = w at hw ⊢
      by_cases hin : 0 ≤ w ∧ w < 44
      · obtain ⟨hw0, hw1⟩ := hin
        have hsw := gcs_sw w.toNat (by omega)
        obtain ⟨c, hc⟩ : ∃ c, gcs[w.toNat]? = some c := ⟨gcs[w.toNat]'(by show _ < 44; omega), List.getElem?_eq_getElem _⟩
        have hmem := List.mem_of_getElem? hc
        rw [hc] at hsw
        obtain ⟨lst, hlst⟩ : ∃ lst, swL_law.lookup 33 = some lst := ⟨_, rfl⟩
        rw [hlst] at hsw
        refine Go.tsw_in (l := lst) (w' := ((w.toNat : Nat) : Int)) (t := c.1) (by rfl) hlst hw (by omega) (by omega) (by rw [show (w - 0).toNat = w.toNat by omega]; exact hsw) ?_
        exact law_case (List.all_eq_true.mp gcs_ok c hmem) (hops c hmem) hI (by omega) (by omega) hL h6 hr next
      · refine Go.tsw_out (l := _) (by rfl) (by rfl) hw (by omega) ?_
        exact next mi ml (hmono _ _ _ hI)
end LAW

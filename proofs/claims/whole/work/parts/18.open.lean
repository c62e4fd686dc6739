/-! ===== the law from its entry, over the calls' answers ===== -/
theorem ginst {c : Nat} (h : c < 12) : Cond.instantiable (gR c) (gN c) ∈ lw_tbl := by
  have tab : ∀ c, c < 12 → ∃ q ∈ gCL, q.2.2 = c := by decide +kernel
  obtain ⟨q, hq, rfl⟩ := tab c h
  exact (gCL_ok q hq).2.1
theorem gKall {s : State} {args : Array Value} (hts : ∀ w ∈ gTB, w.before args s = true) : ∃ f : Nat → ClassId × (Nat → Nat), ∀ k, k < 12 → u_Kn s (gR k) (gT k) (gN k) (f k).1 (f k).2 := by
  have h0 : ∀ k, k < 12 → ∃ x : ClassId × (Nat → Nat), u_Kn s (gR k) (gT k) (gN k) x.1 x.2 := fun k hk => by
    obtain ⟨cC, iS, h⟩ := u_known (C := gR k) (T := gT k) (N := gN k) (n := gN k) hts (ginA hk) (hts _ (gTB_in (ginst hk) rfl))
    exact ⟨(cC, iS), h⟩
  have h1 : ∀ k : Nat, ∃ x : ClassId × (Nat → Nat), k < 12 → u_Kn s (gR k) (gT k) (gN k) x.1 x.2 := fun k => by
    by_cases hk : k < 12
    · obtain ⟨x, hx⟩ := h0 k hk
      exact ⟨x, fun _ => hx⟩
    · obtain ⟨x, -⟩ := h0 0 (by omega)
      exact ⟨x, fun h => absurd h hk⟩
  exact Classical.skolem.mp h1
theorem gAall {s : State} {args : Array Value} (hts : ∀ w ∈ lw_tbl, w.before args s = true) : ∃ f : Nat → ClassId, ∀ t, t < 8 → ArrOfT s (f t) (gaty t) ∧ va_RA s (f t) (gaty t) := by
  have prim : ∀ ty : FieldType, (Cond.arrayClass ty).before args s = true → ∃ cA, ArrOfT s cA ty ∧ s.vm.findClass ("[" ++ ty.toString) = some cA := fun ty h => by
    obtain ⟨cA, kA, comp, h1, h2, h3⟩ := Cond.arrayClass_spec h
    exact ⟨cA, fun n z => ⟨fun k h => (by cases h), kA, h2, comp, h3⟩, h1⟩
  have obj : ∀ C : String, (Cond.arrayOver (.object C)).before args s = true → ∃ cA, ArrOfT s cA (.object C) ∧ va_RA s cA (.object C) := fun C h => by
    obtain ⟨comp, cA, kA, h1, h2, h3, h4, h5⟩ := Cond.arrayOver_spec h
    exact ⟨cA, fun n z => ⟨fun k h => (by cases h), kA, h3, comp, h4⟩, kA, comp, h3, h4, h1, h5⟩
  have h0 : ∀ t, t < 8 → ∃ cA : ClassId, ArrOfT s cA (gaty t) ∧ va_RA s cA (gaty t) := fun t ht => by
    rcases (show t = 0 ∨ t = 1 ∨ t = 2 ∨ t = 3 ∨ t = 4 ∨ t = 5 ∨ t = 6 ∨ t = 7 by omega) with rfl | rfl | rfl | rfl | rfl | rfl | rfl | rfl
    · exact prim .int (hts _ gac_int)
    · exact prim .boolean (hts _ gac_boolean)
    · exact prim .long (hts _ gac_long)
    · exact obj _ (hts _ gao_Pitch)
    · exact obj _ (hts _ gao_Party)
    · exact obj _ (hts _ gao_Law)
    · exact obj _ (hts _ gao_Sheet)
    · obtain ⟨comp, cA, kA, h1, h2, h3, h4, h5⟩ := arrayOverA_spec (hts _ gao_int)
      exact ⟨cA, fun n z => ⟨fun k h => (by cases h), kA, h3, comp, h4⟩, h5⟩
  have h1 : ∀ t : Nat, ∃ x : ClassId, t < 8 → ArrOfT s x (gaty t) ∧ va_RA s x (gaty t) := fun k => by
    by_cases hk : k < 8
    · obtain ⟨x, hx⟩ := h0 k hk
      exact ⟨x, fun _ => hx⟩
    · obtain ⟨x, -⟩ := h0 0 (by omega)
      exact ⟨x, fun h => absurd h hk⟩
  exact Classical.skolem.mp h1
theorem start_open {Inv : Nat → (Nat → Nat → Int) → (Nat → Nat → Int64) → Prop} (hI0 : Inv 0 gM2.2.1 gM2.2.2.1) (hmono : ∀ t mi ml, Inv t mi ml → Inv (t + 1) mi ml) (hops : ∀ G : gG, G.2.2.2.2.2.2 = true → ∀ c ∈ gcs, gOp G Inv c.2.2.1 c.2.2.2 c.2.1)
    {p : Program} {e : Env} {s : State} {m : MethodId} {below : List Frame} {meth : Method} {c : Code} (l : Launch) {b L : Nat} {xs : Nat → Int32} (hL : L ≤ 384) (C0 : lw_At p s m meth c b L xs) (hname : meth.name = "law") : W p l e room_1 s m #[Value.ref b] below meth c s.heap [] 0 0 (lw_Z below #[Value.ref b] s) (entryFrame m ([Value.ref b] : List Value).toArray 4) := by
  obtain ⟨hx, hb, hr, hml, hown, hts, hX, hbl, hlocks, hgv⟩ := C0
  have htg : ∀ w ∈ gTB, w.before #[Value.ref b] s = true := fun w hw => hts w (List.mem_filter.mp hw).1
  obtain ⟨fc, hfc⟩ := gKall htg
  obtain ⟨fa, hfa⟩ := gAall hts
  have hs := flat_of_before _ hgv
  have hA : ∀ a : Nat, a < s.heap.size → ¬ (fun q : Nat => s.heap.size ≤ q) a := fun a h => Nat.not_le.mpr h
  have Gd : gG := ((fun _ => (fc 0).1, fun _ => (fc 0).2), fa, 0, fun _ => 0, 0, fun _ => 0, true)
  obtain ⟨tA, evA, hTA⟩ := va_Tof (args := #[Value.ref b]) (s := s) (tm := .static "FieldPitches$Kinds" "ABOVE" "[I") (ty := .int) (N := 5) (f := fun j => .int (iI (gsc Gd 0 j))) (A := fun q : Nat => s.heap.size ≤ q) (by decide) (hs _ (by decide +kernel)) (va_eqt (z := 5) (hs _ (by decide +kernel))) (fun j hj => by
    rcases (show j = 0 ∨ j = 1 ∨ j = 2 ∨ j = 3 ∨ j = 4 by omega) with rfl | rfl | rfl | rfl | rfl
    · exact va_eqt (z := -1) (hs _ (by decide +kernel))
    · exact va_eqt (z := 0) (hs _ (by decide +kernel))
    · exact va_eqt (z := 0) (hs _ (by decide +kernel))
    · exact va_eqt (z := 2) (hs _ (by decide +kernel))
    · exact va_eqt (z := 2) (hs _ (by decide +kernel))) hA
  obtain ⟨tN, evN, hTN⟩ := va_Tof (args := #[Value.ref b]) (s := s) (tm := .static "FieldPitches$Tape" "NAMES" "[C") (ty := .char) (N := 6) (f := fun j => .int (iI (gsc Gd 1 j))) (A := fun q : Nat => s.heap.size ≤ q) (by decide) (hs _ (by decide +kernel)) (va_eqt (z := 6) (hs _ (by decide +kernel))) (fun j hj => by
    rcases (show j = 0 ∨ j = 1 ∨ j = 2 ∨ j = 3 ∨ j = 4 ∨ j = 5 by omega) with rfl | rfl | rfl | rfl | rfl | rfl
    · exact va_eqt (z := 108) (hs _ (by decide +kernel))
    · exact va_eqt (z := 97) (hs _ (by decide +kernel))
    · exact va_eqt (z := 110) (hs _ (by decide +kernel))
    · exact va_eqt (z := 107) (hs _ (by decide +kernel))
    · exact va_eqt (z := 100) (hs _ (by decide +kernel))
    · exact va_eqt (z := 111) (hs _ (by decide +kernel))) hA
  have hTS : va_T .int b L (fun j => .int (iI (xs j).toInt)) (fun q : Nat => s.heap.size ≤ q) s s.heap := by
    obtain ⟨scr, h1, h2, h3, h4, h5⟩ := hX
    exact ⟨scr, h1, h2, h3, by omega, by rw [h4], fun j hj => by rw [h5 j hj]; show _ = some (Value.int (iI (xs j).toInt)); rw [iI_of], hA b hbl⟩
  have hgo := law_go (G := ((fun k => (fc k).1, fun k => (fc k).2), fa, s.heap.size, fun k => match k with | 0 => tA | 1 => tN | _ => b, L, fun j => (xs j).toInt, true)) rfl gX1_eq gM1_len gX2_eq (fun H => gWd_sw gM2_sh gsw_ok) hI0 hmono (hops _ rfl) hL (fun k => rng_of _)
  have hl := lv_entry ([.ref b]) (n := 4) (Nat.le_of_ble_eq_true rfl)
  rw [lg_entry_eq]
  generalize (lg_sl ([.ref b]) ++ List.replicate (4 - (lg_sl ([.ref b])).length) Slot.unset).toArray = ls at hl ⊢
  have hK : va_K (fun k => (fc k).1, fun k => (fc k).2) vwCl [(fa 0, gaty 0), (fa 1, gaty 1), (fa 2, gaty 2), (fa 3, gaty 3), (fa 4, gaty 4), (fa 5, gaty 5), (fa 6, gaty 6), (fa 7, gaty 7)] s := by
    refine ⟨fun c q hq => ?_, fun k q hk => ?_⟩
    · have hc : c < 12 := (List.getElem?_eq_some_iff.mp hq).1
      rw [gcl hc] at hq
      cases hq
      exact hfc c hc
    · have hk8 : k < 8 := (List.getElem?_eq_some_iff.mp hk).1
      rcases (show k = 0 ∨ k = 1 ∨ k = 2 ∨ k = 3 ∨ k = 4 ∨ k = 5 ∨ k = 6 ∨ k = 7 by omega) with rfl | rfl | rfl | rfl | rfl | rfl | rfl | rfl <;> (cases hk; exact hfa _ (by omega))
  have hw := hgo p l e room_1 s m #[Value.ref b] below meth c s.heap [] 0 0 ls
    ⟨hx, hb, hr, hml, hown, htg, hlocks, hname, hK, ⟨Nat.le_refl _, va_Zref (hts _ gSl_ABOVE) (hts _ gSi_ABOVE) evA hA, hTA, va_Zref (hts _ gSl_NAMES) (hts _ gSi_NAMES) evN hA, hTN, hTS⟩, ⟨fun q hq => va_Nw.of rfl (hts _ (gNL_ok q hq).1), va_AO.of (hts _ gao_Pitch), va_AO.of (hts _ gao_Party), va_AO.of (hts _ gao_Law), va_AO.of (hts _ gao_Sheet), hts _ gao_int⟩, ⟨by decide, by decide⟩, okL_law⟩
    va_S.rf ⟨Nat.le_refl _, fun _ => rfl, fun a q h => by cases h⟩ ⟨hl.1, hl.2.1, fun i v hv => by
      match i, hv with
      | 0, hv => cases hv; exact hl.2.2 (0, .ref b) List.mem_cons_self
      | 1, hv => cases hv
      | 2, hv => cases hv
      | 3, hv => cases hv⟩ (by decide) (by decide)
  intro T hT X
  obtain ⟨t, a1, o, b1, b2, ⟨⟨r, M9, hr9, ho, -⟩, -⟩, L9, hfe, hL9⟩ := hw T hT X
  subst hr9
  subst ho
  refine ⟨t, a1, _, b1, b2, rfl, hfe.1, hfe.2.1, hfe.2.2.weaken (fun y hy hlt => absurd hlt (Nat.not_lt.mpr (hL9 y hy))) (by decide) (by decide)⟩

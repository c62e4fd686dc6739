/-! ===== from the law's entry: classes, static rows, the two constructors ===== -/
def R_law : String := "FieldPitchesLaw"
def lw_P (b : Addr) (xs : List Int32) (args : Array Value) (s : State) : Prop := args = #[.ref b] ∧ s.IntsAt b xs ∧ xs.length ≤ 384 ∧ (Jvm.Cond.and given_1 narrow_1).before args s = true
def lw_Q (_ : Array Value) (s : State) (o : Outcome) (t : State) : Prop := o = .returned (some (.int 1)) ∧ Framed s o t [] 600000 7302250
def lw_Z (below : List Frame) (a : Array Value) (s : State) : State → Prop := fun t => ∃ o, t.status = .running ∧ Ended t below o ∧ lw_Q a s o t
/-- what holds at the law's entry: the machine, the code, the tables' words (any of lw_tbl by 'hts w (by decide +kernel)'), the script of L ints xs at the cell b, what the Statement gives of the start (any of its parts by flat_of_before) -/
def lw_At (p : Program) (s : State) (m : MethodId) (meth : Method) (c : Code) (b L : Nat) (xs : Nat → Int32) : Prop :=
  p.tables.exec = Jvm.exec ∧ c.code = code ∧ meth.sig.returnType = ret ∧ c.maxLocals = 4 ∧ s.vm.findClass R_law = some m.cls ∧ (∀ w ∈ lw_tbl, w.before #[Value.ref b] s = true) ∧ va_X b L xs s s.heap ∧ b < s.heap.size ∧ meth.locks = false ∧ (Jvm.Cond.and given_1 narrow_1).before #[Value.ref b] s = true

theorem arrV_ext {c : ClassId} {N : Nat} {f g : Nat → Value} (h : ∀ j, j < N → f j = g j) : arrV c N f = arrV c N g := by
  have e : (arrV c N f).slots = (arrV c N g).slots := by
    apply Array.ext
    · rw [arrV_size, arrV_size]
    · intro i h1 h2
      have h3 : i < N := by rw [arrV_size] at h1; exact h1
      have e1 := arrV_read c f h3
      have e2 := arrV_read c g h3
      rw [Array.getElem?_eq_getElem h1] at e1
      rw [Array.getElem?_eq_getElem h2] at e2
      rw [Option.some.inj e1, Option.some.inj e2, h i h3]
  show ({ cls := c, slots := (arrV c N f).slots, vm := .none } : Cell) = { cls := c, slots := (arrV c N g).slots, vm := .none }
  rw [e]
/-- the world's references, as a table -/
theorem gsw_ok : ∀ (a : Nat) (q : Nat × Nat), gSH[a]? = some q → (q.1 < 100 → ∀ k, k < gN q.1 → gM2.2.2.2 a k = gMR a k) ∧ (103 ≤ q.1 → ∀ k, k < q.2 → gM2.2.2.2 a k = gMR a k) := by
  intro a q hq
  have hall := List.all_eq_true.mp gM2_mr
  have hlt : a < gSH.length := (List.getElem?_eq_some_iff.mp hq).1
  have tab : (List.range gSH.length).all (fun a => match gSH[a]? with | some q => (!decide (q.1 < 100) || decide ((a, gN q.1) ∈ grefs)) && (!decide (103 ≤ q.1) || decide ((a, q.2) ∈ grefs)) | none => true) = true := by decide +kernel
  have ha := List.all_eq_true.mp tab a (List.mem_range.mpr hlt)
  rw [hq] at ha
  simp only [Bool.and_eq_true, Bool.or_eq_true, Bool.not_eq_true', decide_eq_false_iff_not, decide_eq_true_eq] at ha
  have ha : (q.1 < 100 → (a, gN q.1) ∈ grefs) ∧ (103 ≤ q.1 → (a, q.2) ∈ grefs) := ⟨fun h => ha.1.resolve_left (fun n => n h), fun h => ha.2.resolve_left (fun n => n h)⟩
  refine ⟨fun h k hk => ?_, fun h k hk => ?_⟩
  · have := List.all_eq_true.mp (hall _ (ha.1 h)) k (List.mem_range.mpr hk)
    simpa using this
  · have := List.all_eq_true.mp (hall _ (ha.2 h)) k (List.mem_range.mpr hk)
    simpa using this
theorem gWd_sw {G : gG} {A : gMe} {H : Heap} (hsh : A.1 = gSH) (hmr : ∀ (a : Nat) (q : Nat × Nat), gSH[a]? = some q → (q.1 < 100 → ∀ k, k < gN q.1 → A.2.2.2 a k = gMR a k) ∧ (103 ≤ q.1 → ∀ k, k < q.2 → A.2.2.2 a k = gMR a k)) (hW : gWd G A H) : gWd G (gw A.2.1 A.2.2.1) H := by
  refine ⟨by have := hW.1; rw [hsh] at this; exact this, fun h => by have := hW.2.1 h; rw [hsh] at this; exact this, fun a q hq => ?_⟩
  have h := hW.2.2 a q (by rw [hsh]; exact hq)
  obtain ⟨t1, t2⟩ := hmr a q hq
  unfold gent at h ⊢
  by_cases hc : q.1 < 100
  · rw [if_pos hc] at h ⊢
    have e2 : (List.range (gN q.1)).map (gfv G A a q.1) = (List.range (gN q.1)).map (gfv G (gw A.2.1 A.2.2.1) a q.1) := by
      apply List.map_congr_left
      intro k hk
      unfold gfv
      rw [t1 hc k (List.mem_range.mp hk)]
    rw [e2] at h
    exact h
  · rw [if_neg hc] at h ⊢
    by_cases h1 : q.1 ≤ 101
    · rw [if_pos h1] at h ⊢
      exact h
    · rw [if_neg h1] at h ⊢
      by_cases h2 : q.1 = 102
      · rw [if_pos h2] at h ⊢
        exact h
      · rw [if_neg h2] at h ⊢
        have h9 : H[gb G + a]? = some (arrV (G.2.1 (q.1 - 100)) q.2 (fun j => va_rf ((A.2.2.2 a j).map (fun x => gb G + x)))) := h
        show H[gb G + a]? = some (arrV (G.2.1 (q.1 - 100)) q.2 (fun j => va_rf ((gMR a j).map (fun x => gb G + x))))
        rw [h9]
        congr 1
        exact arrV_ext (fun j hj => by rw [t2 (by omega) j hj])
theorem Go.sw {G : gG} {mt : gMt} {n mc ms pc : Nat} {lv : List (Option gV)} {st : List gV} {M M' : gMe} {P : Option gV → gMe → Prop} (h : ∀ H, gWd G M H → gWd G M' H) (k : Go G mt n mc ms pc lv st M' P) : Go G mt n mc ms pc lv st M P := by
  intro p l e R s m args below meth cd H locs cells slots ls cx hS hW hL hc hs
  exact k p l e R s m args below meth cd H locs cells slots ls cx hS (h H hW) hL hc hs
theorem gctor {G : gG} (hsz : G.2.2.2.2.2.2 = true) {f x b mc ms d : Nat} {M M1 : gMe} (hx : x ∈ gcts) (hlen : (garg [gr b]).length ≤ (gH x).2.2.1) (h : gex f x 0 (gpad (gH x).2.2.1 (garg [gr b])) [] M = some (none, M1, mc, ms, d)) : gM G x d mc ms [gr b] M (fun r M9 => r = none ∧ M9 = M1) := by
  obtain ⟨c1, c2, c3, c4, c5⟩ := gcts_ok2 x hx
  have := gM.of (G := G) (gmt x) (n := d) (mc := mc) (ms := ms) (av := [gr b]) (M := M) (P := fun r' M9 => r' = none ∧ M9 = M1) (gcts_ok x hx) (by rw [c1]; exact c2) (by rw [c1]; exact c3) (by rw [c1]; exact hlen) (by rw [c1]; exact (gex_ok hsz f x 0 _ [] M h).2 d (Nat.le_refl _))
  rw [c1] at this
  exact this
theorem law_go {G : gG} (hsz : G.2.2.2.2.2.2 = true) {f1 f2 : Nat} {A1 A2 : gMe} (h1 : gex f1 102 0 (gpad (gH 102).2.2.1 (garg [gr 0])) [] gE1 = some (none, A1, 147, 3238, 3)) (hlen : A1.1.length = 148) (h2 : gex f2 152 0 (gpad (gH 152).2.2.1 (garg [gr 148])) [] (mN A1 [(11, 46)]) = some (none, A2, 29, 55670, 1)) (hsw : ∀ H, gWd G A2 H → gWd G (gw A2.2.1 A2.2.2.1) H) {Inv : Nat → (Nat → Nat → Int) → (Nat → Nat → Int64) → Prop} (hI0 : Inv 0 A2.2.1 A2.2.2.1) (hmono : ∀ t mi ml, Inv t mi ml → Inv (t + 1) mi ml) (hops : ∀ c ∈ gcs, gOp G Inv c.2.2.1 c.2.2.2 c.2.1) (hL : gsn G 2 ≤ 384) (hr : ∀ k, rng (gsc G 2 k)) : Go G mL_law 400 (1 + (147 + (1 + (29 + 0)))) (gN 10 + (3238 + (gN 11 + (55670 + 0)))) 0 [some (gs 2), none, none, none] [] gE0 (fun r _ => r = some (gi 1)) := by
  have hd : ∀ {C : String}, (C = RX11 ∨ C = RX12) → C ≠ "java/lang/invoke/MethodHandle" ∧ C ≠ "java/lang/invoke/VarHandle" := by
    rintro C (rfl | rfl) <;> exact ⟨by decide +kernel, by decide +kernel⟩
  have M1 : gM G 102 3 147 3238 [gr 0] gE1 (fun r M9 => r = none ∧ M9 = A1) := gctor hsz (by decide) (by decide +kernel) h1
  have M2 : gM G 152 1 29 55670 [gr 148] (mN A1 [(11, 46)]) (fun r M9 => r = none ∧ M9 = A2) := gctor hsz (by decide) (by decide +kernel) h2
  refine Go.new (by rfl) hsz ?_
  refine Go.dup (by rfl) (fun q h => by cases h) ?_
  refine Go.callI (As := []) (b := 0) (n1 := 3) (mc1 := 147) (ms1 := 3238) (by rfl) rfl (hd (Or.inl rfl)) (by decide +kernel) (Nat.le_of_ble_eq_true rfl) (by decide) M1 ?_
  rintro r M9 ⟨rfl, rfl⟩
  refine Go.store (by rfl) (v := gr 0) rfl (by decide +kernel) ?_
  refine Go.new (by rfl) hsz ?_
  rw [hlen]
  refine Go.dup (by rfl) (fun q h => by cases h) ?_
  refine Go.callI (As := []) (b := 148) (n1 := 1) (mc1 := 29) (ms1 := 55670) (by rfl) rfl (hd (Or.inr rfl)) (by decide +kernel) (Nat.le_of_ble_eq_true rfl) (by decide) M2 ?_
  rintro r M9 ⟨rfl, rfl⟩
  refine Go.store (by rfl) (v := gr 148) rfl (by decide +kernel) ?_
  refine Go.const (by rfl) ?_
  refine Go.store (by rfl) (v := gi 0) rfl (by decide +kernel) ?_
  refine Go.sw hsw ?_
  exact law_loop hops hmono hL hr (fun _ => rfl) (gsn G 2 + 6) 0 _ _ (by omega) hI0

/-! ===== switches ===== -/
def glk (l : List (Int × Nat)) (w : Int) (d : Nat) : Nat := match l with
  | [] => d
  | (k, t) :: r => if w = k then t else glk r w d
theorem glk_off (pc d : Nat) (w : Int) : ∀ l : List (Int × Nat), Op.lookupswitch.offset (l.map (fun q => (q.1, ((q.2 : Int) - pc)))) ((d : Int) - pc) w = ((glk l w d : Nat) : Int) - pc
  | [] => rfl
  | (k, t) :: r => by
    rw [List.map_cons, Op.lookupswitch.offset_cons, glk_off pc d w r]
    by_cases h : w = k
    · simp [glk, h]
    · simp [glk, h, Ne.symm h]
section GOS
variable {G : gG} {mt : gMt} {n mc ms pc nx x y : Nat} {z w : Int} {lv : List (Option gV)} {st : List gV} {M : gMe} {P : Option gV → gMe → Prop}
theorem Go.lsw {l : List (Int × Nat)} (hi : gat mt pc = some (65, z, x, y, nx)) (hl : mt.2.2.lookup pc = some l) (hw : rng w) (kk : Go G mt n mc ms (glk l w x) lv st M P) : Go G mt n mc ms pc lv (gi w :: st) M P := by
  intro p l0 e R s m args below meth cd H locs cells slots ls cx hS hW hL hc hs
  have hk := kk p l0 e R s m args below meth cd H locs cells slots ls cx hS hW hL hc hs
  obtain ⟨hx, hb, -, -, hown, hts, -, -, hK, hSt, -, -, hok⟩ := cx
  have ho := gat_ok hok hi
  unfold gok at ho
  simp only [hl, Bool.and_eq_true, decide_eq_true_eq] at ho
  exact lv_lookup (off := ((glk l w x : Nat) : Int) - pc) (tgt := glk l w x) hx hb ho.1 ho.2 (by rw [iI_toInt hw]; exact glk_off pc x w l) (by omega) hk
theorem Go.tsw_out {l : List (Int × Nat)} (hi : gat mt pc = some (64, z, x, y, nx)) (hl : mt.2.2.lookup pc = some l) (hw : rng w) (h : w < z ∨ z + y ≤ w) (kk : Go G mt n mc ms x lv st M P) : Go G mt n mc ms pc lv (gi w :: st) M P := by
  intro p l0 e R s m args below meth cd H locs cells slots ls cx hS hW hL hc hs
  have hk := kk p l0 e R s m args below meth cd H locs cells slots ls cx hS hW hL hc hs
  obtain ⟨hx, hb, -, -, hown, hts, -, -, hK, hSt, -, -, hok⟩ := cx
  have ho := gat_ok hok hi
  unfold gok at ho
  simp only [hl, Bool.and_eq_true, decide_eq_true_eq] at ho
  exact lv_tableOut (tgt := x) hx hb ho.2 (by rw [iI_toInt hw]; omega) (by omega) hk
theorem Go.tsw_in {l : List (Int × Nat)} {t : Nat} {w' : Int} (hi : gat mt pc = some (64, z, x, y, nx)) (hl : mt.2.2.lookup pc = some l) (hw : rng w) (h0 : z ≤ w) (h1 : w < z + y) (ht : l[(w - z).toNat]? = some (w', t)) (kk : Go G mt n mc ms t lv st M P) : Go G mt n mc ms pc lv (gi w :: st) M P := by
  intro p l0 e R s m args below meth cd H locs cells slots ls cx hS hW hL hc hs
  have hk := kk p l0 e R s m args below meth cd H locs cells slots ls cx hS hW hL hc hs
  obtain ⟨hx, hb, -, -, hown, hts, -, -, hK, hSt, -, -, hok⟩ := cx
  have ho := gat_ok hok hi
  unfold gok at ho
  simp only [hl, Bool.and_eq_true, decide_eq_true_eq] at ho
  exact lv_tableIn (tgt := t) (off := (t : Int) - pc) hx hb ho.2 (by rw [iI_toInt hw]; omega) (by rw [iI_toInt hw]; omega) (by rw [iI_toInt hw]; simp [ht]) (by omega) hk
end GOS
/-! ===== methods and calls ===== -/
def garg : List gV → List (Option gV)
  | [] => []
  | .inr (.inl x) :: vs => some (.inr (.inl x)) :: none :: garg vs
  | v :: vs => some v :: garg vs
theorem garg_len (G : gG) : ∀ av : List gV, (lg_sl (av.map (gup G))).length = (garg av).length
  | [] => rfl
  | v :: vs => by
    have ih := garg_len G vs
    unfold lg_sl at ih ⊢
    rw [List.map_cons, List.flatMap_cons, List.length_append, ih]
    rcases v with z | x | r | k
    · simp [gup, Value.category, garg]; omega
    · simp [gup, Value.category, garg]; omega
    · cases r <;> simp [gup, va_rf, Value.category, garg] <;> omega
    · simp [gup, Value.category, garg]; omega
theorem garg_args (G : gG) : ∀ (av : List gV) (i0 i : Nat) (v : gV), (garg av)[i]? = some (some v) → (i0 + i, gup G v) ∈ lv_args i0 (av.map (gup G))
  | [], i0, i, v, h => by simp [garg] at h
  | w :: vs, i0, i, v, h => by
    rcases w with z | x | r | k
    · rw [List.map_cons]
      cases i with
      | zero => simp [garg] at h; subst h; exact List.mem_cons_self
      | succ i =>
        simp [garg] at h
        have := garg_args G vs (i0 + 1) i v h
        rw [show i0 + (i + 1) = i0 + 1 + i by omega]
        exact List.mem_cons_of_mem _ this
    · rw [List.map_cons]
      cases i with
      | zero => simp [garg] at h; subst h; exact List.mem_cons_self
      | succ i =>
        cases i with
        | zero => simp [garg] at h
        | succ i =>
          simp [garg] at h
          have := garg_args G vs (i0 + 2) i v h
          rw [show i0 + (i + 1 + 1) = i0 + 2 + i by omega]
          exact List.mem_cons_of_mem _ this
    · rw [List.map_cons]
      cases i with
      | zero => simp [garg] at h; subst h; exact List.mem_cons_self
      | succ i =>
        simp [garg] at h
        have := garg_args G vs (i0 + 1) i v h
        rw [show i0 + (i + 1) = i0 + 1 + i by omega]
        cases r <;> exact List.mem_cons_of_mem _ this
    · rw [List.map_cons]
      cases i with
      | zero => simp [garg] at h; subst h; exact List.mem_cons_self
      | succ i =>
        simp [garg] at h
        have := garg_args G vs (i0 + 1) i v h
        rw [show i0 + (i + 1) = i0 + 1 + i by omega]
        exact List.mem_cons_of_mem _ this
def gpad (nL : Nat) (l : List (Option gV)) : List (Option gV) := l ++ List.replicate (nL - l.length) none
def grm (n mc ms : Nat) : Room := { frames := n, cells := mc, slots := ms, locals := 60 * n }
def gPc (G : gG) (av : List gV) (M : gMe) : Array Value → State → Prop := fun v U => v = (av.map (gup G)).toArray ∧ va_K G.1 vwCl (gtys G) U ∧ gSt G U ∧ gNs U ∧ gWd G M U.heap
/-- a method's contract: from this world with these arguments it ends as P says -/
def gM (G : gG) (j n mc ms : Nat) (av : List gV) (M : gMe) (P : Option gV → gMe → Prop) : Prop := ∀ l : Launch, Met l (gH j).1 (gcw (gH j) :: gTB) (grm n mc ms) (gPc G av M) (gQ G P) mc ms (gA G)
theorem gM.of {G : gG} (mt : gMt) {n mc ms : Nat} {av : List gV} {M : gMe} {P : Option gV → gMe → Prop} (hok : gOK mt = true) (hpl : plainName (gH mt.1).1.cls = true) (hown : gown (gH mt.1).2.2.2.2 = (gH mt.1).1.cls) (hlen : (garg av).length ≤ (gH mt.1).2.2.1) (k : Go G mt n mc ms 0 (gpad (gH mt.1).2.2.1 (garg av)) [] M P) : gM G mt.1 n mc ms av M P := by
  intro l
  refine Met.ofW (cc := gcc mt.1) (maxL := (gH mt.1).2.2.1) (ret := (gH mt.1).2.2.2.1) hpl rfl ?_
  intro p e s m args below meth c s₁ B hml hv
  obtain ⟨rfl, hK, hSt, hNs, hW⟩ := hv
  have hts := atoms_spec (ws := gcw (gH mt.1) :: gTB) B.pre
  have hl := lv_entry (av.map (gup G)) (n := (gH mt.1).2.2.1) (by rw [garg_len]; exact hlen)
  rw [lg_entry_eq]
  generalize (lg_sl (av.map (gup G)) ++ List.replicate ((gH mt.1).2.2.1 - (lg_sl (av.map (gup G))).length) Slot.unset).toArray = ls at hl ⊢
  have h := k p l e (headSpec (gcw (gH mt.1) :: gTB) (grm n mc ms)).room s m _ below meth c s.heap [] 0 0 ls
    ⟨B.exec, B.bytes, B.returns, hml, by rw [hown]; exact findClass_of_methodNamed B.named, fun w hw => hts w (List.mem_cons_of_mem _ hw), B.notSynchronized, (name_of_methodNamed B.named B.method).1, hK, hSt, hNs, ⟨Nat.le_refl _, Nat.le_refl _⟩, hok⟩
    va_S.rf hW ⟨hl.1, hl.2.1, fun i v hi => ?_⟩ (by show 0 + mc ≤ mc; omega) (by show 0 + ms ≤ ms; omega)
  · rw [Nat.zero_add, Nat.zero_add] at h
    exact h
  · have hi' : (garg av)[i]? = some (some v) := by
      unfold gpad at hi
      by_cases hlt : i < (garg av).length
      · rwa [List.getElem?_append_left hlt] at hi
      · rw [List.getElem?_append_right (by omega), List.getElem?_replicate] at hi
        split at hi <;> simp at hi
    have := garg_args G av 0 i v hi'
    rw [Nat.zero_add] at this
    exact hl.2.2 _ this
def gcats : List gV → Nat
  | [] => 0
  | .inr (.inl _) :: l => 2 + gcats l
  | _ :: l => 1 + gcats l
theorem gcats_sum (G : gG) : ∀ st : List gV, ((st.map (gup G)).map fun v => v.category).sum = gcats st
  | [] => rfl
  | v :: l => by
    rw [List.map_cons, List.map_cons, List.sum_cons, gcats_sum G l]
    rcases v with z | x | r | k
    · rfl
    · rfl
    · cases r <;> rfl
    · rfl
/-- behind a call: the world that came back stands in the caller's frame -/
theorem gS_call {G : gG} {s st₀ t : State} {H : Heap} {locs L : List Loc} (hS : va_S (gA G) s.heap H locs) (h0 : st₀.heap = H) (hF : va_F (gA G) st₀ t) (hL : ∀ q ∈ L, gA G q.base) : va_S (gA G) s.heap t.heap (locs ++ L) := by
  subst h0
  refine ⟨Nat.le_trans hS.1 hF.1, fun q h1 h2 => (hF.2 q (Nat.lt_of_lt_of_le h1 hS.1) h2).trans (hS.2.1 q h1 h2), fun q hq => ?_⟩
  rcases List.mem_append.mp hq with h | h
  · exact hS.2.2 q h
  · exact hL q h
theorem gPre {G : gG} {s : State} {H : Heap} {locs : List Loc} {av : List gV} {M : gMe} (hK : va_K G.1 vwCl (gtys G) s) (hSt : gSt G s) (hNs : gNs s) (hS : va_S (gA G) s.heap H locs) (hW : gWd G M H) : FrameBlind (gPc G av M) ∧ ∀ U : State, U.heap = H → s.WarmedH U.vm → gPc G av M (av.map (gup G)).toArray U := by
  refine ⟨fun a U g mk q => ?_, fun U hU hWm => ⟨rfl, va_K.moved hWm.alike hK, gSt_moved hWm.alike (by rw [hU]; exact hS.1) (fun a h1 h2 => by rw [hU]; exact hS.2.1 a h1 h2) hSt, gNs_moved hWm hNs, by rw [hU]; exact hW⟩⟩
  obtain ⟨q1, q2, q3, q4, q5⟩ := q
  exact ⟨q1, va_K.moved (u := U) (U := U.calling g mk a) (Vm.Alike.refl U.vm) q2, gSt_moved (s := U) (U := U.calling g mk a) (Vm.Alike.refl U.vm) (Nat.le_refl _) (fun _ _ _ => rfl) q3, q4, q5⟩
section GOC
variable {G : gG} {mt : gMt} {n n1 mc ms mc1 ms1 pc nx x y b c N : Nat} {z : Int} {lv : List (Option gV)} {st As : List gV} {M : gMe} {P P1 : Option gV → gMe → Prop}
theorem gH_in {j : Nat} (h : j < gHs.length) : gcw (gH j) ∈ lw_tbl := by
  refine gcw_in _ ?_
  unfold gH
  rw [List.getElem?_eq_getElem h]
  exact List.getElem_mem h
theorem Go.callV (hi : gat mt pc = some (80, z, x, y, nx)) (hn : As.length = y) (hsh : M.1[b]? = some (c, N)) (hc12 : c < 12) (hcls : gR c = (gH x).1.cls) (hd0 : (gH x).1.cls ≠ "java/lang/invoke/MethodHandle" ∧ (gH x).1.cls ≠ "java/lang/invoke/VarHandle") (hml : (gH x).2.2.1 ≤ 40) (hlv : lv.length = (gH mt.1).2.2.1) (hcat : gcats st ≤ 8) (hfr : n1 + 1 ≤ n) (hM : gM G x n1 mc1 ms1 (gr b :: As) M P1)
    (kk : ∀ (r : Option gV) (M1 : gMe), P1 r M1 → Go G mt n mc ms nx lv (r.toList ++ st) M1 P) : Go G mt n (mc1 + mc) (ms1 + ms) pc lv (As.reverse ++ gr b :: st) M P := by
  intro p l e R s m args below meth cd H locs cells slots ls cx hS hW hL hc hs
  have hk := fun r M1 hP1 H1 locs1 hS1 hW1 => kk r M1 hP1 p l e R s m args below meth cd H1 locs1 (cells + mc1) (slots + ms1) ls cx hS1 hW1 hL (by omega) (by omega)
  obtain ⟨hx, hb, -, hmx, hown, hts, -, -, hK, hSt, hNs, ⟨hR1, hR2⟩, hok⟩ := cx
  have ho := gat_ok hok hi
  simp only [gok, Bool.and_eq_true, decide_eq_true_eq, List.any_eq_true] at ho
  obtain ⟨⟨⟨rfl, q, hq, ⟨e1, e2⟩, hd⟩, hxl⟩, hdesc⟩ := ho
  have hw := gVL_ok q hq
  rw [e1, e2] at hw
  obtain ⟨w1, w2, w3, w4⟩ := hw
  have hPre := gPre (av := gr b :: As) hK hSt hNs hS hW
  have hrun := va_runV (C := (gH x).1.cls) (b := gb G + b) (As := As.map (gup G)) (rest := st.map (gup G)) (g := F0 m pc ls ((As.reverse ++ gr b :: st).map (gup G))) (H := H) (locs := locs) (cells := cells) (slots := slots) (below := below) (meth := meth) (e := e) (nL := (gH mt.1).2.2.1)
    ⟨hx, hb, hmx, hown, hts⟩ (hM l) (cwV (R := R) y hts (fun w hw => by
      rcases List.mem_append.mp hw with h | h
      · rcases List.mem_cons.mp h with rfl | h
        · exact ⟨gTB_in w1 rfl, good_of_word rfl⟩
        · rcases List.mem_cons.mp h with rfl | h
          · exact ⟨gTB_in w2 rfl, good_of_word rfl⟩
          · rcases List.mem_cons.mp h with rfl | h
            · exact ⟨gTB_in w3 rfl, good_of_word rfl⟩
            · rcases List.mem_cons.mp h with rfl | h
              · exact ⟨gTB_in w4 rfl, good_of_word rfl⟩
              · cases h
      · exact gTB_good _ (gH_in hxl) w h) rfl rfl rfl ⟨rfl, hd0.1, hd0.2, hdesc⟩ ⟨by show n1 + 1 ≤ _; omega, by show 8 + ((gH x).2.2.1 + 11) + 60 * n1 ≤ _; omega⟩)
    ⟨hPre.1, by rw [← hcls]; exact va_recv hK (gP1 hW hsh) (gcl hc12) (q0 := 0) (by rw [gent_o hc12]; rfl), fun U hU hWm => hPre.2 U hU hWm⟩ rfl (by rw [List.length_map]; exact hn) hL.1 (by simp [gup, va_rf]) (lv_room (by rw [gcats_sum]; exact hcat)) hd ⟨by omega, by omega⟩
  intro T hT X
  obtain ⟨v, st₀, t, T', L, h0, X', hL', e3, e4, ⟨⟨r, M1, hP1, hv, hW1⟩, hF⟩, step⟩ := hrun T hT X
  cases hv
  obtain ⟨t2, a1, b1⟩ := hk r M1 hP1 t.heap (locs ++ L) (gS_call hS h0 hF hL') hW1 T' e3 X'
  refine ⟨t2, step t2 ?_, ?_⟩
  · have : (r.map (gup G)).toList ++ st.map (gup G) = (r.toList ++ st).map (gup G) := by cases r <;> simp
    rw [this]
    exact a1
  · rw [Nat.add_assoc, Nat.add_assoc] at b1
    exact b1
theorem Go.callS (hi : gat mt pc = some (81, z, x, y, nx)) (hn : As.length = y) (hd0 : (gH x).1.cls ≠ "java/lang/invoke/MethodHandle" ∧ (gH x).1.cls ≠ "java/lang/invoke/VarHandle") (hml : (gH x).2.2.1 ≤ 40) (hcat : gcats st ≤ 8) (hfr : n1 + 1 ≤ n) (hM : gM G x n1 mc1 ms1 As M P1)
    (kk : ∀ (r : Option gV) (M1 : gMe), P1 r M1 → Go G mt n mc ms nx lv (r.toList ++ st) M1 P) : Go G mt n (mc1 + mc) (ms1 + ms) pc lv (As.reverse ++ st) M P := by
  intro p l e R s m args below meth cd H locs cells slots ls cx hS hW hL hc hs
  have hk := fun r M1 hP1 H1 locs1 hS1 hW1 => kk r M1 hP1 p l e R s m args below meth cd H1 locs1 (cells + mc1) (slots + ms1) ls cx hS1 hW1 hL (by omega) (by omega)
  obtain ⟨hx, hb, -, hmx, hown, hts, -, -, hK, hSt, hNs, ⟨hR1, hR2⟩, hok⟩ := cx
  have ho := gat_ok hok hi
  simp only [gok, Bool.and_eq_true, decide_eq_true_eq, List.any_eq_true] at ho
  obtain ⟨⟨⟨rfl, q, hq, ⟨e1, e2⟩, hd⟩, hxl⟩, hdesc⟩ := ho
  have hw := gSL_ok q hq
  rw [e1, e2] at hw
  obtain ⟨w1, w2, w3⟩ := hw
  have hPre := gPre (av := As) hK hSt hNs hS hW
  have hrun := va_runS (As := As.map (gup G)) (rest := st.map (gup G)) (g := F0 m pc ls ((As.reverse ++ st).map (gup G))) (H := H) (locs := locs) (cells := cells) (slots := slots) (below := below) (meth := meth) (e := e) (nL := (gH mt.1).2.2.1)
    ⟨hx, hb, hmx, hown, hts⟩ (hM l) (va_cwS (R := R) y hts (fun w hw => by
      rcases List.mem_append.mp hw with h | h
      · rcases List.mem_cons.mp h with rfl | h
        · exact ⟨gTB_in w1 rfl, good_of_word rfl⟩
        · rcases List.mem_cons.mp h with rfl | h
          · exact ⟨gTB_in w2 rfl, good_of_word rfl⟩
          · rcases List.mem_cons.mp h with rfl | h
            · exact ⟨gTB_in w3 rfl, good_of_word rfl⟩
            · cases h
      · exact gTB_good _ (gH_in hxl) w h) rfl rfl rfl ⟨hd0.1, hd0.2, hdesc⟩ ⟨by show n1 + 1 ≤ _; omega, by show 8 + ((gH x).2.2.1 + 11) + 60 * n1 ≤ _; omega⟩)
    ⟨hPre.1, fun U hU hWm => hPre.2 U hU hWm⟩ rfl (by rw [List.length_map]; exact hn) hL.1 (by simp) (lv_room (by rw [gcats_sum]; exact hcat)) hd ⟨by omega, by omega⟩
  intro T hT X
  obtain ⟨v, st₀, t, T', L, h0, X', hL', e3, e4, ⟨⟨r, M1, hP1, hv, hW1⟩, hF⟩, step⟩ := hrun T hT X
  cases hv
  obtain ⟨t2, a1, b1⟩ := hk r M1 hP1 t.heap (locs ++ L) (gS_call hS h0 hF hL') hW1 T' e3 X'
  refine ⟨t2, step t2 ?_, ?_⟩
  · have : (r.map (gup G)).toList ++ st.map (gup G) = (r.toList ++ st).map (gup G) := by cases r <;> simp
    rw [this]
    exact a1
  · rw [Nat.add_assoc, Nat.add_assoc] at b1
    exact b1
end GOC

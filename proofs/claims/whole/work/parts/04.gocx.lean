/-! ===== THE ABSTRACT MACHINE. Values: numbers (ints as Int), longs, cells by their place in the world, static rows. ===== -/
abbrev gV : Type := Int ⊕ (Int64 ⊕ (Option Nat ⊕ Nat))
abbrev gi (z : Int) : gV := .inl z
abbrev gl (x : Int64) : gV := .inr (.inl x)
abbrev gr (a : Nat) : gV := .inr (.inr (.inl (some a)))
abbrev gn : gV := .inr (.inr (.inl none))
abbrev gs (k : Nat) : gV := .inr (.inr (.inr k))
/-- the world: a cell's kind (below 100: an object of that class; 100 and on: an array of that type) and length; what ints, longs and references the cells hold -/
abbrev gMe : Type := List (Nat × Nat) × (Nat → Nat → Int) × (Nat → Nat → Int64) × (Nat → Nat → Option Nat)
/-- what is fixed: classes and slots; array classes; the world's first address; the static rows' addresses; the script's length and ints; whether cells may still be made -/
abbrev gG : Type := va_G × (Nat → ClassId) × Nat × (Nat → Nat) × Nat × (Nat → Int) × Bool
def gb (G : gG) : Nat := G.2.2.1
def gA (G : gG) : Nat → Prop := fun q => gb G ≤ q
def gup (G : gG) : gV → Value
  | .inl z => .int (iI z)
  | .inr (.inl x) => .long x
  | .inr (.inr (.inl r)) => va_rf (r.map (fun a => gb G + a))
  | .inr (.inr (.inr k)) => .ref (G.2.2.2.1 k)
def gaty (t : Nat) : FieldType := match t with
  | 0 => .int
  | 1 => .boolean
  | 2 => .long
  | 3 => .object "FieldPitches$Pitch"
  | 4 => .object "FieldPitches$Party"
  | 5 => .object "FieldPitches$Law"
  | 6 => .object "FieldPitches$Sheet"
  | _ => .array .int
def gtys (G : gG) : List (ClassId × FieldType) := [(G.2.1 0, gaty 0), (G.2.1 1, gaty 1), (G.2.1 2, gaty 2), (G.2.1 3, gaty 3), (G.2.1 4, gaty 4), (G.2.1 5, gaty 5), (G.2.1 6, gaty 6), (G.2.1 7, gaty 7)]
def gfv (G : gG) (M : gMe) (a c k : Nat) : Value := match gty c k with
  | .int => .int (iI (M.2.1 a k))
  | .boolean => .int (iI (M.2.1 a k))
  | .long => .long (M.2.2.1 a k)
  | _ => va_rf ((M.2.2.2 a k).map (fun x => gb G + x))
def gent (G : gG) (M : gMe) (a : Nat) (q : Nat × Nat) : va_E := if q.1 < 100 then .inr (q.1, (List.range (gN q.1)).map (gfv G M a q.1)) else .inl (G.2.1 (q.1 - 100), q.2, if q.1 ≤ 101 then .inl (fun j => iI (M.2.1 a j)) else if q.1 = 102 then .inr (.inl (M.2.2.1 a)) else .inr (.inr (.inr (.inr (fun j => (M.2.2.2 a j).map (fun x => gb G + x))))))
def gWd (G : gG) (M : gMe) (H : Heap) : Prop := gb G + M.1.length ≤ H.size ∧ (G.2.2.2.2.2.2 = true → H.size = gb G + M.1.length) ∧ ∀ (a : Nat) (q : Nat × Nat), M.1[a]? = some q → va_at G.1 vwCl (gb G + a, gent G M a q) H
/-- the static rows: ABOVE, NAMES, the script -/
def gsn (G : gG) (k : Nat) : Nat := match k with
  | 0 => 5
  | 1 => 6
  | _ => G.2.2.2.2.1
def gsc (G : gG) (k : Nat) : Nat → Int := match k with
  | 0 => fun j => match j with
    | 0 => -1
    | 1 => 0
    | 2 => 0
    | _ => 2
  | 1 => fun j => match j with
    | 0 => 108
    | 1 => 97
    | 2 => 110
    | 3 => 107
    | 4 => 100
    | _ => 111
  | _ => G.2.2.2.2.2.1
def gsT (G : gG) (k : Nat) (ty : FieldType) (s : State) : Prop := va_T ty (G.2.2.2.1 k) (gsn G k) (fun j => .int (iI (gsc G k j))) (gA G) s s.heap
def gSt (G : gG) (s : State) : Prop := gb G ≤ s.heap.size ∧ va_Z "FieldPitches$Kinds" "ABOVE" "[I" (.ref (G.2.2.2.1 0)) (gA G) s s.heap ∧ gsT G 0 .int s ∧ va_Z "FieldPitches$Tape" "NAMES" "[C" (.ref (G.2.2.2.1 1)) (gA G) s s.heap ∧ gsT G 1 .char s ∧ gsT G 2 .int s
def gAOA (U : State) : Prop := (Cond.arrayOver (.array .int)).before #[] U = true
theorem gAOA_moved {u U : State} (hvm : u.vm.Alike U.vm) (h : gAOA u) : gAOA U := by
  obtain ⟨comp, c, k, h1, h2, h3, h4, h5⟩ := arrayOverA_spec h
  obtain ⟨k', hk', he⟩ := hvm.2.2 _ _ h3
  have hi : (U.vm.classes.findIdx? fun (x : Class) => match x.kind with | .array component _ => component == comp | _ => false) = some c := by
    rw [hvm.findIdx?_eq _ (fun _ => rfl)]
    exact h2
  have hkind : k'.kind = .array comp (.array .int) := by rw [he]; exact h4
  have f1 : U.vm.findClass (FieldType.array .int).toString = some comp := by rw [hvm.findClass]; exact h1
  have f2 : U.vm.findClass ("[" ++ (FieldType.array .int).toString) = some c := by rw [hvm.findClass]; exact h5
  unfold gAOA Cond.before Cond.holds
  simp only [Cond.value]
  rw [f1, Option.bind_some]
  refine (congrArg (fun o : Option Nat => (o.bind (fun c => (U.vm.classes[c]?).map fun (k : Class) => match k.kind with | .array _ ty => decide (ty = FieldType.array .int) && decide (U.vm.findClass ("[" ++ (FieldType.array .int).toString) = some c) | _ => false) == some true)) hi).trans ?_
  simp [hk', hkind, f2]
def gNs (s : State) : Prop := (∀ q ∈ gNL, va_Nw (.methodLinkNest (gown q.1) q.2.1 (gH q.2.2).1 "FieldPitches") s) ∧ va_AO "FieldPitches$Pitch" s ∧ va_AO "FieldPitches$Party" s ∧ va_AO "FieldPitches$Law" s ∧ va_AO "FieldPitches$Sheet" s ∧ gAOA s
theorem gNs_moved {s U : State} (hW : s.WarmedH U.vm) (h : gNs s) : gNs U := ⟨fun q hq => va_Nw.warmM hW (h.1 q hq), h.2.1.moved hW.alike, h.2.2.1.moved hW.alike, h.2.2.2.1.moved hW.alike, h.2.2.2.2.1.moved hW.alike, gAOA_moved hW.alike h.2.2.2.2.2⟩
def gTB : List Cond := lw_tbl.filter goodWord
theorem gTB_in {w : Cond} (h : w ∈ lw_tbl) (hg : goodWord w = true) : w ∈ gTB := List.mem_filter.mpr ⟨h, hg⟩
theorem gTB_good (h : gHd) (hh : gcw h ∈ lw_tbl) : GoodIn gTB (gcw h :: gTB) := by
  intro w hw
  rcases List.mem_cons.mp hw with rfl | hw
  · exact ⟨gTB_in hh rfl, good_of_word rfl⟩
  · exact ⟨hw, good_of_word (List.mem_filter.mp hw).2⟩
/-- the statics stay -/
theorem gSt_moved {G : gG} {s U : State} (hvm : s.vm.Alike U.vm) (hz : s.heap.size ≤ U.heap.size) (hq : ∀ a : Nat, a < s.heap.size → ¬ gA G a → U.heap[a]? = s.heap[a]?) (h : gSt G s) : gSt G U :=
  ⟨Nat.le_trans h.1 hz, (h.2.1.moved hvm).kept hq, (va_T.moved hvm h.2.2.1).kept hq, (h.2.2.2.1.moved hvm).kept hq, (va_T.moved hvm h.2.2.2.2.1).kept hq, (va_T.moved hvm h.2.2.2.2.2).kept hq⟩
/-! ===== instructions, resolved: a number for what it does, a number, two places, where it goes on ===== -/
abbrev gRI : Type := Nat × Int × Nat × Nat × Nat
abbrev gMt : Type := Nat × List (Nat × gRI) × List (Nat × List (Int × Nat))
def gcc (j : Nat) : ByteArray := (gH j).2.1
def gok (j : Nat) (sw : List (Nat × List (Int × Nat))) (pc op : Nat) (z : Int) (x y nx : Nat) : Bool :=
  let d := decode (gcc j) pc
  let o := (gH j).2.2.2.2
  let f4 : Fin 4 := Fin.ofNat 4 x
  match op with
  | 0 => (decide (d = .ok (.iconst z, 1)) && decide (nx = pc + 1)) || (decide (d = .ok (.bipush z, 2)) && decide (nx = pc + 2) && decide (-128 ≤ z) && decide (z < 128)) || (decide (d = .ok (.sipush z, 3)) && decide (nx = pc + 3) && decide (-32768 ≤ z) && decide (z < 32768)) || gKC.any (fun q => decide (q.1 = o) && decide (q.2.2 = z) && ((decide (d = .ok (.ldc q.2.1, 2)) && decide (nx = pc + 2)) || (decide (d = .ok (.ldc_w q.2.1, 3)) && decide (nx = pc + 3))))
  | 1 => (decide (d = .ok (.lconst 0, 1)) && decide (nx = pc + 1) && decide (z = 0)) || (decide (d = .ok (.lconst 1, 1)) && decide (nx = pc + 1) && decide (z = 1)) || gKL.any (fun q => decide (q.1 = o) && decide (q.2.2 = z) && decide (d = .ok (.ldc2_w q.2.1, 3)) && decide (nx = pc + 3))
  | 2 => (decide (x < 4) && decide (nx = pc + 1) && (decide (d = .ok (.iload_n f4, 1)) && decide (y = 0) || decide (d = .ok (.lload_n f4, 1)) && decide (y = 1) || decide (d = .ok (.aload_n f4, 1)) && decide (y = 2))) || (decide (nx = pc + 2) && (decide (d = .ok (.iload x, 2)) && decide (y = 0) || decide (d = .ok (.lload x, 2)) && decide (y = 1) || decide (d = .ok (.aload x, 2)) && decide (y = 2)))
  | 3 => (decide (x < 4) && decide (nx = pc + 1) && (decide (d = .ok (.istore_n f4, 1)) && decide (y = 0) || decide (d = .ok (.astore_n f4, 1)) && decide (y = 2))) || (decide (nx = pc + 2) && (decide (d = .ok (.istore x, 2)) && decide (y = 0) || decide (d = .ok (.astore x, 2)) && decide (y = 2)))
  | 4 => (decide (x < 4) && decide (nx = pc + 1) && decide (d = .ok (.lstore_n f4, 1))) || (decide (nx = pc + 2) && decide (d = .ok (.lstore x, 2)))
  | 5 => decide (d = .ok (.iinc x z, 3)) && decide (nx = pc + 3)
  | 6 => decide (d = .ok (.dup, 1)) && decide (nx = pc + 1)
  | 7 => decide (d = .ok (.dup2, 1)) && decide (nx = pc + 1)
  | 8 => decide (d = .ok (.pop, 1)) && decide (nx = pc + 1)
  | 10 => decide (d = .ok (.iadd, 1)) && decide (nx = pc + 1)
  | 11 => decide (d = .ok (.isub, 1)) && decide (nx = pc + 1)
  | 12 => decide (d = .ok (.imul, 1)) && decide (nx = pc + 1)
  | 13 => decide (d = .ok (.ineg, 1)) && decide (nx = pc + 1)
  | 14 => decide (d = .ok (.idiv, 1)) && decide (nx = pc + 1)
  | 15 => decide (d = .ok (.irem, 1)) && decide (nx = pc + 1)
  | 16 => decide (d = .ok (.iand, 1)) && decide (nx = pc + 1)
  | 17 => decide (d = .ok (.ior, 1)) && decide (nx = pc + 1)
  | 18 => decide (d = .ok (.ixor, 1)) && decide (nx = pc + 1)
  | 19 => decide (d = .ok (.ishl, 1)) && decide (nx = pc + 1)
  | 20 => decide (d = .ok (.ishr, 1)) && decide (nx = pc + 1)
  | 21 => decide (d = .ok (.iushr, 1)) && decide (nx = pc + 1)
  | 22 => decide (d = .ok (.i2l, 1)) && decide (nx = pc + 1)
  | 23 => decide (d = .ok (.i2b, 1)) && decide (nx = pc + 1)
  | 24 => decide (d = .ok (.i2s, 1)) && decide (nx = pc + 1)
  | 30 => decide (d = .ok (.ladd, 1)) && decide (nx = pc + 1)
  | 31 => decide (d = .ok (.lsub, 1)) && decide (nx = pc + 1)
  | 32 => decide (d = .ok (.land, 1)) && decide (nx = pc + 1)
  | 33 => decide (d = .ok (.lor, 1)) && decide (nx = pc + 1)
  | 34 => decide (d = .ok (.lxor, 1)) && decide (nx = pc + 1)
  | 35 => decide (d = .ok (.lshl, 1)) && decide (nx = pc + 1)
  | 36 => decide (d = .ok (.lushr, 1)) && decide (nx = pc + 1)
  | 37 => decide (d = .ok (.lcmp, 1)) && decide (nx = pc + 1)
  | 38 => decide (d = .ok (.l2i, 1)) && decide (nx = pc + 1)
  | 40 => decide (nx = pc + 3) && gFL.any (fun q => decide (q.1 = o) && decide (q.2.2 = (x, y)) && decide (y < gN x) && decide (x < 12) && decide (d = .ok (.getfield q.2.1, 3)))
  | 41 => decide (nx = pc + 3) && gFL.any (fun q => decide (q.1 = o) && decide (q.2.2 = (x, y)) && decide (y < gN x) && decide (x < 12) && decide ((gT x y).2.2.2 = false) && decide (d = .ok (.putfield q.2.1, 3)))
  | 42 => decide (nx = pc + 3) && gFL.any (fun q => decide (q.1 = o) && decide (q.2.2 = (x, y)) && decide (y < gN x) && decide (x < 12) && decide ((gT x y).2.2.2 = true) && decide ((gT x y).1 = gown o) && decide ((gH j).1.name = "<init>") && decide (d = .ok (.putfield q.2.1, 3)))
  | 43 => decide (d = .ok (.iaload, 1)) && decide (nx = pc + 1)
  | 44 => decide (d = .ok (.baload, 1)) && decide (nx = pc + 1)
  | 45 => decide (d = .ok (.laload, 1)) && decide (nx = pc + 1)
  | 46 => decide (d = .ok (.aaload, 1)) && decide (nx = pc + 1)
  | 47 => decide (d = .ok (.caload, 1)) && decide (nx = pc + 1)
  | 48 => decide (d = .ok (.iastore, 1)) && decide (nx = pc + 1)
  | 49 => decide (d = .ok (.bastore, 1)) && decide (nx = pc + 1)
  | 50 => decide (d = .ok (.lastore, 1)) && decide (nx = pc + 1)
  | 51 => decide (d = .ok (.aastore, 1)) && decide (nx = pc + 1)
  | 52 => decide (d = .ok (.arraylength, 1)) && decide (nx = pc + 1)
  | 60 => decide (d = .ok (.goto ((x : Int) - pc), 3))
  | 61 => decide (nx = pc + 3) && decide (d = .ok (.ifCond (match y with | 0 => .eq | 1 => .ne | 2 => .lt | 3 => .ge | 4 => .gt | _ => .le) ((x : Int) - pc), 3)) && decide (y < 6)
  | 62 => decide (nx = pc + 3) && decide (d = .ok (.if_icmp (match y with | 0 => .eq | 1 => .ne | 2 => .lt | 3 => .ge | 4 => .gt | _ => .le) ((x : Int) - pc), 3)) && decide (y < 6)
  | 64 => (match sw.lookup pc with | some l => decide (l = (l.zipIdx.map (fun q => (z + q.2, q.1.2)))) && decide (l.length = y) && decide (0 < y) && decide (d = .ok (.tableswitch ((x : Int) - pc) z (z + y - 1) (l.map (fun q => ((q.2 : Int) - pc))).toArray, nx - pc)) | none => false)
  | 65 => (match sw.lookup pc with | some l => decide (d = .ok (.lookupswitch ((x : Int) - pc) (l.map (fun q => (q.1, ((q.2 : Int) - pc)))).toArray, nx - pc)) && (((l.map (fun q => (q.1, ((q.2 : Int) - pc)))).toArray.toList.zip ((l.map (fun q => (q.1, ((q.2 : Int) - pc)))).toArray.toList.drop 1)).all (fun (a, next) => a.1 < next.1)) | none => false)
  | 70 => decide (d = .ok (.ireturn, 1)) && (decide ((gH j).2.2.2.1 = some .int) && decide (y = 0) || decide ((gH j).2.2.2.1 = some .boolean) && decide (y = 1))
  | 71 => decide (d = .ok (.lreturn, 1)) && decide ((gH j).2.2.2.1 = some .long)
  | 72 => decide (d = .ok (.return_, 1)) && decide ((gH j).2.2.2.1 = none)
  | 80 => decide (nx = pc + 3) && gVL.any (fun q => decide (q.1 = o) && decide (q.2.2 = x) && decide (d = .ok (.invokevirtual q.2.1, 3))) && decide (x < gHs.length) && decide ((parseMethodDescriptor (gH x).1.desc).map (fun d => d.parameters.length) = some y)
  | 81 => decide (nx = pc + 3) && gSL.any (fun q => decide (q.1 = o) && decide (q.2.2 = x) && decide (d = .ok (.invokestatic q.2.1, 3))) && decide (x < gHs.length) && decide ((parseMethodDescriptor (gH x).1.desc).map (fun d => d.parameters.length) = some y)
  | 82 => decide (nx = pc + 3) && gIL.any (fun q => decide (q.1 = o) && decide (q.2.2 = x) && decide (d = .ok (.invokespecial q.2.1, 3))) && decide (x < gHs.length) && decide ((parseMethodDescriptor (gH x).1.desc).map (fun d => d.parameters.length) = some y) && decide ((gH x).1.name = "<init>") && decide ((gH x).2.2.2.1 = none)
  | 83 => decide (nx = pc + 3) && gNL.any (fun q => decide (q.1 = o) && decide (q.2.2 = x) && decide (d = .ok (.invokespecial q.2.1, 3))) && decide (x < gHs.length) && decide ((parseMethodDescriptor (gH x).1.desc).map (fun d => d.parameters.length) = some y) && decide ((gH x).1.name = "<init>") && decide ((gH x).2.2.2.1 = none)
  | 84 => decide (nx = pc + 3) && gOL.any (fun q => decide (q.1 = o) && decide (d = .ok (.invokespecial q.2, 3)))
  | 85 => decide (nx = pc + 3) && gAL.any (fun q => decide (q.1 = o) && decide (d = .ok (.invokestatic q.2, 3)))
  | 90 => decide (nx = pc + 3) && gCL.any (fun q => decide (q.1 = o) && decide (q.2.2 = x) && decide (x < 12) && decide (d = .ok (.new q.2.1, 3)))
  | 91 => decide (nx = pc + 2) && (decide (d = .ok (.newarray .int, 2)) && decide (x = 0) || decide (d = .ok (.newarray .boolean, 2)) && decide (x = 1) || decide (d = .ok (.newarray .long, 2)) && decide (x = 2))
  | 92 => decide (nx = pc + 3) && gQL.any (fun q => decide (q.1 = o) && decide (q.2.2 = x) && decide (d = .ok (.anewarray q.2.1, 3)))
  | 93 => decide (nx = pc + 4) && decide (o = 5) && decide (d = .ok (.multianewarray gix_MN 2, 4))
  | 95 => decide (nx = pc + 3) && (decide (o = 1) && decide (x = 0) && decide (d = .ok (.getstatic gix_ABOVE, 3)) || decide (o = 9) && decide (x = 1) && decide (d = .ok (.getstatic gix_NAMES, 3)))
  | _ => false
def gOK (mt : gMt) : Bool := mt.2.1.all (fun q => gok mt.1 mt.2.2 q.1 q.2.1 q.2.2.1 q.2.2.2.1 q.2.2.2.2.1 q.2.2.2.2.2)
def gat (mt : gMt) (pc : Nat) : Option gRI := mt.2.1.lookup pc
theorem gat_mem : ∀ (l : List (Nat × gRI)) {pc : Nat} {r : gRI}, l.lookup pc = some r → (pc, r) ∈ l
  | [], _, _, h => by simp at h
  | (a, b) :: l, pc, r, h => by
    rw [List.lookup_cons] at h
    by_cases e : pc == a
    · simp only [e] at h
      have : pc = a := by simpa using e
      subst this
      cases h
      exact List.mem_cons_self
    · simp only [e] at h
      exact List.mem_cons_of_mem _ (gat_mem l (by simpa using h))
theorem gat_ok {mt : gMt} (hk : gOK mt = true) {pc op : Nat} {z : Int} {x y nx : Nat} (h : gat mt pc = some (op, z, x, y, nx)) : gok mt.1 mt.2.2 pc op z x y nx = true := List.all_eq_true.mp hk _ (gat_mem _ h)
/-! ===== the judgement ===== -/
def gLs (G : gG) (ls : Array Slot) (nL : Nat) (lv : List (Option gV)) : Prop := ls.size = nL ∧ lv_wf ls ∧ ∀ (i : Nat) (v : gV), lv[i]? = some (some v) → ls[i]? = some (.val (gup G v))
def gCx (G : gG) (mt : gMt) (n : Nat) (p : Program) (R : Room) (s : State) (m : MethodId) (args : Array Value) (meth : Method) (c : Code) : Prop :=
  p.tables.exec = Jvm.exec ∧ c.code = gcc mt.1 ∧ meth.sig.returnType = (gH mt.1).2.2.2.1 ∧ c.maxLocals = (gH mt.1).2.2.1 ∧ s.vm.findClass (gown (gH mt.1).2.2.2.2) = some m.cls ∧ (∀ w ∈ gTB, w.before args s = true) ∧ meth.locks = false ∧ meth.name = (gH mt.1).1.name ∧ va_K G.1 vwCl (gtys G) s ∧ gSt G s ∧ gNs s ∧ (n ≤ R.frames ∧ 60 * n ≤ R.locals) ∧ gOK mt = true
def gQ (G : gG) (P : Option gV → gMe → Prop) : Array Value → State → Outcome → State → Prop := fun _ st oc t => (∃ (r : Option gV) (M : gMe), P r M ∧ oc = .returned (r.map (gup G)) ∧ gWd G M t.heap) ∧ va_F (gA G) st t
def Go (G : gG) (mt : gMt) (n mc ms pc : Nat) (lv : List (Option gV)) (st : List gV) (M : gMe) (P : Option gV → gMe → Prop) : Prop :=
  ∀ (p : Program) (l : Launch) (e : Env) (R : Room) (s : State) (m : MethodId) (args : Array Value) (below : List Frame) (meth : Method) (c : Code) (H : Heap) (locs : List Loc) (cells slots : Nat) (ls : Array Slot),
    gCx G mt n p R s m args meth c → va_S (gA G) s.heap H locs → gWd G M H → gLs G ls (gH mt.1).2.2.1 lv → cells + mc ≤ R.cells → slots + ms ≤ R.slots →
    W p l e R s m args below meth c H locs cells slots (MQ below (gQ G P) args s (cells + mc) (slots + ms) (gA G)) (F0 m pc ls (st.map (gup G)))

/-! ===== locals ===== -/
def gnl : Option gV → Option gV
  | some (.inr (.inl _)) => none
  | o => o
def gset : List (Option gV) → Nat → gV → List (Option gV)
  | [], _, _ => []
  | _ :: l, 0, v => some v :: l
  | o :: l, i + 1, v => (if i = 0 then gnl o else o) :: gset l i v
def gclr : List (Option gV) → Nat → List (Option gV)
  | [], _ => []
  | _ :: l, 0 => none :: l
  | o :: l, i + 1 => o :: gclr l i
theorem gset_get : ∀ (l : List (Option gV)) (i : Nat) (v : gV) (j : Nat) (w : gV), (gset l i v)[j]? = some (some w) → (j = i ∧ w = v) ∨ (j ≠ i ∧ l[j]? = some (some w) ∧ (j + 1 = i → ∀ x, w ≠ .inr (.inl x)))
  | [], _, _, j, w, h => by simp [gset] at h
  | o :: l, 0, v, 0, w, h => by
    simp [gset] at h
    exact Or.inl ⟨rfl, h.symm⟩
  | o :: l, 0, v, j + 1, w, h => by
    simp [gset] at h
    exact Or.inr ⟨by omega, by simpa using h, fun q => by omega⟩
  | o :: l, i + 1, v, 0, w, h => by
    right
    by_cases e : i = 0
    · subst e
      simp [gset, gnl] at h
      split at h
      · cases h
      · subst h
        refine ⟨by omega, by simp, fun _ x hx => ?_⟩
        subst hx
        rename_i hne
        exact hne x rfl
    · simp [gset, e] at h
      exact ⟨by omega, by simpa using h, fun q => by omega⟩
  | o :: l, i + 1, v, j + 1, w, h => by
    simp [gset] at h
    rcases gset_get l i v j w h with ⟨h1, h2⟩ | ⟨h1, h2, h3⟩
    · exact Or.inl ⟨by omega, h2⟩
    · exact Or.inr ⟨by omega, by simpa using h2, fun q => h3 (by omega)⟩
theorem gclr_get : ∀ (l : List (Option gV)) (i : Nat) (j : Nat) (w : gV), (gclr l i)[j]? = some (some w) → j ≠ i ∧ l[j]? = some (some w)
  | [], _, j, w, h => by simp [gclr] at h
  | o :: l, 0, 0, w, h => by simp [gclr] at h
  | o :: l, 0, j + 1, w, h => by
    simp [gclr] at h
    exact ⟨by omega, by simpa using h⟩
  | o :: l, i + 1, 0, w, h => by
    simp [gclr] at h
    exact ⟨by omega, by simpa using h⟩
  | o :: l, i + 1, j + 1, w, h => by
    simp [gclr] at h
    obtain ⟨h1, h2⟩ := gclr_get l i j w h
    exact ⟨by omega, by simpa using h2⟩
def glist (G : gG) (lv : List (Option gV)) : List (Nat × Value) := lv.zipIdx.filterMap (fun q => q.1.map (fun v => (q.2, gup G v)))
theorem glist_mem {G : gG} {lv : List (Option gV)} {j : Nat} {v : gV} (h : lv[j]? = some (some v)) : (j, gup G v) ∈ glist G lv := by
  refine List.mem_filterMap.mpr ⟨(some v, j), ?_, rfl⟩
  rw [List.mem_zipIdx_iff_getElem?]
  exact h
theorem glist_of {G : gG} {lv : List (Option gV)} {q : Nat × Value} (h : q ∈ glist G lv) : ∃ v, lv[q.1]? = some (some v) ∧ q.2 = gup G v := by
  obtain ⟨⟨o, j⟩, h1, h2⟩ := List.mem_filterMap.mp h
  rw [List.mem_zipIdx_iff_getElem?] at h1
  cases o with
  | none => simp at h2
  | some v =>
    simp at h2
    subst h2
    exact ⟨v, h1, rfl⟩
theorem gLs_has {G : gG} {ls : Array Slot} {nL : Nat} {lv : List (Option gV)} (h : gLs G ls nL lv) : lv_has ls nL (glist G lv) := by
  refine ⟨h.1, h.2.1, fun q hq => ?_⟩
  obtain ⟨v, h1, h2⟩ := glist_of hq
  rw [h2]
  exact h.2.2 _ _ h1
theorem gcat1 {G : gG} {v : gV} (h : ∀ x, v ≠ .inr (.inl x)) : (gup G v).category = 1 := by
  rcases v with z | x | r | k
  · rfl
  · exact absurd rfl (h x)
  · cases r <;> rfl
  · rfl
theorem gcat2 {G : gG} {v : gV} (h : (gup G v).category = 2) : ∃ x, v = .inr (.inl x) := by
  rcases v with z | x | r | k
  · cases h
  · exact ⟨x, rfl⟩
  · cases r <;> cases h
  · cases h
theorem gLs_set {G : gG} {ls' : Array Slot} {nL i : Nat} {lv : List (Option gV)} {v : gV} (h' : lv_has ls' nL ((i, gup G v) :: (glist G lv).filter (fun q => !(q.1 == i) && !(q.1 + 1 == i && q.2.category == 2)))) : gLs G ls' nL (gset lv i v) := by
  refine ⟨h'.1, h'.2.1, fun j w hj => ?_⟩
  rcases gset_get lv i v j w hj with ⟨rfl, rfl⟩ | ⟨h1, h2, h3⟩
  · exact h'.2.2 (j, gup G w) List.mem_cons_self
  · refine h'.2.2 (j, gup G w) (List.mem_cons_of_mem _ (List.mem_filter.mpr ⟨glist_mem h2, ?_⟩))
    simp only [Bool.and_eq_true, Bool.not_eq_true', beq_eq_false_iff_ne, Bool.and_eq_false_iff]
    refine ⟨h1, ?_⟩
    by_cases e : j + 1 = i
    · right
      rw [gcat1 (h3 e)]
      decide
    · exact Or.inl e
theorem gLs_set2 {G : gG} {ls' : Array Slot} {nL i : Nat} {lv : List (Option gV)} {v : gV} (h' : lv_has ls' nL ((i, gup G v) :: (glist G lv).filter (fun q => !(q.1 == i) && (!(q.1 == i + 1) && !(q.1 + 1 == i && q.2.category == 2))))) : gLs G ls' nL (gclr (gset lv i v) (i + 1)) := by
  refine ⟨h'.1, h'.2.1, fun j w hj => ?_⟩
  obtain ⟨h0, hj⟩ := gclr_get _ _ _ _ hj
  rcases gset_get lv i v j w hj with ⟨rfl, rfl⟩ | ⟨h1, h2, h3⟩
  · exact h'.2.2 (j, gup G w) List.mem_cons_self
  · refine h'.2.2 (j, gup G w) (List.mem_cons_of_mem _ (List.mem_filter.mpr ⟨glist_mem h2, ?_⟩))
    simp only [Bool.and_eq_true, Bool.not_eq_true', beq_eq_false_iff_ne, Bool.and_eq_false_iff]
    refine ⟨h1, h0, ?_⟩
    by_cases e : j + 1 = i
    · right
      rw [gcat1 (h3 e)]
      decide
    · exact Or.inl e
def gkd : gV → Option Nat
  | .inl _ => some 0
  | .inr (.inl _) => some 1
  | .inr (.inr (.inl (some _))) => some 2
  | .inr (.inr (.inl none)) => none
  | .inr (.inr (.inr _)) => some 2
theorem iI_b {z : Int} (h1 : -128 ≤ z) (h2 : z < 128) : (Int8.ofInt z).toInt32 = iI z := by
  apply Int32.toInt_inj.mp
  rw [iI_toInt ⟨by omega, by omega⟩, Int8.toInt_toInt32, Int8.toInt_ofInt_of_le h1 h2]
theorem iI_s {z : Int} (h1 : -32768 ≤ z) (h2 : z < 32768) : (Int16.ofInt z).toInt32 = iI z := by
  apply Int32.toInt_inj.mp
  rw [iI_toInt ⟨by omega, by omega⟩, Int16.toInt_toInt32, Int16.toInt_ofInt_of_le h1 h2]
section GO
variable {G : gG} {mt : gMt} {n mc ms pc nx x y : Nat} {z : Int} {lv : List (Option gV)} {st : List gV} {M : gMe} {P : Option gV → gMe → Prop}
theorem Go.const (hi : gat mt pc = some (0, z, x, y, nx)) (k : Go G mt n mc ms nx lv (gi z :: st) M P) : Go G mt n mc ms pc lv st M P := by
  intro p l e R s m args below meth c H locs cells slots ls cx hS hW hL hc hs
  have hk := k p l e R s m args below meth c H locs cells slots ls cx hS hW hL hc hs
  obtain ⟨hx, hb, -, -, hown, hts, -, -, -, -, -, -, hok⟩ := cx
  have ho := gat_ok hok hi
  simp only [gok, Bool.or_eq_true, Bool.and_eq_true, decide_eq_true_eq, List.any_eq_true] at ho
  rcases ho with ((⟨hd, rfl⟩ | ⟨⟨⟨hd, rfl⟩, h1⟩, h2⟩) | ⟨⟨⟨hd, rfl⟩, h1⟩, h2⟩) | ⟨q, hq, ⟨hq1, hq2⟩, (⟨hd, rfl⟩ | ⟨hd, rfl⟩)⟩
  · exact lv_iconst hx hb hd rfl hk
  · exact lv_bipush hx hb hd (iI_b h1 h2) hk
  · exact lv_sipush hx hb hd (iI_s h1 h2) hk
  · exact lv_ldc hx hb hown (hts _ (gTB_in (by have := gKC_ok q hq; rw [hq1, hq2] at this; exact this) rfl)) hd hk
  · exact lv_ldcw hx hb hown (hts _ (gTB_in (by have := gKC_ok q hq; rw [hq1, hq2] at this; exact this) rfl)) hd hk
theorem Go.lconst (hi : gat mt pc = some (1, z, x, y, nx)) (k : Go G mt n mc ms nx lv (gl (Int64.ofInt z) :: st) M P) : Go G mt n mc ms pc lv st M P := by
  intro p l e R s m args below meth c H locs cells slots ls cx hS hW hL hc hs
  have hk := k p l e R s m args below meth c H locs cells slots ls cx hS hW hL hc hs
  obtain ⟨hx, hb, -, -, hown, hts, -, -, -, -, -, -, hok⟩ := cx
  have ho := gat_ok hok hi
  simp only [gok, Bool.or_eq_true, Bool.and_eq_true, decide_eq_true_eq, List.any_eq_true] at ho
  rcases ho with (⟨⟨hd, rfl⟩, rfl⟩ | ⟨⟨hd, rfl⟩, rfl⟩) | ⟨q, hq, ⟨⟨hq1, hq2⟩, hd⟩, rfl⟩
  · exact lv_lconst hx hb hd (by decide) hk
  · exact lv_lconst hx hb hd (by decide) hk
  · exact lv_ldc2 hx hb hown (hts _ (gTB_in (by have := gKL_ok q hq; rw [hq1, hq2] at this; exact this) rfl)) hd hk
theorem fin4 {x : Nat} (h : x < 4) : ((Fin.ofNat 4 x : Fin 4) : Nat) = x := Nat.mod_eq_of_lt h
theorem Go.load (hi : gat mt pc = some (2, z, x, y, nx)) {v : gV} (hv : lv[x]? = some (some v)) (hkd : gkd v = some y) (k : Go G mt n mc ms nx lv (v :: st) M P) : Go G mt n mc ms pc lv st M P := by
  intro p l e R s m args below meth c H locs cells slots ls cx hS hW hL hc hs
  have hk := k p l e R s m args below meth c H locs cells slots ls cx hS hW hL hc hs
  obtain ⟨hx, hb, -, -, hown, hts, -, -, -, -, -, -, hok⟩ := cx
  have ho := gat_ok hok hi
  have hl := hL.2.2 _ _ hv
  simp only [gok, Bool.or_eq_true, Bool.and_eq_true, decide_eq_true_eq] at ho
  rcases v with w | w | (_ | w) | w
  all_goals (cases hkd)
  · simp at ho
    rcases ho with ⟨⟨h4, rfl⟩, hd⟩ | ⟨rfl, hd⟩
    · exact lv_iload_n hx hb hd (fin4 h4) hl hk
    · exact lv_iload hx hb hd hl hk
  · simp at ho
    rcases ho with ⟨⟨h4, rfl⟩, hd⟩ | ⟨rfl, hd⟩
    · exact lv_lload_n hx hb hd (fin4 h4) hl hk
    · exact lv_lload hx hb hd hl hk
  · simp at ho
    rcases ho with ⟨⟨h4, rfl⟩, hd⟩ | ⟨rfl, hd⟩
    · exact lv_aload_n hx hb hd (fin4 h4) hl hk
    · exact lv_aload hx hb hd hl hk
  · simp at ho
    rcases ho with ⟨⟨h4, rfl⟩, hd⟩ | ⟨rfl, hd⟩
    · exact lv_aload_n hx hb hd (fin4 h4) hl hk
    · exact lv_aload hx hb hd hl hk
theorem Go.store (hi : gat mt pc = some (3, z, x, y, nx)) {v : gV} (hkd : gkd v = some y) (hxl : x < (gH mt.1).2.2.1) (k : Go G mt n mc ms nx (gset lv x v) st M P) : Go G mt n mc ms pc lv (v :: st) M P := by
  intro p l e R s m args below meth c H locs cells slots ls cx hS hW hL hc hs
  have hk := fun ls' (hL' : gLs G ls' (gH mt.1).2.2.1 (gset lv x v)) => k p l e R s m args below meth c H locs cells slots ls' cx hS hW hL' hc hs
  obtain ⟨hx, hb, -, -, hown, hts, -, -, -, -, -, -, hok⟩ := cx
  have ho := gat_ok hok hi
  have hh := gLs_has hL
  simp only [gok, Bool.or_eq_true, Bool.and_eq_true, decide_eq_true_eq] at ho
  rcases v with w | w | (_ | w) | w
  all_goals (cases hkd)
  · simp at ho
    rcases ho with ⟨⟨h4, rfl⟩, hd⟩ | ⟨rfl, hd⟩
    · exact lv_istore_n hx hb hd (fin4 h4) hh hxl rfl (fun ls' h' => hk ls' (gLs_set h'))
    · exact lv_istore hx hb hd hh hxl rfl (fun ls' h' => hk ls' (gLs_set h'))
  · simp at ho
  · simp at ho
    rcases ho with ⟨⟨h4, rfl⟩, hd⟩ | ⟨rfl, hd⟩
    · exact lv_astore_n hx hb hd (fin4 h4) hh hxl rfl (fun ls' h' => hk ls' (gLs_set h'))
    · exact lv_astore hx hb hd hh hxl rfl (fun ls' h' => hk ls' (gLs_set h'))
  · simp at ho
    rcases ho with ⟨⟨h4, rfl⟩, hd⟩ | ⟨rfl, hd⟩
    · exact lv_astore_n hx hb hd (fin4 h4) hh hxl rfl (fun ls' h' => hk ls' (gLs_set (v := gs w) h'))
    · exact lv_astore hx hb hd hh hxl rfl (fun ls' h' => hk ls' (gLs_set (v := gs w) h'))
theorem Go.lstore (hi : gat mt pc = some (4, z, x, y, nx)) {w : Int64} (hxl : x + 1 < (gH mt.1).2.2.1) (k : Go G mt n mc ms nx (gclr (gset lv x (gl w)) (x + 1)) st M P) : Go G mt n mc ms pc lv (gl w :: st) M P := by
  intro p l e R s m args below meth c H locs cells slots ls cx hS hW hL hc hs
  have hk := fun ls' (hL' : gLs G ls' (gH mt.1).2.2.1 (gclr (gset lv x (gl w)) (x + 1))) => k p l e R s m args below meth c H locs cells slots ls' cx hS hW hL' hc hs
  obtain ⟨hx, hb, -, -, hown, hts, -, -, -, -, -, -, hok⟩ := cx
  have ho := gat_ok hok hi
  have hh := gLs_has hL
  simp only [gok, Bool.or_eq_true, Bool.and_eq_true, decide_eq_true_eq] at ho
  rcases ho with ⟨⟨h4, rfl⟩, hd⟩ | ⟨rfl, hd⟩
  · exact lv_lstore_n hx hb hd (fin4 h4) hh hxl rfl (fun ls' h' => hk ls' (gLs_set2 h'))
  · exact lv_lstore hx hb hd hh hxl rfl (fun ls' h' => hk ls' (gLs_set2 h'))
theorem Go.iinc (hi : gat mt pc = some (5, z, x, y, nx)) {w : Int} (hv : lv[x]? = some (some (gi w))) (hxl : x < (gH mt.1).2.2.1) (k : Go G mt n mc ms nx (gset lv x (gi (w + z))) st M P) : Go G mt n mc ms pc lv st M P := by
  intro p l e R s m args below meth c H locs cells slots ls cx hS hW hL hc hs
  have hk := fun ls' (hL' : gLs G ls' (gH mt.1).2.2.1 (gset lv x (gi (w + z)))) => k p l e R s m args below meth c H locs cells slots ls' cx hS hW hL' hc hs
  obtain ⟨hx, hb, -, -, hown, hts, -, -, -, -, -, -, hok⟩ := cx
  have ho := gat_ok hok hi
  have hh := gLs_has hL
  simp only [gok, Bool.and_eq_true, decide_eq_true_eq] at ho
  obtain ⟨hd, rfl⟩ := ho
  obtain ⟨i, hi'⟩ := List.getElem?_of_mem (glist_mem (G := G) hv)
  exact lv_iinc hx hb hd hh hi' (show iI w + Int32.ofInt z = iI (w + z) from iI_add w z) hxl rfl (fun ls' h' => hk ls' (gLs_set (v := gi (w + z)) h'))
theorem Go.dup (hi : gat mt pc = some (6, z, x, y, nx)) {v : gV} (hv : ∀ q, v ≠ .inr (.inl q)) (k : Go G mt n mc ms nx lv (v :: v :: st) M P) : Go G mt n mc ms pc lv (v :: st) M P := by
  intro p l e R s m args below meth c H locs cells slots ls cx hS hW hL hc hs
  have hk := k p l e R s m args below meth c H locs cells slots ls cx hS hW hL hc hs
  obtain ⟨hx, hb, -, -, hown, hts, -, -, -, -, -, -, hok⟩ := cx
  have ho := gat_ok hok hi
  simp only [gok, Bool.and_eq_true, decide_eq_true_eq] at ho
  obtain ⟨hd, rfl⟩ := ho
  exact lv_dup hx hb hd (gcat1 hv) hk
theorem Go.dup2 (hi : gat mt pc = some (7, z, x, y, nx)) {v w : gV} (hv : ∀ q, v ≠ .inr (.inl q)) (hw : ∀ q, w ≠ .inr (.inl q)) (k : Go G mt n mc ms nx lv (v :: w :: v :: w :: st) M P) : Go G mt n mc ms pc lv (v :: w :: st) M P := by
  intro p l e R s m args below meth c H locs cells slots ls cx hS hW hL hc hs
  have hk := k p l e R s m args below meth c H locs cells slots ls cx hS hW hL hc hs
  obtain ⟨hx, hb, -, -, hown, hts, -, -, -, -, -, -, hok⟩ := cx
  have ho := gat_ok hok hi
  simp only [gok, Bool.and_eq_true, decide_eq_true_eq] at ho
  obtain ⟨hd, rfl⟩ := ho
  exact lv_dup2_11 hx hb hd (gcat1 hv) (gcat1 hw) hk
theorem Go.pop (hi : gat mt pc = some (8, z, x, y, nx)) {v : gV} (hv : ∀ q, v ≠ .inr (.inl q)) (k : Go G mt n mc ms nx lv st M P) : Go G mt n mc ms pc lv (v :: st) M P := by
  intro p l e R s m args below meth c H locs cells slots ls cx hS hW hL hc hs
  have hk := k p l e R s m args below meth c H locs cells slots ls cx hS hW hL hc hs
  obtain ⟨hx, hb, -, -, hown, hts, -, -, -, -, -, -, hok⟩ := cx
  have ho := gat_ok hok hi
  simp only [gok, Bool.and_eq_true, decide_eq_true_eq] at ho
  obtain ⟨hd, rfl⟩ := ho
  exact lv_pop hx hb hd (gcat1 hv) hk
theorem Go.iadd (hi : gat mt pc = some (10, z, x, y, nx)) {a b : Int} (k : Go G mt n mc ms nx lv (gi (a + b) :: st) M P) : Go G mt n mc ms pc lv (gi b :: gi a :: st) M P := by
  intro p l e R s m args below meth c H locs cells slots ls cx hS hW hL hc hs
  have hk := k p l e R s m args below meth c H locs cells slots ls cx hS hW hL hc hs
  obtain ⟨hx, hb, -, -, hown, hts, -, -, -, -, -, -, hok⟩ := cx
  have ho := gat_ok hok hi
  simp only [gok, Bool.and_eq_true, decide_eq_true_eq] at ho
  obtain ⟨hd, rfl⟩ := ho
  exact lv_iadd hx hb hd (by rw [iI_add]; exact hk)
theorem Go.isub (hi : gat mt pc = some (11, z, x, y, nx)) {a b : Int} (k : Go G mt n mc ms nx lv (gi (a - b) :: st) M P) : Go G mt n mc ms pc lv (gi b :: gi a :: st) M P := by
  intro p l e R s m args below meth c H locs cells slots ls cx hS hW hL hc hs
  have hk := k p l e R s m args below meth c H locs cells slots ls cx hS hW hL hc hs
  obtain ⟨hx, hb, -, -, hown, hts, -, -, -, -, -, -, hok⟩ := cx
  have ho := gat_ok hok hi
  simp only [gok, Bool.and_eq_true, decide_eq_true_eq] at ho
  obtain ⟨hd, rfl⟩ := ho
  exact lv_isub hx hb hd (by rw [iI_sub]; exact hk)
theorem Go.imul (hi : gat mt pc = some (12, z, x, y, nx)) {a b : Int} (k : Go G mt n mc ms nx lv (gi (a * b) :: st) M P) : Go G mt n mc ms pc lv (gi b :: gi a :: st) M P := by
  intro p l e R s m args below meth c H locs cells slots ls cx hS hW hL hc hs
  have hk := k p l e R s m args below meth c H locs cells slots ls cx hS hW hL hc hs
  obtain ⟨hx, hb, -, -, hown, hts, -, -, -, -, -, -, hok⟩ := cx
  have ho := gat_ok hok hi
  simp only [gok, Bool.and_eq_true, decide_eq_true_eq] at ho
  obtain ⟨hd, rfl⟩ := ho
  exact lv_imul hx hb hd (by rw [iI_mul]; exact hk)
theorem Go.ineg (hi : gat mt pc = some (13, z, x, y, nx)) {a : Int} (k : Go G mt n mc ms nx lv (gi (-a) :: st) M P) : Go G mt n mc ms pc lv (gi a :: st) M P := by
  intro p l e R s m args below meth c H locs cells slots ls cx hS hW hL hc hs
  have hk := k p l e R s m args below meth c H locs cells slots ls cx hS hW hL hc hs
  obtain ⟨hx, hb, -, -, hown, hts, -, -, -, -, -, -, hok⟩ := cx
  have ho := gat_ok hok hi
  simp only [gok, Bool.and_eq_true, decide_eq_true_eq] at ho
  obtain ⟨hd, rfl⟩ := ho
  exact lv_ineg hx hb hd (by rw [iI_neg]; exact hk)
theorem Go.idiv (hi : gat mt pc = some (14, z, x, y, nx)) {a b : Int} (ha : rng a) (hbr : rng b) (hnz : b ≠ 0) (hr : rng (a.tdiv b)) (k : Go G mt n mc ms nx lv (gi (a.tdiv b) :: st) M P) : Go G mt n mc ms pc lv (gi b :: gi a :: st) M P := by
  intro p l e R s m args below meth c H locs cells slots ls cx hS hW hL hc hs
  have hk := k p l e R s m args below meth c H locs cells slots ls cx hS hW hL hc hs
  obtain ⟨hx, hb, -, -, hown, hts, -, -, -, -, -, -, hok⟩ := cx
  have ho := gat_ok hok hi
  simp only [gok, Bool.and_eq_true, decide_eq_true_eq] at ho
  obtain ⟨hd, rfl⟩ := ho
  exact lv_idiv hx hb hd (fun q => hnz ((iI_inj hbr ⟨by omega, by omega⟩).mp (q.trans (show (0 : Int32) = iI 0 from rfl)))) (by rw [iI_div ha hbr hr]; exact hk)
theorem Go.irem (hi : gat mt pc = some (15, z, x, y, nx)) {a b : Int} (ha : rng a) (hbr : rng b) (hnz : b ≠ 0) (hr : rng (a.tdiv b)) (k : Go G mt n mc ms nx lv (gi (a.tmod b) :: st) M P) : Go G mt n mc ms pc lv (gi b :: gi a :: st) M P := by
  intro p l e R s m args below meth c H locs cells slots ls cx hS hW hL hc hs
  have hk := k p l e R s m args below meth c H locs cells slots ls cx hS hW hL hc hs
  obtain ⟨hx, hb, -, -, hown, hts, -, -, -, -, -, -, hok⟩ := cx
  have ho := gat_ok hok hi
  simp only [gok, Bool.and_eq_true, decide_eq_true_eq] at ho
  obtain ⟨hd, rfl⟩ := ho
  exact lv_irem hx hb hd (fun q => hnz ((iI_inj hbr ⟨by omega, by omega⟩).mp (q.trans (show (0 : Int32) = iI 0 from rfl)))) (by rw [iI_div ha hbr hr, iI_mul, iI_sub, show a - a.tdiv b * b = a.tmod b by rw [Int.tmod_def, Int.mul_comm]]; exact hk)
theorem Go.iand (hi : gat mt pc = some (16, z, x, y, nx)) {a b : Int} (k : Go G mt n mc ms nx lv (gi (iI a &&& iI b).toInt :: st) M P) : Go G mt n mc ms pc lv (gi b :: gi a :: st) M P := by
  intro p l e R s m args below meth c H locs cells slots ls cx hS hW hL hc hs
  have hk := k p l e R s m args below meth c H locs cells slots ls cx hS hW hL hc hs
  obtain ⟨hx, hb, -, -, hown, hts, -, -, -, -, -, -, hok⟩ := cx
  have ho := gat_ok hok hi
  simp only [gok, Bool.and_eq_true, decide_eq_true_eq] at ho
  obtain ⟨hd, rfl⟩ := ho
  exact lv_iand hx hb hd (by have h := hk; unfold gup at h; simp only [List.map_cons, iI_of] at h; exact h)
theorem Go.ior (hi : gat mt pc = some (17, z, x, y, nx)) {a b : Int} (k : Go G mt n mc ms nx lv (gi (iI a ||| iI b).toInt :: st) M P) : Go G mt n mc ms pc lv (gi b :: gi a :: st) M P := by
  intro p l e R s m args below meth c H locs cells slots ls cx hS hW hL hc hs
  have hk := k p l e R s m args below meth c H locs cells slots ls cx hS hW hL hc hs
  obtain ⟨hx, hb, -, -, hown, hts, -, -, -, -, -, -, hok⟩ := cx
  have ho := gat_ok hok hi
  simp only [gok, Bool.and_eq_true, decide_eq_true_eq] at ho
  obtain ⟨hd, rfl⟩ := ho
  exact lv_ior hx hb hd (by have h := hk; unfold gup at h; simp only [List.map_cons, iI_of] at h; exact h)
theorem Go.ixor (hi : gat mt pc = some (18, z, x, y, nx)) {a b : Int} (k : Go G mt n mc ms nx lv (gi (iI a ^^^ iI b).toInt :: st) M P) : Go G mt n mc ms pc lv (gi b :: gi a :: st) M P := by
  intro p l e R s m args below meth c H locs cells slots ls cx hS hW hL hc hs
  have hk := k p l e R s m args below meth c H locs cells slots ls cx hS hW hL hc hs
  obtain ⟨hx, hb, -, -, hown, hts, -, -, -, -, -, -, hok⟩ := cx
  have ho := gat_ok hok hi
  simp only [gok, Bool.and_eq_true, decide_eq_true_eq] at ho
  obtain ⟨hd, rfl⟩ := ho
  exact lv_ixor hx hb hd (by have h := hk; unfold gup at h; simp only [List.map_cons, iI_of] at h; exact h)
theorem Go.ishl (hi : gat mt pc = some (19, z, x, y, nx)) {a b : Int} (k : Go G mt n mc ms nx lv (gi (iI a <<< (iI b &&& 31)).toInt :: st) M P) : Go G mt n mc ms pc lv (gi b :: gi a :: st) M P := by
  intro p l e R s m args below meth c H locs cells slots ls cx hS hW hL hc hs
  have hk := k p l e R s m args below meth c H locs cells slots ls cx hS hW hL hc hs
  obtain ⟨hx, hb, -, -, hown, hts, -, -, -, -, -, -, hok⟩ := cx
  have ho := gat_ok hok hi
  simp only [gok, Bool.and_eq_true, decide_eq_true_eq] at ho
  obtain ⟨hd, rfl⟩ := ho
  exact lv_ishl hx hb hd (by have h := hk; unfold gup at h; simp only [List.map_cons, iI_of] at h; exact h)
theorem Go.ishr (hi : gat mt pc = some (20, z, x, y, nx)) {a b : Int} (k : Go G mt n mc ms nx lv (gi (iI a >>> (iI b &&& 31)).toInt :: st) M P) : Go G mt n mc ms pc lv (gi b :: gi a :: st) M P := by
  intro p l e R s m args below meth c H locs cells slots ls cx hS hW hL hc hs
  have hk := k p l e R s m args below meth c H locs cells slots ls cx hS hW hL hc hs
  obtain ⟨hx, hb, -, -, hown, hts, -, -, -, -, -, -, hok⟩ := cx
  have ho := gat_ok hok hi
  simp only [gok, Bool.and_eq_true, decide_eq_true_eq] at ho
  obtain ⟨hd, rfl⟩ := ho
  exact lv_ishr hx hb hd (by have h := hk; unfold gup at h; simp only [List.map_cons, iI_of] at h; exact h)
theorem Go.iushr (hi : gat mt pc = some (21, z, x, y, nx)) {a b : Int} (k : Go G mt n mc ms nx lv (gi ((iI a).toUInt32 >>> ((iI b).toUInt32 &&& Int32.toUInt32 31)).toInt32.toInt :: st) M P) : Go G mt n mc ms pc lv (gi b :: gi a :: st) M P := by
  intro p l e R s m args below meth c H locs cells slots ls cx hS hW hL hc hs
  have hk := k p l e R s m args below meth c H locs cells slots ls cx hS hW hL hc hs
  obtain ⟨hx, hb, -, -, hown, hts, -, -, -, -, -, -, hok⟩ := cx
  have ho := gat_ok hok hi
  simp only [gok, Bool.and_eq_true, decide_eq_true_eq] at ho
  obtain ⟨hd, rfl⟩ := ho
  exact lv_iushr hx hb hd rfl (by have h := hk; unfold gup at h; simp only [List.map_cons, iI_of] at h; exact h)
theorem Go.i2l (hi : gat mt pc = some (22, z, x, y, nx)) {a : Int} (k : Go G mt n mc ms nx lv (gl (iI a).toInt64 :: st) M P) : Go G mt n mc ms pc lv (gi a :: st) M P := by
  intro p l e R s m args below meth c H locs cells slots ls cx hS hW hL hc hs
  have hk := k p l e R s m args below meth c H locs cells slots ls cx hS hW hL hc hs
  obtain ⟨hx, hb, -, -, hown, hts, -, -, -, -, -, -, hok⟩ := cx
  have ho := gat_ok hok hi
  simp only [gok, Bool.and_eq_true, decide_eq_true_eq] at ho
  obtain ⟨hd, rfl⟩ := ho
  exact lv_i2l hx hb hd rfl hk
theorem Go.i2b (hi : gat mt pc = some (23, z, x, y, nx)) {a : Int} (k : Go G mt n mc ms nx lv (gi (iI a).toInt8.toInt32.toInt :: st) M P) : Go G mt n mc ms pc lv (gi a :: st) M P := by
  intro p l e R s m args below meth c H locs cells slots ls cx hS hW hL hc hs
  have hk := k p l e R s m args below meth c H locs cells slots ls cx hS hW hL hc hs
  obtain ⟨hx, hb, -, -, hown, hts, -, -, -, -, -, -, hok⟩ := cx
  have ho := gat_ok hok hi
  simp only [gok, Bool.and_eq_true, decide_eq_true_eq] at ho
  obtain ⟨hd, rfl⟩ := ho
  exact lv_i2b hx hb hd rfl (by have h := hk; unfold gup at h; simp only [List.map_cons, iI_of] at h; exact h)
theorem Go.i2s (hi : gat mt pc = some (24, z, x, y, nx)) {a : Int} (k : Go G mt n mc ms nx lv (gi (iI a).toInt16.toInt32.toInt :: st) M P) : Go G mt n mc ms pc lv (gi a :: st) M P := by
  intro p l e R s m args below meth c H locs cells slots ls cx hS hW hL hc hs
  have hk := k p l e R s m args below meth c H locs cells slots ls cx hS hW hL hc hs
  obtain ⟨hx, hb, -, -, hown, hts, -, -, -, -, -, -, hok⟩ := cx
  have ho := gat_ok hok hi
  simp only [gok, Bool.and_eq_true, decide_eq_true_eq] at ho
  obtain ⟨hd, rfl⟩ := ho
  exact lv_i2s hx hb hd rfl (by have h := hk; unfold gup at h; simp only [List.map_cons, iI_of] at h; exact h)
theorem Go.ladd (hi : gat mt pc = some (30, z, x, y, nx)) {a b : Int64} (k : Go G mt n mc ms nx lv (gl (a + b) :: st) M P) : Go G mt n mc ms pc lv (gl b :: gl a :: st) M P := by
  intro p l e R s m args below meth c H locs cells slots ls cx hS hW hL hc hs
  have hk := k p l e R s m args below meth c H locs cells slots ls cx hS hW hL hc hs
  obtain ⟨hx, hb, -, -, hown, hts, -, -, -, -, -, -, hok⟩ := cx
  have ho := gat_ok hok hi
  simp only [gok, Bool.and_eq_true, decide_eq_true_eq] at ho
  obtain ⟨hd, rfl⟩ := ho
  exact lv_ladd hx hb hd hk
theorem Go.lsub (hi : gat mt pc = some (31, z, x, y, nx)) {a b : Int64} (k : Go G mt n mc ms nx lv (gl (a - b) :: st) M P) : Go G mt n mc ms pc lv (gl b :: gl a :: st) M P := by
  intro p l e R s m args below meth c H locs cells slots ls cx hS hW hL hc hs
  have hk := k p l e R s m args below meth c H locs cells slots ls cx hS hW hL hc hs
  obtain ⟨hx, hb, -, -, hown, hts, -, -, -, -, -, -, hok⟩ := cx
  have ho := gat_ok hok hi
  simp only [gok, Bool.and_eq_true, decide_eq_true_eq] at ho
  obtain ⟨hd, rfl⟩ := ho
  exact lv_lsub hx hb hd hk
theorem Go.land (hi : gat mt pc = some (32, z, x, y, nx)) {a b : Int64} (k : Go G mt n mc ms nx lv (gl (a &&& b) :: st) M P) : Go G mt n mc ms pc lv (gl b :: gl a :: st) M P := by
  intro p l e R s m args below meth c H locs cells slots ls cx hS hW hL hc hs
  have hk := k p l e R s m args below meth c H locs cells slots ls cx hS hW hL hc hs
  obtain ⟨hx, hb, -, -, hown, hts, -, -, -, -, -, -, hok⟩ := cx
  have ho := gat_ok hok hi
  simp only [gok, Bool.and_eq_true, decide_eq_true_eq] at ho
  obtain ⟨hd, rfl⟩ := ho
  exact lv_land hx hb hd hk
theorem Go.lor (hi : gat mt pc = some (33, z, x, y, nx)) {a b : Int64} (k : Go G mt n mc ms nx lv (gl (a ||| b) :: st) M P) : Go G mt n mc ms pc lv (gl b :: gl a :: st) M P := by
  intro p l e R s m args below meth c H locs cells slots ls cx hS hW hL hc hs
  have hk := k p l e R s m args below meth c H locs cells slots ls cx hS hW hL hc hs
  obtain ⟨hx, hb, -, -, hown, hts, -, -, -, -, -, -, hok⟩ := cx
  have ho := gat_ok hok hi
  simp only [gok, Bool.and_eq_true, decide_eq_true_eq] at ho
  obtain ⟨hd, rfl⟩ := ho
  exact lv_lor hx hb hd hk
theorem Go.lxor (hi : gat mt pc = some (34, z, x, y, nx)) {a b : Int64} (k : Go G mt n mc ms nx lv (gl (a ^^^ b) :: st) M P) : Go G mt n mc ms pc lv (gl b :: gl a :: st) M P := by
  intro p l e R s m args below meth c H locs cells slots ls cx hS hW hL hc hs
  have hk := k p l e R s m args below meth c H locs cells slots ls cx hS hW hL hc hs
  obtain ⟨hx, hb, -, -, hown, hts, -, -, -, -, -, -, hok⟩ := cx
  have ho := gat_ok hok hi
  simp only [gok, Bool.and_eq_true, decide_eq_true_eq] at ho
  obtain ⟨hd, rfl⟩ := ho
  exact lv_lxor hx hb hd hk
theorem Go.lshl (hi : gat mt pc = some (35, z, x, y, nx)) {a : Int64} {b : Int} (k : Go G mt n mc ms nx lv (gl (a <<< ((iI b).toInt64 &&& 63)) :: st) M P) : Go G mt n mc ms pc lv (gi b :: gl a :: st) M P := by
  intro p l e R s m args below meth c H locs cells slots ls cx hS hW hL hc hs
  have hk := k p l e R s m args below meth c H locs cells slots ls cx hS hW hL hc hs
  obtain ⟨hx, hb, -, -, hown, hts, -, -, -, -, -, -, hok⟩ := cx
  have ho := gat_ok hok hi
  simp only [gok, Bool.and_eq_true, decide_eq_true_eq] at ho
  obtain ⟨hd, rfl⟩ := ho
  exact lv_lshl hx hb hd rfl hk
theorem Go.lushr (hi : gat mt pc = some (36, z, x, y, nx)) {a : Int64} {b : Int} (k : Go G mt n mc ms nx lv (gl (a.toUInt64 >>> ((iI b).toInt64.toUInt64 &&& Int64.toUInt64 63)).toInt64 :: st) M P) : Go G mt n mc ms pc lv (gi b :: gl a :: st) M P := by
  intro p l e R s m args below meth c H locs cells slots ls cx hS hW hL hc hs
  have hk := k p l e R s m args below meth c H locs cells slots ls cx hS hW hL hc hs
  obtain ⟨hx, hb, -, -, hown, hts, -, -, -, -, -, -, hok⟩ := cx
  have ho := gat_ok hok hi
  simp only [gok, Bool.and_eq_true, decide_eq_true_eq] at ho
  obtain ⟨hd, rfl⟩ := ho
  exact lv_lushr hx hb hd rfl hk
theorem Go.l2i (hi : gat mt pc = some (38, z, x, y, nx)) {a : Int64} (k : Go G mt n mc ms nx lv (gi a.toInt32.toInt :: st) M P) : Go G mt n mc ms pc lv (gl a :: st) M P := by
  intro p l e R s m args below meth c H locs cells slots ls cx hS hW hL hc hs
  have hk := k p l e R s m args below meth c H locs cells slots ls cx hS hW hL hc hs
  obtain ⟨hx, hb, -, -, hown, hts, -, -, -, -, -, -, hok⟩ := cx
  have ho := gat_ok hok hi
  simp only [gok, Bool.and_eq_true, decide_eq_true_eq] at ho
  obtain ⟨hd, rfl⟩ := ho
  exact lv_l2i hx hb hd rfl (by have h := hk; unfold gup at h; simp only [List.map_cons, iI_of] at h; exact h)
end GO

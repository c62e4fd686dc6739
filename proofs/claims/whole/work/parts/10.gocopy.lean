/-! ===== System.arraycopy of ints; new int[n][k] ===== -/
/-- the world behind a copy of n ints from a at sp to b at dp -/
def mC (M : gMe) (a sp b dp n : Nat) : gMe := (M.1, fun c j => if c = b then (if dp ≤ j ∧ j < dp + n then M.2.1 a (sp + (j - dp)) else M.2.1 c j) else M.2.1 c j, M.2.2.1, M.2.2.2)
section GOK
variable {G : gG} {mt : gMt} {n mc ms pc nx x y a b K N N1 : Nat} {z u v w : Int} {lv : List (Option gV)} {st : List gV} {M : gMe} {P : Option gV → gMe → Prop}
theorem Go.copy (hi : gat mt pc = some (85, z, x, y, nx)) (hn : 1 ≤ n) (hcat : gcats st ≤ 8) (ha : M.1[a]? = some (100, N)) (hb : M.1[b]? = some (100, N1)) (hN : N < 2147483648) (hN1 : N1 < 2147483648) (h0 : 0 ≤ u) (h1 : 0 ≤ v) (h2 : 0 ≤ w) (h3 : u + w ≤ N) (h4 : v + w ≤ N1) (kk : Go G mt n mc ms nx lv st (mC M a u.toNat b v.toNat w.toNat) P) : Go G mt n mc ms pc lv (gi w :: gi v :: gr b :: gi u :: gr a :: st) M P := by
  intro p l e R s m args below meth cd H locs cells slots ls cx hS hW hL hc hs
  have hk := fun H1 locs1 hS1 hW1 => kk p l e R s m args below meth cd H1 locs1 cells slots ls cx hS1 hW1 hL hc hs
  obtain ⟨hx, hbc, -, hmx, hown, hts, -, -, hK, hSt, hNs, ⟨hR1, hR2⟩, hok⟩ := cx
  have ho := gat_ok hok hi
  simp only [gok, Bool.and_eq_true, decide_eq_true_eq, List.any_eq_true] at ho
  obtain ⟨rfl, q, hq, e1, hd⟩ := ho
  have hw := gAL_ok q hq
  rw [e1] at hw
  have ru : rng u := ⟨by omega, by omega⟩
  have rv : rng v := ⟨by omega, by omega⟩
  have rw' : rng w := ⟨by omega, by omega⟩
  have r0 : rng 0 := ⟨by omega, by omega⟩
  have neg : ∀ {t : Int}, rng t → 0 ≤ t → ¬ iI t < 0 := fun {t} hr ht h => by rw [show (0 : Int32) = iI 0 from rfl, iI_lt hr r0] at h; omega
  have hc0 : H[gb G + a]? = some (vp_cell (G.2.1 0) (N, .inl (fun j => iI (M.2.1 a j)))) := hW.2.2 a _ ha
  have hc1 : H[gb G + b]? = some (vp_cell (G.2.1 0) (N1, .inl (fun j => iI (M.2.1 b j)))) := hW.2.2 b _ hb
  obtain ⟨-, k0, hk0, cm0, hkk0⟩ := (hK.2 0 _ rfl).1 N (fun j => .int (iI (M.2.1 a j)))
  obtain ⟨-, k1, hk1, cm1, hkk1⟩ := (hK.2 0 _ rfl).1 N1 (fun j => .int (iI (M.2.1 b j)))
  intro T hT X
  obtain ⟨vm', X', step⟩ := X.arraycopy hx hown (hts _ (gTB_in hw rfl)) (hts _ (gTB_in gA_nat rfl)) (hts _ (gTB_in gA_stat rfl)) (hts _ (gTB_in gA_ini rfl)) (src := gb G + a) (dst := gb G + b) (cs := vp_cell (G.2.1 0) (N, .inl (fun j => iI (M.2.1 a j)))) (cd := vp_cell (G.2.1 0) (N1, .inl (fun j => iI (M.2.1 b j)))) (srcPos := iI u) (destPos := iI v) (n := iI w) (by rw [hT]; exact hc0) (by rw [hT]; exact hc1)
    (fun _ h => by cases h) (fun _ h => by cases h) (fun h => by cases h) (fun h => by cases h) hk0 hk1 hkk0 hkk1 (by simp [show refKind FieldType.int = false from rfl]) (neg ru h0) (neg rv h1) (neg rw' h2)
    (by rw [iI_toInt ru, iI_toInt rw']; show ¬ _ > ((arrV (G.2.1 0) N (fun j => .int (iI (M.2.1 a j)))).slots.size : Int); rw [arrV_size]; omega)
    (by rw [iI_toInt rv, iI_toInt rw']; show ¬ _ > ((arrV (G.2.1 0) N1 (fun j => .int (iI (M.2.1 b j)))).slots.size : Int); rw [arrV_size]; omega)
    (fun vm₁ _ i hi => by
      rw [iI_clamp rw'] at hi
      have e : (vp_cell (G.2.1 0) (N, .inl (fun j => iI (M.2.1 a j)))).slots.getD ((iI u).toNatClampNeg + i) .null = .int (iI (M.2.1 a ((iI u).toNatClampNeg + i))) := by
        show (arrV (G.2.1 0) N (fun j => .int (iI (M.2.1 a j)))).slots.getD _ _ = _
        rw [Array.getD_eq_getD_getElem?, arrV_read _ _ (by rw [iI_clamp ru]; omega)]
        rfl
      refine ⟨?_, ?_⟩
      · rw [e]
        rfl
      · rw [e]
        exact trivial)
    (g := F0 m pc ls ((gi w :: gi v :: gr b :: gi u :: gr a :: st).map (gup G))) rfl (by rw [hmx]; exact hL.1) (rest := st.map (gup G)) rfl (by rw [hbc]; exact hd) (by omega) (by
      show 2 * 0 + _ + _ ≤ _
      rw [gcats_sum]
      have : nativeFrameWords "java/lang/System" "arraycopy" 5 + 11 ≤ 40 := by decide +kernel
      omega)
  have e2 : copied (vp_cell (G.2.1 0) (N, .inl (fun j => iI (M.2.1 a j)))) (vp_cell (G.2.1 0) (N1, .inl (fun j => iI (M.2.1 b j)))) (iI u) (iI v) (iI w) = vp_cell (G.2.1 0) (N1, .inl (va_cpy (fun j => iI (M.2.1 a j)) (fun j => iI (M.2.1 b j)) (iI u).toNatClampNeg (iI v).toNatClampNeg (iI w).toNatClampNeg)) := va_copied (fun z => .int z) (G.2.1 0) (G.2.1 0) (fun j => iI (M.2.1 a j)) (fun j => iI (M.2.1 b j)) (by rw [iI_clamp ru, iI_clamp rw']; omega)
  rw [e2, iI_clamp ru, iI_clamp rv, iI_clamp rw'] at X' step
  have hl : gb G + b < H.size := (Array.getElem?_eq_some_iff.mp hc1).1
  generalize hcell : vp_cell (G.2.1 0) (N1, .inl (va_cpy (fun j => iI (M.2.1 a j)) (fun j => iI (M.2.1 b j)) u.toNat v.toNat w.toNat)) = cell at X' step
  have hheap : ((T.setVm vm').setCell (gb G + b) cell).heap = H.setIfInBounds (gb G + b) cell := by rw [← hT]; rfl
  have z1 : (H.setIfInBounds (gb G + b) cell).size = H.size := by simp
  have oq : ∀ q : Nat, q ≠ gb G + b → (H.setIfInBounds (gb G + b) cell)[q]? = H[q]? := fun q hq => by simp [Array.getElem?_setIfInBounds, Ne.symm hq]
  have hS1 : ∀ L : List Loc, (∀ q ∈ L, q.base = gb G + b) → va_S (gA G) s.heap (H.setIfInBounds (gb G + b) cell) (locs ++ L) := fun L hL => ⟨by rw [z1]; exact hS.1, fun q g1 g2 => by
      rw [oq q (fun e => g2 (by rw [e]; exact Nat.le_add_right _ _))]
      exact hS.2.1 q g1 g2, fun q hq => by
      rcases List.mem_append.mp hq with h | h
      · exact hS.2.2 q h
      · rw [hL q h]; exact Nat.le_add_right _ _⟩
  obtain ⟨t, a1, b1⟩ := hk (H.setIfInBounds (gb G + b) cell) _ (hS1 _ (fun q hq => by
      obtain ⟨z, -, hz⟩ := List.mem_map.mp hq
      rw [← hz])) (gWd_put hW rfl z1 oq (fun c q _ hb => gent_cong (fun j => if_neg hb) (fun j => rfl) (fun j => rfl)) (fun q hq => by
      rw [hb] at hq
      cases hq
      show (H.setIfInBounds (gb G + b) cell)[gb G + b]? = some (vp_cell (G.2.1 0) (N1, .inl (fun j => iI (if b = b then (if v.toNat ≤ j ∧ j < v.toNat + w.toNat then M.2.1 a (u.toNat + (j - v.toNat)) else M.2.1 b j) else M.2.1 b j))))
      rw [← hcell]
      simp only [Array.getElem?_setIfInBounds, hl, if_true]
      congr 4
      funext j
      unfold va_cpy
      split <;> rfl)) _ hheap X'
  exact ⟨t, step t a1, b1⟩
/-- new int[n][k]: the outer row first, then the inner ones -/
def mNN (M : gMe) (N K : Nat) : gMe := (M.1 ++ ((107, N) :: List.replicate N (100, K)), gzz M.2.1 M.1.length 0, gzz M.2.2.1 M.1.length 0, fun b j => if b = M.1.length ∧ j < N then some (M.1.length + 1 + j) else gzz M.2.2.2 M.1.length none b j)
theorem g_outer (c : ClassId) (N h0 : Nat) : ∀ i : Nat, Jvm.Free.Multi.outerC c N h0 i = arrV c N (fun j => va_rf (if j < i then some (h0 + 1 + j) else none))
  | 0 => by
    show ({ cls := c, slots := Array.replicate N .null, vm := .none } : Cell) = _
    rw [arrV_new]
    refine congrArg (arrV c N) (funext fun j => ?_)
    simp [va_rf]
  | i + 1 => by
    show (Jvm.Free.Multi.outerC c N h0 i).setSlot i (.ref (h0 + 1 + i)) = _
    rw [g_outer c N h0 i, arrV_store]
    refine congrArg (arrV c N) (funext fun j => ?_)
    by_cases e : j = i
    · subst e
      simp [updV, va_rf]
    · by_cases h : j < i
      · simp [updV, e, h, Nat.lt_succ_of_lt h]
      · simp [updV, e, h, show ¬ j < i + 1 by omega]
theorem Go.mna (hi : gat mt pc = some (93, z, x, y, nx)) (hsz : G.2.2.2.2.2.2 = true) (h0 : 0 ≤ u) (h1 : u ≤ 1000) (h2 : 0 ≤ v) (h3 : v ≤ 1000) (hu : u.toNat = N) (hv : v.toNat = K) (kk : Go G mt n mc ms nx lv (gr M.1.length :: st) (mNN M N K) P) : Go G mt n (1 + N + mc) (N + N * K + ms) pc lv (gi v :: gi u :: st) M P := by
  subst hu
  subst hv
  intro p l e R s m args below meth cd H locs cells slots ls cx hS hW hL hc hs
  have hk := fun H1 hS1 hW1 => kk p l e R s m args below meth cd H1 locs (cells + 1 + u.toNat) (slots + u.toNat + u.toNat * v.toNat) ls cx hS1 hW1 hL (by omega) (by omega)
  obtain ⟨hx, hb, -, hmx, hown, hts, -, -, hK, hSt, hNs, -, hok⟩ := cx
  have ho := gat_ok hok hi
  simp only [gok, Bool.and_eq_true, decide_eq_true_eq] at ho
  obtain ⟨⟨rfl, e1⟩, hd⟩ := ho
  rw [e1] at hown
  have ru : rng u := ⟨by omega, by omega⟩
  have rv : rng v := ⟨by omega, by omega⟩
  have r0 : rng 0 := ⟨by omega, by omega⟩
  have neg : ∀ {t : Int}, rng t → 0 ≤ t → ¬ iI t < 0 := fun {t} hr ht h => by rw [show (0 : Int32) = iI 0 from rfl, iI_lt hr r0] at h; omega
  have hHs := hW.2.1 hsz
  have hmul : u.toNat * v.toNat ≤ 1000000 := Nat.mul_le_mul (show u.toNat ≤ 1000 by omega) (show v.toNat ≤ 1000 by omega)
  intro T hT Xs
  obtain ⟨vm₁, cA, comp, -, fA, fC, hO, -, X', step⟩ := Xs.multianewarray2F (own := gown 5) (index := gix_MN) (ty := .int) hx hown (hts _ (gTB_in gMN rfl)) hNs.2.2.2.2.2 (hts _ (gTB_in gac_int rfl)) (g := F0 m pc ls ((gi v :: gi u :: st).map (gup G))) rfl (by rw [hb]; exact hd) (n := iI u) (k := iI v) (rest := st.map (gup G)) rfl (neg ru h0) (neg rv h2) (by rw [iI_clamp ru]; omega) (by rw [iI_clamp rv]; show v.toNat * 4 ≤ _; omega) (by rw [iI_clamp rv]; omega) rfl rfl (by rw [iI_clamp ru]; omega) (by rw [iI_clamp ru, iI_clamp rv]; omega)
  rw [iI_clamp ru, iI_clamp rv] at X' step
  have hcA : cA = G.2.1 7 := Option.some.inj (fA.symm.trans (hK.2 7 _ rfl).2)
  subst hcA
  have hcC : comp = G.2.1 0 := Option.some.inj (fC.symm.trans (hK.2 0 _ rfl).2)
  subst hcC
  generalize hF : Jvm.Free.Multi.fill (T.setVm vm₁) (G.2.1 7) (G.2.1 0) u.toNat v.toNat (defaultValue .int) u.toNat = F at X' step
  have hTh : (T.setVm vm₁).heap = H := hT
  obtain ⟨f1, f2, -, -⟩ := Jvm.Free.Multi.fill_facts (T.setVm vm₁) (G.2.1 7) (G.2.1 0) u.toNat v.toNat (defaultValue .int) u.toNat
  rw [hF, hTh] at f1 f2
  have hold : ∀ x : Nat, x < H.size → F.heap[x]? = H[x]? := fun x hx => by
    have := Jvm.Free.Multi.fill_old (T.setVm vm₁) (G.2.1 7) (G.2.1 0) u.toNat v.toNat (defaultValue .int) (a := x) (by rw [hTh]; exact hx) u.toNat
    rw [hF, hTh] at this
    exact this
  have hrow : ∀ j : Nat, j < u.toNat → F.heap[H.size + 1 + j]? = some (Jvm.Free.Multi.innerC (G.2.1 0) v.toNat (defaultValue .int)) := fun j hj => by
    have := Jvm.Free.Multi.fill_inner (T.setVm vm₁) (G.2.1 7) (G.2.1 0) u.toNat v.toNat (defaultValue .int) u.toNat j hj
    rw [hF, hTh] at this
    exact this
  have hin : Jvm.Free.Multi.innerC (G.2.1 0) v.toNat (defaultValue .int) = arrV (G.2.1 0) v.toNat (fun _ => .int 0) := by
    show ({ cls := G.2.1 0, slots := Array.replicate v.toNat (.int 0), vm := .none } : Cell) = _
    rw [arrV_new]
  have hh := hk F.heap ⟨by rw [f1]; have := hS.1; omega, fun q h1 h2 => (hold q (Nat.lt_of_lt_of_le h1 hS.1)).trans (hS.2.1 q h1 h2), hS.2.2⟩ (gWd_new (q := (107, u.toNat) :: List.replicate u.toNat (100, v.toNat)) hW rfl (fun b hb => ⟨fun j => gzz_lt hb, fun j => gzz_lt hb, fun j => ?_⟩) (by rw [f1, hHs, List.length_cons, List.length_replicate]; omega) (fun q hq => hold q (by omega)) (fun i r hr => ?_))
  · obtain ⟨t, a1, b1⟩ := hh F rfl X'
    refine ⟨t, step t ?_, ?_⟩
    · have e9 : T.heap.size = gb G + M.1.length := by rw [hT, hHs]
      rw [e9]
      exact a1
    · rw [show cells + 1 + u.toNat + mc = cells + (1 + u.toNat + mc) by omega, show slots + u.toNat + u.toNat * v.toNat + ms = slots + (u.toNat + u.toNat * v.toNat + ms) by omega] at b1
      exact b1
  · show (if b = M.1.length ∧ j < u.toNat then some (M.1.length + 1 + j) else gzz M.2.2.2 M.1.length none b j) = M.2.2.2 b j
    rw [if_neg (by omega)]
    exact gzz_lt hb
  · cases i with
    | zero =>
      cases hr
      show F.heap[gb G + M.1.length]? = some (vp_cell (G.2.1 7) (u.toNat, .inr (.inr (.inr (.inr (fun j => (if M.1.length = M.1.length ∧ j < u.toNat then some (M.1.length + 1 + j) else gzz M.2.2.2 M.1.length none M.1.length j).map (fun x => gb G + x)))))))
      rw [← hHs, f2, g_outer, vp_cell_q]
      congr 2
      funext j
      by_cases hj : j < u.toNat
      · rw [if_pos hj, if_pos ⟨rfl, hj⟩]
        show Value.ref (H.size + 1 + j) = Value.ref (gb G + (M.1.length + 1 + j))
        rw [show H.size + 1 + j = gb G + (M.1.length + 1 + j) by omega]
      · rw [if_neg hj, if_neg (fun q => hj q.2), gzz_ge (Nat.lt_irrefl _)]
        rfl
    | succ i =>
      rw [List.getElem?_cons_succ, List.getElem?_replicate] at hr
      split at hr
      · rename_i hlt
        cases hr
        show F.heap[gb G + (M.1.length + (i + 1))]? = some (vp_cell (G.2.1 0) (v.toNat, .inl (fun j => iI (gzz M.2.1 M.1.length 0 (M.1.length + (i + 1)) j))))
        rw [show gb G + (M.1.length + (i + 1)) = H.size + 1 + i by omega, hrow i hlt, hin, vp_cell_i]
        congr 2
        funext j
        rw [gzz_ge (by omega)]
        rfl
      · cases hr
end GOK

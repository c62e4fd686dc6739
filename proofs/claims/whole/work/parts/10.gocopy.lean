/-! ===== System.arraycopy of ints; new int[n][k] ===== -/
def gws (G : gG) (M : gMe) : va_W := M.1.zipIdx.map (fun q => (gb G + q.2, gent G M q.2 q.1))
theorem gws_get {G : gG} {M : gMe} {a : Nat} : (gws G M)[a]? = (M.1[a]?).map (fun q => (gb G + a, gent G M a q)) := by
  unfold gws
  rw [List.getElem?_map, List.getElem?_zipIdx]
  cases M.1[a]? <;> simp
theorem gws_P {G : gG} {M : gMe} {H : Heap} (hW : gWd G M H) : va_P G.1 vwCl (gws G M) H := by
  intro a q hq
  rw [gws_get] at hq
  cases h : M.1[a]? with
  | none => rw [h] at hq; cases hq
  | some r =>
    rw [h] at hq
    cases hq
    exact hW.2.2 a r h
theorem gws_D {G : gG} {M : gMe} : va_D (gA G) (gws G M) := by
  refine ⟨fun i j p q hp hq e => ?_, fun k q hq => ?_⟩
  · rw [gws_get] at hp hq
    cases h : M.1[i]? with
    | none => rw [h] at hp; cases hp
    | some r =>
      cases h2 : M.1[j]? with
      | none => rw [h2] at hq; cases hq
      | some r2 =>
        rw [h] at hp
        rw [h2] at hq
        cases hp
        cases hq
        have : gb G + i = gb G + j := e
        omega
  · rw [gws_get] at hq
    cases h : M.1[k]? with
    | none => rw [h] at hq; cases hq
    | some r =>
      rw [h] at hq
      cases hq
      exact Nat.le_add_right _ _
/-- the world behind a copy of n ints from a at sp to b at dp -/
def mC (M : gMe) (a sp b dp n : Nat) : gMe := (M.1, fun c j => if c = b then (if dp ≤ j ∧ j < dp + n then M.2.1 a (sp + (j - dp)) else M.2.1 c j) else M.2.1 c j, M.2.2.1, M.2.2.2)
section GOK
variable {G : gG} {mt : gMt} {n mc ms pc nx x y a b K N N1 : Nat} {z u v w : Int} {lv : List (Option gV)} {st : List gV} {M : gMe} {P : Option gV → gMe → Prop}
theorem Go.copy (hi : gat mt pc = some (85, z, x, y, nx)) (hsz : G.2.2.2.2.2.2 = false) (hn : 1 ≤ n) (hcat : gcats st ≤ 8) (ha : M.1[a]? = some (100, N)) (hb : M.1[b]? = some (100, N1)) (hN : N < 2147483648) (hN1 : N1 < 2147483648) (h0 : 0 ≤ u) (h1 : 0 ≤ v) (h2 : 0 ≤ w) (h3 : u + w ≤ N) (h4 : v + w ≤ N1) (kk : Go G mt n mc ms nx lv st (mC M a u.toNat b v.toNat w.toNat) P) : Go G mt n mc ms pc lv (gi w :: gi v :: gr b :: gi u :: gr a :: st) M P := by
  intro p l e R s m args below meth cd H locs cells slots ls cx hS hW hL hc hs
  have hk := fun H1 locs1 hS1 hW1 => kk p l e R s m args below meth cd H1 locs1 cells slots ls cx hS1 hW1 hL hc hs
  obtain ⟨hx, hbc, -, hmx, hown, hts, -, -, hK, hSt, hNs, ⟨hR1, hR2⟩, hok⟩ := cx
  have ho := gat_ok hok hi
  simp only [gok, Bool.and_eq_true, decide_eq_true_eq, List.any_eq_true] at ho
  obtain ⟨rfl, q, hq, e1, hd⟩ := ho
  have hw := gAL_ok q hq
  rw [e1] at hw
  have ru : rng u := ⟨by omega, by omega⟩
  have rv : rng v := ⟨by omega, by omega⟩
  have rw' : rng w := ⟨by omega, by omega⟩
  have r0 : rng 0 := ⟨by omega, by omega⟩
  have neg : ∀ {t : Int}, rng t → 0 ≤ t → ¬ iI t < 0 := fun {t} hr ht h => by rw [show (0 : Int32) = iI 0 from rfl, iI_lt hr r0] at h; omega
  refine va_copyi (ty := .int) hx hbc (hmx.trans hL.1.symm) hown (hts _ (gTB_in hw rfl)) (hts _ (gTB_in gA_nat rfl)) (hts _ (gTB_in gA_stat rfl)) (hts _ (gTB_in gA_ini rfl)) hK (gws_P hW) gws_D hS a b 0 0 (a0 := gb G + a) (c0 := G.2.1 0) (c1 := G.2.1 0) (n0 := N) (n1 := N1) (f := fun j => iI (M.2.1 a j)) (g := fun j => iI (M.2.1 b j)) (by rw [gws_get, ha]; rfl) (by rw [gws_get, hb]; rfl) rfl rfl rfl (neg ru h0) (neg rv h1) (neg rw' h2) (by rw [iI_clamp ru, iI_clamp rw']; omega) (by rw [iI_clamp rv, iI_clamp rw']; omega) (fun _ _ => rfl) (by omega) ?_ hd ?_
  · rw [gcats_sum]
    have : nativeFrameWords "java/lang/System" "arraycopy" 5 + 11 ≤ 40 := by decide +kernel
    omega
  · intro H1 locs1 hP1 hD1 hS1
    refine hk H1 locs1 hS1 ⟨?_, fun h => (by rw [hsz] at h; cases h), fun c q hc => ?_⟩
    · show gb G + M.1.length ≤ H1.size
      by_cases hl : M.1.length = 0
      · have := hb
        rw [List.length_eq_zero_iff.mp hl] at this
        cases this
      · have hlast : ∃ r, M.1[M.1.length - 1]? = some r := ⟨M.1[M.1.length - 1]'(by omega), List.getElem?_eq_getElem _⟩
        obtain ⟨r, hr⟩ := hlast
        have hpos := hP1 (M.1.length - 1)
        rw [List.getElem?_set, gws_get, hr] at hpos
        by_cases eb : b = M.1.length - 1
        · rw [if_pos eb, if_pos (by unfold gws; rw [List.length_map, List.length_zipIdx]; omega)] at hpos
          have := (hpos _ rfl).lt
          have h9 : gb G + b < H1.size := this
          omega
        · rw [if_neg eb] at hpos
          have := (hpos _ rfl).lt
          have h9 : gb G + (M.1.length - 1) < H1.size := this
          omega
    · have hc' : M.1[c]? = some q := hc
      have hpos := hP1 c
      rw [List.getElem?_set, gws_get, hc'] at hpos
      by_cases eb : b = c
      · subst eb
        rw [if_pos rfl, if_pos (by unfold gws; rw [List.length_map, List.length_zipIdx]; exact (List.getElem?_eq_some_iff.mp hc').1)] at hpos
        rw [hb] at hc'
        cases hc'
        have h9 := hpos _ rfl
        rw [iI_clamp ru, iI_clamp rv, iI_clamp rw'] at h9
        refine (show H1[gb G + b]? = some (vp_cell (G.2.1 0) (N1, .inl (fun j => iI (if b = b then (if v.toNat ≤ j ∧ j < v.toNat + w.toNat then M.2.1 a (u.toNat + (j - v.toNat)) else M.2.1 b j) else M.2.1 b j)))) from ?_)
        have h10 : H1[gb G + b]? = some (vp_cell (G.2.1 0) (N1, .inl (va_cpy (fun j => iI (M.2.1 a j)) (fun j => iI (M.2.1 b j)) u.toNat v.toNat w.toNat))) := h9
        rw [h10]
        congr 4
        funext j
        unfold va_cpy
        rw [if_pos rfl]
        split <;> rfl
      · rw [if_neg eb] at hpos
        rw [gent_cong (M := M) (M' := mC M a u.toNat b v.toNat w.toNat) (fun j => if_neg (Ne.symm eb)) (fun j => rfl) (fun j => rfl)]
        exact hpos _ rfl
/-- new int[n][k]: the outer row first, then the inner ones -/
def mNN (M : gMe) (N K : Nat) : gMe := (M.1 ++ ((107, N) :: List.replicate N (100, K)), gzz M.2.1 M.1.length 0, gzz M.2.2.1 M.1.length 0, fun b j => if b = M.1.length ∧ j < N then some (M.1.length + 1 + j) else gzz M.2.2.2 M.1.length none b j)
theorem g_outer (c : ClassId) (N h0 : Nat) : ∀ i : Nat, Jvm.Free.Multi.outerC c N h0 i = arrV c N (fun j => va_rf (if j < i then some (h0 + 1 + j) else none))
  | 0 => by
    show ({ cls := c, slots := Array.replicate N .null, vm := .none } : Cell) = _
    rw [arrV_new]
    refine congrArg (arrV c N) (funext fun j => ?_)
    simp [va_rf]
  | i + 1 => by
    show (Jvm.Free.Multi.outerC c N h0 i).setSlot i (.ref (h0 + 1 + i)) = _
    rw [g_outer c N h0 i, arrV_store]
    refine congrArg (arrV c N) (funext fun j => ?_)
    by_cases e : j = i
    · subst e
      simp [updV, va_rf]
    · by_cases h : j < i
      · simp [updV, e, h, Nat.lt_succ_of_lt h]
      · simp [updV, e, h, show ¬ j < i + 1 by omega]
theorem Go.mna (hi : gat mt pc = some (93, z, x, y, nx)) (hsz : G.2.2.2.2.2.2 = true) (h0 : 0 ≤ u) (h1 : u ≤ 1000) (h2 : 0 ≤ v) (h3 : v ≤ 1000) (hu : u.toNat = N) (hv : v.toNat = K) (kk : Go G mt n mc ms nx lv (gr M.1.length :: st) (mNN M N K) P) : Go G mt n (1 + N + mc) (N + N * K + ms) pc lv (gi v :: gi u :: st) M P := by
  subst hu
  subst hv
  intro p l e R s m args below meth cd H locs cells slots ls cx hS hW hL hc hs
  have hk := fun H1 hS1 hW1 => kk p l e R s m args below meth cd H1 locs (cells + 1 + u.toNat) (slots + u.toNat + u.toNat * v.toNat) ls cx hS1 hW1 hL (by omega) (by omega)
  obtain ⟨hx, hb, -, hmx, hown, hts, -, -, hK, hSt, hNs, -, hok⟩ := cx
  have ho := gat_ok hok hi
  simp only [gok, Bool.and_eq_true, decide_eq_true_eq] at ho
  obtain ⟨⟨rfl, e1⟩, hd⟩ := ho
  rw [e1] at hown
  have ru : rng u := ⟨by omega, by omega⟩
  have rv : rng v := ⟨by omega, by omega⟩
  have r0 : rng 0 := ⟨by omega, by omega⟩
  have neg : ∀ {t : Int}, rng t → 0 ≤ t → ¬ iI t < 0 := fun {t} hr ht h => by rw [show (0 : Int32) = iI 0 from rfl, iI_lt hr r0] at h; omega
  have hHs := hW.2.1 hsz
  have hmul : u.toNat * v.toNat ≤ 1000000 := Nat.mul_le_mul (show u.toNat ≤ 1000 by omega) (show v.toNat ≤ 1000 by omega)
  intro T hT Xs
  obtain ⟨vm₁, cA, comp, -, fA, fC, hO, -, X', step⟩ := Xs.multianewarray2F (own := gown 5) (index := gix_MN) (ty := .int) hx hown (hts _ (gTB_in gMN rfl)) hNs.2.2.2.2.2 (hts _ (gTB_in gac_int rfl)) (g := F0 m pc ls ((gi v :: gi u :: st).map (gup G))) rfl (by rw [hb]; exact hd) (n := iI u) (k := iI v) (rest := st.map (gup G)) rfl (neg ru h0) (neg rv h2) (by rw [iI_clamp ru]; omega) (by rw [iI_clamp rv]; show v.toNat * 4 ≤ _; omega) (by rw [iI_clamp rv]; omega) rfl rfl (by rw [iI_clamp ru]; omega) (by rw [iI_clamp ru, iI_clamp rv]; omega)
  rw [iI_clamp ru, iI_clamp rv] at X' step
  have hcA : cA = G.2.1 7 := Option.some.inj (fA.symm.trans (hK.2 7 _ rfl).2)
  subst hcA
  have hcC : comp = G.2.1 0 := Option.some.inj (fC.symm.trans (hK.2 0 _ rfl).2)
  subst hcC
  generalize hF : Jvm.Free.Multi.fill (T.setVm vm₁) (G.2.1 7) (G.2.1 0) u.toNat v.toNat (defaultValue .int) u.toNat = F at X' step
  have hTh : (T.setVm vm₁).heap = H := hT
  obtain ⟨f1, f2, -, -⟩ := Jvm.Free.Multi.fill_facts (T.setVm vm₁) (G.2.1 7) (G.2.1 0) u.toNat v.toNat (defaultValue .int) u.toNat
  rw [hF, hTh] at f1 f2
  have hold : ∀ x : Nat, x < H.size → F.heap[x]? = H[x]? := fun x hx => by
    have := Jvm.Free.Multi.fill_old (T.setVm vm₁) (G.2.1 7) (G.2.1 0) u.toNat v.toNat (defaultValue .int) (a := x) (by rw [hTh]; exact hx) u.toNat
    rw [hF, hTh] at this
    exact this
  have hrow : ∀ j : Nat, j < u.toNat → F.heap[H.size + 1 + j]? = some (Jvm.Free.Multi.innerC (G.2.1 0) v.toNat (defaultValue .int)) := fun j hj => by
    have := Jvm.Free.Multi.fill_inner (T.setVm vm₁) (G.2.1 7) (G.2.1 0) u.toNat v.toNat (defaultValue .int) u.toNat j hj
    rw [hF, hTh] at this
    exact this
  have hin : Jvm.Free.Multi.innerC (G.2.1 0) v.toNat (defaultValue .int) = arrV (G.2.1 0) v.toNat (fun _ => .int 0) := by
    show ({ cls := G.2.1 0, slots := Array.replicate v.toNat (.int 0), vm := .none } : Cell) = _
    rw [arrV_new]
  have hh := hk F.heap ⟨by rw [f1]; have := hS.1; omega, fun q h1 h2 => (hold q (Nat.lt_of_lt_of_le h1 hS.1)).trans (hS.2.1 q h1 h2), hS.2.2⟩ (gWd_new (q := (107, u.toNat) :: List.replicate u.toNat (100, v.toNat)) hW rfl (fun b hb => ⟨fun j => gzz_lt hb, fun j => gzz_lt hb, fun j => ?_⟩) (by rw [f1, hHs, List.length_cons, List.length_replicate]; omega) (fun q hq => hold q (by omega)) (fun i r hr => ?_))
  · obtain ⟨t, a1, b1⟩ := hh F rfl X'
    refine ⟨t, step t ?_, ?_⟩
    · have e9 : T.heap.size = gb G + M.1.length := by rw [hT, hHs]
      rw [e9]
      exact a1
    · rw [show cells + 1 + u.toNat + mc = cells + (1 + u.toNat + mc) by omega, show slots + u.toNat + u.toNat * v.toNat + ms = slots + (u.toNat + u.toNat * v.toNat + ms) by omega] at b1
      exact b1
  · show (if b = M.1.length ∧ j < u.toNat then some (M.1.length + 1 + j) else gzz M.2.2.2 M.1.length none b j) = M.2.2.2 b j
    rw [if_neg (by omega)]
    exact gzz_lt hb
  · cases i with
    | zero =>
      cases hr
      show F.heap[gb G + M.1.length]? = some (vp_cell (G.2.1 7) (u.toNat, .inr (.inr (.inr (.inr (fun j => (if M.1.length = M.1.length ∧ j < u.toNat then some (M.1.length + 1 + j) else gzz M.2.2.2 M.1.length none M.1.length j).map (fun x => gb G + x)))))))
      rw [← hHs, f2, g_outer, vp_cell_q]
      congr 2
      funext j
      by_cases hj : j < u.toNat
      · rw [if_pos hj, if_pos ⟨rfl, hj⟩]
        show Value.ref (H.size + 1 + j) = Value.ref (gb G + (M.1.length + 1 + j))
        rw [show H.size + 1 + j = gb G + (M.1.length + 1 + j) by omega]
      · rw [if_neg hj, if_neg (fun q => hj q.2), gzz_ge (Nat.lt_irrefl _)]
        rfl
    | succ i =>
      rw [List.getElem?_cons_succ, List.getElem?_replicate] at hr
      split at hr
      · rename_i hlt
        cases hr
        show F.heap[gb G + (M.1.length + (i + 1))]? = some (vp_cell (G.2.1 0) (v.toNat, .inl (fun j => iI (gzz M.2.1 M.1.length 0 (M.1.length + (i + 1)) j))))
        rw [show gb G + (M.1.length + (i + 1)) = H.size + 1 + i by omega, hrow i hlt, hin, vp_cell_i]
        congr 2
        funext j
        rw [gzz_ge (by omega)]
        rfl
      · cases hr
end GOK

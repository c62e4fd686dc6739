/-! ===== the world's cells: reading and writing ===== -/
theorem gcl {c : Nat} (h : c < 12) : vwCl[c]? = some (gR c, gT c, gN c) := by
  rcases (show c = 0 ∨ c = 1 ∨ c = 2 ∨ c = 3 ∨ c = 4 ∨ c = 5 ∨ c = 6 ∨ c = 7 ∨ c = 8 ∨ c = 9 ∨ c = 10 ∨ c = 11 by omega) with rfl | rfl | rfl | rfl | rfl | rfl | rfl | rfl | rfl | rfl | rfl | rfl <;> rfl
theorem ginA {c : Nat} (h : c < 12) : ∀ w ∈ u_ws (gR c) (gT c) (gN c), w ∈ gTB := by
  have h1 : ∀ w ∈ u_ws (gR c) (gT c) (gN c), w ∈ lw_tbl := by
    rcases (show c = 0 ∨ c = 1 ∨ c = 2 ∨ c = 3 ∨ c = 4 ∨ c = 5 ∨ c = 6 ∨ c = 7 ∨ c = 8 ∨ c = 9 ∨ c = 10 ∨ c = 11 by omega) with rfl | rfl | rfl | rfl | rfl | rfl | rfl | rfl | rfl | rfl | rfl | rfl
    · exact gin0
    · exact gin1
    · exact gin2
    · exact gin3
    · exact gin4
    · exact gin5
    · exact gin6
    · exact gin7
    · exact gin8
    · exact gin9
    · exact gin10
    · exact gin11
  intro w hw
  refine gTB_in (h1 w hw) ?_
  obtain ⟨k, -, rfl⟩ := List.mem_map.mp hw
  unfold u_lay
  split <;> rfl
theorem gnm {c : Nat} (h : c < 12) : ∀ a, a < gN c → ∀ b, b < gN c → a ≠ b → (gT c a).2.1 ≠ (gT c b).2.1 := by
  rcases (show c = 0 ∨ c = 1 ∨ c = 2 ∨ c = 3 ∨ c = 4 ∨ c = 5 ∨ c = 6 ∨ c = 7 ∨ c = 8 ∨ c = 9 ∨ c = 10 ∨ c = 11 by omega) with rfl | rfl | rfl | rfl | rfl | rfl | rfl | rfl | rfl | rfl | rfl | rfl
  · exact nmX0
  · exact nmX2
  · exact nmX3
  · exact nmX4
  · exact nmX5
  · exact nmX6
  · exact nmX7
  · exact nmX8
  · exact nmX9
  · exact nmX10
  · exact nmX11
  · exact nmX12
theorem gtyok {c : Nat} (h : c < 12) : ∀ k, k < gN c → parseFieldDescriptor (gT c k).2.2.1 = some (gty c k) := by
  rcases (show c = 0 ∨ c = 1 ∨ c = 2 ∨ c = 3 ∨ c = 4 ∨ c = 5 ∨ c = 6 ∨ c = 7 ∨ c = 8 ∨ c = 9 ∨ c = 10 ∨ c = 11 by omega) with rfl | rfl | rfl | rfl | rfl | rfl | rfl | rfl | rfl | rfl | rfl | rfl
  · exact tyX0_ok
  · exact tyX2_ok
  · exact tyX3_ok
  · exact tyX4_ok
  · exact tyX5_ok
  · exact tyX6_ok
  · exact tyX7_ok
  · exact tyX8_ok
  · exact tyX9_ok
  · exact tyX10_ok
  · exact tyX11_ok
  · exact tyX12_ok
theorem gP1 {G : gG} {M : gMe} {H : Heap} {a : Nat} {q : Nat × Nat} (hW : gWd G M H) (hs : M.1[a]? = some q) : va_P G.1 vwCl [(gb G + a, gent G M a q)] H := by
  intro k x hx
  have h0 : k < 1 := (List.getElem?_eq_some_iff.mp hx).1
  rw [show k = 0 by omega] at hx
  cases hx
  exact hW.2.2 a q hs
theorem gent_o {G : gG} {M : gMe} {a c N : Nat} (h : c < 12) : gent G M a (c, N) = .inr (c, (List.range (gN c)).map (gfv G M a c)) := by
  unfold gent
  rw [if_pos (show (c, N).1 < 100 by show c < 100; omega)]
/-- what a field holds -/
def gfld (M : gMe) (a c k : Nat) : gV := match gty c k with
  | .int => gi (M.2.1 a k)
  | .boolean => gi (M.2.1 a k)
  | .long => gl (M.2.2.1 a k)
  | _ => .inr (.inr (.inl (M.2.2.2 a k)))
theorem gfld_up (G : gG) (M : gMe) (a c k : Nat) : gup G (gfld M a c k) = gfv G M a c k := by
  unfold gfld gfv
  cases gty c k <;> rfl
theorem gfs_get {G : gG} {M : gMe} {a c k : Nat} (hk : k < gN c) : ((List.range (gN c)).map (gfv G M a c))[k]? = some (gfv G M a c k) := by
  rw [List.getElem?_map, List.getElem?_range hk]
  rfl
theorem gvpV {G : gG} {M : gMe} {a c j : Nat} (hj : j < gN c) : vp_V ((List.range (gN c)).map (gfv G M a c)) j = gfv G M a c j := by
  unfold vp_V
  rw [List.getD_eq_getElem?_getD, gfs_get hj]
  rfl
section GOM
variable {G : gG} {mt : gMt} {n mc ms pc nx x y a b c k N : Nat} {z : Int} {lv : List (Option gV)} {st : List gV} {M : gMe} {P : Option gV → gMe → Prop}
theorem Go.getf (hi : gat mt pc = some (40, z, c, k, nx)) (hsh : M.1[a]? = some (c, N)) (kk : Go G mt n mc ms nx lv (gfld M a c k :: st) M P) : Go G mt n mc ms pc lv (gr a :: st) M P := by
  intro p l e R s m args below meth cd H locs cells slots ls cx hS hW hL hc hs
  have hk := kk p l e R s m args below meth cd H locs cells slots ls cx hS hW hL hc hs
  obtain ⟨hx, hb, -, -, hown, hts, -, -, hK, -, -, -, hok⟩ := cx
  have ho := gat_ok hok hi
  simp only [gok, Bool.and_eq_true, decide_eq_true_eq, List.any_eq_true] at ho
  obtain ⟨rfl, q, hq, ⟨⟨⟨h1, h2⟩, h3⟩, h4⟩, hd⟩ := ho
  have hw := gFL_ok q hq
  rw [h1, h2] at hw
  refine va_get (ci := c) hx hb hts (ginA h4) hown hK (gP1 hW hsh) 0 (by rw [gent_o h4]; rfl) (gcl h4) k h3 (hts _ (gTB_in hw rfl)) (fun _ h => h) (v := gfv G M a c k) (gfs_get h3) hd ?_
  rw [← gfld_up]
  exact hk
/-- what stays of a world when one cell is written anew -/
theorem gWd_put {G : gG} {M M' : gMe} {H H1 : Heap} {a : Nat} (hW : gWd G M H) (h1 : M'.1 = M.1) (hz : H1.size = H.size) (oq : ∀ q : Nat, q ≠ gb G + a → H1[q]? = H[q]?) (h4 : ∀ (b : Nat) (q : Nat × Nat), M.1[b]? = some q → b ≠ a → gent G M' b q = gent G M b q) (h5 : ∀ q, M.1[a]? = some q → va_at G.1 vwCl (gb G + a, gent G M' a q) H1) : gWd G M' H1 := by
  refine ⟨by rw [h1, hz]; exact hW.1, by rw [h1, hz]; exact hW.2.1, fun b q hb => ?_⟩
  rw [h1] at hb
  by_cases e : b = a
  · subst e
    exact h5 q hb
  · rw [h4 b q hb e]
    exact (hW.2.2 b q hb).kept (oq _ (by show gb G + b ≠ gb G + a; omega))
theorem gS_put {G : gG} {s : State} {H H1 : Heap} {locs : List Loc} {a j : Nat} (hS : va_S (gA G) s.heap H locs) (hz : H1.size = H.size) (oq : ∀ q : Nat, q ≠ gb G + a → H1[q]? = H[q]?) : va_S (gA G) s.heap H1 (locs ++ [⟨gb G + a, j⟩]) := hS.put hz oq (show gb G ≤ gb G + a from Nat.le_add_right _ _)
/-- a field is written: the value's own conditions, and what world it makes -/
theorem Go.put0 {v : gV} {M' : gMe} (hi : gat mt pc = some (41, z, c, k, nx)) (hsh : M.1[a]? = some (c, N)) (hn : ∀ G : gG, narrow (gty c k) (gup G v) = gup G v) (hfit : ∀ G : gG, fits (gty c k) (gup G v) = true) (h1 : M'.1 = M.1) (h2 : gfld M' a c k = v) (h3 : ∀ k', k' ≠ k → gfld M' a c k' = gfld M a c k') (h4 : ∀ (G : gG) (b : Nat) (q : Nat × Nat), b ≠ a → gent G M' b q = gent G M b q) (kk : Go G mt n mc ms nx lv st M' P) : Go G mt n mc ms pc lv (v :: gr a :: st) M P := by
  intro p l e R s m args below meth cd H locs cells slots ls cx hS hW hL hc hs
  have hk := fun H1 locs1 hS1 hW1 => kk p l e R s m args below meth cd H1 locs1 cells slots ls cx hS1 hW1 hL hc hs
  obtain ⟨hx, hb, -, -, hown, hts, -, -, hK, -, -, -, hok⟩ := cx
  have ho := gat_ok hok hi
  simp only [gok, Bool.and_eq_true, decide_eq_true_eq, List.any_eq_true] at ho
  obtain ⟨rfl, q, hq, ⟨⟨⟨⟨e1, e2⟩, e3⟩, e4⟩, e5⟩, hd⟩ := ho
  have hw := gFL_ok q hq
  rw [e1, e2] at hw
  have hap := va_apart (own := gown (gH mt.1).2.2.2.2) hts (ginA e4) (gty c) (gtyok e4) (gnm e4) hK (gcl e4)
  have hat := hW.2.2 a _ hsh
  rw [gent_o e4] at hat
  obtain ⟨r, g1, cell, q1, q2, q3, q4⟩ := hat
  have hr : r = (gR c, gT c, gN c) := Option.some.inj (g1.symm.trans (gcl e4))
  subst hr
  obtain ⟨hSl, hfc, kC, hkC, hkind⟩ := hK.1 c _ (gcl e4)
  obtain ⟨cf, kf, fi, f, hi', hsl⟩ := hSl k e3
  have hlay := hts _ (ginA e4 _ (u_in_lay e3))
  unfold u_lay at hlay
  rw [if_neg (by rw [e5]; decide)] at hlay
  have hst := (u_facts hfc hkC (u_lays hts (ginA e4) e3) hi').1
  have h6 := u_store hfc hkC hkind hlay hi' (gtyok e4 k e3) (hn G) (hfit G)
  refine W.putK hx hb (f := f) ⟨hown, hts _ (gTB_in hw rfl), ⟨_, _, _, hi'⟩, hst⟩ (by rw [q2]; exact h6) q1 q3 (by rw [hsl]; exact k2_hasslot (q4 k e3)) rfl rfl hd fun H' z1 z2 z3 => ?_
  rw [hsl] at z1 ⊢
  refine hk H' _ (gS_put hS z2 z3) (gWd_put hW h1 z2 z3 (fun b q _ hb => h4 G b q hb) (fun q' hq' => ?_))
  rw [hsh] at hq'
  cases hq'
  rw [gent_o e4]
  refine ⟨_, gcl e4, t_OB.to (V := updV (vp_V ((List.range (gN c)).map (gfv G M a c))) k (gup G v)) ⟨_, z1, q2, q3, t_set q4 hap e3 _⟩ (fun j hj => ?_)⟩
  have hj' : j < gN c := hj
  show updV (vp_V ((List.range (gN c)).map (gfv G M a c))) k _ j = vp_V ((List.range (gN c)).map (gfv G M' a c)) j
  rw [gvpV hj']
  unfold updV
  by_cases ej : j = k
  · subst ej
    rw [if_pos rfl, ← h2, gfld_up]
  · rw [if_neg ej, gvpV hj', ← gfld_up, ← gfld_up, h3 j ej]
theorem Go.putF0 {v : gV} {M' : gMe} (hi : gat mt pc = some (42, z, c, k, nx)) (hsh : M.1[a]? = some (c, N)) (hn : ∀ G : gG, narrow (gty c k) (gup G v) = gup G v) (hfit : ∀ G : gG, fits (gty c k) (gup G v) = true) (h1 : M'.1 = M.1) (h2 : gfld M' a c k = v) (h3 : ∀ k', k' ≠ k → gfld M' a c k' = gfld M a c k') (h4 : ∀ (G : gG) (b : Nat) (q : Nat × Nat), b ≠ a → gent G M' b q = gent G M b q) (kk : Go G mt n mc ms nx lv st M' P) : Go G mt n mc ms pc lv (v :: gr a :: st) M P := by
  intro p l e R s m args below meth cd H locs cells slots ls cx hS hW hL hc hs
  have hk := fun H1 locs1 hS1 hW1 => kk p l e R s m args below meth cd H1 locs1 cells slots ls cx hS1 hW1 hL hc hs
  obtain ⟨hx, hb, -, -, hown, hts, -, hname, hK, -, -, -, hok⟩ := cx
  have ho := gat_ok hok hi
  simp only [gok, Bool.and_eq_true, decide_eq_true_eq, List.any_eq_true] at ho
  obtain ⟨rfl, q, hq, ⟨⟨⟨⟨⟨⟨e1, e2⟩, e3⟩, e4⟩, e5⟩, e6⟩, e7⟩, hd⟩ := ho
  have hw := gFL_ok q hq
  rw [e1, e2] at hw
  have hap := va_apart (own := gown (gH mt.1).2.2.2.2) hts (ginA e4) (gty c) (gtyok e4) (gnm e4) hK (gcl e4)
  have hat := hW.2.2 a _ hsh
  rw [gent_o e4] at hat
  obtain ⟨r, g1, cell, q1, q2, q3, q4⟩ := hat
  have hr : r = (gR c, gT c, gN c) := Option.some.inj (g1.symm.trans (gcl e4))
  subst hr
  obtain ⟨hSl, hfc, kC, hkC, hkind⟩ := hK.1 c _ (gcl e4)
  obtain ⟨cf, kf, fi, f, hi', hsl⟩ := hSl k e3
  have hlay := hts _ (ginA e4 _ (u_in_lay e3))
  unfold u_lay at hlay
  rw [if_pos e5] at hlay
  have hst := (u_facts hfc hkC (u_lays hts (ginA e4) e3) hi').1
  have hcf : m.cls = cf := by
    obtain ⟨_, _, c', _, _, _, -, -, hf', -, -, -, hown2, -⟩ := Cond.laysFinal_spec hlay
    have e9 : c' = cf := by have := hi'.symm.trans hf'; simp at this; exact this.1.symm
    rw [e6] at hown2
    rw [← e9]; exact Option.some.inj (hown.symm.trans hown2)
  have h6 := u_fits hfc hkC hkind (Or.inr hlay) hi' (gtyok e4 k e3) (hn G) (hfit G)
  refine W.putFinK hx hb hown (hts _ (gTB_in hw rfl)) hi' hst hcf (hname.trans e7) (by rw [q2]; exact h6) q1 q3 (by rw [hsl]; exact k2_hasslot (q4 k e3)) rfl rfl hd fun H' z1 z2 z3 => ?_
  rw [hsl] at z1 ⊢
  refine hk H' _ (gS_put hS z2 z3) (gWd_put hW h1 z2 z3 (fun b q _ hb => h4 G b q hb) (fun q' hq' => ?_))
  rw [hsh] at hq'
  cases hq'
  rw [gent_o e4]
  refine ⟨_, gcl e4, t_OB.to (V := updV (vp_V ((List.range (gN c)).map (gfv G M a c))) k (gup G v)) ⟨_, z1, q2, q3, t_set q4 hap e3 _⟩ (fun j hj => ?_)⟩
  have hj' : j < gN c := hj
  show updV (vp_V ((List.range (gN c)).map (gfv G M a c))) k _ j = vp_V ((List.range (gN c)).map (gfv G M' a c)) j
  rw [gvpV hj']
  unfold updV
  by_cases ej : j = k
  · subst ej
    rw [if_pos rfl, ← h2, gfld_up]
  · rw [if_neg ej, gvpV hj', ← gfld_up, ← gfld_up, h3 j ej]
end GOM

/-! ===== writing: what world it makes ===== -/
def gu {α : Type} (f : Nat → Nat → α) (a k : Nat) (v : α) : Nat → Nat → α := fun b j => if b = a then (if j = k then v else f b j) else f b j
theorem gu_self {α : Type} (f : Nat → Nat → α) (a k : Nat) (v : α) : gu f a k v a k = v := by simp [gu]
theorem gu_ne {α : Type} {f : Nat → Nat → α} {a k b j : Nat} {v : α} (h : b ≠ a ∨ j ≠ k) : gu f a k v b j = f b j := by
  unfold gu
  by_cases e : b = a
  · rw [if_pos e]
    rcases h with h | h
    · exact absurd e h
    · rw [if_neg h]
  · rw [if_neg e]
theorem gu_eq {α : Type} (f : Nat → Nat → α) (a k b j : Nat) (v : α) : gu f a k v b j = if b = a ∧ j = k then v else f b j := by
  unfold gu
  by_cases e : b = a <;> by_cases e2 : j = k <;> simp [e, e2]
def mI (M : gMe) (a k : Nat) (v : Int) : gMe := (M.1, gu M.2.1 a k v, M.2.2.1, M.2.2.2)
def mL (M : gMe) (a k : Nat) (v : Int64) : gMe := (M.1, M.2.1, gu M.2.2.1 a k v, M.2.2.2)
def mR (M : gMe) (a k : Nat) (v : Option Nat) : gMe := (M.1, M.2.1, M.2.2.1, gu M.2.2.2 a k v)
theorem gent_cong {G : gG} {M M' : gMe} {b : Nat} {q : Nat × Nat} (h1 : ∀ j, M'.2.1 b j = M.2.1 b j) (h2 : ∀ j, M'.2.2.1 b j = M.2.2.1 b j) (h3 : ∀ j, M'.2.2.2 b j = M.2.2.2 b j) : gent G M' b q = gent G M b q := by
  have e1 : M'.2.1 b = M.2.1 b := funext h1
  have e2 : M'.2.2.1 b = M.2.2.1 b := funext h2
  have e3 : M'.2.2.2 b = M.2.2.2 b := funext h3
  have e4 : gfv G M' b q.1 = gfv G M b q.1 := by
    funext k
    unfold gfv
    rw [e1, e2, e3]
  unfold gent
  rw [e1, e2, e3, e4]
theorem gu_other {α : Type} {f : Nat → Nat → α} {a k b j : Nat} {v : α} (h : b ≠ a) : gu f a k v b j = f b j := gu_ne (Or.inl h)
theorem narrow_i (x : Int32) : narrow .int (.int x) = .int x := rfl
def gisr : FieldType → Bool
  | .object _ => true
  | .array _ => true
  | _ => false
section GOA
variable {G : gG} {mt : gMt} {n mc ms pc nx x y a b c k N : Nat} {z : Int} {lv : List (Option gV)} {st : List gV} {M : gMe} {P : Option gV → gMe → Prop}
theorem Go.putI {w : Int} (hi : gat mt pc = some (41, z, c, k, nx)) (hsh : M.1[a]? = some (c, N)) (hty : gty c k = .int) (kk : Go G mt n mc ms nx lv st (mI M a k w) P) : Go G mt n mc ms pc lv (gi w :: gr a :: st) M P := by
  refine Go.put0 (M' := mI M a k w) hi hsh (fun G => by rw [hty]; rfl) (fun G => by rw [hty]; rfl) rfl ?_ (fun k' hk' => ?_) (fun G b q hb => gent_cong (fun j => gu_other hb) (fun j => rfl) (fun j => rfl)) kk
  · unfold gfld
    rw [hty]
    show gi (gu M.2.1 a k w a k) = gi w
    rw [gu_self]
  · unfold gfld
    show (match gty c k' with | .int => gi (gu M.2.1 a k w a k') | .boolean => gi (gu M.2.1 a k w a k') | .long => gl (M.2.2.1 a k') | _ => .inr (.inr (.inl (M.2.2.2 a k')))) = _
    rw [gu_ne (Or.inr hk')]
    cases gty c k' <;> rfl
theorem Go.putZ {w : Int} (hi : gat mt pc = some (41, z, c, k, nx)) (hsh : M.1[a]? = some (c, N)) (hty : gty c k = .boolean) (hw : w = 0 ∨ w = 1) (kk : Go G mt n mc ms nx lv st (mI M a k w) P) : Go G mt n mc ms pc lv (gi w :: gr a :: st) M P := by
  refine Go.put0 (M' := mI M a k w) hi hsh (fun G => by rw [hty]; rcases hw with rfl | rfl <;> rfl) (fun G => by rw [hty]; rcases hw with rfl | rfl <;> rfl) rfl ?_ (fun k' hk' => ?_) (fun G b q hb => gent_cong (fun j => gu_other hb) (fun j => rfl) (fun j => rfl)) kk
  · unfold gfld
    rw [hty]
    show gi (gu M.2.1 a k w a k) = gi w
    rw [gu_self]
  · unfold gfld
    show (match gty c k' with | .int => gi (gu M.2.1 a k w a k') | .boolean => gi (gu M.2.1 a k w a k') | .long => gl (M.2.2.1 a k') | _ => .inr (.inr (.inl (M.2.2.2 a k')))) = _
    rw [gu_ne (Or.inr hk')]
    cases gty c k' <;> rfl
theorem Go.putL {w : Int64} (hi : gat mt pc = some (41, z, c, k, nx)) (hsh : M.1[a]? = some (c, N)) (hty : gty c k = .long) (kk : Go G mt n mc ms nx lv st (mL M a k w) P) : Go G mt n mc ms pc lv (gl w :: gr a :: st) M P := by
  refine Go.put0 (M' := mL M a k w) hi hsh (fun G => by rw [hty]; rfl) (fun G => by rw [hty]; rfl) rfl ?_ (fun k' hk' => ?_) (fun G b q hb => gent_cong (fun j => rfl) (fun j => gu_other hb) (fun j => rfl)) kk
  · unfold gfld
    rw [hty]
    show gl (gu M.2.2.1 a k w a k) = gl w
    rw [gu_self]
  · unfold gfld
    show (match gty c k' with | .int => gi (M.2.1 a k') | .boolean => gi (M.2.1 a k') | .long => gl (gu M.2.2.1 a k w a k') | _ => .inr (.inr (.inl (M.2.2.2 a k')))) = _
    rw [gu_ne (Or.inr hk')]
    cases gty c k' <;> rfl
/-- a final field of references, in a constructor -/
theorem Go.putR {w : Nat} (hi : gat mt pc = some (42, z, c, k, nx)) (hsh : M.1[a]? = some (c, N)) (hty : gisr (gty c k) = true) (kk : Go G mt n mc ms nx lv st (mR M a k (some w)) P) : Go G mt n mc ms pc lv (gr w :: gr a :: st) M P := by
  refine Go.putF0 (M' := mR M a k (some w)) hi hsh (fun G => ?_) (fun G => ?_) rfl ?_ (fun k' hk' => ?_) (fun G b q hb => gent_cong (fun j => rfl) (fun j => rfl) (fun j => gu_other hb)) kk
  · cases h : gty c k <;> rw [h] at hty <;> first | rfl | (cases hty)
  · cases h : gty c k <;> rw [h] at hty <;> first | rfl | (cases hty)
  · unfold gfld
    cases h : gty c k <;> rw [h] at hty <;> first | (cases hty; done) | (show (Sum.inr (Sum.inr (Sum.inl (gu M.2.2.2 a k (some w) a k))) : gV) = _; rw [gu_self])
  · unfold gfld
    show (match gty c k' with | .int => gi (M.2.1 a k') | .boolean => gi (M.2.1 a k') | .long => gl (M.2.2.1 a k') | _ => .inr (.inr (.inl (gu M.2.2.2 a k (some w) a k')))) = _
    rw [gu_ne (Or.inr hk')]
    cases gty c k' <;> rfl
/-! arrays -/
theorem gin_n {i : Int} {N : Nat} (h0 : 0 ≤ i) (h1 : i < N) (hN : N < 2147483648) : rng i := ⟨by omega, by omega⟩
theorem Go.iald {i : Int} (hi : gat mt pc = some (43, z, x, y, nx)) (hsh : M.1[a]? = some (100, N)) (h0 : 0 ≤ i) (h1 : i < N) (hN : N < 2147483648) (kk : Go G mt n mc ms nx lv (gi (M.2.1 a i.toNat) :: st) M P) : Go G mt n mc ms pc lv (gi i :: gr a :: st) M P := by
  intro p l e R s m args below meth cd H locs cells slots ls cx hS hW hL hc hs
  have hk := kk p l e R s m args below meth cd H locs cells slots ls cx hS hW hL hc hs
  obtain ⟨hx, hb, -, -, hown, hts, -, -, hK, -, -, -, hok⟩ := cx
  have ho := gat_ok hok hi
  simp only [gok, Bool.and_eq_true, decide_eq_true_eq] at ho
  obtain ⟨hd, rfl⟩ := ho
  refine va_iald hx hb hK (gP1 hW hsh) 0 0 (cA := G.2.1 0) (n := N) (f := fun j => iI (M.2.1 a j)) rfl rfl (iI_in h0 h1 hN) hd ?_
  rw [iI_clamp (gin_n h0 h1 hN)]
  exact hk
theorem Go.bald {i : Int} (hi : gat mt pc = some (44, z, x, y, nx)) (hsh : M.1[a]? = some (101, N)) (h0 : 0 ≤ i) (h1 : i < N) (hN : N < 2147483648) (kk : Go G mt n mc ms nx lv (gi (M.2.1 a i.toNat) :: st) M P) : Go G mt n mc ms pc lv (gi i :: gr a :: st) M P := by
  intro p l e R s m args below meth cd H locs cells slots ls cx hS hW hL hc hs
  have hk := kk p l e R s m args below meth cd H locs cells slots ls cx hS hW hL hc hs
  obtain ⟨hx, hb, -, -, hown, hts, -, -, hK, -, -, -, hok⟩ := cx
  have ho := gat_ok hok hi
  simp only [gok, Bool.and_eq_true, decide_eq_true_eq] at ho
  obtain ⟨hd, rfl⟩ := ho
  refine va_zald hx hb hK (gP1 hW hsh) 0 1 (cA := G.2.1 1) (n := N) (f := fun j => iI (M.2.1 a j)) rfl rfl (iI_in h0 h1 hN) hd ?_
  rw [iI_clamp (gin_n h0 h1 hN)]
  exact hk
theorem Go.lald {i : Int} (hi : gat mt pc = some (45, z, x, y, nx)) (hsh : M.1[a]? = some (102, N)) (h0 : 0 ≤ i) (h1 : i < N) (hN : N < 2147483648) (kk : Go G mt n mc ms nx lv (gl (M.2.2.1 a i.toNat) :: st) M P) : Go G mt n mc ms pc lv (gi i :: gr a :: st) M P := by
  intro p l e R s m args below meth cd H locs cells slots ls cx hS hW hL hc hs
  have hk := kk p l e R s m args below meth cd H locs cells slots ls cx hS hW hL hc hs
  obtain ⟨hx, hb, -, -, hown, hts, -, -, hK, -, -, -, hok⟩ := cx
  have ho := gat_ok hok hi
  simp only [gok, Bool.and_eq_true, decide_eq_true_eq] at ho
  obtain ⟨hd, rfl⟩ := ho
  refine va_lald hx hb hK (gP1 hW hsh) 0 2 (cA := G.2.1 2) (n := N) (f := M.2.2.1 a) rfl rfl (iI_in h0 h1 hN) hd ?_
  rw [iI_clamp (gin_n h0 h1 hN)]
  exact hk
/-- an array of references: of objects of the class whose array type has the number x -/
theorem Go.aald {i : Int} {t : Nat} (hi : gat mt pc = some (46, z, x, y, nx)) (hsh : M.1[a]? = some (100 + t, N)) (ht : 3 ≤ t ∧ t ≤ 7) (h0 : 0 ≤ i) (h1 : i < N) (hN : N < 2147483648) (kk : Go G mt n mc ms nx lv (.inr (.inr (.inl (M.2.2.2 a i.toNat))) :: st) M P) : Go G mt n mc ms pc lv (gi i :: gr a :: st) M P := by
  intro p l e R s m args below meth cd H locs cells slots ls cx hS hW hL hc hs
  have hk := kk p l e R s m args below meth cd H locs cells slots ls cx hS hW hL hc hs
  obtain ⟨hx, hb, -, -, hown, hts, -, -, hK, -, -, -, hok⟩ := cx
  have ho := gat_ok hok hi
  simp only [gok, Bool.and_eq_true, decide_eq_true_eq] at ho
  obtain ⟨hd, rfl⟩ := ho
  have hlt : (iI i).toNatClampNeg < N := by rw [iI_clamp (gin_n h0 h1 hN)]; omega
  have hat : H[gb G + a]? = some (vp_cell (G.2.1 t) (N, .inr (.inr (.inr (.inr (fun j => (M.2.2.2 a j).map (fun x => gb G + x))))))) := by
    have := hW.2.2 a _ hsh
    rcases (show t = 3 ∨ t = 4 ∨ t = 5 ∨ t = 6 ∨ t = 7 by omega) with rfl | rfl | rfl | rfl | rfl <;> exact this
  have hta : (gtys G)[t]? = some (G.2.1 t, gaty t) := by
    rcases (show t = 3 ∨ t = 4 ∨ t = 5 ∨ t = 6 ∨ t = 7 by omega) with rfl | rfl | rfl | rfl | rfl <;> rfl
  have href : (gaty t).isReference = true := by
    rcases (show t = 3 ∨ t = 4 ∨ t = 5 ∨ t = 6 ∨ t = 7 by omega) with rfl | rfl | rfl | rfl | rfl <;> rfl
  refine W.aald (v := va_rf ((M.2.2.2 a (iI i).toNatClampNeg).map (fun x => gb G + x))) (ty := gaty t) hx hb hat ((hK.2 t _ hta).1 N (fun j => va_rf ((M.2.2.2 a j).map (fun x => gb G + x)))) href (fun q => by cases q) (by show ¬ (iI i < 0 ∨ (arrV _ _ _).slots.size ≤ _); rw [arrV_size]; exact iI_in h0 h1 hN) (by show (arrV _ _ _).slots[_]? = _; rw [arrV_read _ _ hlt]) rfl rfl hd ?_
  rw [iI_clamp (gin_n h0 h1 hN)]
  exact hk
theorem Go.alen (hi : gat mt pc = some (52, z, x, y, nx)) (hsh : M.1[a]? = some (100, N)) (kk : Go G mt n mc ms nx lv (gi N :: st) M P) : Go G mt n mc ms pc lv (gr a :: st) M P := by
  intro p l e R s m args below meth cd H locs cells slots ls cx hS hW hL hc hs
  have hk := kk p l e R s m args below meth cd H locs cells slots ls cx hS hW hL hc hs
  obtain ⟨hx, hb, -, -, hown, hts, -, -, hK, -, -, -, hok⟩ := cx
  have ho := gat_ok hok hi
  simp only [gok, Bool.and_eq_true, decide_eq_true_eq] at ho
  obtain ⟨hd, rfl⟩ := ho
  exact va_alen hx hb hK (gP1 hW hsh) 0 0 (cA := G.2.1 0) (x := (N, .inl (fun j => iI (M.2.1 a j)))) rfl rfl (v := iI N) (by show Int32.ofNat N = Int32.ofInt N; rfl) hd hk
theorem Go.iast {i w : Int} (hi : gat mt pc = some (48, z, x, y, nx)) (hsh : M.1[a]? = some (100, N)) (h0 : 0 ≤ i) (h1 : i < N) (hN : N < 2147483648) (kk : Go G mt n mc ms nx lv st (mI M a i.toNat w) P) : Go G mt n mc ms pc lv (gi w :: gi i :: gr a :: st) M P := by
  intro p l e R s m args below meth cd H locs cells slots ls cx hS hW hL hc hs
  have hk := fun H1 locs1 hS1 hW1 => kk p l e R s m args below meth cd H1 locs1 cells slots ls cx hS1 hW1 hL hc hs
  obtain ⟨hx, hb, -, -, hown, hts, -, -, hK, -, -, -, hok⟩ := cx
  have ho := gat_ok hok hi
  simp only [gok, Bool.and_eq_true, decide_eq_true_eq] at ho
  obtain ⟨hd, rfl⟩ := ho
  have hat : H[gb G + a]? = some (vp_cell (G.2.1 0) (N, .inl (fun j => iI (M.2.1 a j)))) := hW.2.2 a _ hsh
  refine W.iast hx hb hat ((hK.2 0 _ rfl).1 N (fun j => .int (iI (M.2.1 a j)))) (fun q => by cases q) (by show ¬ (iI i < 0 ∨ (arrV _ _ _).slots.size ≤ _); rw [arrV_size]; exact iI_in h0 h1 hN) rfl rfl hd fun H1 e z1 oq => ?_
  refine hk H1 _ (gS_put hS z1 oq) (gWd_put hW rfl z1 oq (fun b q _ hb => gent_cong (fun j => gu_other hb) (fun j => rfl) (fun j => rfl)) (fun q hq => ?_))
  rw [hsh] at hq
  cases hq
  show H1[gb G + a]? = some (vp_cell (G.2.1 0) (N, .inl (fun j => iI (gu M.2.1 a i.toNat w a j))))
  rw [e, vp_cell_i, vp_cell_i, arrV_store, iI_clamp (gin_n h0 h1 hN)]
  congr 2
  funext q
  unfold updV gu
  by_cases hq : q = i.toNat <;> simp [hq]
theorem Go.bast {i w : Int} (hi : gat mt pc = some (49, z, x, y, nx)) (hsh : M.1[a]? = some (101, N)) (hw : w = 0 ∨ w = 1) (h0 : 0 ≤ i) (h1 : i < N) (hN : N < 2147483648) (kk : Go G mt n mc ms nx lv st (mI M a i.toNat w) P) : Go G mt n mc ms pc lv (gi w :: gi i :: gr a :: st) M P := by
  intro p l e R s m args below meth cd H locs cells slots ls cx hS hW hL hc hs
  have hk := fun H1 locs1 hS1 hW1 => kk p l e R s m args below meth cd H1 locs1 cells slots ls cx hS1 hW1 hL hc hs
  obtain ⟨hx, hb, -, -, hown, hts, -, -, hK, -, -, -, hok⟩ := cx
  have ho := gat_ok hok hi
  simp only [gok, Bool.and_eq_true, decide_eq_true_eq] at ho
  obtain ⟨hd, rfl⟩ := ho
  have hat : H[gb G + a]? = some (vp_cell (G.2.1 1) (N, .inl (fun j => iI (M.2.1 a j)))) := hW.2.2 a _ hsh
  have hnw : narrow .boolean (.int (iI w)) = .int (iI w) := by rcases hw with rfl | rfl <;> rfl
  refine W.zast hx hb hat ((hK.2 1 _ rfl).1 N (fun j => .int (iI (M.2.1 a j)))) (fun q => by cases q) (by show ¬ (iI i < 0 ∨ (arrV _ _ _).slots.size ≤ _); rw [arrV_size]; exact iI_in h0 h1 hN) rfl rfl hd fun H1 e z1 oq => ?_
  refine hk H1 _ (gS_put hS z1 oq) (gWd_put hW rfl z1 oq (fun b q _ hb => gent_cong (fun j => gu_other hb) (fun j => rfl) (fun j => rfl)) (fun q hq => ?_))
  rw [hsh] at hq
  cases hq
  show H1[gb G + a]? = some (vp_cell (G.2.1 1) (N, .inl (fun j => iI (gu M.2.1 a i.toNat w a j))))
  rw [e, hnw, vp_cell_i, vp_cell_i, arrV_store, iI_clamp (gin_n h0 h1 hN)]
  congr 2
  funext q
  unfold updV gu
  by_cases hq : q = i.toNat <;> simp [hq]
theorem Go.last {i : Int} {w : Int64} (hi : gat mt pc = some (50, z, x, y, nx)) (hsh : M.1[a]? = some (102, N)) (h0 : 0 ≤ i) (h1 : i < N) (hN : N < 2147483648) (kk : Go G mt n mc ms nx lv st (mL M a i.toNat w) P) : Go G mt n mc ms pc lv (gl w :: gi i :: gr a :: st) M P := by
  intro p l e R s m args below meth cd H locs cells slots ls cx hS hW hL hc hs
  have hk := fun H1 locs1 hS1 hW1 => kk p l e R s m args below meth cd H1 locs1 cells slots ls cx hS1 hW1 hL hc hs
  obtain ⟨hx, hb, -, -, hown, hts, -, -, hK, -, -, -, hok⟩ := cx
  have ho := gat_ok hok hi
  simp only [gok, Bool.and_eq_true, decide_eq_true_eq] at ho
  obtain ⟨hd, rfl⟩ := ho
  have hat : H[gb G + a]? = some (vp_cell (G.2.1 2) (N, .inr (.inl (M.2.2.1 a)))) := hW.2.2 a _ hsh
  refine W.last hx hb hat ((hK.2 2 _ rfl).1 N (fun j => .long (M.2.2.1 a j))) (fun q => by cases q) (by show ¬ (iI i < 0 ∨ (arrV _ _ _).slots.size ≤ _); rw [arrV_size]; exact iI_in h0 h1 hN) rfl rfl hd fun H1 e z1 oq => ?_
  refine hk H1 _ (gS_put hS z1 oq) (gWd_put hW rfl z1 oq (fun b q _ hb => gent_cong (fun j => rfl) (fun j => gu_other hb) (fun j => rfl)) (fun q hq => ?_))
  rw [hsh] at hq
  cases hq
  show H1[gb G + a]? = some (vp_cell (G.2.1 2) (N, .inr (.inl (gu M.2.2.1 a i.toNat w a))))
  rw [e, vp_cell_l, vp_cell_l, arrV_store, iI_clamp (gin_n h0 h1 hN)]
  congr 2
  funext q
  unfold updV gu
  by_cases hq : q = i.toNat <;> simp [hq]
/-- an object into an array of its class -/
theorem Go.aast {i : Int} {t w : Nat} (hi : gat mt pc = some (51, z, x, y, nx)) (hsh : M.1[a]? = some (100 + t, N)) (ht : 3 ≤ t ∧ t ≤ 6) (hv : M.1[w]? = some (c, k)) (hc : c < 12) (hcl : gR c = gaC t) (h0 : 0 ≤ i) (h1 : i < N) (hN : N < 2147483648) (kk : Go G mt n mc ms nx lv st (mR M a i.toNat (some w)) P) : Go G mt n mc ms pc lv (gr w :: gi i :: gr a :: st) M P := by
  intro p l e R s m args below meth cd H locs cells slots ls cx hS hW hL hcc hs
  have hk := fun H1 locs1 hS1 hW1 => kk p l e R s m args below meth cd H1 locs1 cells slots ls cx hS1 hW1 hL hcc hs
  obtain ⟨hx, hb, -, -, hown, hts, -, -, hK, -, -, -, hok⟩ := cx
  have ho := gat_ok hok hi
  simp only [gok, Bool.and_eq_true, decide_eq_true_eq] at ho
  obtain ⟨hd, rfl⟩ := ho
  have hat : H[gb G + a]? = some (vp_cell (G.2.1 t) (N, .inr (.inr (.inr (.inr (fun j => (M.2.2.2 a j).map (fun x => gb G + x))))))) := by
    have := hW.2.2 a _ hsh
    rcases (show t = 3 ∨ t = 4 ∨ t = 5 ∨ t = 6 by omega) with rfl | rfl | rfl | rfl <;> exact this
  have hta : (gtys G)[t]? = some (G.2.1 t, .object (gR c)) := by
    rw [hcl]
    rcases (show t = 3 ∨ t = 4 ∨ t = 5 ∨ t = 6 by omega) with rfl | rfl | rfl | rfl <;> rfl
  have hlt : (iI i).toNatClampNeg < N := by rw [iI_clamp (gin_n h0 h1 hN)]; omega
  have h00 : ¬ iI i < 0 := fun q => iI_in h0 h1 hN (Or.inl q)
  have hvv := hW.2.2 w _ hv
  rw [gent_o hc] at hvv
  obtain ⟨r', hr', cellV, g1, g2, g3, -⟩ := hvv
  have hcls := (hK.1 c _ (gcl hc)).2
  obtain ⟨kA, comp, k1, k2, k3, -⟩ := (hK.2 t _ hta).2
  have hcomp : comp = G.1.1 c := Option.some.inj (k3.symm.trans hcls.1)
  subst hcomp
  obtain ⟨kC, hkC, -⟩ := hcls.2
  refine W.aast hx hb hat (fun q h => by cases h) (fun h => by cases h) k1 k2 rfl hkC ⟨h00, by show _ < (arrV _ _ _).slots.size; rw [arrV_size]; exact hlt⟩ g1 (fun q h => by rw [g3] at h; cases h) (by rw [g2]; exact hkC) (by rw [g2]; exact va_assign hcls) rfl rfl hd fun H1 e z1 oq => ?_
  refine hk H1 _ (gS_put hS z1 oq) (gWd_put hW rfl z1 oq (fun b q _ hb => gent_cong (fun j => rfl) (fun j => rfl) (fun j => gu_other hb)) (fun q hq => ?_))
  rw [hsh] at hq
  cases hq
  have goal : H1[gb G + a]? = some (vp_cell (G.2.1 t) (N, .inr (.inr (.inr (.inr (fun j => (gu M.2.2.2 a i.toNat (some w) a j).map (fun x => gb G + x))))))) := by
    rw [e, vp_cell_q, vp_cell_q, arrV_store, iI_clamp (gin_n h0 h1 hN)]
    congr 2
    funext q
    unfold updV gu
    by_cases hq : q = i.toNat
    · subst hq
      rw [if_pos rfl, if_pos rfl, if_pos rfl]
      rfl
    · rw [if_neg hq, if_pos rfl, if_neg hq]
  rcases (show t = 3 ∨ t = 4 ∨ t = 5 ∨ t = 6 by omega) with rfl | rfl | rfl | rfl <;> exact goal
/-! static rows -/
theorem Go.gets (hi : gat mt pc = some (95, z, x, y, nx)) (kk : Go G mt n mc ms nx lv (gs x :: st) M P) : Go G mt n mc ms pc lv st M P := by
  intro p l e R s m args below meth cd H locs cells slots ls cx hS hW hL hc hs
  have hk := kk p l e R s m args below meth cd H locs cells slots ls cx hS hW hL hc hs
  obtain ⟨hx, hb, -, -, hown, hts, -, -, hK, hSt, -, -, hok⟩ := cx
  have ho := gat_ok hok hi
  simp only [gok, Bool.and_eq_true, Bool.or_eq_true, decide_eq_true_eq] at ho
  obtain ⟨rfl, (⟨⟨h1, rfl⟩, hd⟩ | ⟨⟨h1, rfl⟩, hd⟩)⟩ := ho
  · rw [h1] at hown
    exact va_gets hx hb hSt.2.1 hS hown (hts _ (gTB_in gSt_ABOVE rfl)) (fun _ h => h) hd hk
  · rw [h1] at hown
    exact va_gets hx hb hSt.2.2.2.1 hS hown (hts _ (gTB_in gSt_NAMES rfl)) (fun _ h => h) hd hk
theorem Go.sald {i : Int} {q : Nat} (hi : gat mt pc = some (43, z, x, y, nx)) (hq : q = 0 ∨ q = 2) (h0 : 0 ≤ i) (h1 : i < gsn G q) (hN : gsn G q < 2147483648) (kk : Go G mt n mc ms nx lv (gi (gsc G q i.toNat) :: st) M P) : Go G mt n mc ms pc lv (gi i :: gs q :: st) M P := by
  intro p l e R s m args below meth cd H locs cells slots ls cx hS hW hL hc hs
  have hk := kk p l e R s m args below meth cd H locs cells slots ls cx hS hW hL hc hs
  obtain ⟨hx, hb, -, -, hown, hts, -, -, hK, hSt, -, -, hok⟩ := cx
  have ho := gat_ok hok hi
  simp only [gok, Bool.and_eq_true, decide_eq_true_eq] at ho
  obtain ⟨hd, rfl⟩ := ho
  have hT : gsT G q .int s := by
    rcases hq with rfl | rfl
    · exact hSt.2.2.1
    · exact hSt.2.2.2.2.2
  exact va_ti hx hb hT hS (iI_in h0 h1 hN) (v := .int (iI (gsc G q i.toNat))) (by rw [iI_clamp (gin_n h0 h1 hN)]) hd hk
theorem Go.scald {i : Int} (hi : gat mt pc = some (47, z, x, y, nx)) (h0 : 0 ≤ i) (h1 : i < 6) (kk : Go G mt n mc ms nx lv (gi (gsc G 1 i.toNat) :: st) M P) : Go G mt n mc ms pc lv (gi i :: gs 1 :: st) M P := by
  intro p l e R s m args below meth cd H locs cells slots ls cx hS hW hL hc hs
  have hk := kk p l e R s m args below meth cd H locs cells slots ls cx hS hW hL hc hs
  obtain ⟨hx, hb, -, -, hown, hts, -, -, hK, hSt, -, -, hok⟩ := cx
  have ho := gat_ok hok hi
  simp only [gok, Bool.and_eq_true, decide_eq_true_eq] at ho
  obtain ⟨hd, rfl⟩ := ho
  exact va_tc hx hb hSt.2.2.2.2.1 hS (iI_in h0 (show i < ((gsn G 1 : Nat) : Int) from h1) (show gsn G 1 < 2147483648 from by show 6 < 2147483648; omega)) (v := .int (iI (gsc G 1 i.toNat))) (by rw [iI_clamp ⟨by omega, by omega⟩]) hd hk
theorem Go.salen {q : Nat} (hi : gat mt pc = some (52, z, x, y, nx)) (hq : q = 1 ∨ q = 2) (kk : Go G mt n mc ms nx lv (gi (gsn G q) :: st) M P) : Go G mt n mc ms pc lv (gs q :: st) M P := by
  intro p l e R s m args below meth cd H locs cells slots ls cx hS hW hL hc hs
  have hk := kk p l e R s m args below meth cd H locs cells slots ls cx hS hW hL hc hs
  obtain ⟨hx, hb, -, -, hown, hts, -, -, hK, hSt, -, -, hok⟩ := cx
  have ho := gat_ok hok hi
  simp only [gok, Bool.and_eq_true, decide_eq_true_eq] at ho
  obtain ⟨hd, rfl⟩ := ho
  rcases hq with rfl | rfl
  · exact va_tlen hx hb hSt.2.2.2.2.1 hS (v := iI (gsn G 1)) rfl hd hk
  · exact va_tlen hx hb hSt.2.2.2.2.2 hS (v := iI (gsn G 2)) rfl hd hk
theorem Go.lcmp {v w : Int64} (hi : gat mt pc = some (37, z, x, y, nx)) (kk : Go G mt n mc ms nx lv (gi (lg_cmp v w).toInt :: st) M P) : Go G mt n mc ms pc lv (gl w :: gl v :: st) M P := by
  intro p l e R s m args below meth cd H locs cells slots ls cx hS hW hL hc hs
  have hk := kk p l e R s m args below meth cd H locs cells slots ls cx hS hW hL hc hs
  obtain ⟨hx, hb, -, -, hown, hts, -, -, hK, hSt, -, -, hok⟩ := cx
  have ho := gat_ok hok hi
  simp only [gok, Bool.and_eq_true, decide_eq_true_eq] at ho
  obtain ⟨hd, rfl⟩ := ho
  exact W.lcmp hx hb hd (by have h := hk; unfold gup at h; simp only [List.map_cons, iI_of] at h; exact h)
/-! jumps, ends -/
theorem Go.goto (hi : gat mt pc = some (60, z, x, y, nx)) (kk : Go G mt n mc ms x lv st M P) : Go G mt n mc ms pc lv st M P := by
  intro p l e R s m args below meth cd H locs cells slots ls cx hS hW hL hc hs
  have hk := kk p l e R s m args below meth cd H locs cells slots ls cx hS hW hL hc hs
  obtain ⟨hx, hb, -, -, hown, hts, -, -, hK, hSt, -, -, hok⟩ := cx
  have ho := gat_ok hok hi
  simp only [gok, decide_eq_true_eq] at ho
  exact lv_goto (tgt := x) hx hb ho (by omega) hk
theorem Go.iret {w : Int} (hi : gat mt pc = some (70, z, x, 0, nx)) (hp : P (some (gi w)) M) : Go G mt n mc ms pc lv [gi w] M P := by
  intro p l e R s m args below meth cd H locs cells slots ls cx hS hW hL hc hs
  obtain ⟨hx, hb, hr, -, hown, hts, hlk, -, hK, hSt, -, -, hok⟩ := cx
  have ho := gat_ok hok hi
  simp only [gok, Bool.and_eq_true, Bool.or_eq_true, decide_eq_true_eq] at ho
  obtain ⟨hd, (⟨h1, -⟩ | ⟨-, h2⟩)⟩ := ho
  · exact W.widen (Nat.le_add_right _ _) (Nat.le_add_right _ _) (W.iret (v := iI w) hx hb (hr.trans h1) (fun t ht hw => ⟨⟨some (gi w), M, hp, rfl, by rw [ht]; exact hW⟩, hS.F ht⟩) hS.2.2 hd hlk)
  · cases h2
theorem Go.zret {w : Int} (hi : gat mt pc = some (70, z, x, 1, nx)) (hw : w = 0 ∨ w = 1) (hp : P (some (gi w)) M) : Go G mt n mc ms pc lv [gi w] M P := by
  intro p l e R s m args below meth cd H locs cells slots ls cx hS hW hL hc hs
  obtain ⟨hx, hb, hr, -, hown, hts, hlk, -, hK, hSt, -, -, hok⟩ := cx
  have ho := gat_ok hok hi
  simp only [gok, Bool.and_eq_true, Bool.or_eq_true, decide_eq_true_eq] at ho
  obtain ⟨hd, (⟨-, h2⟩ | ⟨h1, -⟩)⟩ := ho
  · cases h2
  · exact W.widen (Nat.le_add_right _ _) (Nat.le_add_right _ _) (W.zret (v := iI w) hx hb (hr.trans h1) (by rcases hw with rfl | rfl <;> rfl) (fun t ht hw => ⟨⟨some (gi w), M, hp, rfl, by rw [ht]; exact hW⟩, hS.F ht⟩) hS.2.2 hd hlk)
theorem Go.lret {w : Int64} (hi : gat mt pc = some (71, z, x, y, nx)) (hp : P (some (gl w)) M) : Go G mt n mc ms pc lv [gl w] M P := by
  intro p l e R s m args below meth cd H locs cells slots ls cx hS hW hL hc hs
  obtain ⟨hx, hb, hr, -, hown, hts, hlk, -, hK, hSt, -, -, hok⟩ := cx
  have ho := gat_ok hok hi
  simp only [gok, Bool.and_eq_true, decide_eq_true_eq] at ho
  exact W.widen (Nat.le_add_right _ _) (Nat.le_add_right _ _) (W.lret (v := w) hx hb (hr.trans ho.2) (fun t ht hw => ⟨⟨some (gl w), M, hp, rfl, by rw [ht]; exact hW⟩, hS.F ht⟩) hS.2.2 ho.1 hlk)
theorem Go.vret (hi : gat mt pc = some (72, z, x, y, nx)) (hp : P none M) : Go G mt n mc ms pc lv [] M P := by
  intro p l e R s m args below meth cd H locs cells slots ls cx hS hW hL hc hs
  obtain ⟨hx, hb, hr, -, hown, hts, hlk, -, hK, hSt, -, -, hok⟩ := cx
  have ho := gat_ok hok hi
  simp only [gok, Bool.and_eq_true, decide_eq_true_eq] at ho
  exact W.widen (Nat.le_add_right _ _) (Nat.le_add_right _ _) (W.vret hx hb (hr.trans ho.2) (fun t ht hw => ⟨⟨none, M, hp, rfl, by rw [ht]; exact hW⟩, hS.F ht⟩) hS.2.2 ho.1 hlk)
theorem Go.icmp_eq {a b : Int} (hi : gat mt pc = some (62, z, x, 0, nx)) (ha : rng a) (hb0 : rng b) (kt : a = b → Go G mt n mc ms x lv st M P) (kf : ¬ (a = b) → Go G mt n mc ms nx lv st M P) : Go G mt n mc ms pc lv (gi b :: gi a :: st) M P := by
  intro p l e R s m args below meth cd H locs cells slots ls cx hS hW hL hc hs
  have kt := fun h => kt h p l e R s m args below meth cd H locs cells slots ls cx hS hW hL hc hs
  have kf := fun h => kf h p l e R s m args below meth cd H locs cells slots ls cx hS hW hL hc hs
  obtain ⟨hx, hb, -, -, hown, hts, -, -, hK, hSt, -, -, hok⟩ := cx
  have ho := gat_ok hok hi
  simp only [gok, Bool.and_eq_true, decide_eq_true_eq] at ho
  obtain ⟨⟨rfl, ho⟩, -⟩ := ho
  exact lv_icmp_eq (tgt := x) hx hb ho (by omega) (fun h => kt ((iI_inj ha hb0).mp h)) (fun h => kf (fun q => h ((iI_inj ha hb0).mpr q)))
theorem Go.if_eq {a : Int} (hi : gat mt pc = some (61, z, x, 0, nx)) (ha : rng a) (kt : a = 0 → Go G mt n mc ms x lv st M P) (kf : ¬ (a = 0) → Go G mt n mc ms nx lv st M P) : Go G mt n mc ms pc lv (gi a :: st) M P := by
  intro p l e R s m args below meth cd H locs cells slots ls cx hS hW hL hc hs
  have kt := fun h => kt h p l e R s m args below meth cd H locs cells slots ls cx hS hW hL hc hs
  have kf := fun h => kf h p l e R s m args below meth cd H locs cells slots ls cx hS hW hL hc hs
  obtain ⟨hx, hb, -, -, hown, hts, -, -, hK, hSt, -, -, hok⟩ := cx
  have ho := gat_ok hok hi
  simp only [gok, Bool.and_eq_true, decide_eq_true_eq] at ho
  obtain ⟨⟨rfl, ho⟩, -⟩ := ho
  have hb0 : rng 0 := ⟨by omega, by omega⟩
  exact lv_if_eq (tgt := x) hx hb ho (by omega) (fun h => kt ((iI_inj ha hb0).mp h)) (fun h => kf (fun q => h ((iI_inj ha hb0).mpr q)))
theorem Go.icmp_ne {a b : Int} (hi : gat mt pc = some (62, z, x, 1, nx)) (ha : rng a) (hb0 : rng b) (kt : ¬ a = b → Go G mt n mc ms x lv st M P) (kf : a = b → Go G mt n mc ms nx lv st M P) : Go G mt n mc ms pc lv (gi b :: gi a :: st) M P := by
  intro p l e R s m args below meth cd H locs cells slots ls cx hS hW hL hc hs
  have kt := fun h => kt h p l e R s m args below meth cd H locs cells slots ls cx hS hW hL hc hs
  have kf := fun h => kf h p l e R s m args below meth cd H locs cells slots ls cx hS hW hL hc hs
  obtain ⟨hx, hb, -, -, hown, hts, -, -, hK, hSt, -, -, hok⟩ := cx
  have ho := gat_ok hok hi
  simp only [gok, Bool.and_eq_true, decide_eq_true_eq] at ho
  obtain ⟨⟨rfl, ho⟩, -⟩ := ho
  exact lv_icmp_ne (tgt := x) hx hb ho (by omega) (fun h => kt (fun q => h ((iI_inj ha hb0).mpr q))) (fun h => kf ((iI_inj ha hb0).mp h))
theorem Go.if_ne {a : Int} (hi : gat mt pc = some (61, z, x, 1, nx)) (ha : rng a) (kt : ¬ a = 0 → Go G mt n mc ms x lv st M P) (kf : a = 0 → Go G mt n mc ms nx lv st M P) : Go G mt n mc ms pc lv (gi a :: st) M P := by
  intro p l e R s m args below meth cd H locs cells slots ls cx hS hW hL hc hs
  have kt := fun h => kt h p l e R s m args below meth cd H locs cells slots ls cx hS hW hL hc hs
  have kf := fun h => kf h p l e R s m args below meth cd H locs cells slots ls cx hS hW hL hc hs
  obtain ⟨hx, hb, -, -, hown, hts, -, -, hK, hSt, -, -, hok⟩ := cx
  have ho := gat_ok hok hi
  simp only [gok, Bool.and_eq_true, decide_eq_true_eq] at ho
  obtain ⟨⟨rfl, ho⟩, -⟩ := ho
  have hb0 : rng 0 := ⟨by omega, by omega⟩
  exact lv_if_ne (tgt := x) hx hb ho (by omega) (fun h => kt (fun q => h ((iI_inj ha hb0).mpr q))) (fun h => kf ((iI_inj ha hb0).mp h))
theorem Go.icmp_lt {a b : Int} (hi : gat mt pc = some (62, z, x, 2, nx)) (ha : rng a) (hb0 : rng b) (kt : a < b → Go G mt n mc ms x lv st M P) (kf : ¬ (a < b) → Go G mt n mc ms nx lv st M P) : Go G mt n mc ms pc lv (gi b :: gi a :: st) M P := by
  intro p l e R s m args below meth cd H locs cells slots ls cx hS hW hL hc hs
  have kt := fun h => kt h p l e R s m args below meth cd H locs cells slots ls cx hS hW hL hc hs
  have kf := fun h => kf h p l e R s m args below meth cd H locs cells slots ls cx hS hW hL hc hs
  obtain ⟨hx, hb, -, -, hown, hts, -, -, hK, hSt, -, -, hok⟩ := cx
  have ho := gat_ok hok hi
  simp only [gok, Bool.and_eq_true, decide_eq_true_eq] at ho
  obtain ⟨⟨rfl, ho⟩, -⟩ := ho
  exact lv_icmp_lt (tgt := x) hx hb ho (by omega) (fun h => kt ((iI_lt ha hb0).mp h)) (fun h => kf (fun q => h ((iI_lt ha hb0).mpr q)))
theorem Go.if_lt {a : Int} (hi : gat mt pc = some (61, z, x, 2, nx)) (ha : rng a) (kt : a < 0 → Go G mt n mc ms x lv st M P) (kf : ¬ (a < 0) → Go G mt n mc ms nx lv st M P) : Go G mt n mc ms pc lv (gi a :: st) M P := by
  intro p l e R s m args below meth cd H locs cells slots ls cx hS hW hL hc hs
  have kt := fun h => kt h p l e R s m args below meth cd H locs cells slots ls cx hS hW hL hc hs
  have kf := fun h => kf h p l e R s m args below meth cd H locs cells slots ls cx hS hW hL hc hs
  obtain ⟨hx, hb, -, -, hown, hts, -, -, hK, hSt, -, -, hok⟩ := cx
  have ho := gat_ok hok hi
  simp only [gok, Bool.and_eq_true, decide_eq_true_eq] at ho
  obtain ⟨⟨rfl, ho⟩, -⟩ := ho
  have hb0 : rng 0 := ⟨by omega, by omega⟩
  exact lv_if_lt (tgt := x) hx hb ho (by omega) (fun h => kt ((iI_lt ha hb0).mp h)) (fun h => kf (fun q => h ((iI_lt ha hb0).mpr q)))
theorem Go.icmp_ge {a b : Int} (hi : gat mt pc = some (62, z, x, 3, nx)) (ha : rng a) (hb0 : rng b) (kt : b ≤ a → Go G mt n mc ms x lv st M P) (kf : ¬ (b ≤ a) → Go G mt n mc ms nx lv st M P) : Go G mt n mc ms pc lv (gi b :: gi a :: st) M P := by
  intro p l e R s m args below meth cd H locs cells slots ls cx hS hW hL hc hs
  have kt := fun h => kt h p l e R s m args below meth cd H locs cells slots ls cx hS hW hL hc hs
  have kf := fun h => kf h p l e R s m args below meth cd H locs cells slots ls cx hS hW hL hc hs
  obtain ⟨hx, hb, -, -, hown, hts, -, -, hK, hSt, -, -, hok⟩ := cx
  have ho := gat_ok hok hi
  simp only [gok, Bool.and_eq_true, decide_eq_true_eq] at ho
  obtain ⟨⟨rfl, ho⟩, -⟩ := ho
  exact lv_icmp_ge (tgt := x) hx hb ho (by omega) (fun h => kt ((iI_le hb0 ha).mp h)) (fun h => kf (fun q => h ((iI_le hb0 ha).mpr q)))
theorem Go.if_ge {a : Int} (hi : gat mt pc = some (61, z, x, 3, nx)) (ha : rng a) (kt : 0 ≤ a → Go G mt n mc ms x lv st M P) (kf : ¬ (0 ≤ a) → Go G mt n mc ms nx lv st M P) : Go G mt n mc ms pc lv (gi a :: st) M P := by
  intro p l e R s m args below meth cd H locs cells slots ls cx hS hW hL hc hs
  have kt := fun h => kt h p l e R s m args below meth cd H locs cells slots ls cx hS hW hL hc hs
  have kf := fun h => kf h p l e R s m args below meth cd H locs cells slots ls cx hS hW hL hc hs
  obtain ⟨hx, hb, -, -, hown, hts, -, -, hK, hSt, -, -, hok⟩ := cx
  have ho := gat_ok hok hi
  simp only [gok, Bool.and_eq_true, decide_eq_true_eq] at ho
  obtain ⟨⟨rfl, ho⟩, -⟩ := ho
  have hb0 : rng 0 := ⟨by omega, by omega⟩
  exact lv_if_ge (tgt := x) hx hb ho (by omega) (fun h => kt ((iI_le hb0 ha).mp h)) (fun h => kf (fun q => h ((iI_le hb0 ha).mpr q)))
theorem Go.icmp_gt {a b : Int} (hi : gat mt pc = some (62, z, x, 4, nx)) (ha : rng a) (hb0 : rng b) (kt : b < a → Go G mt n mc ms x lv st M P) (kf : ¬ (b < a) → Go G mt n mc ms nx lv st M P) : Go G mt n mc ms pc lv (gi b :: gi a :: st) M P := by
  intro p l e R s m args below meth cd H locs cells slots ls cx hS hW hL hc hs
  have kt := fun h => kt h p l e R s m args below meth cd H locs cells slots ls cx hS hW hL hc hs
  have kf := fun h => kf h p l e R s m args below meth cd H locs cells slots ls cx hS hW hL hc hs
  obtain ⟨hx, hb, -, -, hown, hts, -, -, hK, hSt, -, -, hok⟩ := cx
  have ho := gat_ok hok hi
  simp only [gok, Bool.and_eq_true, decide_eq_true_eq] at ho
  obtain ⟨⟨rfl, ho⟩, -⟩ := ho
  exact lv_icmp_gt (tgt := x) hx hb ho (by omega) (fun h => kt ((iI_lt hb0 ha).mp h)) (fun h => kf (fun q => h ((iI_lt hb0 ha).mpr q)))
theorem Go.if_gt {a : Int} (hi : gat mt pc = some (61, z, x, 4, nx)) (ha : rng a) (kt : 0 < a → Go G mt n mc ms x lv st M P) (kf : ¬ (0 < a) → Go G mt n mc ms nx lv st M P) : Go G mt n mc ms pc lv (gi a :: st) M P := by
  intro p l e R s m args below meth cd H locs cells slots ls cx hS hW hL hc hs
  have kt := fun h => kt h p l e R s m args below meth cd H locs cells slots ls cx hS hW hL hc hs
  have kf := fun h => kf h p l e R s m args below meth cd H locs cells slots ls cx hS hW hL hc hs
  obtain ⟨hx, hb, -, -, hown, hts, -, -, hK, hSt, -, -, hok⟩ := cx
  have ho := gat_ok hok hi
  simp only [gok, Bool.and_eq_true, decide_eq_true_eq] at ho
  obtain ⟨⟨rfl, ho⟩, -⟩ := ho
  have hb0 : rng 0 := ⟨by omega, by omega⟩
  exact lv_if_gt (tgt := x) hx hb ho (by omega) (fun h => kt ((iI_lt hb0 ha).mp h)) (fun h => kf (fun q => h ((iI_lt hb0 ha).mpr q)))
theorem Go.icmp_le {a b : Int} (hi : gat mt pc = some (62, z, x, 5, nx)) (ha : rng a) (hb0 : rng b) (kt : a ≤ b → Go G mt n mc ms x lv st M P) (kf : ¬ (a ≤ b) → Go G mt n mc ms nx lv st M P) : Go G mt n mc ms pc lv (gi b :: gi a :: st) M P := by
  intro p l e R s m args below meth cd H locs cells slots ls cx hS hW hL hc hs
  have kt := fun h => kt h p l e R s m args below meth cd H locs cells slots ls cx hS hW hL hc hs
  have kf := fun h => kf h p l e R s m args below meth cd H locs cells slots ls cx hS hW hL hc hs
  obtain ⟨hx, hb, -, -, hown, hts, -, -, hK, hSt, -, -, hok⟩ := cx
  have ho := gat_ok hok hi
  simp only [gok, Bool.and_eq_true, decide_eq_true_eq] at ho
  obtain ⟨⟨rfl, ho⟩, -⟩ := ho
  exact lv_icmp_le (tgt := x) hx hb ho (by omega) (fun h => kt ((iI_le ha hb0).mp h)) (fun h => kf (fun q => h ((iI_le ha hb0).mpr q)))
theorem Go.if_le {a : Int} (hi : gat mt pc = some (61, z, x, 5, nx)) (ha : rng a) (kt : a ≤ 0 → Go G mt n mc ms x lv st M P) (kf : ¬ (a ≤ 0) → Go G mt n mc ms nx lv st M P) : Go G mt n mc ms pc lv (gi a :: st) M P := by
  intro p l e R s m args below meth cd H locs cells slots ls cx hS hW hL hc hs
  have kt := fun h => kt h p l e R s m args below meth cd H locs cells slots ls cx hS hW hL hc hs
  have kf := fun h => kf h p l e R s m args below meth cd H locs cells slots ls cx hS hW hL hc hs
  obtain ⟨hx, hb, -, -, hown, hts, -, -, hK, hSt, -, -, hok⟩ := cx
  have ho := gat_ok hok hi
  simp only [gok, Bool.and_eq_true, decide_eq_true_eq] at ho
  obtain ⟨⟨rfl, ho⟩, -⟩ := ho
  have hb0 : rng 0 := ⟨by omega, by omega⟩
  exact lv_if_le (tgt := x) hx hb ho (by omega) (fun h => kt ((iI_le ha hb0).mp h)) (fun h => kf (fun q => h ((iI_le ha hb0).mpr q)))
end GOA

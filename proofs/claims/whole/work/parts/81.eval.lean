/-! ===== texts at work: numbers wrapped, the pile ===== -/
def w32 (z : Int) : Int := (iI z).toInt
theorem w32_rng (z : Int) : rng (w32 z) := rng_of _
theorem w32_id {z : Int} (h : rng z) : w32 z = z := iI_toInt h
theorem iI_w32 (z : Int) : iI (w32 z) = iI z := iI_of _
theorem Go.nrm {G : gG} {mt : gMt} {n mc ms pc : Nat} {lv : List (Option gV)} {st : List gV} {M : gMe} {P : Option gV → gMe → Prop} {z : Int} (k : Go G mt n mc ms pc lv (gi (w32 z) :: st) M P) : Go G mt n mc ms pc lv (gi z :: st) M P := by
  intro p l e R s m args below meth c H locs cells slots ls cx hS hW hL hc hs
  have hk := k p l e R s m args below meth c H locs cells slots ls cx hS hW hL hc hs
  have e9 : (gi (w32 z) :: st).map (gup G) = (gi z :: st).map (gup G) := by
    show Value.int (iI (w32 z)) :: _ = Value.int (iI z) :: _
    rw [iI_w32]
  rw [e9] at hk
  exact hk
theorem iI_divX {a b : Int} (ha : rng a) (hb : rng b) : iI a / iI b = iI (a.tdiv b) := by
  apply Int32.toInt_inj.mp
  rw [Int32.toInt_div, iI_toInt ha, iI_toInt hb]
  unfold iI
  rw [Int32.toInt_ofInt]
theorem Go.idivX {G : gG} {mt : gMt} {n mc ms pc nx x y : Nat} {z : Int} {lv : List (Option gV)} {st : List gV} {M : gMe} {P : Option gV → gMe → Prop} (hi : gat mt pc = some (14, z, x, y, nx)) {a b : Int} (ha : rng a) (hbr : rng b) (hnz : b ≠ 0) (k : Go G mt n mc ms nx lv (gi (a.tdiv b) :: st) M P) : Go G mt n mc ms pc lv (gi b :: gi a :: st) M P := by
  intro p l e R s m args below meth c H locs cells slots ls cx hS hW hL hc hs
  have hk := k p l e R s m args below meth c H locs cells slots ls cx hS hW hL hc hs
  obtain ⟨hx, hb, -, -, hown, hts, -, -, -, -, -, -, hok⟩ := cx
  have ho := gat_ok hok hi
  simp only [gok, Bool.and_eq_true, decide_eq_true_eq] at ho
  obtain ⟨hd, rfl⟩ := ho
  refine lv_idiv hx hb hd (fun q => hnz ?_) (by rw [iI_divX ha hbr]; exact hk)
  have := congrArg Int32.toInt q
  rw [iI_toInt hbr] at this
  exact this
def jn (s x y : Int) : Int := if s = 60 then (if x < y then 1 else 0) else if s = 61 then (if x = y then 1 else 0) else if s = 43 then w32 (x + y) else if s = 45 then w32 (x - y) else if s = 42 then w32 (x * y) else if y = 0 then 0 else w32 (x.tdiv y)
theorem jn_rng (s x y : Int) : rng (jn s x y) := by
  unfold jn
  (repeat' split) <;> first | exact w32_rng _ | exact ⟨by decide, by decide⟩
/-- what the pile holds behind k signs: how many, and each from below -/
def eS (q : Nat → Int) (nv : Int → Int) : Nat → Nat × (Nat → Int)
  | 0 => (0, fun _ => 0)
  | k + 1 => if q k = 30000 then ((eS q nv k).1, fun j => if j = (eS q nv k).1 - 1 then w32 (-((eS q nv k).2 ((eS q nv k).1 - 1))) else (eS q nv k).2 j) else if 20000 ≤ q k then ((eS q nv k).1 - 1, fun j => if j = (eS q nv k).1 - 2 then jn (q k - 20000) ((eS q nv k).2 ((eS q nv k).1 - 2)) ((eS q nv k).2 ((eS q nv k).1 - 1)) else (eS q nv k).2 j) else ((eS q nv k).1 + 1, fun j => if j = (eS q nv k).1 then (if 10000 ≤ q k then nv (q k) else q k) else (eS q nv k).2 j)
def eQ (m : Int) : Prop := (0 ≤ m ∧ m ≤ 9999) ∨ m = 10108 ∨ m = 10097 ∨ m = 10110 ∨ m = 10107 ∨ m = 10100 ∨ m = 10111 ∨ m = 30000 ∨ m = 20042 ∨ m = 20043 ∨ m = 20045 ∨ m = 20047 ∨ m = 20060 ∨ m = 20061
theorem cdRel.q {c m : Int} (h : cdRel c m) : eQ m := by
  unfold cdRel at h
  unfold eQ
  omega
def eOK (q : Nat → Int) (nv : Int → Int) (n : Nat) : Prop := (∀ i, i < n → eQ (q i) ∧ (q i = 30000 → 1 ≤ (eS q nv i).1) ∧ (20000 ≤ q i → q i < 30000 → 2 ≤ (eS q nv i).1)) ∧ (eS q nv n).1 = 1
theorem eS_le (q : Nat → Int) (nv : Int → Int) : ∀ k, (eS q nv k).1 ≤ k
  | 0 => Nat.le_refl _
  | k + 1 => by
    have ih := eS_le q nv k
    simp only [eS]
    (repeat' split) <;> (dsimp only; omega)
section ES
variable {q : Nat → Int} {nv : Int → Int} {k : Nat}
theorem eS_neg (h : q k = 30000) : eS q nv (k + 1) = ((eS q nv k).1, fun j => if j = (eS q nv k).1 - 1 then w32 (-((eS q nv k).2 ((eS q nv k).1 - 1))) else (eS q nv k).2 j) := by
  simp only [eS]
  rw [if_pos h]
theorem eS_bin (h : 20000 ≤ q k) (h2 : q k < 30000) : eS q nv (k + 1) = ((eS q nv k).1 - 1, fun j => if j = (eS q nv k).1 - 2 then jn (q k - 20000) ((eS q nv k).2 ((eS q nv k).1 - 2)) ((eS q nv k).2 ((eS q nv k).1 - 1)) else (eS q nv k).2 j) := by
  simp only [eS]
  rw [if_neg (by omega), if_pos h]
theorem eS_push (h : q k < 20000) : eS q nv (k + 1) = ((eS q nv k).1 + 1, fun j => if j = (eS q nv k).1 then (if 10000 ≤ q k then nv (q k) else q k) else (eS q nv k).2 j) := by
  simp only [eS]
  rw [if_neg (by omega), if_neg (by omega)]
end ES
theorem eS_rng {q : Nat → Int} {nv : Int → Int} (hq : ∀ i, rng (q i)) (hn : ∀ m, rng (nv m)) : ∀ k j, rng ((eS q nv k).2 j)
  | 0, j => ⟨by show (-2147483648 : Int) ≤ 0; omega, by show (0 : Int) < 2147483648; omega⟩
  | k + 1, j => by
    have ih := eS_rng hq hn k
    simp only [eS]
    split
    · dsimp only
      split
      · exact w32_rng _
      · exact ih j
    · split
      · dsimp only
        split
        · exact jn_rng _ _ _
        · exact ih j
      · dsimp only
        split
        · split
          · exact hn _
          · exact hq _
        · exact ih j
/-- the number of a name -/
def mNm (mi : Nat → Nat → Int) (a ch : Int) : Int := if ch = 108 then mOf mi a 1 else if ch = 97 then mOf mi a 2 else if ch = 110 then mOf mi a 5 else if ch = 107 then mOf mi a 0 else if ch = 100 then mOf mi a 4 - mi 148 0 else mOthers mi a (mi 148 6).toNat
def eq_ (mi : Nat → Nat → Int) (l : Nat) : Nat → Int := fun i => mi 158 (120 * l + i)
def en_ (mi : Nat → Nat → Int) (a : Int) : Int → Int := fun m => mNm mi a (m - 10000)
def eV (mi : Nat → Nat → Int) (l : Nat) (a : Int) : Int := (eS (eq_ mi l) (en_ mi a) (mi 157 l).toNat).2 0
def clp (top v : Int) : Int := if v < 0 then 0 else if top < v then top else v
theorem clp_b {top v : Int} (h : 0 ≤ top) : 0 ≤ clp top v ∧ clp top v ≤ top := by
  unfold clp
  (repeat' split) <;> omega
def mSays (mi : Nat → Nat → Int) (l : Nat) (a : Int) : Int := if 0 < mi 157 l then clp (if l = 0 then 9999 else 100) (eV mi l a) else if l = 0 then mPrice mi a else if 7 ≤ mOf mi a 4 - mi 148 0 then 100 else if 1 ≤ mOf mi a 4 - mi 148 0 then 50 else 0
theorem mOthers_b (mi : Nat → Nat → Int) (a : Int) : ∀ k : Nat, 0 ≤ mOthers mi a k ∧ mOthers mi a k ≤ k
  | 0 => ⟨Int.le_refl _, Int.le_refl _⟩
  | k + 1 => by
    have ih := mOthers_b mi a k
    show 0 ≤ (if (k : Int) ≠ a ∧ 0 ≤ mOf mi k 6 ∧ ¬ mStays mi k (mOf mi a 4) = 0 then mOthers mi a k + 1 else mOthers mi a k + 0) ∧ (if (k : Int) ≠ a ∧ 0 ≤ mOf mi k 6 ∧ ¬ mStays mi k (mOf mi a 4) = 0 then mOthers mi a k + 1 else mOthers mi a k + 0) ≤ ((k + 1 : Nat) : Int)
    split <;> omega
theorem mNm_rng {mi : Nat → Nat → Int} (hv : SV mi) {a : Int} (a0 : 0 ≤ a) (a1 : a < mi 148 6) (ch : Int) : rng (mNm mi a ch) := by
  obtain ⟨hR, ht, hp, hq, hP, hQ⟩ := hv
  have b4 := (hP a a0 a1).2.2.2.2.1
  have bo := mOthers_b mi a (mi 148 6).toNat
  unfold mNm
  (repeat' split) <;> first | exact hR _ _ | exact ⟨by omega, by omega⟩
theorem mPrice_b {mi : Nat → Nat → Int} {a : Int} (h : PV mi a) : 0 ≤ mPrice mi a ∧ mPrice mi a ≤ 9999 := by
  obtain ⟨h0, h1, h2, -⟩ := h
  unfold mPrice
  have : 0 ≤ (10 + mOf mi a 1 + 2 * mOf mi a 2).tdiv 3 ∧ (10 + mOf mi a 1 + 2 * mOf mi a 2).tdiv 3 ≤ 10 + mOf mi a 1 + 2 * mOf mi a 2 := tdiv_b (by omega) (by decide)
  (repeat' split) <;> omega
theorem mSays_b {mi : Nat → Nat → Int} {a : Int} (h : PV mi a) (l : Nat) : 0 ≤ mSays mi l a ∧ mSays mi l a ≤ (if l = 0 then 9999 else 100) := by
  unfold mSays
  by_cases e : l = 0
  · subst e
    have := mPrice_b h
    have := clp_b (top := 9999) (v := eV mi 0 a) (by omega)
    simp only [if_true]
    split <;> omega
  · have := clp_b (top := 100) (v := eV mi l a) (by omega)
    simp only [if_neg e]
    (repeat' split) <;> omega
/-- what the law's row gives -/
theorem eS_dep {σ : Nat → Nat → Int} {l : Nat} {nv : Int → Int} {n : Nat} (h : ∀ i : Nat, i < n → eQ (σ 10 (120 * l + i)) ∧ (σ 10 (120 * l + i) = 30000 → 1 ≤ vDep σ l i) ∧ (20000 ≤ σ 10 (120 * l + i) → σ 10 (120 * l + i) < 30000 → 2 ≤ vDep σ l i)) : ∀ k, k ≤ n → (((eS (fun i => σ 10 (120 * l + i)) nv k).1 : Nat) : Int) = vDep σ l k
  | 0, _ => rfl
  | k + 1, hk => by
    have ih := eS_dep (nv := nv) h k (by omega)
    obtain ⟨g1, g2, g3⟩ := h k (by omega)
    have e : vDep σ l (k + 1) = if σ 10 (120 * l + k) = 30000 then vDep σ l k else if 20000 ≤ σ 10 (120 * l + k) then vDep σ l k - 1 else vDep σ l k + 1 := rfl
    rw [e]
    by_cases c1 : σ 10 (120 * l + k) = 30000
    · rw [if_pos c1, eS_neg (q := fun i => σ 10 (120 * l + i)) c1]
      exact ih
    · rw [if_neg c1]
      unfold eQ at g1
      by_cases c2 : 20000 ≤ σ 10 (120 * l + k)
      · have := g3 c2 (by omega)
        rw [if_pos c2, eS_bin (q := fun i => σ 10 (120 * l + i)) c2 (by show σ 10 (120 * l + k) < 30000; omega)]
        show (((eS (fun i => σ 10 (120 * l + i)) nv k).1 - 1 : Nat) : Int) = _
        omega
      · rw [if_neg c2, eS_push (q := fun i => σ 10 (120 * l + i)) (by show σ 10 (120 * l + k) < 20000; omega)]
        show (((eS (fun i => σ 10 (120 * l + i)) nv k).1 + 1 : Nat) : Int) = _
        omega
theorem Rlw.ok {t : Nat} {mi : Nat → Nat → Int} {ml : Nat → Nat → Int64} (h : Rep t 1 mi ml (sg mi)) {l : Nat} (hl : l < 2) (hp : 0 < mi 157 l) (a : Int) : mi (48 + 3 * l) 1 = mi 157 l ∧ mi 157 l ≤ 120 ∧ (∀ i : Nat, (i : Int) < mi 157 l → cdRel (mi (49 + 3 * l) i) (eq_ mi l i)) ∧ eOK (eq_ mi l) (en_ mi a) (mi 157 l).toNat := by
  obtain ⟨d1, d2, d3⟩ := h.2.2.2.2.2.2.1 l hl
  obtain ⟨f1, f2, f3⟩ := d3 hp
  have d2 : (0 ≤ mi 157 l ∧ mi 157 l ≤ 120) := d2.1
  have f2 : ∀ i : Nat, (i : Int) < mi 157 l → cdRel (mi (49 + 3 * l) i) (sg mi 10 (120 * l + i)) ∧ (sg mi 10 (120 * l + i) = 30000 → 1 ≤ vDep (sg mi) l i) ∧ (20000 ≤ sg mi 10 (120 * l + i) → sg mi 10 (120 * l + i) < 30000 → 2 ≤ vDep (sg mi) l i) := f2
  have f3 : vDep (sg mi) l (mi 157 l).toNat = 1 := f3
  have hd := eS_dep (σ := sg mi) (l := l) (nv := en_ mi a) (n := (mi 157 l).toNat) (fun i hi => ⟨(f2 i (by omega)).1.q, (f2 i (by omega)).2⟩)
  have hd : ∀ k, k ≤ (mi 157 l).toNat → (((eS (eq_ mi l) (en_ mi a) k).1 : Nat) : Int) = vDep (sg mi) l k := hd
  refine ⟨f1, d2.2, fun i hi => (f2 i hi).1, fun i hi => ⟨(f2 i (by omega)).1.q, fun q => ?_, fun q1 q2 => ?_⟩, ?_⟩
  · have := (f2 i (by omega)).2.1 q
    have := hd i (by omega)
    omega
  · have := (f2 i (by omega)).2.2 q1 q2
    have := hd i (by omega)
    omega
  · have := hd (mi 157 l).toNat (Nat.le_refl _)
    omega
theorem eq_others {t : Nat} {mi : Nat → Nat → Int} {ml : Nat → Nat → Int64} (h : Rep t 1 mi ml (sg mi)) (a : Int) : cOthers mi a (mOf mi a 4) (mi 1 3).toNat = mOthers mi a (mi 148 6).toNat := by
  have e3 : mi 1 3 = mi 148 6 := h.1.2.2.2.1
  rw [e3]
  unfold cOthers mOthers
  refine gfold_congr (fun k hk acc => ?_)
  have k1 : (k : Int) < mi 148 6 := by omega
  obtain ⟨-, -, -, -, -, -, c8, -⟩ := h.cA (a := k) (by omega) k1
  rw [c8, eq_stays h (by omega) k1]
  by_cases c : ¬ (k : Int) = a ∧ 0 ≤ mOf mi k 6 ∧ ¬ mStays mi k (mOf mi a 4) = 0
  · rw [if_pos c, if_pos c]
  · rw [if_neg c, if_neg c]; omega

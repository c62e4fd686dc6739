/-! ===== the steps that ask nothing, as a function ===== -/
abbrev gCf : Type := Nat × List (Option gV) × List gV × gMe × Nat × Nat
def rngB (z : Int) : Bool := decide (-2147483648 ≤ z) && decide (z < 2147483648)
def gs1_0 (mt : gMt) (sz : Bool) (lv : List (Option gV)) (st : List gV) (M : gMe) (z : Int) (x y nx : Nat) : Option gCf := some (nx, lv, gi z :: st, M, 0, 0)
def gs1_1 (mt : gMt) (sz : Bool) (lv : List (Option gV)) (st : List gV) (M : gMe) (z : Int) (x y nx : Nat) : Option gCf := some (nx, lv, gl (Int64.ofInt z) :: st, M, 0, 0)
def gs1_2 (mt : gMt) (sz : Bool) (lv : List (Option gV)) (st : List gV) (M : gMe) (z : Int) (x y nx : Nat) : Option gCf := (match lv[x]? with | some (some v) => if gkd v = some y then some (nx, lv, v :: st, M, 0, 0) else none | _ => none)
def gs1_3 (mt : gMt) (sz : Bool) (lv : List (Option gV)) (st : List gV) (M : gMe) (z : Int) (x y nx : Nat) : Option gCf := (match st with | v :: st => if gkd v = some y ∧ x < (gH mt.1).2.2.1 then some (nx, gset lv x v, st, M, 0, 0) else none | _ => none)
def gs1_4 (mt : gMt) (sz : Bool) (lv : List (Option gV)) (st : List gV) (M : gMe) (z : Int) (x y nx : Nat) : Option gCf := (match st with | .inr (.inl w) :: st => if x + 1 < (gH mt.1).2.2.1 then some (nx, gclr (gset lv x (gl w)) (x + 1), st, M, 0, 0) else none | _ => none)
def gs1_5 (mt : gMt) (sz : Bool) (lv : List (Option gV)) (st : List gV) (M : gMe) (z : Int) (x y nx : Nat) : Option gCf := (match lv[x]? with | some (some (.inl w)) => if x < (gH mt.1).2.2.1 then some (nx, gset lv x (gi (w + z)), st, M, 0, 0) else none | _ => none)
def gs1_6 (mt : gMt) (sz : Bool) (lv : List (Option gV)) (st : List gV) (M : gMe) (z : Int) (x y nx : Nat) : Option gCf := (match st with | v :: st => if gkd v = some 1 then none else some (nx, lv, v :: v :: st, M, 0, 0) | _ => none)
def gs1_7 (mt : gMt) (sz : Bool) (lv : List (Option gV)) (st : List gV) (M : gMe) (z : Int) (x y nx : Nat) : Option gCf := (match st with | v :: w :: st => if gkd v = some 1 ∨ gkd w = some 1 then none else some (nx, lv, v :: w :: v :: w :: st, M, 0, 0) | _ => none)
def gs1_8 (mt : gMt) (sz : Bool) (lv : List (Option gV)) (st : List gV) (M : gMe) (z : Int) (x y nx : Nat) : Option gCf := (match st with | v :: st => if gkd v = some 1 then none else some (nx, lv, st, M, 0, 0) | _ => none)
def gs1_10 (mt : gMt) (sz : Bool) (lv : List (Option gV)) (st : List gV) (M : gMe) (z : Int) (x y nx : Nat) : Option gCf := (match st with | .inl b :: .inl a :: st => some (nx, lv, gi (a + b) :: st, M, 0, 0) | _ => none)
def gs1_11 (mt : gMt) (sz : Bool) (lv : List (Option gV)) (st : List gV) (M : gMe) (z : Int) (x y nx : Nat) : Option gCf := (match st with | .inl b :: .inl a :: st => some (nx, lv, gi (a - b) :: st, M, 0, 0) | _ => none)
def gs1_12 (mt : gMt) (sz : Bool) (lv : List (Option gV)) (st : List gV) (M : gMe) (z : Int) (x y nx : Nat) : Option gCf := (match st with | .inl b :: .inl a :: st => some (nx, lv, gi (a * b) :: st, M, 0, 0) | _ => none)
def gs1_13 (mt : gMt) (sz : Bool) (lv : List (Option gV)) (st : List gV) (M : gMe) (z : Int) (x y nx : Nat) : Option gCf := (match st with | .inl a :: st => some (nx, lv, gi (-a) :: st, M, 0, 0) | _ => none)
def gs1_16 (mt : gMt) (sz : Bool) (lv : List (Option gV)) (st : List gV) (M : gMe) (z : Int) (x y nx : Nat) : Option gCf := (match st with | .inl b :: .inl a :: st => some (nx, lv, gi (iI a &&& iI b).toInt :: st, M, 0, 0) | _ => none)
def gs1_17 (mt : gMt) (sz : Bool) (lv : List (Option gV)) (st : List gV) (M : gMe) (z : Int) (x y nx : Nat) : Option gCf := (match st with | .inl b :: .inl a :: st => some (nx, lv, gi (iI a ||| iI b).toInt :: st, M, 0, 0) | _ => none)
def gs1_18 (mt : gMt) (sz : Bool) (lv : List (Option gV)) (st : List gV) (M : gMe) (z : Int) (x y nx : Nat) : Option gCf := (match st with | .inl b :: .inl a :: st => some (nx, lv, gi (iI a ^^^ iI b).toInt :: st, M, 0, 0) | _ => none)
def gs1_19 (mt : gMt) (sz : Bool) (lv : List (Option gV)) (st : List gV) (M : gMe) (z : Int) (x y nx : Nat) : Option gCf := (match st with | .inl b :: .inl a :: st => some (nx, lv, gi (iI a <<< (iI b &&& 31)).toInt :: st, M, 0, 0) | _ => none)
def gs1_20 (mt : gMt) (sz : Bool) (lv : List (Option gV)) (st : List gV) (M : gMe) (z : Int) (x y nx : Nat) : Option gCf := (match st with | .inl b :: .inl a :: st => some (nx, lv, gi (iI a >>> (iI b &&& 31)).toInt :: st, M, 0, 0) | _ => none)
def gs1_21 (mt : gMt) (sz : Bool) (lv : List (Option gV)) (st : List gV) (M : gMe) (z : Int) (x y nx : Nat) : Option gCf := (match st with | .inl b :: .inl a :: st => some (nx, lv, gi ((iI a).toUInt32 >>> ((iI b).toUInt32 &&& Int32.toUInt32 31)).toInt32.toInt :: st, M, 0, 0) | _ => none)
def gs1_22 (mt : gMt) (sz : Bool) (lv : List (Option gV)) (st : List gV) (M : gMe) (z : Int) (x y nx : Nat) : Option gCf := (match st with | .inl a :: st => some (nx, lv, gl (iI a).toInt64 :: st, M, 0, 0) | _ => none)
def gs1_23 (mt : gMt) (sz : Bool) (lv : List (Option gV)) (st : List gV) (M : gMe) (z : Int) (x y nx : Nat) : Option gCf := (match st with | .inl a :: st => some (nx, lv, gi (iI a).toInt8.toInt32.toInt :: st, M, 0, 0) | _ => none)
def gs1_24 (mt : gMt) (sz : Bool) (lv : List (Option gV)) (st : List gV) (M : gMe) (z : Int) (x y nx : Nat) : Option gCf := (match st with | .inl a :: st => some (nx, lv, gi (iI a).toInt16.toInt32.toInt :: st, M, 0, 0) | _ => none)
def gs1_30 (mt : gMt) (sz : Bool) (lv : List (Option gV)) (st : List gV) (M : gMe) (z : Int) (x y nx : Nat) : Option gCf := (match st with | .inr (.inl b) :: .inr (.inl a) :: st => some (nx, lv, gl (a + b) :: st, M, 0, 0) | _ => none)
def gs1_31 (mt : gMt) (sz : Bool) (lv : List (Option gV)) (st : List gV) (M : gMe) (z : Int) (x y nx : Nat) : Option gCf := (match st with | .inr (.inl b) :: .inr (.inl a) :: st => some (nx, lv, gl (a - b) :: st, M, 0, 0) | _ => none)
def gs1_32 (mt : gMt) (sz : Bool) (lv : List (Option gV)) (st : List gV) (M : gMe) (z : Int) (x y nx : Nat) : Option gCf := (match st with | .inr (.inl b) :: .inr (.inl a) :: st => some (nx, lv, gl (a &&& b) :: st, M, 0, 0) | _ => none)
def gs1_33 (mt : gMt) (sz : Bool) (lv : List (Option gV)) (st : List gV) (M : gMe) (z : Int) (x y nx : Nat) : Option gCf := (match st with | .inr (.inl b) :: .inr (.inl a) :: st => some (nx, lv, gl (a ||| b) :: st, M, 0, 0) | _ => none)
def gs1_34 (mt : gMt) (sz : Bool) (lv : List (Option gV)) (st : List gV) (M : gMe) (z : Int) (x y nx : Nat) : Option gCf := (match st with | .inr (.inl b) :: .inr (.inl a) :: st => some (nx, lv, gl (a ^^^ b) :: st, M, 0, 0) | _ => none)
def gs1_35 (mt : gMt) (sz : Bool) (lv : List (Option gV)) (st : List gV) (M : gMe) (z : Int) (x y nx : Nat) : Option gCf := (match st with | .inl b :: .inr (.inl a) :: st => some (nx, lv, gl (a <<< ((iI b).toInt64 &&& 63)) :: st, M, 0, 0) | _ => none)
def gs1_36 (mt : gMt) (sz : Bool) (lv : List (Option gV)) (st : List gV) (M : gMe) (z : Int) (x y nx : Nat) : Option gCf := (match st with | .inl b :: .inr (.inl a) :: st => some (nx, lv, gl (a.toUInt64 >>> ((iI b).toInt64.toUInt64 &&& Int64.toUInt64 63)).toInt64 :: st, M, 0, 0) | _ => none)
def gs1_37 (mt : gMt) (sz : Bool) (lv : List (Option gV)) (st : List gV) (M : gMe) (z : Int) (x y nx : Nat) : Option gCf := (match st with | .inr (.inl b) :: .inr (.inl a) :: st => some (nx, lv, gi (lg_cmp a b).toInt :: st, M, 0, 0) | _ => none)
def gs1_38 (mt : gMt) (sz : Bool) (lv : List (Option gV)) (st : List gV) (M : gMe) (z : Int) (x y nx : Nat) : Option gCf := (match st with | .inr (.inl a) :: st => some (nx, lv, gi a.toInt32.toInt :: st, M, 0, 0) | _ => none)
def gs1_40 (mt : gMt) (sz : Bool) (lv : List (Option gV)) (st : List gV) (M : gMe) (z : Int) (x y nx : Nat) : Option gCf := (match st with | .inr (.inr (.inl (some a))) :: st => (match M.1[a]? with | some (c, N) => if c = x then some (nx, lv, gfld M a x y :: st, M, 0, 0) else none | none => none) | _ => none)
def gs1_41 (mt : gMt) (sz : Bool) (lv : List (Option gV)) (st : List gV) (M : gMe) (z : Int) (x y nx : Nat) : Option gCf := (match st with | .inl w :: .inr (.inr (.inl (some a))) :: st => (match M.1[a]? with | some (c, N) => if c = x ∧ (gty x y = .int ∨ gty x y = .boolean ∧ (w = 0 ∨ w = 1)) then some (nx, lv, st, mI M a y w, 0, 0) else none | none => none) | .inr (.inl w) :: .inr (.inr (.inl (some a))) :: st => (match M.1[a]? with | some (c, N) => if c = x ∧ gty x y = .long then some (nx, lv, st, mL M a y w, 0, 0) else none | none => none) | _ => none)
def gs1_42 (mt : gMt) (sz : Bool) (lv : List (Option gV)) (st : List gV) (M : gMe) (z : Int) (x y nx : Nat) : Option gCf := (match st with | .inr (.inr (.inl (some w))) :: .inr (.inr (.inl (some a))) :: st => (match M.1[a]? with | some (c, N) => if c = x ∧ gisr (gty x y) = true then some (nx, lv, st, mR M a y (some w), 0, 0) else none | none => none) | _ => none)
def gs1_43 (mt : gMt) (sz : Bool) (lv : List (Option gV)) (st : List gV) (M : gMe) (z : Int) (x y nx : Nat) : Option gCf := (match st with | .inl i :: .inr (.inr (.inl (some a))) :: st => (match M.1[a]? with | some (c, N) => if c = 100 ∧ 0 ≤ i ∧ i < N ∧ N < 2147483648 then some (nx, lv, gi (M.2.1 a i.toNat) :: st, M, 0, 0) else none | none => none) | _ => none)
def gs1_48 (mt : gMt) (sz : Bool) (lv : List (Option gV)) (st : List gV) (M : gMe) (z : Int) (x y nx : Nat) : Option gCf := (match st with | .inl w :: .inl i :: .inr (.inr (.inl (some a))) :: st => (match M.1[a]? with | some (c, N) => if c = 100 ∧ 0 ≤ i ∧ i < N ∧ N < 2147483648 then some (nx, lv, st, mI M a i.toNat w, 0, 0) else none | none => none) | _ => none)
def gs1_51 (mt : gMt) (sz : Bool) (lv : List (Option gV)) (st : List gV) (M : gMe) (z : Int) (x y nx : Nat) : Option gCf := (match st with | .inr (.inr (.inl (some w))) :: .inl i :: .inr (.inr (.inl (some a))) :: st => (match M.1[a]?, M.1[w]? with | some (t, N), some (c, _) => if 103 ≤ t ∧ t ≤ 106 ∧ c < 12 ∧ gR c = gaC (t - 100) ∧ 0 ≤ i ∧ i < N ∧ N < 2147483648 then some (nx, lv, st, mR M a i.toNat (some w), 0, 0) else none | _, _ => none) | _ => none)
def gs1_60 (mt : gMt) (sz : Bool) (lv : List (Option gV)) (st : List gV) (M : gMe) (z : Int) (x y nx : Nat) : Option gCf := some (x, lv, st, M, 0, 0)
def gs1_62 (mt : gMt) (sz : Bool) (lv : List (Option gV)) (st : List gV) (M : gMe) (z : Int) (x y nx : Nat) : Option gCf := (match st with | .inl b :: .inl a :: st => if (-2147483648 ≤ a ∧ a < 2147483648) ∧ (-2147483648 ≤ b ∧ b < 2147483648) then (match y with | 0 => some (if a = b then x else nx, lv, st, M, 0, 0) | 1 => some (if a = b then nx else x, lv, st, M, 0, 0) | 2 => some (if a < b then x else nx, lv, st, M, 0, 0) | 3 => some (if b ≤ a then x else nx, lv, st, M, 0, 0) | 4 => some (if b < a then x else nx, lv, st, M, 0, 0) | 5 => some (if a ≤ b then x else nx, lv, st, M, 0, 0) | _ => none) else none | _ => none)
def gs1_84 (mt : gMt) (sz : Bool) (lv : List (Option gV)) (st : List gV) (M : gMe) (z : Int) (x y nx : Nat) : Option gCf := (match st with | .inr (.inr (.inl (some a))) :: st => if gcats st ≤ 8 then some (nx, lv, st, M, 0, 0) else none | _ => none)
def gs1_90 (mt : gMt) (sz : Bool) (lv : List (Option gV)) (st : List gV) (M : gMe) (z : Int) (x y nx : Nat) : Option gCf := (if sz = true then some (nx, lv, gr M.1.length :: st, mN M [(x, gN x)], 1, gN x) else none)
def gs1_91 (mt : gMt) (sz : Bool) (lv : List (Option gV)) (st : List gV) (M : gMe) (z : Int) (x y nx : Nat) : Option gCf := (match st with | .inl w :: st => if sz = true ∧ 0 ≤ w ∧ w ≤ 60000 then some (nx, lv, gr M.1.length :: st, mN M [(100 + x, w.toNat)], 1, w.toNat) else none | _ => none)
def gs1_92 (mt : gMt) (sz : Bool) (lv : List (Option gV)) (st : List gV) (M : gMe) (z : Int) (x y nx : Nat) : Option gCf := (match st with | .inl w :: st => if sz = true ∧ 0 ≤ w ∧ w ≤ 60000 then some (nx, lv, gr M.1.length :: st, mN M [(100 + x, w.toNat)], 1, w.toNat) else none | _ => none)
def gs1_93 (mt : gMt) (sz : Bool) (lv : List (Option gV)) (st : List gV) (M : gMe) (z : Int) (x y nx : Nat) : Option gCf := (match st with | .inl v :: .inl u :: st => if sz = true ∧ 0 ≤ u ∧ u ≤ 1000 ∧ 0 ≤ v ∧ v ≤ 1000 then some (nx, lv, gr M.1.length :: st, mNN M u.toNat v.toNat, 1 + u.toNat, u.toNat + u.toNat * v.toNat) else none | _ => none)
def gs1_95 (mt : gMt) (sz : Bool) (lv : List (Option gV)) (st : List gV) (M : gMe) (z : Int) (x y nx : Nat) : Option gCf := some (nx, lv, gs x :: st, M, 0, 0)
def gs1 (mt : gMt) (sz : Bool) (pc : Nat) (lv : List (Option gV)) (st : List gV) (M : gMe) : Option gCf := match gat mt pc with
  | none => none
  | some (op, z, x, y, nx) => match op with
    | 0 => gs1_0 mt sz lv st M z x y nx
    | 1 => gs1_1 mt sz lv st M z x y nx
    | 2 => gs1_2 mt sz lv st M z x y nx
    | 3 => gs1_3 mt sz lv st M z x y nx
    | 4 => gs1_4 mt sz lv st M z x y nx
    | 5 => gs1_5 mt sz lv st M z x y nx
    | 6 => gs1_6 mt sz lv st M z x y nx
    | 7 => gs1_7 mt sz lv st M z x y nx
    | 8 => gs1_8 mt sz lv st M z x y nx
    | 10 => gs1_10 mt sz lv st M z x y nx
    | 11 => gs1_11 mt sz lv st M z x y nx
    | 12 => gs1_12 mt sz lv st M z x y nx
    | 13 => gs1_13 mt sz lv st M z x y nx
    | 16 => gs1_16 mt sz lv st M z x y nx
    | 17 => gs1_17 mt sz lv st M z x y nx
    | 18 => gs1_18 mt sz lv st M z x y nx
    | 19 => gs1_19 mt sz lv st M z x y nx
    | 20 => gs1_20 mt sz lv st M z x y nx
    | 21 => gs1_21 mt sz lv st M z x y nx
    | 22 => gs1_22 mt sz lv st M z x y nx
    | 23 => gs1_23 mt sz lv st M z x y nx
    | 24 => gs1_24 mt sz lv st M z x y nx
    | 30 => gs1_30 mt sz lv st M z x y nx
    | 31 => gs1_31 mt sz lv st M z x y nx
    | 32 => gs1_32 mt sz lv st M z x y nx
    | 33 => gs1_33 mt sz lv st M z x y nx
    | 34 => gs1_34 mt sz lv st M z x y nx
    | 35 => gs1_35 mt sz lv st M z x y nx
    | 36 => gs1_36 mt sz lv st M z x y nx
    | 37 => gs1_37 mt sz lv st M z x y nx
    | 38 => gs1_38 mt sz lv st M z x y nx
    | 40 => gs1_40 mt sz lv st M z x y nx
    | 41 => gs1_41 mt sz lv st M z x y nx
    | 42 => gs1_42 mt sz lv st M z x y nx
    | 43 => gs1_43 mt sz lv st M z x y nx
    | 48 => gs1_48 mt sz lv st M z x y nx
    | 51 => gs1_51 mt sz lv st M z x y nx
    | 60 => gs1_60 mt sz lv st M z x y nx
    | 62 => gs1_62 mt sz lv st M z x y nx
    | 84 => gs1_84 mt sz lv st M z x y nx
    | 90 => gs1_90 mt sz lv st M z x y nx
    | 91 => gs1_91 mt sz lv st M z x y nx
    | 92 => gs1_92 mt sz lv st M z x y nx
    | 93 => gs1_93 mt sz lv st M z x y nx
    | 95 => gs1_95 mt sz lv st M z x y nx
    | _ => none
section GS1
variable {G : gG} {mt : gMt} {sz : Bool} {n mc ms pc : Nat} {lv lv' : List (Option gV)} {st st' : List gV} {M M' : gMe} {P : Option gV → gMe → Prop} {z : Int} {x y nx pc' da db : Nat}
theorem gs1_0_ok (hsz : G.2.2.2.2.2.2 = sz) (hn : 1 ≤ n) (hg : gat mt pc = some (0, z, x, y, nx)) (h : gs1_0 mt sz lv st M z x y nx = some (pc', lv', st', M', da, db)) (k : Go G mt n mc ms pc' lv' st' M' P) : Go G mt n (da + mc) (db + ms) pc lv st M P := by
  unfold gs1_0 at h
  cases h
  rw [Nat.zero_add, Nat.zero_add]
  exact Go.const hg k
theorem gs1_1_ok (hsz : G.2.2.2.2.2.2 = sz) (hn : 1 ≤ n) (hg : gat mt pc = some (1, z, x, y, nx)) (h : gs1_1 mt sz lv st M z x y nx = some (pc', lv', st', M', da, db)) (k : Go G mt n mc ms pc' lv' st' M' P) : Go G mt n (da + mc) (db + ms) pc lv st M P := by
  unfold gs1_1 at h
  cases h
  rw [Nat.zero_add, Nat.zero_add]
  exact Go.lconst hg k
theorem gs1_2_ok (hsz : G.2.2.2.2.2.2 = sz) (hn : 1 ≤ n) (hg : gat mt pc = some (2, z, x, y, nx)) (h : gs1_2 mt sz lv st M z x y nx = some (pc', lv', st', M', da, db)) (k : Go G mt n mc ms pc' lv' st' M' P) : Go G mt n (da + mc) (db + ms) pc lv st M P := by
  unfold gs1_2 at h
  split at h
  · split at h
    · rename_i hc
      cases h
      rw [Nat.zero_add, Nat.zero_add]
      exact Go.load hg (by assumption) (by assumption) k
    · cases h
  · cases h
theorem gs1_3_ok (hsz : G.2.2.2.2.2.2 = sz) (hn : 1 ≤ n) (hg : gat mt pc = some (3, z, x, y, nx)) (h : gs1_3 mt sz lv st M z x y nx = some (pc', lv', st', M', da, db)) (k : Go G mt n mc ms pc' lv' st' M' P) : Go G mt n (da + mc) (db + ms) pc lv st M P := by
  unfold gs1_3 at h
  split at h
  · split at h
    · rename_i hc
      cases h
      rw [Nat.zero_add, Nat.zero_add]
      exact Go.store hg hc.1 hc.2 k
    · cases h
  · cases h
theorem gs1_4_ok (hsz : G.2.2.2.2.2.2 = sz) (hn : 1 ≤ n) (hg : gat mt pc = some (4, z, x, y, nx)) (h : gs1_4 mt sz lv st M z x y nx = some (pc', lv', st', M', da, db)) (k : Go G mt n mc ms pc' lv' st' M' P) : Go G mt n (da + mc) (db + ms) pc lv st M P := by
  unfold gs1_4 at h
  split at h
  · split at h
    · rename_i hc
      cases h
      rw [Nat.zero_add, Nat.zero_add]
      exact Go.lstore hg hc k
    · cases h
  · cases h
theorem gs1_5_ok (hsz : G.2.2.2.2.2.2 = sz) (hn : 1 ≤ n) (hg : gat mt pc = some (5, z, x, y, nx)) (h : gs1_5 mt sz lv st M z x y nx = some (pc', lv', st', M', da, db)) (k : Go G mt n mc ms pc' lv' st' M' P) : Go G mt n (da + mc) (db + ms) pc lv st M P := by
  unfold gs1_5 at h
  split at h
  · split at h
    · rename_i hc
      cases h
      rw [Nat.zero_add, Nat.zero_add]
      exact Go.iinc hg (by assumption) hc k
    · cases h
  · cases h
theorem gs1_6_ok (hsz : G.2.2.2.2.2.2 = sz) (hn : 1 ≤ n) (hg : gat mt pc = some (6, z, x, y, nx)) (h : gs1_6 mt sz lv st M z x y nx = some (pc', lv', st', M', da, db)) (k : Go G mt n mc ms pc' lv' st' M' P) : Go G mt n (da + mc) (db + ms) pc lv st M P := by
  unfold gs1_6 at h
  split at h
  · split at h
    · cases h
    · rename_i hc
      cases h
      rw [Nat.zero_add, Nat.zero_add]
      exact Go.dup hg (fun q e => hc (by rw [e]; rfl)) k
  · cases h
theorem gs1_7_ok (hsz : G.2.2.2.2.2.2 = sz) (hn : 1 ≤ n) (hg : gat mt pc = some (7, z, x, y, nx)) (h : gs1_7 mt sz lv st M z x y nx = some (pc', lv', st', M', da, db)) (k : Go G mt n mc ms pc' lv' st' M' P) : Go G mt n (da + mc) (db + ms) pc lv st M P := by
  unfold gs1_7 at h
  split at h
  · split at h
    · cases h
    · rename_i hc
      cases h
      rw [Nat.zero_add, Nat.zero_add]
      exact Go.dup2 hg (fun q e => hc (Or.inl (by rw [e]; rfl))) (fun q e => hc (Or.inr (by rw [e]; rfl))) k
  · cases h
theorem gs1_8_ok (hsz : G.2.2.2.2.2.2 = sz) (hn : 1 ≤ n) (hg : gat mt pc = some (8, z, x, y, nx)) (h : gs1_8 mt sz lv st M z x y nx = some (pc', lv', st', M', da, db)) (k : Go G mt n mc ms pc' lv' st' M' P) : Go G mt n (da + mc) (db + ms) pc lv st M P := by
  unfold gs1_8 at h
  split at h
  · split at h
    · cases h
    · rename_i hc
      cases h
      rw [Nat.zero_add, Nat.zero_add]
      exact Go.pop hg (fun q e => hc (by rw [e]; rfl)) k
  · cases h
theorem gs1_10_ok (hsz : G.2.2.2.2.2.2 = sz) (hn : 1 ≤ n) (hg : gat mt pc = some (10, z, x, y, nx)) (h : gs1_10 mt sz lv st M z x y nx = some (pc', lv', st', M', da, db)) (k : Go G mt n mc ms pc' lv' st' M' P) : Go G mt n (da + mc) (db + ms) pc lv st M P := by
  unfold gs1_10 at h
  split at h
  · cases h
    rw [Nat.zero_add, Nat.zero_add]
    exact Go.iadd hg k
  · cases h
theorem gs1_11_ok (hsz : G.2.2.2.2.2.2 = sz) (hn : 1 ≤ n) (hg : gat mt pc = some (11, z, x, y, nx)) (h : gs1_11 mt sz lv st M z x y nx = some (pc', lv', st', M', da, db)) (k : Go G mt n mc ms pc' lv' st' M' P) : Go G mt n (da + mc) (db + ms) pc lv st M P := by
  unfold gs1_11 at h
  split at h
  · cases h
    rw [Nat.zero_add, Nat.zero_add]
    exact Go.isub hg k
  · cases h
theorem gs1_12_ok (hsz : G.2.2.2.2.2.2 = sz) (hn : 1 ≤ n) (hg : gat mt pc = some (12, z, x, y, nx)) (h : gs1_12 mt sz lv st M z x y nx = some (pc', lv', st', M', da, db)) (k : Go G mt n mc ms pc' lv' st' M' P) : Go G mt n (da + mc) (db + ms) pc lv st M P := by
  unfold gs1_12 at h
  split at h
  · cases h
    rw [Nat.zero_add, Nat.zero_add]
    exact Go.imul hg k
  · cases h
theorem gs1_13_ok (hsz : G.2.2.2.2.2.2 = sz) (hn : 1 ≤ n) (hg : gat mt pc = some (13, z, x, y, nx)) (h : gs1_13 mt sz lv st M z x y nx = some (pc', lv', st', M', da, db)) (k : Go G mt n mc ms pc' lv' st' M' P) : Go G mt n (da + mc) (db + ms) pc lv st M P := by
  unfold gs1_13 at h
  split at h
  · cases h
    rw [Nat.zero_add, Nat.zero_add]
    exact Go.ineg hg k
  · cases h
theorem gs1_16_ok (hsz : G.2.2.2.2.2.2 = sz) (hn : 1 ≤ n) (hg : gat mt pc = some (16, z, x, y, nx)) (h : gs1_16 mt sz lv st M z x y nx = some (pc', lv', st', M', da, db)) (k : Go G mt n mc ms pc' lv' st' M' P) : Go G mt n (da + mc) (db + ms) pc lv st M P := by
  unfold gs1_16 at h
  split at h
  · cases h
    rw [Nat.zero_add, Nat.zero_add]
    exact Go.iand hg k
  · cases h
theorem gs1_17_ok (hsz : G.2.2.2.2.2.2 = sz) (hn : 1 ≤ n) (hg : gat mt pc = some (17, z, x, y, nx)) (h : gs1_17 mt sz lv st M z x y nx = some (pc', lv', st', M', da, db)) (k : Go G mt n mc ms pc' lv' st' M' P) : Go G mt n (da + mc) (db + ms) pc lv st M P := by
  unfold gs1_17 at h
  split at h
  · cases h
    rw [Nat.zero_add, Nat.zero_add]
    exact Go.ior hg k
  · cases h
theorem gs1_18_ok (hsz : G.2.2.2.2.2.2 = sz) (hn : 1 ≤ n) (hg : gat mt pc = some (18, z, x, y, nx)) (h : gs1_18 mt sz lv st M z x y nx = some (pc', lv', st', M', da, db)) (k : Go G mt n mc ms pc' lv' st' M' P) : Go G mt n (da + mc) (db + ms) pc lv st M P := by
  unfold gs1_18 at h
  split at h
  · cases h
    rw [Nat.zero_add, Nat.zero_add]
    exact Go.ixor hg k
  · cases h
theorem gs1_19_ok (hsz : G.2.2.2.2.2.2 = sz) (hn : 1 ≤ n) (hg : gat mt pc = some (19, z, x, y, nx)) (h : gs1_19 mt sz lv st M z x y nx = some (pc', lv', st', M', da, db)) (k : Go G mt n mc ms pc' lv' st' M' P) : Go G mt n (da + mc) (db + ms) pc lv st M P := by
  unfold gs1_19 at h
  split at h
  · cases h
    rw [Nat.zero_add, Nat.zero_add]
    exact Go.ishl hg k
  · cases h
theorem gs1_20_ok (hsz : G.2.2.2.2.2.2 = sz) (hn : 1 ≤ n) (hg : gat mt pc = some (20, z, x, y, nx)) (h : gs1_20 mt sz lv st M z x y nx = some (pc', lv', st', M', da, db)) (k : Go G mt n mc ms pc' lv' st' M' P) : Go G mt n (da + mc) (db + ms) pc lv st M P := by
  unfold gs1_20 at h
  split at h
  · cases h
    rw [Nat.zero_add, Nat.zero_add]
    exact Go.ishr hg k
  · cases h
theorem gs1_21_ok (hsz : G.2.2.2.2.2.2 = sz) (hn : 1 ≤ n) (hg : gat mt pc = some (21, z, x, y, nx)) (h : gs1_21 mt sz lv st M z x y nx = some (pc', lv', st', M', da, db)) (k : Go G mt n mc ms pc' lv' st' M' P) : Go G mt n (da + mc) (db + ms) pc lv st M P := by
  unfold gs1_21 at h
  split at h
  · cases h
    rw [Nat.zero_add, Nat.zero_add]
    exact Go.iushr hg k
  · cases h
theorem gs1_22_ok (hsz : G.2.2.2.2.2.2 = sz) (hn : 1 ≤ n) (hg : gat mt pc = some (22, z, x, y, nx)) (h : gs1_22 mt sz lv st M z x y nx = some (pc', lv', st', M', da, db)) (k : Go G mt n mc ms pc' lv' st' M' P) : Go G mt n (da + mc) (db + ms) pc lv st M P := by
  unfold gs1_22 at h
  split at h
  · cases h
    rw [Nat.zero_add, Nat.zero_add]
    exact Go.i2l hg k
  · cases h
theorem gs1_23_ok (hsz : G.2.2.2.2.2.2 = sz) (hn : 1 ≤ n) (hg : gat mt pc = some (23, z, x, y, nx)) (h : gs1_23 mt sz lv st M z x y nx = some (pc', lv', st', M', da, db)) (k : Go G mt n mc ms pc' lv' st' M' P) : Go G mt n (da + mc) (db + ms) pc lv st M P := by
  unfold gs1_23 at h
  split at h
  · cases h
    rw [Nat.zero_add, Nat.zero_add]
    exact Go.i2b hg k
  · cases h
theorem gs1_24_ok (hsz : G.2.2.2.2.2.2 = sz) (hn : 1 ≤ n) (hg : gat mt pc = some (24, z, x, y, nx)) (h : gs1_24 mt sz lv st M z x y nx = some (pc', lv', st', M', da, db)) (k : Go G mt n mc ms pc' lv' st' M' P) : Go G mt n (da + mc) (db + ms) pc lv st M P := by
  unfold gs1_24 at h
  split at h
  · cases h
    rw [Nat.zero_add, Nat.zero_add]
    exact Go.i2s hg k
  · cases h
theorem gs1_30_ok (hsz : G.2.2.2.2.2.2 = sz) (hn : 1 ≤ n) (hg : gat mt pc = some (30, z, x, y, nx)) (h : gs1_30 mt sz lv st M z x y nx = some (pc', lv', st', M', da, db)) (k : Go G mt n mc ms pc' lv' st' M' P) : Go G mt n (da + mc) (db + ms) pc lv st M P := by
  unfold gs1_30 at h
  split at h
  · cases h
    rw [Nat.zero_add, Nat.zero_add]
    exact Go.ladd hg k
  · cases h
theorem gs1_31_ok (hsz : G.2.2.2.2.2.2 = sz) (hn : 1 ≤ n) (hg : gat mt pc = some (31, z, x, y, nx)) (h : gs1_31 mt sz lv st M z x y nx = some (pc', lv', st', M', da, db)) (k : Go G mt n mc ms pc' lv' st' M' P) : Go G mt n (da + mc) (db + ms) pc lv st M P := by
  unfold gs1_31 at h
  split at h
  · cases h
    rw [Nat.zero_add, Nat.zero_add]
    exact Go.lsub hg k
  · cases h
theorem gs1_32_ok (hsz : G.2.2.2.2.2.2 = sz) (hn : 1 ≤ n) (hg : gat mt pc = some (32, z, x, y, nx)) (h : gs1_32 mt sz lv st M z x y nx = some (pc', lv', st', M', da, db)) (k : Go G mt n mc ms pc' lv' st' M' P) : Go G mt n (da + mc) (db + ms) pc lv st M P := by
  unfold gs1_32 at h
  split at h
  · cases h
    rw [Nat.zero_add, Nat.zero_add]
    exact Go.land hg k
  · cases h
theorem gs1_33_ok (hsz : G.2.2.2.2.2.2 = sz) (hn : 1 ≤ n) (hg : gat mt pc = some (33, z, x, y, nx)) (h : gs1_33 mt sz lv st M z x y nx = some (pc', lv', st', M', da, db)) (k : Go G mt n mc ms pc' lv' st' M' P) : Go G mt n (da + mc) (db + ms) pc lv st M P := by
  unfold gs1_33 at h
  split at h
  · cases h
    rw [Nat.zero_add, Nat.zero_add]
    exact Go.lor hg k
  · cases h
theorem gs1_34_ok (hsz : G.2.2.2.2.2.2 = sz) (hn : 1 ≤ n) (hg : gat mt pc = some (34, z, x, y, nx)) (h : gs1_34 mt sz lv st M z x y nx = some (pc', lv', st', M', da, db)) (k : Go G mt n mc ms pc' lv' st' M' P) : Go G mt n (da + mc) (db + ms) pc lv st M P := by
  unfold gs1_34 at h
  split at h
  · cases h
    rw [Nat.zero_add, Nat.zero_add]
    exact Go.lxor hg k
  · cases h
theorem gs1_35_ok (hsz : G.2.2.2.2.2.2 = sz) (hn : 1 ≤ n) (hg : gat mt pc = some (35, z, x, y, nx)) (h : gs1_35 mt sz lv st M z x y nx = some (pc', lv', st', M', da, db)) (k : Go G mt n mc ms pc' lv' st' M' P) : Go G mt n (da + mc) (db + ms) pc lv st M P := by
  unfold gs1_35 at h
  split at h
  · cases h
    rw [Nat.zero_add, Nat.zero_add]
    exact Go.lshl hg k
  · cases h
theorem gs1_36_ok (hsz : G.2.2.2.2.2.2 = sz) (hn : 1 ≤ n) (hg : gat mt pc = some (36, z, x, y, nx)) (h : gs1_36 mt sz lv st M z x y nx = some (pc', lv', st', M', da, db)) (k : Go G mt n mc ms pc' lv' st' M' P) : Go G mt n (da + mc) (db + ms) pc lv st M P := by
  unfold gs1_36 at h
  split at h
  · cases h
    rw [Nat.zero_add, Nat.zero_add]
    exact Go.lushr hg k
  · cases h
theorem gs1_37_ok (hsz : G.2.2.2.2.2.2 = sz) (hn : 1 ≤ n) (hg : gat mt pc = some (37, z, x, y, nx)) (h : gs1_37 mt sz lv st M z x y nx = some (pc', lv', st', M', da, db)) (k : Go G mt n mc ms pc' lv' st' M' P) : Go G mt n (da + mc) (db + ms) pc lv st M P := by
  unfold gs1_37 at h
  split at h
  · cases h
    rw [Nat.zero_add, Nat.zero_add]
    exact Go.lcmp hg k
  · cases h
theorem gs1_38_ok (hsz : G.2.2.2.2.2.2 = sz) (hn : 1 ≤ n) (hg : gat mt pc = some (38, z, x, y, nx)) (h : gs1_38 mt sz lv st M z x y nx = some (pc', lv', st', M', da, db)) (k : Go G mt n mc ms pc' lv' st' M' P) : Go G mt n (da + mc) (db + ms) pc lv st M P := by
  unfold gs1_38 at h
  split at h
  · cases h
    rw [Nat.zero_add, Nat.zero_add]
    exact Go.l2i hg k
  · cases h
theorem gs1_40_ok (hsz : G.2.2.2.2.2.2 = sz) (hn : 1 ≤ n) (hg : gat mt pc = some (40, z, x, y, nx)) (h : gs1_40 mt sz lv st M z x y nx = some (pc', lv', st', M', da, db)) (k : Go G mt n mc ms pc' lv' st' M' P) : Go G mt n (da + mc) (db + ms) pc lv st M P := by
  unfold gs1_40 at h
  split at h
  · split at h
    · split at h
      · rename_i hc
        cases h
        rw [Nat.zero_add, Nat.zero_add]
        subst hc; exact Go.getf hg (by assumption) k
      · cases h
    · cases h
  · cases h
theorem gs1_41_ok (hsz : G.2.2.2.2.2.2 = sz) (hn : 1 ≤ n) (hg : gat mt pc = some (41, z, x, y, nx)) (h : gs1_41 mt sz lv st M z x y nx = some (pc', lv', st', M', da, db)) (k : Go G mt n mc ms pc' lv' st' M' P) : Go G mt n (da + mc) (db + ms) pc lv st M P := by
  unfold gs1_41 at h
  split at h
  · split at h
    · split at h
      · rename_i hc
        cases h
        rw [Nat.zero_add, Nat.zero_add]
        obtain ⟨rfl, (h2 | ⟨h2, h3⟩)⟩ := hc
        · exact Go.putI hg (by assumption) h2 k
        · exact Go.putZ hg (by assumption) h2 h3 k
      · cases h
    · cases h
  · split at h
    · split at h
      · rename_i hc
        cases h
        rw [Nat.zero_add, Nat.zero_add]
        obtain ⟨rfl, h2⟩ := hc
        exact Go.putL hg (by assumption) h2 k
      · cases h
    · cases h
  · cases h
theorem gs1_42_ok (hsz : G.2.2.2.2.2.2 = sz) (hn : 1 ≤ n) (hg : gat mt pc = some (42, z, x, y, nx)) (h : gs1_42 mt sz lv st M z x y nx = some (pc', lv', st', M', da, db)) (k : Go G mt n mc ms pc' lv' st' M' P) : Go G mt n (da + mc) (db + ms) pc lv st M P := by
  unfold gs1_42 at h
  split at h
  · split at h
    · split at h
      · rename_i hc
        cases h
        rw [Nat.zero_add, Nat.zero_add]
        obtain ⟨rfl, h2⟩ := hc; exact Go.putR hg (by assumption) h2 k
      · cases h
    · cases h
  · cases h
theorem gs1_43_ok (hsz : G.2.2.2.2.2.2 = sz) (hn : 1 ≤ n) (hg : gat mt pc = some (43, z, x, y, nx)) (h : gs1_43 mt sz lv st M z x y nx = some (pc', lv', st', M', da, db)) (k : Go G mt n mc ms pc' lv' st' M' P) : Go G mt n (da + mc) (db + ms) pc lv st M P := by
  unfold gs1_43 at h
  split at h
  · split at h
    · split at h
      · rename_i hc
        cases h
        rw [Nat.zero_add, Nat.zero_add]
        obtain ⟨rfl, h2, h3, h4⟩ := hc; exact Go.iald hg (by assumption) h2 h3 h4 k
      · cases h
    · cases h
  · cases h
theorem gs1_48_ok (hsz : G.2.2.2.2.2.2 = sz) (hn : 1 ≤ n) (hg : gat mt pc = some (48, z, x, y, nx)) (h : gs1_48 mt sz lv st M z x y nx = some (pc', lv', st', M', da, db)) (k : Go G mt n mc ms pc' lv' st' M' P) : Go G mt n (da + mc) (db + ms) pc lv st M P := by
  unfold gs1_48 at h
  split at h
  · split at h
    · split at h
      · rename_i hc
        cases h
        rw [Nat.zero_add, Nat.zero_add]
        obtain ⟨rfl, h2, h3, h4⟩ := hc; exact Go.iast hg (by assumption) h2 h3 h4 k
      · cases h
    · cases h
  · cases h
theorem gs1_51_ok (hsz : G.2.2.2.2.2.2 = sz) (hn : 1 ≤ n) (hg : gat mt pc = some (51, z, x, y, nx)) (h : gs1_51 mt sz lv st M z x y nx = some (pc', lv', st', M', da, db)) (k : Go G mt n mc ms pc' lv' st' M' P) : Go G mt n (da + mc) (db + ms) pc lv st M P := by
  unfold gs1_51 at h
  split at h
  · split at h
    · split at h
      · rename_i t N c N2 h1 h2 hc
        cases h
        rw [Nat.zero_add, Nat.zero_add]
        obtain ⟨c1, c2, c3, c4, c5, c6, c7⟩ := hc
        exact Go.aast (t := t - 100) hg (by rw [h1]; congr 2; omega) ⟨by omega, by omega⟩ h2 c3 c4 c5 c6 c7 k
      · cases h
    · cases h
  · cases h
theorem gs1_60_ok (hsz : G.2.2.2.2.2.2 = sz) (hn : 1 ≤ n) (hg : gat mt pc = some (60, z, x, y, nx)) (h : gs1_60 mt sz lv st M z x y nx = some (pc', lv', st', M', da, db)) (k : Go G mt n mc ms pc' lv' st' M' P) : Go G mt n (da + mc) (db + ms) pc lv st M P := by
  unfold gs1_60 at h
  cases h
  rw [Nat.zero_add, Nat.zero_add]
  exact Go.goto hg k
theorem gs1_62_ok (hsz : G.2.2.2.2.2.2 = sz) (hn : 1 ≤ n) (hg : gat mt pc = some (62, z, x, y, nx)) (h : gs1_62 mt sz lv st M z x y nx = some (pc', lv', st', M', da, db)) (k : Go G mt n mc ms pc' lv' st' M' P) : Go G mt n (da + mc) (db + ms) pc lv st M P := by
  unfold gs1_62 at h
  split at h
  · split at h
    · rename_i b a st hc
      split at h <;> cases h <;> rw [Nat.zero_add, Nat.zero_add]
      · exact Go.icmp_eq hg hc.1 hc.2 (fun q => by rw [if_pos q] at k; exact k) (fun q => by rw [if_neg q] at k; exact k)
      · exact Go.icmp_ne hg hc.1 hc.2 (fun q => by rw [if_neg q] at k; exact k) (fun q => by rw [if_pos q] at k; exact k)
      · exact Go.icmp_lt hg hc.1 hc.2 (fun q => by rw [if_pos q] at k; exact k) (fun q => by rw [if_neg q] at k; exact k)
      · exact Go.icmp_ge hg hc.1 hc.2 (fun q => by rw [if_pos q] at k; exact k) (fun q => by rw [if_neg q] at k; exact k)
      · exact Go.icmp_gt hg hc.1 hc.2 (fun q => by rw [if_pos q] at k; exact k) (fun q => by rw [if_neg q] at k; exact k)
      · exact Go.icmp_le hg hc.1 hc.2 (fun q => by rw [if_pos q] at k; exact k) (fun q => by rw [if_neg q] at k; exact k)
    · cases h
  · cases h
theorem gs1_84_ok (hsz : G.2.2.2.2.2.2 = sz) (hn : 1 ≤ n) (hg : gat mt pc = some (84, z, x, y, nx)) (h : gs1_84 mt sz lv st M z x y nx = some (pc', lv', st', M', da, db)) (k : Go G mt n mc ms pc' lv' st' M' P) : Go G mt n (da + mc) (db + ms) pc lv st M P := by
  unfold gs1_84 at h
  split at h
  · split at h
    · rename_i hc
      cases h
      rw [Nat.zero_add, Nat.zero_add]
      exact Go.obj hg hn hc k
    · cases h
  · cases h
theorem gs1_90_ok (hsz : G.2.2.2.2.2.2 = sz) (hn : 1 ≤ n) (hg : gat mt pc = some (90, z, x, y, nx)) (h : gs1_90 mt sz lv st M z x y nx = some (pc', lv', st', M', da, db)) (k : Go G mt n mc ms pc' lv' st' M' P) : Go G mt n (da + mc) (db + ms) pc lv st M P := by
  unfold gs1_90 at h
  split at h
  · rename_i hc
    cases h
    exact Go.new hg (hsz.trans hc) k
  · cases h
theorem gs1_91_ok (hsz : G.2.2.2.2.2.2 = sz) (hn : 1 ≤ n) (hg : gat mt pc = some (91, z, x, y, nx)) (h : gs1_91 mt sz lv st M z x y nx = some (pc', lv', st', M', da, db)) (k : Go G mt n mc ms pc' lv' st' M' P) : Go G mt n (da + mc) (db + ms) pc lv st M P := by
  unfold gs1_91 at h
  split at h
  · split at h
    · rename_i hc
      cases h
      exact Go.newa hg (hsz.trans hc.1) hc.2.1 hc.2.2 k
    · cases h
  · cases h
theorem gs1_92_ok (hsz : G.2.2.2.2.2.2 = sz) (hn : 1 ≤ n) (hg : gat mt pc = some (92, z, x, y, nx)) (h : gs1_92 mt sz lv st M z x y nx = some (pc', lv', st', M', da, db)) (k : Go G mt n mc ms pc' lv' st' M' P) : Go G mt n (da + mc) (db + ms) pc lv st M P := by
  unfold gs1_92 at h
  split at h
  · split at h
    · rename_i hc
      cases h
      exact Go.newq hg (hsz.trans hc.1) hc.2.1 hc.2.2 k
    · cases h
  · cases h
theorem gs1_93_ok (hsz : G.2.2.2.2.2.2 = sz) (hn : 1 ≤ n) (hg : gat mt pc = some (93, z, x, y, nx)) (h : gs1_93 mt sz lv st M z x y nx = some (pc', lv', st', M', da, db)) (k : Go G mt n mc ms pc' lv' st' M' P) : Go G mt n (da + mc) (db + ms) pc lv st M P := by
  unfold gs1_93 at h
  split at h
  · split at h
    · rename_i hc
      cases h
      exact Go.mna hg (hsz.trans hc.1) hc.2.1 hc.2.2.1 hc.2.2.2.1 hc.2.2.2.2 rfl rfl k
    · cases h
  · cases h
theorem gs1_95_ok (hsz : G.2.2.2.2.2.2 = sz) (hn : 1 ≤ n) (hg : gat mt pc = some (95, z, x, y, nx)) (h : gs1_95 mt sz lv st M z x y nx = some (pc', lv', st', M', da, db)) (k : Go G mt n mc ms pc' lv' st' M' P) : Go G mt n (da + mc) (db + ms) pc lv st M P := by
  unfold gs1_95 at h
  cases h
  rw [Nat.zero_add, Nat.zero_add]
  exact Go.gets hg k
theorem gs1_ok (hsz : G.2.2.2.2.2.2 = sz) (hn : 1 ≤ n) (h : gs1 mt sz pc lv st M = some (pc', lv', st', M', da, db)) (k : Go G mt n mc ms pc' lv' st' M' P) : Go G mt n (da + mc) (db + ms) pc lv st M P := by
  unfold gs1 at h
  split at h
  · cases h
  · rename_i op z x y nx hg
    split at h
    · exact gs1_0_ok hsz hn hg h k
    · exact gs1_1_ok hsz hn hg h k
    · exact gs1_2_ok hsz hn hg h k
    · exact gs1_3_ok hsz hn hg h k
    · exact gs1_4_ok hsz hn hg h k
    · exact gs1_5_ok hsz hn hg h k
    · exact gs1_6_ok hsz hn hg h k
    · exact gs1_7_ok hsz hn hg h k
    · exact gs1_8_ok hsz hn hg h k
    · exact gs1_10_ok hsz hn hg h k
    · exact gs1_11_ok hsz hn hg h k
    · exact gs1_12_ok hsz hn hg h k
    · exact gs1_13_ok hsz hn hg h k
    · exact gs1_16_ok hsz hn hg h k
    · exact gs1_17_ok hsz hn hg h k
    · exact gs1_18_ok hsz hn hg h k
    · exact gs1_19_ok hsz hn hg h k
    · exact gs1_20_ok hsz hn hg h k
    · exact gs1_21_ok hsz hn hg h k
    · exact gs1_22_ok hsz hn hg h k
    · exact gs1_23_ok hsz hn hg h k
    · exact gs1_24_ok hsz hn hg h k
    · exact gs1_30_ok hsz hn hg h k
    · exact gs1_31_ok hsz hn hg h k
    · exact gs1_32_ok hsz hn hg h k
    · exact gs1_33_ok hsz hn hg h k
    · exact gs1_34_ok hsz hn hg h k
    · exact gs1_35_ok hsz hn hg h k
    · exact gs1_36_ok hsz hn hg h k
    · exact gs1_37_ok hsz hn hg h k
    · exact gs1_38_ok hsz hn hg h k
    · exact gs1_40_ok hsz hn hg h k
    · exact gs1_41_ok hsz hn hg h k
    · exact gs1_42_ok hsz hn hg h k
    · exact gs1_43_ok hsz hn hg h k
    · exact gs1_48_ok hsz hn hg h k
    · exact gs1_51_ok hsz hn hg h k
    · exact gs1_60_ok hsz hn hg h k
    · exact gs1_62_ok hsz hn hg h k
    · exact gs1_84_ok hsz hn hg h k
    · exact gs1_90_ok hsz hn hg h k
    · exact gs1_91_ok hsz hn hg h k
    · exact gs1_92_ok hsz hn hg h k
    · exact gs1_93_ok hsz hn hg h k
    · exact gs1_95_ok hsz hn hg h k
    · cases h
end GS1

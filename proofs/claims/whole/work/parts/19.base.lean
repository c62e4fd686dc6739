/-! ===== words for contracts ===== -/
def b2 (p : Prop) [Decidable p] : Int := if p then 1 else 0
theorem b2_01 (p : Prop) [Decidable p] : b2 p = 0 ∨ b2 p = 1 := by unfold b2; split <;> simp
theorem b2_rng (p : Prop) [Decidable p] : rng (b2 p) := by rcases b2_01 p with h | h <;> rw [h] <;> exact ⟨by decide, by decide⟩
theorem b2_pos {p : Prop} [Decidable p] (h : ¬ b2 p = 0) : p := by
  unfold b2 at h
  split at h
  · assumption
  · exact absurd rfl h
theorem b2_neg {p : Prop} [Decidable p] (h : b2 p = 0) : ¬ p := by
  unfold b2 at h
  split at h
  · cases h
  · assumption
set_option maxRecDepth 1000000 in
theorem gcn : ∀ j, j < 253 → ((gH j).1.cls ≠ "java/lang/invoke/MethodHandle" ∧ (gH j).1.cls ≠ "java/lang/invoke/VarHandle") ∧ (gH j).2.2.1 ≤ 40 := by decide +kernel
set_option maxRecDepth 1000000 in
theorem gcp : ∀ j, j < 248 → plainName (gH j).1.cls = true ∧ gown (gH j).2.2.2.2 = (gH j).1.cls := by decide +kernel
/-- what all ints of the world keep to -/
def gR32 (mi : Nat → Nat → Int) : Prop := ∀ a k, rng (mi a k)
/-- the reference's cells: of a party, of a pitch -/
def mOf (mi : Nat → Nat → Int) (a w : Int) : Int := mi 152 (12 * a + w).toNat
def mPi (mi : Nat → Nat → Int) (p w : Int) : Int := mi 149 (8 * p + w).toNat
def andI (a b : Int) : Int := (iI a &&& iI b).toInt
def orI (a b : Int) : Int := (iI a ||| iI b).toInt
def xorI (a b : Int) : Int := (iI a ^^^ iI b).toInt
def shlI (a b : Int) : Int := (iI a <<< (iI b &&& 31)).toInt
def shrI (a b : Int) : Int := (iI a >>> (iI b &&& 31)).toInt
/-- the reference's answers, as functions of what it holds -/
def mLacks (mi : Nat → Nat → Int) (a p f : Int) : Int := b2 (¬ andI (mOf mi a 3) f = 0 ∧ andI (mPi mi p 6) f = 0)
def mStays (mi : Nat → Nat → Int) (a x : Int) : Int := b2 (mOf mi a 4 ≤ x ∧ x < mOf mi a 4 + mOf mi a 5)
def mMeet (mi : Nat → Nat → Int) (a b : Int) : Int := b2 (mOf mi a 4 < mOf mi b 4 + mOf mi b 5 ∧ mOf mi b 4 < mOf mi a 4 + mOf mi a 5)
def mHere (mi : Nat → Nat → Int) (a : Int) : Int := b2 (0 ≤ mOf mi a 6 ∧ ¬ mStays mi a (mi 148 0) = 0)
def mWhy (mi : Nat → Nat → Int) (a p : Int) : Int := if mPi mi p 2 < mOf mi a 1 then 1 else if ¬ mLacks mi a p 1 = 0 then 2 else if ¬ mLacks mi a p 2 = 0 then 3 else if mOf mi a 0 = 1 then (if 6 < mPi mi p 4 then 4 else 0) else if mOf mi a 0 = 0 then 0 else if mPi mi p 5 < mOf mi a 2 then 5 else if ¬ mLacks mi a p 4 = 0 ∨ (mOf mi a 0 = 4 ∧ andI (mPi mi p 6) 4 = 0) then 6 else if mOf mi a 0 = 3 ∧ mPi mi p 2 < mOf mi a 1 + 3 then 7 else 0
theorem mWhy_b (mi : Nat → Nat → Int) (a p : Int) : 0 ≤ mWhy mi a p ∧ mWhy mi a p ≤ 7 := by
  unfold mWhy
  (repeat' split) <;> omega
/-- what the reference's parties and pitches keep to -/
def PV (mi : Nat → Nat → Int) (a : Int) : Prop := (0 ≤ mOf mi a 0 ∧ mOf mi a 0 ≤ 4) ∧ (1 ≤ mOf mi a 1 ∧ mOf mi a 1 ≤ 30) ∧ (0 ≤ mOf mi a 2 ∧ mOf mi a 2 ≤ 32) ∧ (0 ≤ mOf mi a 3 ∧ mOf mi a 3 ≤ 7) ∧ (0 ≤ mOf mi a 4 ∧ mOf mi a 4 ≤ 99) ∧ (1 ≤ mOf mi a 5 ∧ mOf mi a 5 ≤ 30) ∧ mOf mi a 4 + mOf mi a 5 ≤ 100 ∧ (-2 ≤ mOf mi a 6 ∧ mOf mi a 6 < mi 148 2) ∧ (-1 ≤ mOf mi a 7 ∧ mOf mi a 7 < mi 148 6) ∧ (-1 ≤ mOf mi a 8 ∧ mOf mi a 8 ≤ 299970) ∧ (0 ≤ mOf mi a 9 ∧ mOf mi a 9 ≤ 16777215) ∧ (0 ≤ mOf mi a 10 ∧ mOf mi a 10 ≤ 40) ∧ (mOf mi a 11 = 0 ∨ mOf mi a 11 = 1)
def QV (mi : Nat → Nat → Int) (p : Int) : Prop := (0 ≤ mPi mi p 0 ∧ mPi mi p 0 ≤ 99) ∧ (0 ≤ mPi mi p 1 ∧ mPi mi p 1 ≤ 99) ∧ (1 ≤ mPi mi p 2 ∧ mPi mi p 2 ≤ 30) ∧ (0 ≤ mPi mi p 3 ∧ mPi mi p 3 ≤ 99) ∧ (0 ≤ mPi mi p 4 ∧ mPi mi p 4 ≤ 9) ∧ (0 ≤ mPi mi p 5 ∧ mPi mi p 5 ≤ 32) ∧ (0 ≤ mPi mi p 6 ∧ mPi mi p 6 ≤ 7) ∧ (0 ≤ mPi mi p 7 ∧ mPi mi p 7 ≤ 3)
/-- what the reference's scalars keep to -/
def SV (mi : Nat → Nat → Int) : Prop := gR32 mi ∧ (0 ≤ mi 148 0 ∧ mi 148 0 ≤ 99) ∧ (0 ≤ mi 148 2 ∧ mi 148 2 ≤ 12) ∧ (0 ≤ mi 148 6 ∧ mi 148 6 ≤ 24) ∧ (∀ a : Int, 0 ≤ a → a < mi 148 6 → PV mi a) ∧ ∀ p : Int, 0 ≤ p → p < mi 148 2 → QV mi p
/-! rows of objects: where the i-th stands -/
theorem gMR_2 {i : Int} (h : i < 12) (h0 : 0 ≤ i) : gMR 2 i.toNat = some (12 + i.toNat) := if_pos (by omega)
theorem gMR_3 {i : Int} (h : i < 24) (h0 : 0 ≤ i) : gMR 3 i.toNat = some (24 + i.toNat) := if_pos (by omega)
theorem gMR_55 {i : Int} (h : i < 12) (h0 : 0 ≤ i) : gMR 55 i.toNat = some (65 + i.toNat) := if_pos (by omega)
theorem gMR_56 {i : Int} (h : i < 24) (h0 : 0 ≤ i) : gMR 56 i.toNat = some (77 + i.toNat) := if_pos (by omega)
theorem gMR_115 {i : Int} (h : i < 4) (h0 : 0 ≤ i) : gMR 115 i.toNat = some (116 + i.toNat) := if_pos (by omega)
theorem gMR_120 {i : Int} (h : i < 4) (h0 : 0 ≤ i) : gMR 120 i.toNat = some (121 + i.toNat) := if_pos (by omega)
theorem gMR_138 {i : Int} (h : i < 4) (h0 : 0 ≤ i) : gMR 138 i.toNat = some (139 + 2 * i.toNat) := by
  rcases (show i = 0 ∨ i = 1 ∨ i = 2 ∨ i = 3 by omega) with rfl | rfl | rfl | rfl <;> rfl
theorem gMR_6 {i : Int} (h : i < 2) (h0 : 0 ≤ i) : gMR 6 i.toNat = some (48 + 3 * i.toNat) := by
  rcases (show i = 0 ∨ i = 1 by omega) with rfl | rfl <;> rfl
theorem gMR_59 {i : Int} (h : i < 2) (h0 : 0 ≤ i) : gMR 59 i.toNat = some (101 + 3 * i.toNat) := by
  rcases (show i = 0 ∨ i = 1 by omega) with rfl | rfl <;> rfl
theorem sh_all : (∀ k, k < 12 → gSH[12 + k]? = some (3, 10) ∧ gSH[65 + k]? = some (3, 10)) ∧ (∀ k, k < 24 → gSH[24 + k]? = some (2, 14) ∧ gSH[77 + k]? = some (2, 14)) ∧ (∀ k, k < 4 → gSH[139 + 2 * k]? = some (6, 3) ∧ gSH[140 + 2 * k]? = some (100, 60) ∧ gSH[116 + k]? = some (100, 12) ∧ gSH[121 + k]? = some (100, 4)) ∧ (∀ k, k < 2 → gSH[48 + 3 * k]? = some (1, 4) ∧ gSH[101 + 3 * k]? = some (1, 4) ∧ gSH[49 + 3 * k]? = some (100, 120) ∧ gSH[102 + 3 * k]? = some (100, 120) ∧ gSH[50 + 3 * k]? = some (100, 120)) := ⟨by decide +kernel, by decide +kernel, by decide +kernel, by decide +kernel⟩
theorem shP {i : Int} (h : i < 12) : gSH[12 + i.toNat]? = some (3, 10) := (sh_all.1 i.toNat (by omega)).1
theorem shA {i : Int} (h : i < 24) : gSH[24 + i.toNat]? = some (2, 14) := (sh_all.2.1 i.toNat (by omega)).1
theorem shPk {i : Int} (h : i < 12) : gSH[65 + i.toNat]? = some (3, 10) := (sh_all.1 i.toNat (by omega)).2
theorem shAk {i : Int} (h : i < 24) : gSH[77 + i.toNat]? = some (2, 14) := (sh_all.2.1 i.toNat (by omega)).2
theorem shS {i : Int} (h : i < 4) : gSH[139 + 2 * i.toNat]? = some (6, 3) := (sh_all.2.2.1 i.toNat (by omega)).1
theorem shSn {i : Int} (h : i < 4) : gSH[140 + 2 * i.toNat]? = some (100, 60) := (sh_all.2.2.1 i.toNat (by omega)).2.1
theorem shW {i : Int} (h : i < 4) : gSH[116 + i.toNat]? = some (100, 12) := (sh_all.2.2.1 i.toNat (by omega)).2.2.1
theorem shB {i : Int} (h : i < 4) : gSH[121 + i.toNat]? = some (100, 4) := (sh_all.2.2.1 i.toNat (by omega)).2.2.2
theorem shL {i : Int} (h : i < 2) : gSH[48 + 3 * i.toNat]? = some (1, 4) := (sh_all.2.2.2 i.toNat (by omega)).1
theorem Go.aaldR {G : gG} {mt : gMt} {n mc ms pc nx x y a b N : Nat} {z : Int} {lv : List (Option gV)} {st : List gV} {P : Option gV → gMe → Prop} {mi : Nat → Nat → Int} {ml : Nat → Nat → Int64} {i : Int} (t : Nat) (hi : gat mt pc = some (46, z, x, y, nx)) (hsh : gSH[a]? = some (100 + t, N)) (ht : 3 ≤ t ∧ t ≤ 7) (h0 : 0 ≤ i) (h1 : i < N) (hN : N < 2147483648) (hb : gMR a i.toNat = some b) (kk : Go G mt n mc ms nx lv (gr b :: st) (gw mi ml) P) : Go G mt n mc ms pc lv (gi i :: gr a :: st) (gw mi ml) P := by
  refine Go.aald (t := t) hi hsh ht h0 h1 hN ?_
  show Go G mt n mc ms nx lv (.inr (.inr (.inl (gMR a i.toNat))) :: st) (gw mi ml) P
  rw [hb]
  exact kk
/-- folds over the first ones of a row -/
def gfold (f : Int → Int → Int) (z : Int) : Nat → Int
  | 0 => z
  | k + 1 => f k (gfold f z k)
theorem gfold_s {f : Int → Int → Int} {z k : Int} (h : 0 ≤ k) : gfold f z (k + 1).toNat = f k (gfold f z k.toNat) := by
  rw [show (k + 1).toNat = k.toNat + 1 by omega]
  show f (k.toNat : Int) _ = _
  rw [show ((k.toNat : Nat) : Int) = k by omega]
theorem Go.dropl {G : gG} {mt : gMt} {n mc ms pc : Nat} {lv : List (Option gV)} {st : List gV} {M : gMe} {P : Option gV → gMe → Prop} (i : Nat) (k : Go G mt n mc ms pc (gclr lv i) st M P) : Go G mt n mc ms pc lv st M P := by
  intro p l e R s m args below meth cd H locs cells slots ls cx hS hW hL hc hs
  exact k p l e R s m args below meth cd H locs cells slots ls cx hS hW ⟨hL.1, hL.2.1, fun j v hj => hL.2.2 j v (gclr_get lv i j v hj).2⟩ hc hs
theorem tdiv_b {a c : Int} (ha : 0 ≤ a) (hc : 0 < c) : 0 ≤ a.tdiv c ∧ a.tdiv c ≤ a := by
  rw [Int.tdiv_eq_ediv_of_nonneg ha]
  exact ⟨Int.ediv_nonneg ha (by omega), Int.ediv_le_self _ ha⟩
theorem rng_tdiv {a c : Int} (h : rng a) (hc : 0 < c) : rng (a.tdiv c) := by
  unfold rng at *
  by_cases ha : 0 ≤ a
  · have := tdiv_b ha hc
    omega
  · have e : a.tdiv c = -((-a).tdiv c) := by rw [Int.neg_tdiv, Int.neg_neg]
    have := tdiv_b (a := -a) (by omega) hc
    omega
theorem Go.sald0 {G : gG} {mt : gMt} {n mc ms pc nx x y : Nat} {z i : Int} {lv : List (Option gV)} {st : List gV} {M : gMe} {P : Option gV → gMe → Prop} (hi : gat mt pc = some (43, z, x, y, nx)) (h0 : 0 ≤ i) (h1 : i < 5) (kk : Go G mt n mc ms nx lv (gi (gsc G 0 i.toNat) :: st) M P) : Go G mt n mc ms pc lv (gi i :: gs 0 :: st) M P := Go.sald hi (Or.inl rfl) h0 (show i < ((5 : Nat) : Int) from h1) (show 5 < 2147483648 by decide) kk

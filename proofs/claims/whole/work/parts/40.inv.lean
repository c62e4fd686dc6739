/-! ===== WHAT HOLDS BETWEEN CLASS AND REFERENCE. s: the class's site (1 the present one, 54 the kept one); σ: the reference's rows, present (sg) or kept (sk) =====
σ 0: today, till, pitches, parties, washers; 1 pitch, 2 starSum, 3 starMany, 4 party, 5 limits, 6 comes, 7 takes, 8 spots, 9 signMany, 10 signs -/
def sg (mi : Nat → Nat → Int) (c k : Nat) : Int := match c with
  | 0 => match k with
    | 0 => mi 148 0
    | 1 => mi 148 1
    | 2 => mi 148 2
    | 3 => mi 148 6
    | _ => mi 148 9
  | 1 => mi 149 k
  | 2 => mi 150 k
  | 3 => mi 151 k
  | 4 => mi 152 k
  | 5 => mi 153 k
  | 6 => mi 154 k
  | 7 => mi 155 k
  | 8 => mi 156 k
  | 9 => mi 157 k
  | _ => mi 158 k
def sk (mi : Nat → Nat → Int) (c k : Nat) : Int := match c with
  | 0 => mi 176 k
  | 1 => mi 176 (5 + k)
  | 2 => mi 176 (101 + k)
  | 3 => mi 176 (113 + k)
  | 4 => mi 176 (125 + k)
  | 5 => mi 176 (413 + k)
  | 6 => mi 176 (417 + k)
  | 7 => mi 176 (437 + k)
  | 8 => mi 176 (457 + k)
  | 9 => mi 176 (467 + k)
  | _ => mi 176 (469 + k)
def vOf (σ : Nat → Nat → Int) (a w : Int) : Int := σ 4 (12 * a + w).toNat
def vPi (σ : Nat → Nat → Int) (p w : Int) : Int := σ 1 (8 * p + w).toNat
def PVs (σ : Nat → Nat → Int) (a : Int) : Prop := (0 ≤ vOf σ a 0 ∧ vOf σ a 0 ≤ 4) ∧ (1 ≤ vOf σ a 1 ∧ vOf σ a 1 ≤ 30) ∧ (0 ≤ vOf σ a 2 ∧ vOf σ a 2 ≤ 32) ∧ (0 ≤ vOf σ a 3 ∧ vOf σ a 3 ≤ 7) ∧ (0 ≤ vOf σ a 4 ∧ vOf σ a 4 ≤ 99) ∧ (1 ≤ vOf σ a 5 ∧ vOf σ a 5 ≤ 30) ∧ vOf σ a 4 + vOf σ a 5 ≤ 100 ∧ (-2 ≤ vOf σ a 6 ∧ vOf σ a 6 < σ 0 2) ∧ (-1 ≤ vOf σ a 7 ∧ vOf σ a 7 < σ 0 3) ∧ (-1 ≤ vOf σ a 8 ∧ vOf σ a 8 ≤ 299970) ∧ (0 ≤ vOf σ a 9 ∧ vOf σ a 9 ≤ 16777215) ∧ (0 ≤ vOf σ a 10 ∧ vOf σ a 10 ≤ 40) ∧ (vOf σ a 11 = 0 ∨ vOf σ a 11 = 1)
def QVs (σ : Nat → Nat → Int) (p : Int) : Prop := (0 ≤ vPi σ p 0 ∧ vPi σ p 0 ≤ 99) ∧ (0 ≤ vPi σ p 1 ∧ vPi σ p 1 ≤ 99) ∧ (1 ≤ vPi σ p 2 ∧ vPi σ p 2 ≤ 30) ∧ (0 ≤ vPi σ p 3 ∧ vPi σ p 3 ≤ 99) ∧ (0 ≤ vPi σ p 4 ∧ vPi σ p 4 ≤ 9) ∧ (0 ≤ vPi σ p 5 ∧ vPi σ p 5 ≤ 32) ∧ (0 ≤ vPi σ p 6 ∧ vPi σ p 6 ≤ 7) ∧ (0 ≤ vPi σ p 7 ∧ vPi σ p 7 ≤ 3)
/-- the nights of a stay as bits: below n of 64 -/
def lBelow (n : Int) : Int64 := if n ≤ 0 then 0 else if 64 ≤ n then -1 else (1 <<< (Int64.ofInt n)) - 1
def lLow (first nights : Int) : Int64 := lBelow (first + nights) &&& (lBelow first ^^^ -1)
def lHigh (first nights : Int) : Int64 := lBelow (first + nights - 64) &&& (lBelow (first - 64) ^^^ -1)
/-- scalars -/
def Rsc (t s : Nat) (mi σ : Nat → Nat → Int) : Prop := mi s 0 = σ 0 0 ∧ mi s 1 = σ 0 1 ∧ mi s 2 = σ 0 2 ∧ mi s 3 = σ 0 3 ∧ (0 ≤ σ 0 0 ∧ σ 0 0 ≤ 99) ∧ (0 ≤ σ 0 2 ∧ σ 0 2 ≤ 12) ∧ (0 ≤ σ 0 3 ∧ σ 0 3 ≤ 24) ∧ (-(299970 * t) ≤ σ 0 1 ∧ σ 0 1 ≤ 299970 * t)
/-- pitches -/
def Rpi (t s : Nat) (mi σ : Nat → Nat → Int) : Prop := ∀ p : Int, 0 ≤ p → p < σ 0 2 → (∀ w : Nat, w < 8 → mi (s + 11 + p.toNat) w = vPi σ p w) ∧ mi (s + 11 + p.toNat) 8 = σ 3 p.toNat ∧ mi (s + 11 + p.toNat) 9 = σ 2 p.toNat ∧ QVs σ p ∧ (0 ≤ σ 3 p.toNat ∧ σ 3 p.toNat ≤ t) ∧ (σ 3 p.toNat ≤ σ 2 p.toNat ∧ σ 2 p.toNat ≤ 5 * t)
/-- parties -/
def Rpa (s : Nat) (mi : Nat → Nat → Int) (ml : Nat → Nat → Int64) (σ : Nat → Nat → Int) : Prop := ∀ a : Int, 0 ≤ a → a < σ 0 3 → (∀ w : Nat, w < 6 → mi (s + 23 + a.toNat) w = vOf σ a w) ∧ (∀ w : Nat, 6 ≤ w → w < 12 → mi (s + 23 + a.toNat) (w + 2) = vOf σ a w) ∧ PVs σ a ∧ ml (s + 23 + a.toNat) 6 = lLow (vOf σ a 4) (vOf σ a 5) ∧ ml (s + 23 + a.toNat) 7 = lHigh (vOf σ a 4) (vOf σ a 5)
/-- no two parties on one pitch in one night -/
def Rdj (σ : Nat → Nat → Int) : Prop := ∀ a b : Int, 0 ≤ a → a < σ 0 3 → 0 ≤ b → b < σ 0 3 → ¬ a = b → 0 ≤ vOf σ a 6 → vOf σ a 6 = vOf σ b 6 → vOf σ a 4 + vOf σ a 5 ≤ vOf σ b 4 ∨ vOf σ b 4 + vOf σ b 5 ≤ vOf σ a 4
def Rli (s : Nat) (mi σ : Nat → Nat → Int) : Prop := ∀ i : Nat, i < 4 → mi (s + 3) i = σ 5 i ∧ 0 ≤ σ 5 i ∧ σ 5 i ≤ 200
def Rsp (s : Nat) (mi σ : Nat → Nat → Int) : Prop := ∀ i : Nat, i < 10 → mi (s + 4) i = σ 8 i ∧ -1 ≤ σ 8 i ∧ σ 8 i < σ 0 3
/-- laws: codes alike; the reference's own can be worked -/
def cdRel (c m : Int) : Prop := (0 ≤ c ∧ c ≤ 9999 ∧ m = c) ∨ (c = 10000 ∧ m = 10108) ∨ (c = 10001 ∧ m = 10097) ∨ (c = 10002 ∧ m = 10110) ∨ (c = 10003 ∧ m = 10107) ∨ (c = 10004 ∧ m = 10100) ∨ (c = 10005 ∧ m = 10111) ∨ (c = 20000 ∧ m = 30000) ∨ (m = c ∧ (c = 20042 ∨ c = 20043 ∨ c = 20045 ∨ c = 20047 ∨ c = 20060 ∨ c = 20061))
def vDep (σ : Nat → Nat → Int) (l k : Nat) : Int := gfold (fun i acc => if σ 10 (120 * l + i.toNat) = 30000 then acc else if 20000 ≤ σ 10 (120 * l + i.toNat) then acc - 1 else acc + 1) 0 k
def Rlw (s : Nat) (mi σ : Nat → Nat → Int) : Prop := ∀ l : Nat, l < 2 → mi (s + 47 + 3 * l) 0 = b2 (0 < σ 9 l) ∧ ((0 ≤ σ 9 l ∧ σ 9 l ≤ 120) ∧ 0 ≤ mi (s + 47 + 3 * l) 1 ∧ mi (s + 47 + 3 * l) 1 ≤ 120) ∧ (0 < σ 9 l → mi (s + 47 + 3 * l) 1 = σ 9 l ∧ (∀ i : Nat, (i : Int) < σ 9 l → cdRel (mi (s + 48 + 3 * l) i) (σ 10 (120 * l + i)) ∧ (σ 10 (120 * l + i) = 30000 → 1 ≤ vDep σ l i) ∧ (20000 ≤ σ 10 (120 * l + i) → σ 10 (120 * l + i) < 30000 → 2 ≤ vDep σ l i)) ∧ vDep σ l (σ 9 l).toNat = 1)
/-- washers: the class holds them in the order in which they are served -/
def Rwa (s : Nat) (mi σ : Nat → Nat → Int) : Prop := mi (s + 6) 0 = σ 0 4 ∧ (0 ≤ σ 0 4 ∧ σ 0 4 ≤ 20) ∧ (∀ i : Nat, (i : Int) < σ 0 4 → (0 ≤ σ 6 i ∧ σ 6 i ≤ 999) ∧ (1 ≤ σ 7 i ∧ σ 7 i ≤ 60)) ∧ ∃ f : Nat → Nat, (∀ i : Nat, (i : Int) < σ 0 4 → ((f i : Nat) : Int) < σ 0 4 ∧ mi (s + 7) i = σ 6 (f i) ∧ mi (s + 8) i = σ 7 (f i)) ∧ ∀ i j : Nat, i < j → (j : Int) < σ 0 4 → σ 6 (f i) < σ 6 (f j) ∨ (σ 6 (f i) = σ 6 (f j) ∧ f i < f j)
def Rep (t s : Nat) (mi : Nat → Nat → Int) (ml : Nat → Nat → Int64) (σ : Nat → Nat → Int) : Prop := Rsc t s mi σ ∧ Rpi t s mi σ ∧ Rpa s mi ml σ ∧ Rdj σ ∧ Rli s mi σ ∧ Rsp s mi σ ∧ Rlw s mi σ ∧ Rwa s mi σ
def Itp (mi : Nat → Nat → Int) : Prop := mi 132 0 = mi 148 22 ∧ (0 ≤ mi 148 22 ∧ mi 148 22 ≤ 120) ∧ ∀ i : Nat, (i : Int) < mi 148 22 → mi 134 i = mi 164 i ∧ 0 ≤ mi 164 i ∧ mi 164 i ≤ 255
def Ifd (t : Nat) (mi : Nat → Nat → Int) : Prop := ∀ i : Nat, i < 7 → mi 147 i = mi 159 i ∧ 0 ≤ mi 159 i ∧ mi 159 i ≤ t
/-- a number of a sheet: without its sign in the class -/
def shRel (bits c m : Int) : Prop := (bits = 8 → -128 ≤ m ∧ m < 128 ∧ (c = m ∨ c = m + 256) ∧ 0 ≤ c ∧ c < 256) ∧ (bits = 16 → -32768 ≤ m ∧ m < 32768 ∧ (c = m ∨ c = m + 65536) ∧ 0 ≤ c ∧ c < 65536) ∧ (bits = 32 → c = m)
def Ish (mi : Nat → Nat → Int) : Prop := ∀ s : Nat, s < 4 → mi (139 + 2 * s) 0 = mi 172 s ∧ mi (139 + 2 * s) 1 = mi 173 s ∧ (mi 172 s = 0 ∨ mi 172 s = 8 ∨ mi 172 s = 16 ∨ mi 172 s = 32) ∧ (0 ≤ mi 173 s ∧ mi 173 s ≤ 60) ∧ (mi 172 s = 0 → mi 173 s = 0) ∧ ∀ i : Nat, i < 60 → shRel (mi 172 s) (mi (140 + 2 * s) i) (mi 174 (60 * s + i))
def Ikp (t : Nat) (mi : Nat → Nat → Int) (ml : Nat → Nat → Int64) : Prop := mi 0 8 = mi 148 42 ∧ (mi 148 42 = 0 ∨ mi 148 42 = 1) ∧ (mi 148 42 = 1 → Rep t 54 mi ml (sk mi))
def Inv (t : Nat) (mi : Nat → Nat → Int) (ml : Nat → Nat → Int64) : Prop := gR32 mi ∧ Rep t 1 mi ml (sg mi) ∧ Itp mi ∧ Ifd t mi ∧ Ish mi ∧ Ikp t mi ml
/-! what it gives -/
theorem Inv.SV {t : Nat} {mi : Nat → Nat → Int} {ml : Nat → Nat → Int64} (h : Inv t mi ml) : SV mi := by
  obtain ⟨hR, ⟨⟨-, -, -, -, h0, h2, h3, -⟩, hpi, hpa, -⟩, -⟩ := h
  exact ⟨hR, h0, h2, h3, fun a a0 a1 => (hpa a a0 a1).2.2.1, fun p p0 p1 => (hpi p p0 p1).2.2.2.1⟩
theorem Rep.cP {t : Nat} {mi : Nat → Nat → Int} {ml : Nat → Nat → Int64} {p : Int} (h : Rep t 1 mi ml (sg mi)) (p0 : 0 ≤ p) (p1 : p < mi 148 2) : (∀ w : Nat, w < 8 → cP mi p w = mPi mi p w) ∧ cP mi p 8 = mi 151 p.toNat ∧ cP mi p 9 = mi 150 p.toNat := by
  obtain ⟨h1, h2, h3, -⟩ := h.2.1 p p0 p1
  exact ⟨h1, h2, h3⟩
theorem Rep.cA {t : Nat} {mi : Nat → Nat → Int} {ml : Nat → Nat → Int64} {a : Int} (h : Rep t 1 mi ml (sg mi)) (a0 : 0 ≤ a) (a1 : a < mi 148 6) : cA mi a 0 = mOf mi a 0 ∧ cA mi a 1 = mOf mi a 1 ∧ cA mi a 2 = mOf mi a 2 ∧ cA mi a 3 = mOf mi a 3 ∧ cA mi a 4 = mOf mi a 4 ∧ cA mi a 5 = mOf mi a 5 ∧ cA mi a 8 = mOf mi a 6 ∧ cA mi a 9 = mOf mi a 7 ∧ cA mi a 10 = mOf mi a 8 ∧ cA mi a 11 = mOf mi a 9 ∧ cA mi a 12 = mOf mi a 10 ∧ cA mi a 13 = mOf mi a 11 := by
  obtain ⟨h1, h2, -⟩ := h.2.2.1 a a0 a1
  exact ⟨h1 0 (by decide), h1 1 (by decide), h1 2 (by decide), h1 3 (by decide), h1 4 (by decide), h1 5 (by decide), h2 6 (by decide) (by decide), h2 7 (by decide) (by decide), h2 8 (by decide) (by decide), h2 9 (by decide) (by decide), h2 10 (by decide) (by decide), h2 11 (by decide) (by decide)⟩
theorem Inv.CV {t : Nat} {mi : Nat → Nat → Int} {ml : Nat → Nat → Int64} (h : Inv t mi ml) : CV mi := by
  have hs := h.SV
  obtain ⟨hR, hrep, -⟩ := h
  have hrep' := hrep
  obtain ⟨⟨e0, e1, e2, e3, h0, h2, h3, -⟩, hpi, hpa, -⟩ := hrep'
  have e0 : mi 1 0 = mi 148 0 := e0
  have e2 : mi 1 2 = mi 148 2 := e2
  have e3 : mi 1 3 = mi 148 6 := e3
  have h0 : 0 ≤ mi 148 0 ∧ mi 148 0 ≤ 99 := h0
  have h2 : 0 ≤ mi 148 2 ∧ mi 148 2 ≤ 12 := h2
  have h3 : 0 ≤ mi 148 6 ∧ mi 148 6 ≤ 24 := h3
  refine ⟨hR, by omega, by omega, by omega, fun a a0 a1 => ?_, fun p p0 p1 => ?_⟩
  · obtain ⟨c0, c1, c2, c3, c4, c5, c8, c9, c10, c11, c12, c13⟩ := hrep.cA a0 (show a < mi 148 6 by omega)
    have := hs.2.2.2.2.1 a a0 (by omega)
    unfold CPV
    unfold PV at this
    rw [c0, c1, c2, c3, c4, c5, c8, c9, c10, c11, c12, c13, e2, e3]
    exact this
  · obtain ⟨c, -⟩ := hrep.cP p0 (show p < mi 148 2 by omega)
    have := hs.2.2.2.2.2 p p0 (by omega)
    unfold CQV
    unfold QV at this
    rw [c 0 (by decide), c 1 (by decide), c 2 (by decide), c 3 (by decide), c 4 (by decide), c 5 (by decide), c 6 (by decide), c 7 (by decide)]
    exact this

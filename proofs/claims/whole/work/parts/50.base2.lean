/-! ===== more words: division of what isn't below 0, bits ===== -/
section GD
variable {G : gG} {mt : gMt} {n mc ms pc nx x y : Nat} {z : Int} {lv : List (Option gV)} {st : List gV} {M : gMe} {P : Option gV → gMe → Prop}
theorem rng_ediv {a b : Int} (ha : rng a) (hb : 0 < b) (h0 : 0 ≤ a) : rng (a.tdiv b) := rng_tdiv ha hb
theorem Go.idivN (hi : gat mt pc = some (14, z, x, y, nx)) {a b : Int} (ha : rng a) (hb : 0 < b ∧ b ≤ 2147483647) (h0 : 0 ≤ a) (k : Go G mt n mc ms nx lv (gi (a / b) :: st) M P) : Go G mt n mc ms pc lv (gi b :: gi a :: st) M P := by
  refine Go.idiv hi ha ⟨by omega, by omega⟩ (by omega) (rng_tdiv ha hb.1) ?_
  rw [Int.tdiv_eq_ediv_of_nonneg h0]
  exact k
theorem Go.iremN (hi : gat mt pc = some (15, z, x, y, nx)) {a b : Int} (ha : rng a) (hb : 0 < b ∧ b ≤ 2147483647) (h0 : 0 ≤ a) (k : Go G mt n mc ms nx lv (gi (a % b) :: st) M P) : Go G mt n mc ms pc lv (gi b :: gi a :: st) M P := by
  refine Go.irem hi ha ⟨by omega, by omega⟩ (by omega) (rng_tdiv ha hb.1) ?_
  rw [Int.tmod_eq_emod_of_nonneg h0]
  exact k
end GD
theorem orI_zero {a : Int} (h : rng a) : orI a 0 = a := by
  unfold orI
  have : iI a ||| iI 0 = iI a := by
    apply Int32.toBitVec_inj.mp
    rw [Int32.toBitVec_or]
    show _ ||| 0#32 = _
    exact BitVec.or_zero
  rw [this]
  exact iI_toInt h
theorem rng_toInt (x : Int32) : rng x.toInt := ⟨x.le_toInt, by have := x.toInt_lt; omega⟩
theorem orI_rng (a b : Int) : rng (orI a b) := rng_toInt _
/-- a set of those who have it -/
def gset1 (c : Int → Prop) [DecidablePred c] (k : Nat) : Int := gfold (fun a acc => if c a then orI acc (shlI 1 a) else acc) 0 k
def gset2 (c : Int → Prop) [DecidablePred c] (k : Nat) : Int := gfold (fun a acc => if c a then orI acc (shlI 1 a) else orI acc 0) 0 k
theorem gset1_rng (c : Int → Prop) [DecidablePred c] : ∀ k, rng (gset1 c k)
  | 0 => ⟨by show (-2147483648 : Int) ≤ 0; omega, by show (0 : Int) ≤ 2147483647; omega⟩
  | k + 1 => by
    show rng (if c k then orI (gset1 c k) (shlI 1 k) else gset1 c k)
    split
    · exact orI_rng _ _
    · exact gset1_rng c k
theorem gset_eq (c d : Int → Prop) [DecidablePred c] [DecidablePred d] : ∀ n : Nat, (∀ k : Nat, k < n → (c k ↔ d k)) → gset1 c n = gset2 d n
  | 0, _ => rfl
  | n + 1, h => by
    have ih := gset_eq c d n (fun k hk => h k (by omega))
    show (if c n then orI (gset1 c n) (shlI 1 n) else gset1 c n) = (if d n then orI (gset2 d n) (shlI 1 n) else orI (gset2 d n) 0)
    rw [← ih, orI_zero (gset1_rng c n)]
    by_cases e : c n
    · rw [if_pos e, if_pos ((h n (by omega)).mp e)]
    · rw [if_neg e, if_neg (fun q => e ((h n (by omega)).mpr q))]
theorem gset2_rng (c : Int → Prop) [DecidablePred c] : ∀ k, rng (gset2 c k)
  | 0 => ⟨by show (-2147483648 : Int) ≤ 0; omega, by show (0 : Int) ≤ 2147483647; omega⟩
  | k + 1 => by
    show rng (if c k then orI (gset2 c k) (shlI 1 k) else orI (gset2 c k) 0)
    split <;> exact orI_rng _ _

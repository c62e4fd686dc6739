/-! ===== runs of steps ===== -/
abbrev gw (mi : Nat → Nat → Int) (ml : Nat → Nat → Int64) : gMe := (gSH, mi, ml, gMR)
def gruns : Nat → gMt → Nat → List (Option gV) → List gV → gMe → Option (Nat × List (Option gV) × List gV × gMe)
  | 0, _, pc, lv, st, M => some (pc, lv, st, M)
  | k + 1, mt, pc, lv, st, M => match gs1 mt true pc lv st M with
    | some (pc', lv', st', M', 0, 0) => gruns k mt pc' lv' st' M'
    | _ => none
theorem Go.run {G : gG} {mt : gMt} {n mc ms : Nat} {P : Option gV → gMe → Prop} (hsz : G.2.2.2.2.2.2 = true) (hn : 1 ≤ n) : ∀ (k : Nat) {pc pc' : Nat} {lv lv' : List (Option gV)} {st st' : List gV} {M M' : gMe}, gruns k mt pc lv st M = some (pc', lv', st', M') → Go G mt n mc ms pc' lv' st' M' P → Go G mt n mc ms pc lv st M P
  | 0, pc, pc', lv, lv', st, st', M, M', h, kk => by
    cases h
    exact kk
  | k + 1, pc, pc', lv, lv', st, st', M, M', h, kk => by
    unfold gruns at h
    split at h
    · rename_i p1 l1 s1 M1 h1
      have := gs1_ok (mc := mc) (ms := ms) hsz hn h1 (Go.run hsz hn k h kk)
      rw [Nat.zero_add, Nat.zero_add] at this
      exact this
    · cases h
def gret (v : Int) (M : gMe) : Option gV → gMe → Prop := fun r M' => r = some (gi v) ∧ M' = M
theorem tst_of {G : gG} (hsz : G.2.2.2.2.2.2 = true) {n : Nat} (hn : 1 ≤ n) (mi : Nat → Nat → Int) (ml : Nat → Nat → Int64) (a w : Int) (h0 : 0 ≤ a) (h1 : a < 24) (h2 : 0 ≤ w) (h3 : w < 12) : gM G 165 n 0 0 [gr 148, gi a, gi w] (gw mi ml) (gret (mi 152 (12 * a + w).toNat) (gw mi ml)) := by
  refine gM.of mX12_of okX12_of (by decide +kernel) (by decide +kernel) (Nat.le_of_ble_eq_true rfl) ?_
  refine Go.run hsz hn 7 (pc' := 10) (lv' := [some (gr 148), some (gi a), some (gi w)]) (st' := [gi (12 * a + w), gr 152]) (M' := gw mi ml) rfl ?_
  refine Go.iald (by rfl) (N := 288) (by rfl) (by omega) (by omega) (by decide) ?_
  exact Go.iret (by rfl) ⟨rfl, rfl⟩

/-! ===== plan: the class: bounds, and the steps of its trying ===== -/
section TRY
variable {u : Nat → Nat → Int} {mem : Nat → Nat} {z : Nat} {d : Nat → Int}
theorem oWi_b (a b : Nat) : 0 ≤ oWi u a b ∧ oWi u a b ≤ 2 := by
  unfold oWi
  split <;> split <;> omega
theorem wf_b {x y : Int} (hx : 0 ≤ x ∧ x ≤ 2) (hy : 0 ≤ y ∧ y ≤ 198) : 0 ≤ x * y ∧ x * y ≤ 396 := by
  have : x = 0 ∨ x = 1 ∨ x = 2 := by omega
  rcases this with h | h | h <;> subst h <;> omega
theorem oY_le (hv : SV u) {on : Nat → Int} (hon : ∀ b : Nat, (b : Int) < u 148 6 → on b < u 148 2) {a : Nat} {p : Int} (p0 : 0 ≤ p) (p1 : p < u 148 2) : ∀ k : Nat, (k : Int) ≤ u 148 6 → 0 ≤ oY u on a p k ∧ oY u on a p k ≤ 396 * k
  | 0, _ => by show (0 : Int) ≤ 0 ∧ (0 : Int) ≤ 396 * ((0 : Nat) : Int); omega
  | k + 1, hk => by
    have ih := oY_le hv hon (a := a) p0 p1 k (by omega)
    have h1 : 0 ≤ oY1 u on a p k ∧ oY1 u on a p k ≤ 396 := by
      unfold oY1
      split
      · rename_i c
        exact wf_b (oWi_b a k) (mFar_b (hv.2.2.2.2.2 p p0 p1) (hv.2.2.2.2.2 (on k) c.2 (hon k (by omega))))
      · omega
    show 0 ≤ oY u on a p k + oY1 u on a p k ∧ oY u on a p k + oY1 u on a p k ≤ 396 * ((k + 1 : Nat) : Int)
    omega
theorem wYs_b (hv : SV u) {a : Nat} {p : Int} (p0 : 0 ≤ p) (p1 : p < u 148 2) : ∀ k : Nat, (∀ j, j < k → d j < u 148 2) → 0 ≤ wYs u mem d a p k ∧ wYs u mem d a p k ≤ 396 * k
  | 0, _ => by show (0 : Int) ≤ 0 ∧ (0 : Int) ≤ 396 * ((0 : Nat) : Int); omega
  | k + 1, hk => by
    have ih := wYs_b hv (a := a) p0 p1 k (fun j hj => hk j (by omega))
    have h1 : 0 ≤ (if 0 ≤ d k then oWi u a (mem k) * mFar u p (d k) else 0) ∧ (if 0 ≤ d k then oWi u a (mem k) * mFar u p (d k) else 0) ≤ 396 := by
      split
      · rename_i c
        exact wf_b (oWi_b a _) (mFar_b (hv.2.2.2.2.2 p p0 p1) (hv.2.2.2.2.2 (d k) c (hk k (by omega))))
      · omega
    show 0 ≤ wYs u mem d a p k + _ ∧ wYs u mem d a p k + _ ≤ 396 * ((k + 1 : Nat) : Int)
    omega
theorem oA_bd (hv : SV u) {on : Nat → Int} (hon : ∀ b : Nat, (b : Int) < u 148 6 → on b < u 148 2) : ∀ k : Nat, (k : Int) ≤ u 148 6 → 0 ≤ oA u on k ∧ oA u on k ≤ 198 * k
  | 0, _ => by show (0 : Int) ≤ 0 ∧ (0 : Int) ≤ 198 * ((0 : Nat) : Int); omega
  | k + 1, hk => by
    have ih := oA_bd hv hon k (by omega)
    have hp := hv.2.2.2.2.1 (k : Int) (by omega) (by omega)
    have h7 := hp.2.2.2.2.2.2.2.2.1
    have h1 : 0 ≤ oW u on k ∧ oW u on k ≤ 198 := by
      unfold oW
      split
      · rename_i c
        exact mFar_b (hv.2.2.2.2.2 (on k) c.2.1 (hon k (by omega))) (hv.2.2.2.2.2 _ c.2.2 (hon _ (by omega)))
      · omega
    show 0 ≤ oA u on k + oW u on k ∧ oA u on k + oW u on k ≤ 198 * ((k + 1 : Nat) : Int)
    omega
theorem inr_le {P i j : Nat} {e : Nat → Int} (h : inr P e j) (hij : i ≤ j) : inr P e i := fun k hk => h k (by omega)
/-- bounds of what the class counts -/
theorem try_b (hv : SV u) (hM : wM u mem (pOn u) z) {i : Nat} (hi : i ≤ z) (hd : inr (u 148 2).toNat d i) : (0 ≤ wO d i ∧ wO d i ≤ i) ∧ (-1176 ≤ wGp u mem (pOn u) i d - wGp u mem (pOn u) 0 d ∧ wGp u mem (pOn u) i d - wGp u mem (pOn u) 0 d ≤ 1176) ∧ (-4752 ≤ wFa u mem (pOn u) i d - wFa u mem (pOn u) 0 d ∧ wFa u mem (pOn u) i d - wFa u mem (pOn u) 0 d ≤ 4752) := by
  have hP : 0 ≤ u 148 2 ∧ u 148 2 ≤ 12 := hv.2.2.1
  have hN : 0 ≤ u 148 6 ∧ u 148 6 ≤ 24 := hv.2.2.2.1
  have hMi : wM u mem (pOn u) i := ⟨fun k hk => hM.1 k (by omega), fun k j hk hj => hM.2.1 k j (by omega) (by omega), hM.2.2⟩
  have g1 := oGs_b u (wAs mem (pOn u) d i) (u 148 6).toNat (u 148 2).toNat
  have g0 := oGs_b u (wAs mem (pOn u) d 0) (u 148 6).toNat (u 148 2).toNat
  have a1 := oA_bd hv (wAs_b hP.1 hMi hd (Nat.le_refl i)) (u 148 6).toNat (by omega)
  have a0 := oA_bd hv (wAs_b hP.1 hMi hd (Nat.zero_le i)) (u 148 6).toNat (by omega)
  refine ⟨wO_b d i, ?_, ?_⟩
  · unfold wGp
    omega
  · unfold wFa
    omega
def pG0 (u : Nat → Nat → Int) : Int := oGs u (pOn u) (u 148 6).toNat (u 148 2).toNat
def pF0 (u : Nat → Nat → Int) : Int := oA u (pOn u) (u 148 6).toNat
def bJ (u : Nat → Nat → Int) (mem : Nat → Nat) (z : Nat) (S : (Nat → Int) → Prop) (m : Nat → Nat → Int) : Prop := bI (u 148 2).toNat z (wW u mem (pOn u) z) S (pG0 u) (pF0 u) m
/-- it can't beat: skip -/
theorem bJ_skip (hv : SV u) (hM : wM u mem (pOn u) z) {mo mf : Nat → Int} (hB : wBd u mem (pOn u) z mo mf) {i : Nat} (hi : i ≤ z) (hd : inr (u 148 2).toNat d i) {m : Nat → Nat → Int} (h : bJ u mem z (sLt (u 148 2).toNat d i) m) (hc : ¬ bet (wO d i + mo i) (wGp u mem (pOn u) i d - pG0 u - mf i) (wFa u mem (pOn u) i d - pF0 u) (m 110 11) (m 110 12) (m 110 13)) (hmo : 0 ≤ mo i) : bJ u mem z (sLe' (u 148 2).toNat d i) m := by
  have hob := wO_b d i
  refine bI_skip h (sLt_dc hi) (fun d' _ hs => by unfold sLe'; unfold sLt at hs; omega) (fun d' hd' hs hs2 hV => ?_)
  have he : cdd (u 148 2).toNat d' i = cdd (u 148 2).toNat d i := by unfold sLe' at hs; unfold sLt at hs2; omega
  have hk := cdd_inj (inr_le hd' hi) hd (Nat.le_refl i) he
  obtain ⟨b1, b2, b3⟩ := wBound hv hM hB hd' hV (z - i) i (by omega)
  have e1 : wO d' i = wO d i := wO_congr hk
  have e2 : wGp u mem (pOn u) i d' = wGp u mem (pOn u) i d := by unfold wGp; rw [wAs_congr hk]
  have e3 : wFa u mem (pOn u) i d' = wFa u mem (pOn u) i d := by unfold wFa; rw [wAs_congr hk]
  show 0 ≤ m 110 11 ∧ ¬ bet (wO d' z) (wGp u mem (pOn u) z d' - pG0 u) (wFa u mem (pOn u) z d' - pF0 u) (m 110 11) (m 110 12) (m 110 13)
  unfold bet at hc ⊢
  omega
/-- all members are laid: remember -/
theorem bJ_take {m m' : Nat → Nat → Int} (hd : inr (u 148 2).toNat d z) (h : bJ u mem z (sLt (u 148 2).toNat d z) m) (hV : wV u mem (pOn u) z d) (hb : bet (wO d z) (wGp u mem (pOn u) z d - pG0 u) (wFa u mem (pOn u) z d - pF0 u) (m 110 11) (m 110 12) (m 110 13)) (h1 : ∀ k, k < z → m' 126 k = d k) (h2 : m' 110 11 = wO d z) (h3 : m' 110 12 = wGp u mem (pOn u) z d - pG0 u) (h4 : m' 110 13 = wFa u mem (pOn u) z d - pF0 u) : bJ u mem z (sLe' (u 148 2).toNat d z) m' :=
  bI_take wExt h hd hV hb (Nat.le_refl _) (fun d' _ hs => by unfold sLe' at hs; unfold sLt; omega) h1 h2 h3 h4
/-- the sets while one member's pitches are tried -/
theorem sQ_0 {i : Nat} {e : Nat → Int} : sLt (u 148 2).toNat d i e ↔ sQ (u 148 2).toNat d i 0 e := by
  unfold sLt sQ
  omega
def dAt (d : Nat → Int) (i : Nat) (v : Int) : Nat → Int := fun k => if k = i then v else d k
theorem dAt_i (i : Nat) (v : Int) : dAt d i v i = v := if_pos rfl
theorem dAt_lt {i k : Nat} (v : Int) (h : k < i) : dAt d i v k = d k := if_neg (by omega)
theorem dAt_inr {P i : Nat} {v : Int} (h : inr P d i) (hv : -1 ≤ v ∧ v < P) : inr P (dAt d i v) (i + 1) := fun k hk => by
  by_cases e : k = i
  · rw [e, dAt_i]; exact hv
  · rw [dAt_lt v (by omega)]; exact h k (by omega)
theorem dAt_cdd {P : Nat} (i : Nat) (v : Int) : cdd P (dAt d i v) i = cdd P d i := cdd_congr (fun k hk => dAt_lt v hk)
theorem sQ_lt {i : Nat} {v : Int} {q : Nat} (hd : inr (u 148 2).toNat d i) (hvv : -1 ≤ v ∧ v < ((u 148 2).toNat : Nat)) (hq : dig (u 148 2).toNat v = q) {e : Nat → Int} (he : inr (u 148 2).toNat e (i + 1)) : (sQ (u 148 2).toNat d i q e ↔ sLt (u 148 2).toNat (dAt d i v) (i + 1) e) ∧ (sLe' (u 148 2).toNat (dAt d i v) (i + 1) e ↔ sQ (u 148 2).toNat d i (q + 1) e) := by
  have h1 := cdd_lt he (dAt_inr hd hvv) (show i < i + 1 by omega)
  have h2 := cdd_lt (dAt_inr hd hvv) he (show i < i + 1 by omega)
  rw [dAt_cdd, dAt_i, hq] at h1 h2
  unfold sQ sLt sLe'
  constructor
  · exact h1.symm
  · constructor
    · intro w
      have : ¬ cdd (u 148 2).toNat (dAt d i v) (i + 1) < cdd (u 148 2).toNat e (i + 1) := by omega
      rw [h2] at this
      omega
    · intro w
      have : ¬ cdd (u 148 2).toNat (dAt d i v) (i + 1) < cdd (u 148 2).toNat e (i + 1) := by
        rw [h2]
        omega
      omega
theorem sQ_end {i : Nat} {e : Nat → Int} (he : inr (u 148 2).toNat e (i + 1)) : sQ (u 148 2).toNat d i ((u 148 2).toNat + 1) e ↔ sLe' (u 148 2).toNat d i e := by
  have := dig_le (he i (by omega)).2
  unfold sQ sLe'
  omega
theorem sQ_dc {i q : Nat} (hi : i < z) : pDC (u 148 2).toNat z (sQ (u 148 2).toNat d i q) := fun e e' he he' hle hS => by
  have h1 := cdd_mono he he' (show i ≤ z by omega) (show i ≤ z by omega) (Nat.le_refl _) hle
  have h2 := cdd_mono he he' (show i + 1 ≤ z by omega) (show i + 1 ≤ z by omega) (Nat.le_refl _) hle
  have h3 := cdd_lt he' he hi
  unfold sQ at hS ⊢
  omega
/-- a pitch that isn't open or free: no way there -/
theorem bJ_no {i : Nat} {q : Nat} {m : Nat → Nat → Int} (hi : i < z) (hd : inr (u 148 2).toNat d i) (h : bJ u mem z (sQ (u 148 2).toNat d i q) m) (hq : (q : Int) < u 148 2) (hno : ¬ wOk u mem (wAs mem (pOn u) d i) i q) : bJ u mem z (sQ (u 148 2).toNat d i (q + 1)) m := by
  refine bI_skip h (sQ_dc hi) (fun d' _ hs => by unfold sQ at hs ⊢; omega) (fun d' hd' hs hs2 hV => ?_)
  exfalso
  have he : cdd (u 148 2).toNat d' i = cdd (u 148 2).toNat d i ∧ dig (u 148 2).toNat (d' i) = q := by unfold sQ at hs hs2; omega
  have hk := cdd_inj (inr_le hd' (show i ≤ z by omega)) hd (Nat.le_refl i) he.1
  have hdi := hd' i hi
  have hdq : d' i = q := by
    have := he.2
    unfold dig at this
    split at this <;> omega
  have hV2 : wV u mem (pOn u) z d' := hV
  have h9 := hV2 i hi (by omega)
  rw [wAs_congr hk, hdq] at h9
  exact hno h9
end TRY

/-! ===== plan: the ways of the members ===== -/
/-- the members from on0, where they wait; d k: where the k-th is put -/
def wAs (mem : Nat → Nat) (on0 : Nat → Int) (d : Nat → Int) : Nat → Nat → Int
  | 0 => on0
  | i + 1 => oUp (wAs mem on0 d i) (mem i) (d i)
def wM (mi : Nat → Nat → Int) (mem : Nat → Nat) (on0 : Nat → Int) (n : Nat) : Prop := (∀ i, i < n → mem i < (mi 148 6).toNat ∧ on0 (mem i) = -1) ∧ (∀ i j, i < n → j < n → mem i = mem j → i = j) ∧ ∀ b : Nat, b < (mi 148 6).toNat → on0 b < mi 148 2
def wOk (mi : Nat → Nat → Int) (mem : Nat → Nat) (on : Nat → Int) (k : Nat) (p : Int) : Prop := mWhy mi (mem k) p = 0 ∧ oFr mi on (mi 148 6).toNat (mem k) p
def wV (mi : Nat → Nat → Int) (mem : Nat → Nat) (on0 : Nat → Int) (i : Nat) (d : Nat → Int) : Prop := ∀ k, k < i → 0 ≤ d k → wOk mi mem (wAs mem on0 d k) k (d k)
def wO (d : Nat → Int) : Nat → Int
  | 0 => 0
  | i + 1 => wO d i + if 0 ≤ d i then 1 else 0
def wGp (mi : Nat → Nat → Int) (mem : Nat → Nat) (on0 : Nat → Int) (i : Nat) (d : Nat → Int) : Int := oGs mi (wAs mem on0 d i) (mi 148 6).toNat (mi 148 2).toNat
def wFa (mi : Nat → Nat → Int) (mem : Nat → Nat) (on0 : Nat → Int) (i : Nat) (d : Nat → Int) : Int := oA mi (wAs mem on0 d i) (mi 148 6).toNat
def wW (mi : Nat → Nat → Int) (mem : Nat → Nat) (on0 : Nat → Int) (n : Nat) : pWay := (wV mi mem on0 n, fun d => wO d n, wGp mi mem on0 n, wFa mi mem on0 n)
section WM
variable {mi : Nat → Nat → Int} {mem : Nat → Nat} {on0 : Nat → Int} {n : Nat}
theorem wAs_congr {d d' : Nat → Int} : ∀ {i : Nat}, (∀ k, k < i → d k = d' k) → wAs mem on0 d i = wAs mem on0 d' i
  | 0, _ => rfl
  | i + 1, h => by
    have ih := wAs_congr (i := i) (fun k hk => h k (by omega))
    show oUp (wAs mem on0 d i) (mem i) (d i) = oUp (wAs mem on0 d' i) (mem i) (d' i)
    rw [ih, h i (by omega)]
theorem wO_congr {d d' : Nat → Int} : ∀ {i : Nat}, (∀ k, k < i → d k = d' k) → wO d i = wO d' i
  | 0, _ => rfl
  | i + 1, h => by
    have ih := wO_congr (i := i) (fun k hk => h k (by omega))
    show wO d i + (if 0 ≤ d i then 1 else 0) = wO d' i + (if 0 ≤ d' i then 1 else 0)
    rw [ih, h i (by omega)]
theorem wV_congr {i : Nat} {d d' : Nat → Int} (h : ∀ k, k < i → d k = d' k) (hv : wV mi mem on0 i d) : wV mi mem on0 i d' := fun k hk h0 => by
  have := hv k hk (by rw [h k hk]; exact h0)
  rw [wAs_congr (d := d) (d' := d') (fun j hj => h j (by omega)), h k hk] at this
  exact this
theorem wExt : pExt (wW mi mem on0 n) n := fun d d' h => ⟨wV_congr h, wO_congr h, by show wGp mi mem on0 n d = wGp mi mem on0 n d'; unfold wGp; rw [wAs_congr h], by show wFa mi mem on0 n d = wFa mi mem on0 n d'; unfold wFa; rw [wAs_congr h]⟩
theorem wAs_off {d : Nat → Int} {b : Nat} : ∀ {i : Nat}, (∀ k, k < i → ¬ mem k = b) → wAs mem on0 d i b = on0 b
  | 0, _ => rfl
  | i + 1, h => by
    show oUp (wAs mem on0 d i) (mem i) (d i) b = on0 b
    rw [oUp_n _ _ (fun e => h i (by omega) e.symm)]
    exact wAs_off (fun k hk => h k (by omega))
theorem wAs_late (hM : wM mi mem on0 n) {d : Nat → Int} {i k : Nat} (hi : i ≤ k) (hk : k < n) : wAs mem on0 d i (mem k) = -1 := by
  rw [wAs_off (fun j hj e => by have := hM.2.1 j k (by omega) hk e; omega)]
  exact (hM.1 k hk).2
theorem wAs_at (hM : wM mi mem on0 n) {d : Nat → Int} {k : Nat} : ∀ {i : Nat}, i ≤ n → k < i → wAs mem on0 d i (mem k) = d k
  | 0, _, h => absurd h (by omega)
  | i + 1, hi, h => by
    show oUp (wAs mem on0 d i) (mem i) (d i) (mem k) = d k
    by_cases e : k = i
    · subst e; exact oUp_a _ _ _
    · rw [oUp_n _ _ (fun q => e (hM.2.1 k i (by omega) (by omega) q))]
      exact wAs_at hM (by omega) (by omega)
theorem oUp_id {on : Nat → Int} {a : Nat} {p : Int} (h : on a = p) : oUp on a p = on := by
  funext b
  unfold oUp
  split
  · rename_i e; subst e; exact h.symm
  · rfl
theorem wAs_wait (hM : wM mi mem on0 n) {d : Nat → Int} {i : Nat} (hi : i < n) (h : d i = -1) : wAs mem on0 d (i + 1) = wAs mem on0 d i := by
  show oUp (wAs mem on0 d i) (mem i) (d i) = _
  exact oUp_id (by rw [h]; exact wAs_late hM (Nat.le_refl _) hi)
/-- who was there at the start is there -/
theorem wAs_base (hM : wM mi mem on0 n) {d : Nat → Int} {i b : Nat} (hi : i ≤ n) (h : 0 ≤ on0 b) : wAs mem on0 d i b = on0 b :=
  wAs_off (fun k hk e => by have := (hM.1 k (by omega)).2; rw [e] at this; omega)
theorem oFr_base (hM : wM mi mem on0 n) {d : Nat → Int} {i a : Nat} {p : Int} (hi : i ≤ n) (p0 : 0 ≤ p) (h : oFr mi (wAs mem on0 d i) (mi 148 6).toNat a p) : oFr mi on0 (mi 148 6).toNat a p := fun b hb hne e =>
  h b hb hne (by rw [wAs_base hM hi (by omega)]; exact e)
/-- bounds: how many more, how many gaps fewer, from the i-th member on -/
def wBd (mi : Nat → Nat → Int) (mem : Nat → Nat) (on0 : Nat → Int) (n : Nat) (mo mf : Nat → Int) : Prop := mo n = 0 ∧ mf n = 0 ∧ ∀ i, i < n → mo (i + 1) ≤ mo i ∧ mf (i + 1) ≤ mf i ∧ ((∃ p : Int, (0 ≤ p ∧ p < mi 148 2) ∧ wOk mi mem on0 i p) → mo i = mo (i + 1) + 1 ∧ mf i = mf (i + 1) + if mOf mi (mem i) 5 = 1 then 1 else 0)
theorem oY_pos (hv : SV mi) {on : Nat → Int} (hon : ∀ b : Nat, (b : Int) < mi 148 6 → on b < mi 148 2) {a : Nat} {p : Int} (p0 : 0 ≤ p) (p1 : p < mi 148 2) : ∀ k : Nat, (k : Int) ≤ mi 148 6 → 0 ≤ oY mi on a p k
  | 0, _ => by show (0 : Int) ≤ 0; omega
  | k + 1, hk => by
    have ih := oY_pos hv hon (a := a) p0 p1 k (by omega)
    show 0 ≤ oY mi on a p k + oY1 mi on a p k
    have : 0 ≤ oY1 mi on a p k := by
      unfold oY1
      split
      · rename_i c
        have h1 := mFar_b (hv.2.2.2.2.2 p p0 p1) (hv.2.2.2.2.2 (on k) c.2 (hon k (by omega)))
        refine Int.mul_nonneg ?_ h1.1
        unfold oWi
        split <;> split <;> omega
      · omega
    omega
theorem wAs_b (hP : 0 ≤ mi 148 2) (hM : wM mi mem on0 n) {d : Nat → Int} (hd : inr (mi 148 2).toNat d n) : ∀ {i : Nat}, i ≤ n → ∀ b : Nat, (b : Int) < mi 148 6 → wAs mem on0 d i b < mi 148 2
  | 0, _, b, hb => hM.2.2 b (by omega)
  | i + 1, hi, b, hb => by
    have ih := wAs_b hP hM hd (i := i) (by omega) b hb
    show oUp (wAs mem on0 d i) (mem i) (d i) b < mi 148 2
    unfold oUp
    split
    · have := hd i (by omega); omega
    · exact ih
theorem wBound (hv : SV mi) (hM : wM mi mem on0 n) {mo mf : Nat → Int} (hB : wBd mi mem on0 n mo mf) {d : Nat → Int} (hd : inr (mi 148 2).toNat d n) (hV : wV mi mem on0 n d) : ∀ r i : Nat, i + r = n → wO d n ≤ wO d i + mo i ∧ wGp mi mem on0 i d - mf i ≤ wGp mi mem on0 n d ∧ wFa mi mem on0 i d ≤ wFa mi mem on0 n d
  | 0, i, h => by
    have : i = n := by omega
    subst this
    have := hB.1
    have := hB.2.1
    omega
  | r + 1, i, h => by
    obtain ⟨i1, i2, i3⟩ := wBound hv hM hB hd hV r (i + 1) (by omega)
    obtain ⟨b1, b2, b3⟩ := hB.2.2 i (by omega)
    have hdi := hd i (by omega)
    have eO : wO d (i + 1) = wO d i + if 0 ≤ d i then 1 else 0 := rfl
    by_cases c : 0 ≤ d i
    · rw [if_pos c] at eO
      have hok := hV i (by omega) c
      have hok0 : wOk mi mem on0 i (d i) := ⟨hok.1, oFr_base hM (by omega) c hok.2⟩
      obtain ⟨q1, q2⟩ := b3 ⟨d i, ⟨c, by omega⟩, hok0⟩
      have hm := hM.1 i (by omega)
      have hl := wAs_late hM (d := d) (Nat.le_refl i) (by omega : i < n)
      have hpv := hv.2.2.2.2.1 (mem i) (by omega) (by omega)
      have g1 := oGs_up (mi := mi) (on := wAs mem on0 d i) (N := (mi 148 6).toNat) (a := mem i) (p := d i) hm.1 (by omega) c (mi 148 2).toNat
      rw [if_pos (by omega)] at g1
      have g2 := oG_low (mi := mi) (on := wAs mem on0 d i) (N := (mi 148 6).toNat) (a := mem i) (p := d i) hm.1 (by omega) c hpv.2.2.2.2.2.1.1 hok.2
      have g3 : wGp mi mem on0 (i + 1) d = oGs mi (oUp (wAs mem on0 d i) (mem i) (d i)) (mi 148 6).toNat (mi 148 2).toNat := rfl
      have g4 : wGp mi mem on0 i d = oGs mi (wAs mem on0 d i) (mi 148 6).toNat (mi 148 2).toNat := rfl
      have f1 := oA_up (mi := mi) (on := wAs mem on0 d i) (N := (mi 148 6).toNat) (a := mem i) (p := d i) hm.1 (by omega) c (by have := hpv.2.2.2.2.2.2.2.2.1; omega)
      have f2 := oY_pos hv (on := wAs mem on0 d i) (wAs_b hv.2.2.1.1 hM hd (by omega)) (a := mem i) (p := d i) c (by omega) (mi 148 6).toNat (by have := hv.2.2.2.1; omega)
      have f3 : wFa mi mem on0 (i + 1) d = oA mi (oUp (wAs mem on0 d i) (mem i) (d i)) (mi 148 6).toNat := rfl
      have f4 : wFa mi mem on0 i d = oA mi (wAs mem on0 d i) (mi 148 6).toNat := rfl
      refine ⟨by omega, ?_, by omega⟩
      by_cases c5 : mOf mi (mem i) 5 = 1
      · rw [if_pos c5] at q2 g2
        omega
      · rw [if_neg c5] at q2 g2
        omega
    · rw [if_neg c] at eO
      have hw := wAs_wait hM (d := d) (i := i) (by omega) (by omega)
      have g3 : wGp mi mem on0 (i + 1) d = wGp mi mem on0 i d := by unfold wGp; rw [hw]
      have f3 : wFa mi mem on0 (i + 1) d = wFa mi mem on0 i d := by unfold wFa; rw [hw]
      exact ⟨by omega, by omega, by omega⟩
/-- the reference asks each member once all are laid -/
theorem mMeet_sym (a b : Int) : mMeet mi a b = mMeet mi b a := by
  unfold mMeet b2
  by_cases c : mOf mi a 4 < mOf mi b 4 + mOf mi b 5 ∧ mOf mi b 4 < mOf mi a 4 + mOf mi a 5
  · rw [if_pos c, if_pos c.symm]
  · rw [if_neg c, if_neg (fun q => c q.symm)]
theorem wV_full (hM : wM mi mem on0 n) {d : Nat → Int} : wV mi mem on0 n d ↔ ∀ k, k < n → 0 ≤ d k → wOk mi mem (wAs mem on0 d n) k (d k) := by
  constructor
  · intro h k hk h0
    refine ⟨(h k hk h0).1, fun b hb hne e => ?_⟩
    by_cases c : ∃ j, j < n ∧ mem j = b
    · obtain ⟨j, hj, rfl⟩ := c
      rw [wAs_at hM (Nat.le_refl _) hj] at e
      by_cases cj : j < k
      · exact (h k hk h0).2 (mem j) hb hne (by rw [wAs_at hM (by omega) cj]; exact e)
      · have hjk : ¬ j = k := fun q => hne (by rw [q])
        rw [mMeet_sym]
        exact (h j hj (by omega)).2 (mem k) (hM.1 k hk).1 (fun q => hne q.symm) (by rw [wAs_at hM (by omega) (by omega)]; exact e.symm)
    · have hoff : ∀ i, i ≤ n → wAs mem on0 d i b = on0 b := fun i hi => wAs_off (fun j hj q => c ⟨j, by omega, q⟩)
      rw [hoff n (Nat.le_refl _)] at e
      exact (h k hk h0).2 b hb hne (by rw [hoff k (by omega)]; exact e)
  · intro h k hk h0
    refine ⟨(h k hk h0).1, fun b hb hne e => ?_⟩
    by_cases c : ∃ j, j < n ∧ mem j = b
    · obtain ⟨j, hj, rfl⟩ := c
      by_cases cj : j < k
      · rw [wAs_at hM (by omega) cj] at e
        exact (h k hk h0).2 (mem j) hb hne (by rw [wAs_at hM (Nat.le_refl _) hj]; exact e)
      · rw [wAs_late hM (by omega) hj] at e
        omega
    · have hoff : ∀ i, i ≤ n → wAs mem on0 d i b = on0 b := fun i hi => wAs_off (fun j hj q => c ⟨j, by omega, q⟩)
      rw [hoff k (by omega)] at e
      exact (h k hk h0).2 b hb hne (by rw [hoff n (Nat.le_refl _)]; exact e)
end WM

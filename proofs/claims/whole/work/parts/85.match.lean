/-! ===== sets of pitches as ints; who can be moved at most ===== -/
def ib (z : Int) (i : Nat) : Bool := (iI z).toBitVec.getLsbD i
theorem ib_or (a b : Int) (i : Nat) : ib (orI a b) i = (ib a i || ib b i) := by
  unfold ib orI
  rw [iI_of, Int32.toBitVec_or, BitVec.getLsbD_or]
theorem ib_and (a b : Int) (i : Nat) : ib (andI a b) i = (ib a i && ib b i) := by
  unfold ib andI
  rw [iI_of, Int32.toBitVec_and, BitVec.getLsbD_and]
theorem ib_m1 : ∀ i, i < 32 → ib (-1) i = true := by decide +kernel
theorem ib_not (a : Int) {i : Nat} (hi : i < 32) : ib (xorI a (-1)) i = !ib a i := by
  have h : ib (xorI a (-1)) i = (ib a i ^^ ib (-1) i) := by
    unfold ib xorI
    rw [iI_of, Int32.toBitVec_xor, BitVec.getLsbD_xor]
  rw [h, ib_m1 i hi]
  cases ib a i <;> rfl
theorem ib_shl : ∀ p, p < 12 → ∀ i, i < 12 → ib (shlI 1 (p : Nat)) i = decide (i = p) := by decide +kernel
theorem ib_zero (i : Nat) : ib 0 i = false := by
  unfold ib
  show (0#32).getLsbD i = false
  exact BitVec.getLsbD_zero
theorem shr_tab : ∀ p, p < 12 → ((iI ((p : Nat) : Int) &&& 31).toBitVec.smod 32#32).toNat = p := by decide +kernel
theorem bit_ib (a : Int) {p : Nat} (hp : p < 12) : andI (shrI a (p : Nat)) 1 = if ib a p = true then 1 else 0 := by
  have h0 : ((iI a >>> (iI ((p : Nat) : Int) &&& 31)).toBitVec).getLsbD 0 = ib a p := by
    rw [Int32.toBitVec_shiftRight]
    show ((iI a).toBitVec.sshiftRight ((iI ((p : Nat) : Int) &&& 31).toBitVec.smod 32#32).toNat).getLsbD 0 = _
    rw [shr_tab p hp, BitVec.getLsbD_sshiftRight]
    rw [if_pos (by omega)]
    rfl
  unfold andI shrI
  rw [iI_of]
  generalize (iI a >>> (iI ((p : Nat) : Int) &&& 31)) = X at h0
  have h1 : (X &&& iI 1).toInt = (X.toBitVec &&& 1#32).toInt := by
    rw [← Int32.toInt_toBitVec, Int32.toBitVec_and]
    rfl
  have hn : (X.toBitVec &&& 1#32).toNat = X.toBitVec.toNat % 2 := by
    rw [BitVec.toNat_and]
    exact Nat.and_one_is_mod _
  rw [h1, BitVec.toInt_eq_toNat_of_lt (by rw [hn]; omega), hn, ← h0]
  have h2 : X.toBitVec.getLsbD 0 = decide (X.toBitVec.toNat % 2 = 1) := by
    show X.toBitVec.toNat.testBit 0 = _
    exact Nat.testBit_zero _
  rw [h2]
  by_cases c : X.toBitVec.toNat % 2 = 1
  · rw [decide_eq_true c, if_pos rfl, c]; rfl
  · rw [decide_eq_false c, if_neg (by decide), show X.toBitVec.toNat % 2 = 0 by omega]; rfl
theorem shl_pow : ∀ p, p < 13 → shlI 1 (p : Nat) = ((2 ^ p : Nat) : Int) := by decide +kernel
theorem pow_le12 : ∀ n, n < 13 → 2 ^ n ≤ 4096 := by decide
theorem or_set {s : Int} {n p : Nat} (h0 : 0 ≤ s) (h1 : s < ((2 ^ n : Nat) : Int)) (hn : n ≤ 12) (hp : p < n) : 0 ≤ orI s (shlI 1 (p : Nat)) ∧ orI s (shlI 1 (p : Nat)) < ((2 ^ n : Nat) : Int) := by
  have hb := pow_le12 n (by omega)
  have hpp : 2 ^ p < 2 ^ n := Nat.pow_lt_pow_right (by decide) hp
  have e1 : (iI s).toBitVec.toNat = s.toNat := by
    show (BitVec.ofInt 32 s).toNat = _
    rw [BitVec.toNat_ofInt]
    omega
  have e2 : (iI (shlI 1 (p : Nat))).toBitVec.toNat = 2 ^ p := by
    rw [shl_pow p (by omega)]
    show (BitVec.ofInt 32 ((2 ^ p : Nat) : Int)).toNat = _
    have hP : 2 ^ p < 4096 := by omega
    generalize 2 ^ p = P2 at hP ⊢
    rw [BitVec.toNat_ofInt]
    omega
  have hl : s.toNat ||| 2 ^ p < 2 ^ n := Nat.or_lt_two_pow (by omega) hpp
  have e3 : orI s (shlI 1 (p : Nat)) = ((s.toNat ||| 2 ^ p : Nat) : Int) := by
    unfold orI
    have hn3 : (iI s ||| iI (shlI 1 (p : Nat))).toBitVec.toNat = s.toNat ||| 2 ^ p := by
      rw [Int32.toBitVec_or, BitVec.toNat_or, e1, e2]
    rw [← Int32.toInt_toBitVec, BitVec.toInt_eq_toNat_of_lt (by rw [hn3]; omega), hn3]
  rw [e3]
  omega
/-! counting -/
theorem cntB_mono {f g : Nat → Bool} : ∀ {n : Nat}, (∀ i, i < n → f i = true → g i = true) → cntB f n ≤ cntB g n
  | 0, _ => Nat.le_refl _
  | n + 1, h => by
    have ih := cntB_mono (f := f) (g := g) (n := n) (fun i hi => h i (by omega))
    have := h n (by omega)
    show cntB f n + (f n).toNat ≤ cntB g n + (g n).toNat
    cases hf : f n
    · simp only [Bool.toNat_false]; omega
    · rw [this hf]; simp only [Bool.toNat_true]; omega
theorem cntB_upd {g : Nat → Bool} {b : Bool} {p : Nat} : ∀ {n : Nat}, p < n → cntB (fun i => if i = p then b else g i) n + (g p).toNat = cntB g n + b.toNat
  | 0, h => absurd h (by omega)
  | n + 1, h => by
    show cntB (fun i => if i = p then b else g i) n + (if n = p then b else g n).toNat + (g p).toNat = cntB g n + (g n).toNat + b.toNat
    by_cases e : n = p
    · subst e
      rw [if_pos rfl]
      have : cntB (fun i => if i = n then b else g i) n = cntB g n := cntB_congr (fun k hk => if_neg (by omega))
      omega
    · rw [if_neg e]
      have := cntB_upd (g := g) (b := b) (p := p) (n := n) (by omega)
      omega
theorem cntB_two {f : Nat → Bool} {p q : Nat} : ∀ {n : Nat}, p < q → q < n → f p = true → f q = true → 2 ≤ cntB f n
  | 0, _, h, _, _ => absurd h (by omega)
  | n + 1, h1, h2, h3, h4 => by
    show 2 ≤ cntB f n + (f n).toNat
    by_cases e : q = n
    · subst e
      rw [h4]
      have : 1 ≤ cntB f q := by
        have hm := cntB_mono (f := fun i => if i = p then true else false) (g := f) (n := q) (fun i hi hh => by
          by_cases ei : i = p
          · rw [ei]; exact h3
          · simp only [if_neg ei] at hh; cases hh)
        have hu := cntB_upd (g := fun _ => false) (b := true) (p := p) (n := q) h1
        have hz := cntB_false (f := fun _ => false) (n := q) (fun _ _ => rfl)
        simp only [Bool.toNat_true, Bool.toNat_false] at hu
        omega
      simp only [Bool.toNat_true]
      omega
    · have := cntB_two (f := f) h1 (n := n) (by omega) h3 h4
      omega
theorem cntB_one {f : Nat → Bool} : ∀ {n : Nat}, (∀ p q, p < n → q < n → f p = true → f q = true → p = q) → cntB f n ≤ 1
  | 0, _ => by show 0 ≤ 1; omega
  | n + 1, h => by
    have ih := cntB_one (f := f) (n := n) (fun p q hp hq => h p q (by omega) (by omega))
    show cntB f n + (f n).toNat ≤ 1
    cases hf : f n
    · simp only [Bool.toNat_false]; omega
    · have : cntB f n = 0 := cntB_false (fun k hk => by
        cases hk2 : f k
        · rfl
        · have := h k n (by omega) (by omega) hk2 hf
          omega)
      simp only [Bool.toNat_true]
      omega
/-! who goes where: a pitch's party, -1 none -/
def mVal (can : Nat → Nat → Bool) (w k : Nat) (S : Nat → Bool) (f : Nat → Int) : Prop := (∀ p, p < 12 → 0 ≤ f p → k ≤ (f p).toNat ∧ (f p).toNat < w ∧ can (f p).toNat p = true ∧ S p = false) ∧ ∀ p q, p < 12 → q < 12 → 0 ≤ f p → f p = f q → p = q
def mCnt (f : Nat → Int) : Nat := cntB (fun p => decide (0 ≤ f p)) 12
def mMax (can : Nat → Nat → Bool) (w k : Nat) (S : Nat → Bool) (n : Nat) : Prop := (∃ f, mVal can w k S f ∧ mCnt f = n) ∧ ∀ f, mVal can w k S f → mCnt f ≤ n
section MM
variable {can : Nat → Nat → Bool} {w k : Nat} {S : Nat → Bool}
theorem mMax_u {n n' : Nat} (h : mMax can w k S n) (h' : mMax can w k S n') : n = n' := by
  obtain ⟨⟨f, f1, f2⟩, a⟩ := h
  obtain ⟨⟨g, g1, g2⟩, b⟩ := h'
  have := a g g1
  have := b f f1
  omega
theorem mCnt_none {f : Nat → Int} (h : ∀ p, p < 12 → f p < 0) : mCnt f = 0 := cntB_false (fun p hp => decide_eq_false (by have := h p hp; omega))
theorem mVal_none (f : Nat → Int) (h : ∀ p, p < 12 → f p < 0) : mVal can w k S f := ⟨fun p hp q => by have := h p hp; omega, fun p q hp _ h0 => by have := h p hp; omega⟩
theorem mMax_end (h : w ≤ k) : mMax can w k S 0 := by
  refine ⟨⟨fun _ => -1, mVal_none _ (fun _ _ => by omega), mCnt_none (fun _ _ => by omega)⟩, fun f hf => ?_⟩
  have : ∀ p, p < 12 → f p < 0 := fun p hp => by
    by_cases c : 0 ≤ f p
    · have := hf.1 p hp c; omega
    · omega
  rw [mCnt_none this]
  exact Nat.le_refl _
theorem mCnt_upd {f : Nat → Int} {p : Nat} {v : Int} (hp : p < 12) : mCnt (fun i => if i = p then v else f i) + (decide (0 ≤ f p)).toNat = mCnt f + (decide (0 ≤ v)).toNat := by
  have h := cntB_upd (g := fun i => decide (0 ≤ f i)) (b := decide (0 ≤ v)) (p := p) (n := 12) hp
  have e : mCnt (fun i => if i = p then v else f i) = cntB (fun i => if i = p then decide (0 ≤ v) else decide (0 ≤ f i)) 12 := cntB_congr (fun i hi => by
    by_cases e : i = p
    · simp only [if_pos e]
    · simp only [if_neg e])
  rw [e]
  exact h
/-- a row of the reference's table out of the next -/
theorem mMax_step {n d0 : Nat} (hk : k < w) (h0 : mMax can w (k + 1) S d0) (h1 : ∀ p, p < 12 → can k p = true → S p = false → ∃ d, mMax can w (k + 1) (fun q => S q || decide (q = p)) d ∧ 1 + d ≤ n) (hd : d0 ≤ n) (hn : n = d0 ∨ ∃ p, p < 12 ∧ can k p = true ∧ S p = false ∧ ∃ d, mMax can w (k + 1) (fun q => S q || decide (q = p)) d ∧ n = 1 + d) : mMax can w k S n := by
  constructor
  · rcases hn with rfl | ⟨p, hp, hc, hs, d, ⟨⟨f, f1, f2⟩, -⟩, rfl⟩
    · obtain ⟨⟨f, f1, f2⟩, -⟩ := h0
      exact ⟨f, ⟨fun p hp q => by have := f1.1 p hp q; exact ⟨by omega, this.2⟩, f1.2⟩, f2⟩
    · have fp : ¬ 0 ≤ f p := fun q => by
        have := (f1.1 p hp q).2.2.2
        simp at this
      refine ⟨fun i => if i = p then (k : Int) else f i, ⟨fun i hi => ?_, fun i j hi hj => ?_⟩, ?_⟩
      · by_cases e : i = p
        · simp only [if_pos e]
          intro _
          rw [e, show ((k : Nat) : Int).toNat = k by omega]
          exact ⟨Nat.le_refl _, hk, hc, hs⟩
        · simp only [if_neg e]
          intro q
          have := f1.1 i hi q
          refine ⟨by omega, this.2.1, this.2.2.1, ?_⟩
          have h4 := this.2.2.2
          simp only [Bool.or_eq_false_iff] at h4
          exact h4.1
      · by_cases e : i = p
        · by_cases e' : j = p
          · intros; omega
          · simp only [if_pos e, if_neg e']
            intro _ q
            have := (f1.1 j hj (by omega)).1
            omega
        · by_cases e' : j = p
          · simp only [if_neg e, if_pos e']
            intro q0 q
            have := (f1.1 i hi q0).1
            omega
          · simp only [if_neg e, if_neg e']
            exact f1.2 i j hi hj
      · have := mCnt_upd (f := f) (p := p) (v := (k : Int)) hp
        rw [decide_eq_false fp, decide_eq_true (show (0 : Int) ≤ (k : Int) by omega)] at this
        simp only [Bool.toNat_true, Bool.toNat_false] at this
        omega
  · intro f hf
    by_cases hu : ∃ p, p < 12 ∧ f p = (k : Int)
    · obtain ⟨p, hp, e⟩ := hu
      have hv := hf.1 p hp (by omega)
      rw [e, show ((k : Nat) : Int).toNat = k by omega] at hv
      obtain ⟨d, hd1, hd2⟩ := h1 p hp hv.2.2.1 hv.2.2.2
      have hle := hd1.2 (fun i => if i = p then -1 else f i) ⟨fun i hi => (by
        by_cases ei : i = p
        · simp only [if_pos ei]; intro q; omega
        · simp only [if_neg ei]
          intro q
          have := hf.1 i hi q
          have hne : f i ≠ (k : Int) := fun z => ei (hf.2 i p hi hp q (z.trans e.symm))
          refine ⟨by omega, this.2.1, this.2.2.1, ?_⟩
          rw [this.2.2.2, decide_eq_false ei]
          rfl), fun i j hi hj => (by
        by_cases ei : i = p
        · simp only [if_pos ei]; intro q; omega
        · simp only [if_neg ei]
          by_cases ej : j = p
          · simp only [if_pos ej]; intro q0 q; omega
          · simp only [if_neg ej]; exact hf.2 i j hi hj)⟩
      have := mCnt_upd (f := f) (p := p) (v := -1) hp
      rw [decide_eq_true (show 0 ≤ f p by omega), decide_eq_false (by omega)] at this
      simp only [Bool.toNat_true, Bool.toNat_false] at this
      omega
    · have := h0.2 f ⟨fun p hp q => (by
        have := hf.1 p hp q
        have hne : f p ≠ (k : Int) := fun z => hu ⟨p, hp, z⟩
        exact ⟨by omega, this.2⟩), hf.2⟩
      omega
/-- one more is looked at, and finds a way -/
theorem mMax_won {n : Nat} {g : Nat → Int} (h : mMax can w k S n) (hg : mVal can (w + 1) k S g) (hc : mCnt g = n + 1) : mMax can (w + 1) k S (n + 1) := by
  refine ⟨⟨g, hg, hc⟩, fun f hf => ?_⟩
  by_cases hu : ∃ p, p < 12 ∧ f p = (w : Int)
  · obtain ⟨p, hp, e⟩ := hu
    have hle := h.2 (fun i => if i = p then -1 else f i) ⟨fun i hi => (by
      by_cases ei : i = p
      · simp only [if_pos ei]; intro q; omega
      · simp only [if_neg ei]
        intro q
        have := hf.1 i hi q
        have hne : f i ≠ (w : Int) := fun z => ei (hf.2 i p hi hp q (z.trans e.symm))
        exact ⟨this.1, by omega, this.2.2⟩), fun i j hi hj => (by
      by_cases ei : i = p
      · simp only [if_pos ei]; intro q; omega
      · simp only [if_neg ei]
        by_cases ej : j = p
        · simp only [if_pos ej]; intro q0 q; omega
        · simp only [if_neg ej]; exact hf.2 i j hi hj)⟩
    have := mCnt_upd (f := f) (p := p) (v := -1) hp
    rw [decide_eq_true (show 0 ≤ f p by omega), decide_eq_false (by omega)] at this
    simp only [Bool.toNat_true, Bool.toNat_false] at this
    omega
  · have := h.2 f ⟨fun p hp q => (by
      have := hf.1 p hp q
      have hne : f p ≠ (w : Int) := fun z => hu ⟨p, hp, z⟩
      exact ⟨this.1, by omega, this.2.2⟩), hf.2⟩
    omega
/-- one more is looked at, and finds none: R, the pitches reached, are all given to such as reach no others -/
theorem mMax_lost {n : Nat} {g : Nat → Int} {R : Nat → Bool} (h : mMax can w k S n) (hg : mVal can w k S g) (hj : ∀ p, p < 12 → can w p = true → R p = true) (hR : ∀ p, p < 12 → R p = true → S p = true ∨ (0 ≤ g p ∧ ∀ q, q < 12 → can (g p).toNat q = true → R q = true)) : mMax can (w + 1) k S n := by
  obtain ⟨⟨f0, f1, f2⟩, hmax⟩ := h
  refine ⟨⟨f0, ⟨fun p hp q => by have := f1.1 p hp q; exact ⟨this.1, by omega, this.2.2⟩, f1.2⟩, f2⟩, fun f hf => ?_⟩
  have hv : mVal can w k S (fun p => if R p = true ∧ S p = false then g p else f p) := by
    refine ⟨fun p hp => ?_, fun p q hp hq => ?_⟩
    · by_cases c : R p = true ∧ S p = false
      · simp only [if_pos c]
        exact hg.1 p hp
      · simp only [if_neg c]
        intro h0
        have := hf.1 p hp h0
        refine ⟨this.1, ?_, this.2.2⟩
        by_cases e : (f p).toNat = w
        · rw [e] at this
          exact absurd ⟨hj p hp this.2.2.1, this.2.2.2⟩ c
        · omega
    · by_cases c : R p = true ∧ S p = false
      · by_cases c' : R q = true ∧ S q = false
        · simp only [if_pos c, if_pos c']
          exact hg.2 p q hp hq
        · simp only [if_pos c, if_neg c']
          intro h0 e
          exfalso
          have hfq := hf.1 q hq (by omega)
          rcases hR p hp c.1 with z | ⟨z1, z2⟩
          · rw [c.2] at z; cases z
          · rw [e] at z2
            exact c' ⟨z2 q hq hfq.2.2.1, hfq.2.2.2⟩
      · by_cases c' : R q = true ∧ S q = false
        · simp only [if_neg c, if_pos c']
          intro h0 e
          exfalso
          have hfp := hf.1 p hp h0
          rcases hR q hq c'.1 with z | ⟨z1, z2⟩
          · rw [c'.2] at z; cases z
          · rw [← e] at z2
            exact c ⟨z2 p hp hfp.2.2.1, hfp.2.2.2⟩
        · simp only [if_neg c, if_neg c']
          exact hf.2 p q hp hq
  have h1 := hmax _ hv
  have h2 : mCnt f ≤ mCnt (fun p => if R p = true ∧ S p = false then g p else f p) := cntB_mono (fun p hp hh => by
    by_cases c : R p = true ∧ S p = false
    · simp only [if_pos c]
      rcases hR p hp c.1 with z | ⟨z1, z2⟩
      · rw [c.2] at z; cases z
      · exact decide_eq_true z1
    · simp only [if_neg c]
      exact hh)
  omega
end MM
theorem php_le {n m : Nat} {f : Nat → Nat} (hf : ∀ i, i < n → f i < m) (hi : ∀ i j, i < n → j < n → f i = f j → i = j) : n ≤ m := by
  by_cases h : n ≤ m
  · exact h
  · exfalso
    obtain ⟨i, h1, h2⟩ := php m f (fun i hi' => hf i (by omega)) (fun i j h1 h2 => hi i j (by omega) (by omega)) (f m) (hf m (by omega))
    have := hi i m (by omega) (by omega) h2
    omega

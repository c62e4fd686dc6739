/-! ===== the queue at the showers ===== -/
theorem php : ∀ (n : Nat) (f : Nat → Nat), (∀ i, i < n → f i < n) → (∀ i j, i < n → j < n → f i = f j → i = j) → ∀ y, y < n → ∃ i, i < n ∧ f i = y
  | 0, _, _, _, y, hy => absurd hy (by omega)
  | n + 1, f, hf, hi, y, hy => by
    have hz := hf n (by omega)
    have hg : ∀ i, i < n → (if f i = n then f n else f i) < n := fun i hin => by
      by_cases e : f i = n
      · rw [if_pos e]
        have : f n ≠ n := fun q => by have := hi i n (by omega) (by omega) (e.trans q.symm); omega
        omega
      · rw [if_neg e]
        have := hf i (by omega)
        omega
    have hgi : ∀ i j, i < n → j < n → (if f i = n then f n else f i) = (if f j = n then f n else f j) → i = j := fun i j h1 h2 h3 => by
      by_cases e : f i = n
      · by_cases e' : f j = n
        · exact hi i j (by omega) (by omega) (e.trans e'.symm)
        · rw [if_pos e, if_neg e'] at h3
          have := hi n j (by omega) (by omega) h3
          omega
      · by_cases e' : f j = n
        · rw [if_neg e, if_pos e'] at h3
          have := hi i n (by omega) (by omega) h3
          omega
        · rw [if_neg e, if_neg e'] at h3
          exact hi i j (by omega) (by omega) h3
    have ih := php n (fun i => if f i = n then f n else f i) hg hgi
    by_cases hy' : y = n
    · by_cases e : f n = n
      · exact ⟨n, by omega, by omega⟩
      · obtain ⟨i, h1, h2⟩ := ih (f n) (by omega)
        by_cases e' : f i = n
        · exact ⟨i, by omega, by omega⟩
        · simp only [if_neg e'] at h2
          have := hi i n (by omega) (by omega) h2
          omega
    · obtain ⟨i, h1, h2⟩ := ih y (by omega)
      by_cases e' : f i = n
      · simp only [if_pos e'] at h2
        exact ⟨n, by omega, h2⟩
      · simp only [if_neg e'] at h2
        exact ⟨i, by omega, h2⟩
def bMn (fr : Nat → Int) : Nat → Nat
  | 0 => 0
  | k + 1 => if fr (k + 1) < fr (bMn fr k) then k + 1 else bMn fr k
theorem bMn_le (fr : Nat → Int) : ∀ k, bMn fr k ≤ k
  | 0 => Nat.le_refl _
  | k + 1 => by
    have := bMn_le fr k
    show (if fr (k + 1) < fr (bMn fr k) then k + 1 else bMn fr k) ≤ k + 1
    split <;> omega
theorem bMn_congr {fr fr' : Nat → Int} : ∀ {k : Nat}, (∀ j, j ≤ k → fr j = fr' j) → bMn fr k = bMn fr' k
  | 0, _ => rfl
  | k + 1, h => by
    have ih := bMn_congr (k := k) (fun j hj => h j (by omega))
    have := bMn_le fr' k
    show (if fr (k + 1) < fr (bMn fr k) then k + 1 else bMn fr k) = (if fr' (k + 1) < fr' (bMn fr' k) then k + 1 else bMn fr' k)
    rw [ih, h (k + 1) (by omega), h (bMn fr' k) (by omega)]
/-- showers, longest, last, waiting behind k washers -/
def bS (M T : Nat → Int) (S : Nat) : Nat → (Nat → Int) × Int × Int × Int
  | 0 => (fun _ => 0, 0, 0, 0)
  | k + 1 =>
    let q := bS M T S k
    let s := bMn q.1 (S - 1)
    let b := if M k < q.1 s then q.1 s else M k
    (fun j => if j = s then b + T k else q.1 j, if q.2.1 < b - M k then b - M k else q.2.1, if q.2.2.1 < b + T k then b + T k else q.2.2.1, q.2.2.2 + (if 0 < b - M k then 1 else 0))
theorem bS_b {M T : Nat → Int} {S n : Nat} (hM : ∀ i, i < n → 0 ≤ M i ∧ M i ≤ 999) (hT : ∀ i, i < n → 1 ≤ T i ∧ T i ≤ 60) : ∀ k, k ≤ n → (∀ j, 0 ≤ (bS M T S k).1 j ∧ (bS M T S k).1 j ≤ 999 + 60 * k) ∧ (0 ≤ (bS M T S k).2.1 ∧ (bS M T S k).2.1 ≤ 999 + 60 * k) ∧ (0 ≤ (bS M T S k).2.2.1 ∧ (bS M T S k).2.2.1 ≤ 999 + 60 * k) ∧ (0 ≤ (bS M T S k).2.2.2 ∧ (bS M T S k).2.2.2 ≤ k)
  | 0, _ => by
    refine ⟨fun j => ?_, ?_, ?_, ?_⟩ <;> show (0 : Int) ≤ 0 ∧ (0 : Int) ≤ _ <;> omega
  | k + 1, hk => by
    obtain ⟨i1, i2, i3, i4⟩ := bS_b (S := S) hM hT k (by omega)
    have hs := i1 (bMn (bS M T S k).1 (S - 1))
    have m1 := hM k (by omega)
    have t1 := hT k (by omega)
    refine ⟨fun j => ?_, ?_, ?_, ?_⟩ <;> simp only [bS]
    · have := i1 j
      (repeat' split) <;> omega
    · (repeat' split) <;> omega
    · (repeat' split) <;> omega
    · (repeat' split) <;> omega
theorem bS_congr {M T M' T' : Nat → Int} {S : Nat} : ∀ {k : Nat}, (∀ i, i < k → M i = M' i ∧ T i = T' i) → bS M T S k = bS M' T' S k
  | 0, _ => rfl
  | k + 1, h => by
    have ih := bS_congr (M := M) (T := T) (M' := M') (T' := T') (S := S) (k := k) (fun i hi => h i (by omega))
    have := h k (by omega)
    simp only [bS]
    rw [ih, this.1, this.2]
set_option maxRecDepth 100000 in
set_option maxHeartbeats 4000000 in
theorem lW_ff {G : gG} (hsz : G.2.2.2.2.2.2 = true) {n : Nat} (hn : 1 ≤ n) (mi : Nat → Nat → Int) (ml : Nat → Nat → Int64) (S : Int) (S0 : 1 ≤ S) (S1 : S ≤ 6) (hR : gR32 mi) : ∀ (f : Nat) (k : Int), 1 ≤ k → k ≤ S → S - k < f → Go G mX10_firstFree n 0 0 4 [some (gr 7), some (gi S), some (gi ((bMn (fun j => mi 10 j) (k - 1).toNat : Nat) : Int)), some (gi k)] [] (gw mi ml) (gret ((bMn (fun j => mi 10 j) (S - 1).toNat : Nat) : Int) (gw mi ml)) := by
  have hn1 : 1 ≤ n := by omega

  intro f
  induction f with
  | zero => intros; omega
  | succ f ih =>
    intro k k0 k1 k2
    have hle := bMn_le (fun j => mi 10 j) (k - 1).toNat
    have ez : (((bMn (fun j => mi 10 j) (k - 1).toNat : Nat) : Int)).toNat = bMn (fun j => mi 10 j) (k - 1).toNat := by omega
    refine Go.run hsz hn1 2 (pc' := 6) (lv' := [some (gr 7), some (gi S), some (gi ((bMn (fun j => mi 10 j) (k - 1).toNat : Nat) : Int)), some (gi k)]) (st' := [gi S, gi k]) (M' := gw mi ml) rfl ?_
    refine Go.icmp_ge (by rfl) ⟨by omega, by omega⟩ ⟨by omega, by omega⟩ (fun kq1 => ?_) (fun kq1 => ?_)
    · refine Go.run hsz hn1 1 (pc' := 39) (lv' := [some (gr 7), some (gi S), some (gi ((bMn (fun j => mi 10 j) (k - 1).toNat : Nat) : Int)), some (gi k)]) (st' := [gi ((bMn (fun j => mi 10 j) (k - 1).toNat : Nat) : Int)]) (M' := gw mi ml) rfl ?_
      first | (exfalso; omega) | (have hk : k = S := (by omega); subst hk; exact Go.iret (by rfl) ⟨rfl, rfl⟩)
    · refine Go.run hsz hn1 2 (pc' := 12) (lv' := [some (gr 7), some (gi S), some (gi ((bMn (fun j => mi 10 j) (k - 1).toNat : Nat) : Int)), some (gi k)]) (st' := [gi 6, gi k]) (M' := gw mi ml) rfl ?_
      refine Go.icmp_ge (by rfl) ⟨by omega, by omega⟩ ⟨by decide, by decide⟩ (fun kq2 => ?_) (fun kq2 => ?_)
      · refine Go.run hsz hn1 1 (pc' := 39) (lv' := [some (gr 7), some (gi S), some (gi ((bMn (fun j => mi 10 j) (k - 1).toNat : Nat) : Int)), some (gi k)]) (st' := [gi ((bMn (fun j => mi 10 j) (k - 1).toNat : Nat) : Int)]) (M' := gw mi ml) rfl ?_
        first | (exfalso; omega) | (have hk : k = S := (by omega); subst hk; exact Go.iret (by rfl) ⟨rfl, rfl⟩)
      · refine Go.run hsz hn1 3 (pc' := 20) (lv' := [some (gr 7), some (gi S), some (gi ((bMn (fun j => mi 10 j) (k - 1).toNat : Nat) : Int)), some (gi k)]) (st' := [gi k, gr 10]) (M' := gw mi ml) rfl ?_
        refine Go.iald (by rfl) (N := 6) (by rfl) (by omega) (by omega) (by decide) ?_
        refine Go.run hsz hn1 3 (pc' := 26) (lv' := [some (gr 7), some (gi S), some (gi ((bMn (fun j => mi 10 j) (k - 1).toNat : Nat) : Int)), some (gi k)]) (st' := [gi ((bMn (fun j => mi 10 j) (k - 1).toNat : Nat) : Int), gr 10, gi (mi 10 k.toNat)]) (M' := gw mi ml) rfl ?_
        refine Go.iald (by rfl) (N := 6) (by rfl) (by omega) (by omega) (by decide) ?_
        refine Go.run hsz hn1 0 (pc' := 27) (lv' := [some (gr 7), some (gi S), some (gi ((bMn (fun j => mi 10 j) (k - 1).toNat : Nat) : Int)), some (gi k)]) (st' := [gi (mi 10 (((bMn (fun j => mi 10 j) (k - 1).toNat : Nat) : Int).toNat)), gi (mi 10 k.toNat)]) (M' := gw mi ml) rfl ?_
        refine Go.icmp_ge (by rfl) (hR _ _) (hR _ _) (fun kq3 => ?_) (fun kq3 => ?_)
        · refine Go.run hsz hn1 2 (pc' := 4) (lv' := [some (gr 7), some (gi S), some (gi ((bMn (fun j => mi 10 j) (k - 1).toNat : Nat) : Int)), some (gi (k + 1))]) (st' := []) (M' := gw mi ml) rfl ?_
          rw [ez] at kq3
          have h9 := ih (k + 1) (by omega) (by omega) (by omega)
          rw [show (k + 1 - 1).toNat = (k - 1).toNat + 1 by omega] at h9
          have hst : bMn (fun j => mi 10 j) ((k - 1).toNat + 1) = if mi 10 ((k - 1).toNat + 1) < mi 10 (bMn (fun j => mi 10 j) (k - 1).toNat) then (k - 1).toNat + 1 else bMn (fun j => mi 10 j) (k - 1).toNat := rfl
          rw [hst, show (k - 1).toNat + 1 = k.toNat by omega] at h9
          split at h9
          · first | (rw [show ((k.toNat : Nat) : Int) = k by omega] at h9; exact h9) | (exfalso; omega)
          · first | exact h9 | (exfalso; omega)
        · refine Go.run hsz hn1 4 (pc' := 4) (lv' := [some (gr 7), some (gi S), some (gi k), some (gi (k + 1))]) (st' := []) (M' := gw mi ml) rfl ?_
          rw [ez] at kq3
          have h9 := ih (k + 1) (by omega) (by omega) (by omega)
          rw [show (k + 1 - 1).toNat = (k - 1).toNat + 1 by omega] at h9
          have hst : bMn (fun j => mi 10 j) ((k - 1).toNat + 1) = if mi 10 ((k - 1).toNat + 1) < mi 10 (bMn (fun j => mi 10 j) (k - 1).toNat) then (k - 1).toNat + 1 else bMn (fun j => mi 10 j) (k - 1).toNat := rfl
          rw [hst, show (k - 1).toNat + 1 = k.toNat by omega] at h9
          split at h9
          · first | (rw [show ((k.toNat : Nat) : Int) = k by omega] at h9; exact h9) | (exfalso; omega)
          · first | exact h9 | (exfalso; omega)
set_option maxRecDepth 100000 in
set_option maxHeartbeats 4000000 in
theorem cW_ff {G : gG} (hsz : G.2.2.2.2.2.2 = true) {n : Nat} (hn : 2 ≤ n) (mi : Nat → Nat → Int) (ml : Nat → Nat → Int64) (S : Int) (S0 : 1 ≤ S) (S1 : S ≤ 6) (hR : gR32 mi) : gM G 101 n 0 0 [gr 7, gi S] (gw mi ml) (gret ((bMn (fun j => mi 10 j) (S - 1).toNat : Nat) : Int) (gw mi ml)) := by
  have hn1 : 1 ≤ n := by omega
  refine gM.of mX10_firstFree okX10_firstFree (gcp 101 (by decide)).1 (gcp 101 (by decide)).2 (Nat.le_of_ble_eq_true rfl) ?_
  refine Go.run hsz hn1 4 (pc' := 4) (lv' := [some (gr 7), some (gi S), some (gi 0), some (gi 1)]) (st' := []) (M' := gw mi ml) rfl ?_
  exact lW_ff hsz (n := n) (by omega) mi ml S S0 S1 hR (S.toNat + 1) 1 (by omega) (by omega) (by omega)
def bCo (m mi : Nat → Nat → Int) : Prop := ∀ c j : Nat, c ≠ 10 → (c ≠ 7 ∨ j = 0 ∨ 4 ≤ j) → m c j = mi c j
def bCs (mi : Nat → Nat → Int) (S k : Nat) := bS (fun i => mi 8 i) (fun i => mi 9 i) S k
def bCr (m mi : Nat → Nat → Int) (S k : Nat) : Prop := (∀ j, j < 6 → m 10 j = (bCs mi S k).1 j) ∧ m 7 1 = (bCs mi S k).2.1 ∧ m 7 2 = (bCs mi S k).2.2.1 ∧ m 7 3 = (bCs mi S k).2.2.2
def bGood (mi : Nat → Nat → Int) : Prop := (0 ≤ mi 7 0 ∧ mi 7 0 ≤ 20) ∧ ∀ i : Nat, (i : Int) < mi 7 0 → (0 ≤ mi 8 i ∧ mi 8 i ≤ 999) ∧ (1 ≤ mi 9 i ∧ mi 9 i ≤ 60)
theorem bCr_s {m mi m' : Nat → Nat → Int} {S k s : Nat} {b : Int} (hr : bCr m mi S k) (hS : 1 ≤ S ∧ S ≤ 6) (hs : s = bMn (fun j => m 10 j) (S - 1)) (hb : b = if mi 8 k < m 10 s then m 10 s else mi 8 k) (h10 : ∀ j, j < 6 → m' 10 j = if j = s then b + mi 9 k else m 10 j) (h1 : m' 7 1 = if m 7 1 < b - mi 8 k then b - mi 8 k else m 7 1) (h2 : m' 7 2 = if m 7 2 < b + mi 9 k then b + mi 9 k else m 7 2) (h3 : m' 7 3 = m 7 3 + (if 0 < b - mi 8 k then 1 else 0)) : bCr m' mi S (k + 1) := by
  obtain ⟨r1, r2, r3, r4⟩ := hr
  have hs' : s = bMn (bCs mi S k).1 (S - 1) := by rw [hs]; exact bMn_congr (fun j hj => r1 j (by omega))
  have hle := bMn_le (bCs mi S k).1 (S - 1)
  have e : m 10 s = (bCs mi S k).1 (bMn (bCs mi S k).1 (S - 1)) := by rw [hs']; exact r1 _ (by omega)
  have hb' : b = if mi 8 k < (bCs mi S k).1 (bMn (bCs mi S k).1 (S - 1)) then (bCs mi S k).1 (bMn (bCs mi S k).1 (S - 1)) else mi 8 k := by rw [hb, e]
  refine ⟨fun j hj => ?_, ?_, ?_, ?_⟩
  · rw [h10 j hj, r1 j hj, hb', hs']
    rfl
  · rw [h1, r2, hb']
    rfl
  · rw [h2, r3, hb']
    rfl
  · rw [h3, r4, hb']
    rfl
theorem bCr_b {m mi : Nat → Nat → Int} {S k : Nat} (hg : bGood mi) (hr : bCr m mi S k) (hk : (k : Int) ≤ mi 7 0) : (∀ j, j < 6 → 0 ≤ m 10 j ∧ m 10 j ≤ 2199) ∧ (0 ≤ m 7 1 ∧ m 7 1 ≤ 2199) ∧ (0 ≤ m 7 2 ∧ m 7 2 ≤ 2199) ∧ (0 ≤ m 7 3 ∧ m 7 3 ≤ 20) := by
  obtain ⟨g1, g2⟩ := hg
  have hb := bS_b (M := fun i => mi 8 i) (T := fun i => mi 9 i) (S := S) (n := (mi 7 0).toNat) (fun i hi => (g2 i (by omega)).1) (fun i hi => (g2 i (by omega)).2) k (by omega)
  obtain ⟨r1, r2, r3, r4⟩ := hr
  obtain ⟨b1, b2, b3, b4⟩ := hb
  refine ⟨fun j hj => ?_, ?_, ?_, ?_⟩
  · rw [r1 j hj]
    have := b1 j
    unfold bCs
    omega
  · rw [r2]; unfold bCs; omega
  · rw [r3]; unfold bCs; omega
  · rw [r4]; unfold bCs; omega
theorem itef {c : Prop} [Decidable c] (a b : Int) : (c ∧ (if c then a else b) = a) ∨ (¬ c ∧ (if c then a else b) = b) := by
  by_cases h : c
  · exact Or.inl ⟨h, if_pos h⟩
  · exact Or.inr ⟨h, if_neg h⟩
set_option maxRecDepth 100000 in
set_option maxHeartbeats 4000000 in
theorem lW_serve {G : gG} (hsz : G.2.2.2.2.2.2 = true) {n : Nat} (hn : 3 ≤ n) (mi : Nat → Nat → Int) (ml : Nat → Nat → Int64) (S : Int) (S0 : 1 ≤ S) (S1 : S ≤ 6) (hg : bGood mi) : ∀ (f : Nat) (k : Int) (m : Nat → Nat → Int) (hm : bCo m mi) (hmR : gR32 m) (hr : bCr m mi S.toNat k.toNat), 0 ≤ k → k ≤ mi 7 0 → mi 7 0 - k < f → Go G mX10_serve n 0 0 38 [some (gr 7), some (gi S), some (gi k), none, none, none] [] (gw m ml) (fun r M => ∃ m, r = none ∧ M = gw m ml ∧ bCo m mi ∧ gR32 m ∧ bCr m mi S.toNat (mi 7 0).toNat) := by
  have hn1 : 1 ≤ n := by omega

  intro f
  induction f with
  | zero => intros; omega
  | succ f ih =>
    intro k m hm hmR hr k0 k1 k2
    have e7 : m 7 0 = mi 7 0 := hm 7 0 (by decide) (Or.inr (Or.inl rfl))
    have e8 : m 8 k.toNat = mi 8 k.toNat := hm 8 _ (by decide) (Or.inl (by decide))
    have e9 : m 9 k.toNat = mi 9 k.toNat := hm 9 _ (by decide) (Or.inl (by decide))
    obtain ⟨hg0, hg1⟩ := id hg
    have hgk : k < mi 7 0 → (0 ≤ mi 8 k.toNat ∧ mi 8 k.toNat ≤ 999) ∧ (1 ≤ mi 9 k.toNat ∧ mi 9 k.toNat ≤ 60) := fun q => hg1 k.toNat (by omega)
    have hbb := (bCr_b hg hr (by omega)).2
    refine Go.run hsz hn1 3 (pc' := 43) (lv' := [some (gr 7), some (gi S), some (gi k), none, none, none]) (st' := [gi (m 7 0), gi k]) (M' := gw m ml) rfl ?_
    refine Go.icmp_ge (by rfl) ⟨by omega, by omega⟩ (hmR _ _) (fun kq1 => ?_) (fun kq1 => ?_)
    · obtain rfl : k = mi 7 0 := by omega
      exact Go.vret (by rfl) ⟨m, rfl, rfl, hm, hmR, hr⟩
    · refine Go.run hsz hn1 2 (pc' := 48) (lv' := [some (gr 7), some (gi S), some (gi k), none, none, none]) (st' := [gi S, gr 7]) (M' := gw m ml) rfl ?_
      refine Go.callV (As := [gi S]) (b := 7) (st := []) (mc1 := 0) (mc := 0) (ms1 := 0) (ms := 0) (by rfl) rfl (c := 9) (N := 7) (by rfl) (by decide) (by rfl) (gcn 101 (by decide)).1 (gcn 101 (by decide)).2 rfl (Nat.le_of_ble_eq_true rfl) (by omega) (cW_ff hsz (n := n - 1) (by omega) m ml S S0 S1 hmR) ?_
      rintro _ _ ⟨rfl, rfl⟩
      have hs9 : 0 ≤ ((bMn (fun j => m 10 j) (S - 1).toNat : Nat) : Int) ∧ ((bMn (fun j => m 10 j) (S - 1).toNat : Nat) : Int) ≤ 5 := by have := bMn_le (fun j => m 10 j) (S - 1).toNat; omega
      generalize hsd : ((bMn (fun j => m 10 j) (S - 1).toNat : Nat) : Int) = s9 at hs9 ⊢
      have hf9 := (bCr_b hg hr (by omega)).1 s9.toNat (by omega)
      refine Go.run hsz hn1 4 (pc' := 57) (lv' := [some (gr 7), some (gi S), some (gi k), some (gi s9), none, none]) (st' := [gi k, gr 8]) (M' := gw m ml) rfl ?_
      refine Go.iald (by rfl) (N := 20) (by rfl) (by omega) (by omega) (by decide) ?_
      refine Go.run hsz hn1 3 (pc' := 63) (lv' := [some (gr 7), some (gi S), some (gi k), some (gi s9), none, none]) (st' := [gi s9, gr 10, gi (m 8 k.toNat)]) (M' := gw m ml) rfl ?_
      refine Go.iald (by rfl) (N := 6) (by rfl) (by omega) (by omega) (by decide) ?_
      refine Go.run hsz hn1 0 (pc' := 64) (lv' := [some (gr 7), some (gi S), some (gi k), some (gi s9), none, none]) (st' := [gi (m 10 s9.toNat), gi (m 8 k.toNat)]) (M' := gw m ml) rfl ?_
      refine Go.mmax (by rfl) hn1 (Nat.le_of_ble_eq_true rfl) (hmR _ _) (hmR _ _) ?_
      refine Go.run hsz hn1 1 (pc' := 69) (lv' := [some (gr 7), some (gi S), some (gi k), some (gi s9), some (gi (if m 8 k.toNat < m 10 s9.toNat then m 10 s9.toNat else m 8 k.toNat)), none]) (st' := []) (M' := gw m ml) rfl ?_
      have hb9 := itef (c := m 8 k.toNat < m 10 s9.toNat) (m 10 s9.toNat) (m 8 k.toNat)
      generalize hbd : (if m 8 k.toNat < m 10 s9.toNat then m 10 s9.toNat else m 8 k.toNat) = b9 at hb9 ⊢
      refine Go.run hsz hn1 4 (pc' := 76) (lv' := [some (gr 7), some (gi S), some (gi k), some (gi s9), some (gi b9), none]) (st' := [gi k, gr 8, gi b9]) (M' := gw m ml) rfl ?_
      refine Go.iald (by rfl) (N := 20) (by rfl) (by omega) (by omega) (by decide) ?_
      refine Go.run hsz hn1 9 (pc' := 92) (lv' := [some (gr 7), some (gi S), some (gi k), some (gi s9), some (gi b9), some (gi (b9 - (m 8 k.toNat)))]) (st' := [gi k, gr 9, gi b9, gi s9, gr 10]) (M' := gw m ml) rfl ?_
      refine Go.iald (by rfl) (N := 20) (by rfl) (by omega) (by omega) (by decide) ?_
      refine Go.run hsz hn1 1 (pc' := 94) (lv' := [some (gr 7), some (gi S), some (gi k), some (gi s9), some (gi b9), some (gi (b9 - (m 8 k.toNat)))]) (st' := [gi (b9 + (m 9 k.toNat)), gi s9, gr 10]) (M' := gw m ml) rfl ?_
      refine Go.iast (by rfl) (N := 6) (by rfl) (by omega) (by omega) (by decide) ?_
      refine Go.run hsz hn1 3 (pc' := 100) (lv' := [some (gr 7), some (gi S), some (gi k), some (gi s9), some (gi b9), some (gi (b9 - (m 8 k.toNat)))]) (st' := [gi ((gu m 10 s9.toNat (b9 + (m 9 k.toNat))) 7 1), gr 7]) (M' := gw (gu m 10 s9.toNat (b9 + (m 9 k.toNat))) ml) rfl ?_
      refine Go.run hsz hn1 0 (pc' := 100) (lv' := [some (gr 7), some (gi S), some (gi k), some (gi s9), some (gi b9), some (gi (b9 - (m 8 k.toNat)))]) (st' := [gi ((gu m 10 s9.toNat (b9 + (m 9 k.toNat))) 7 1), gr 7]) (M' := gw (gu m 10 s9.toNat (b9 + (m 9 k.toNat))) ml) rfl ?_
      rw [show (gu m 10 s9.toNat (b9 + (m 9 k.toNat))) 7 1 = m 7 1 from gu_ne (Or.inl (by decide))]
      refine Go.run hsz hn1 1 (pc' := 102) (lv' := [some (gr 7), some (gi S), some (gi k), some (gi s9), some (gi b9), some (gi (b9 - (m 8 k.toNat)))]) (st' := [gi (b9 - (m 8 k.toNat)), gi (m 7 1), gr 7]) (M' := gw (gu m 10 s9.toNat (b9 + (m 9 k.toNat))) ml) rfl ?_
      refine Go.mmax (by rfl) hn1 (Nat.le_of_ble_eq_true rfl) (hmR _ _) ⟨by omega, by omega⟩ ?_
      refine Go.run hsz hn1 4 (pc' := 113) (lv' := [some (gr 7), some (gi S), some (gi k), some (gi s9), some (gi b9), some (gi (b9 - (m 8 k.toNat)))]) (st' := [gi ((gu (gu m 10 s9.toNat (b9 + (m 9 k.toNat))) 7 1 (if m 7 1 < b9 - (m 8 k.toNat) then b9 - (m 8 k.toNat) else m 7 1)) 7 2), gr 7]) (M' := gw (gu (gu m 10 s9.toNat (b9 + (m 9 k.toNat))) 7 1 (if m 7 1 < b9 - (m 8 k.toNat) then b9 - (m 8 k.toNat) else m 7 1)) ml) rfl ?_
      refine Go.run hsz hn1 0 (pc' := 113) (lv' := [some (gr 7), some (gi S), some (gi k), some (gi s9), some (gi b9), some (gi (b9 - (m 8 k.toNat)))]) (st' := [gi ((gu (gu m 10 s9.toNat (b9 + (m 9 k.toNat))) 7 1 (if m 7 1 < b9 - (m 8 k.toNat) then b9 - (m 8 k.toNat) else m 7 1)) 7 2), gr 7]) (M' := gw (gu (gu m 10 s9.toNat (b9 + (m 9 k.toNat))) 7 1 (if m 7 1 < b9 - (m 8 k.toNat) then b9 - (m 8 k.toNat) else m 7 1)) ml) rfl ?_
      rw [show (gu (gu m 10 s9.toNat (b9 + (m 9 k.toNat))) 7 1 (if m 7 1 < b9 - (m 8 k.toNat) then b9 - (m 8 k.toNat) else m 7 1)) 7 2 = m 7 2 from (gu_ne (Or.inr (by decide))).trans (gu_ne (Or.inl (by decide)))]
      refine Go.run hsz hn1 3 (pc' := 118) (lv' := [some (gr 7), some (gi S), some (gi k), some (gi s9), some (gi b9), some (gi (b9 - (m 8 k.toNat)))]) (st' := [gi s9, gr 10, gi (m 7 2), gr 7]) (M' := gw (gu (gu m 10 s9.toNat (b9 + (m 9 k.toNat))) 7 1 (if m 7 1 < b9 - (m 8 k.toNat) then b9 - (m 8 k.toNat) else m 7 1)) ml) rfl ?_
      refine Go.iald (by rfl) (N := 6) (by rfl) (by omega) (by omega) (by decide) ?_
      refine Go.run hsz hn1 0 (pc' := 119) (lv' := [some (gr 7), some (gi S), some (gi k), some (gi s9), some (gi b9), some (gi (b9 - (m 8 k.toNat)))]) (st' := [gi ((gu (gu m 10 s9.toNat (b9 + (m 9 k.toNat))) 7 1 (if m 7 1 < b9 - (m 8 k.toNat) then b9 - (m 8 k.toNat) else m 7 1)) 10 s9.toNat), gi (m 7 2), gr 7]) (M' := gw (gu (gu m 10 s9.toNat (b9 + (m 9 k.toNat))) 7 1 (if m 7 1 < b9 - (m 8 k.toNat) then b9 - (m 8 k.toNat) else m 7 1)) ml) rfl ?_
      rw [show (gu (gu m 10 s9.toNat (b9 + (m 9 k.toNat))) 7 1 (if m 7 1 < b9 - (m 8 k.toNat) then b9 - (m 8 k.toNat) else m 7 1)) 10 s9.toNat = b9 + (m 9 k.toNat) from (gu_ne (Or.inl (by decide))).trans (gu_self _ _ _ _)]
      refine Go.run hsz hn1 0 (pc' := 119) (lv' := [some (gr 7), some (gi S), some (gi k), some (gi s9), some (gi b9), some (gi (b9 - (m 8 k.toNat)))]) (st' := [gi (b9 + (m 9 k.toNat)), gi (m 7 2), gr 7]) (M' := gw (gu (gu m 10 s9.toNat (b9 + (m 9 k.toNat))) 7 1 (if m 7 1 < b9 - (m 8 k.toNat) then b9 - (m 8 k.toNat) else m 7 1)) ml) rfl ?_
      refine Go.mmax (by rfl) hn1 (Nat.le_of_ble_eq_true rfl) (hmR _ _) ⟨by omega, by omega⟩ ?_
      refine Go.run hsz hn1 4 (pc' := 130) (lv' := [some (gr 7), some (gi S), some (gi k), some (gi s9), some (gi b9), some (gi (b9 - (m 8 k.toNat)))]) (st' := [gi ((gu (gu (gu m 10 s9.toNat (b9 + (m 9 k.toNat))) 7 1 (if m 7 1 < b9 - (m 8 k.toNat) then b9 - (m 8 k.toNat) else m 7 1)) 7 2 (if m 7 2 < b9 + (m 9 k.toNat) then b9 + (m 9 k.toNat) else m 7 2)) 7 3), gr 7]) (M' := gw (gu (gu (gu m 10 s9.toNat (b9 + (m 9 k.toNat))) 7 1 (if m 7 1 < b9 - (m 8 k.toNat) then b9 - (m 8 k.toNat) else m 7 1)) 7 2 (if m 7 2 < b9 + (m 9 k.toNat) then b9 + (m 9 k.toNat) else m 7 2)) ml) rfl ?_
      refine Go.run hsz hn1 0 (pc' := 130) (lv' := [some (gr 7), some (gi S), some (gi k), some (gi s9), some (gi b9), some (gi (b9 - (m 8 k.toNat)))]) (st' := [gi ((gu (gu (gu m 10 s9.toNat (b9 + (m 9 k.toNat))) 7 1 (if m 7 1 < b9 - (m 8 k.toNat) then b9 - (m 8 k.toNat) else m 7 1)) 7 2 (if m 7 2 < b9 + (m 9 k.toNat) then b9 + (m 9 k.toNat) else m 7 2)) 7 3), gr 7]) (M' := gw (gu (gu (gu m 10 s9.toNat (b9 + (m 9 k.toNat))) 7 1 (if m 7 1 < b9 - (m 8 k.toNat) then b9 - (m 8 k.toNat) else m 7 1)) 7 2 (if m 7 2 < b9 + (m 9 k.toNat) then b9 + (m 9 k.toNat) else m 7 2)) ml) rfl ?_
      rw [show (gu (gu (gu m 10 s9.toNat (b9 + (m 9 k.toNat))) 7 1 (if m 7 1 < b9 - (m 8 k.toNat) then b9 - (m 8 k.toNat) else m 7 1)) 7 2 (if m 7 2 < b9 + (m 9 k.toNat) then b9 + (m 9 k.toNat) else m 7 2)) 7 3 = m 7 3 from (gu_ne (Or.inr (by decide))).trans ((gu_ne (Or.inr (by decide))).trans (gu_ne (Or.inl (by decide))))]
      refine Go.run hsz hn1 1 (pc' := 132) (lv' := [some (gr 7), some (gi S), some (gi k), some (gi s9), some (gi b9), some (gi (b9 - (m 8 k.toNat)))]) (st' := [gi (b9 - (m 8 k.toNat)), gi (m 7 3), gr 7]) (M' := gw (gu (gu (gu m 10 s9.toNat (b9 + (m 9 k.toNat))) 7 1 (if m 7 1 < b9 - (m 8 k.toNat) then b9 - (m 8 k.toNat) else m 7 1)) 7 2 (if m 7 2 < b9 + (m 9 k.toNat) then b9 + (m 9 k.toNat) else m 7 2)) ml) rfl ?_
      refine Go.if_le (by rfl) ⟨by omega, by omega⟩ (fun kq2 => ?_) (fun kq2 => ?_)
      · refine Go.run hsz hn1 5 (pc' := 38) (lv' := [some (gr 7), some (gi S), some (gi (k + 1)), some (gi s9), some (gi b9), some (gi (b9 - (m 8 k.toNat)))]) (st' := []) (M' := gw (gu (gu (gu (gu m 10 s9.toNat (b9 + (m 9 k.toNat))) 7 1 (if m 7 1 < b9 - (m 8 k.toNat) then b9 - (m 8 k.toNat) else m 7 1)) 7 2 (if m 7 2 < b9 + (m 9 k.toNat) then b9 + (m 9 k.toNat) else m 7 2)) 7 3 ((m 7 3) + 0)) ml) rfl ?_
        refine Go.dropl 3 ?_
        refine Go.dropl 4 ?_
        refine Go.dropl 5 ?_
        refine Go.run hsz hn1 0 (pc' := 38) (lv' := [some (gr 7), some (gi S), some (gi (k + 1)), none, none, none]) (st' := []) (M' := gw (gu (gu (gu (gu m 10 s9.toNat (b9 + (m 9 k.toNat))) 7 1 (if m 7 1 < b9 - (m 8 k.toNat) then b9 - (m 8 k.toNat) else m 7 1)) 7 2 (if m 7 2 < b9 + (m 9 k.toNat) then b9 + (m 9 k.toNat) else m 7 2)) 7 3 ((m 7 3) + 0)) ml) rfl ?_
        refine ih (k + 1) _ ?_ ?_ ?_ (by omega) (by omega) (by omega)
        · intro c j h1 h2; rw [gu_ne (by omega), gu_ne (by omega), gu_ne (by omega), gu_ne (by omega)]; exact hm c j h1 h2
        · exact gR32_gu (gR32_gu (gR32_gu (gR32_gu hmR ⟨by omega, by omega⟩) (by (repeat' split) <;> exact ⟨by omega, by omega⟩)) (by (repeat' split) <;> exact ⟨by omega, by omega⟩)) ⟨by omega, by omega⟩
        · rw [show (k + 1).toNat = k.toNat + 1 by omega]
          refine bCr_s (s := s9.toNat) (b := b9) hr (by omega) (by rw [← hsd, show (S - 1).toNat = S.toNat - 1 by omega]; rfl) (by rw [← hbd, e8]) (fun j hj => ?_) ?_ ?_ ?_
          · rw [gu_ne (by omega), gu_ne (by omega), gu_ne (by omega), gu_eq, ← e9]
            by_cases e : j = s9.toNat
            · rw [if_pos ⟨rfl, e⟩, if_pos e]
            · rw [if_neg (fun q => e q.2), if_neg e]
          · rw [gu_ne (by omega), gu_ne (by omega), gu_self, ← e8]
          · rw [gu_ne (by omega), gu_self, ← e9]
          · rw [gu_self, ← e8]; first | rw [if_pos (by omega)] | rw [if_neg (by omega)]
      · refine Go.run hsz hn1 6 (pc' := 38) (lv' := [some (gr 7), some (gi S), some (gi (k + 1)), some (gi s9), some (gi b9), some (gi (b9 - (m 8 k.toNat)))]) (st' := []) (M' := gw (gu (gu (gu (gu m 10 s9.toNat (b9 + (m 9 k.toNat))) 7 1 (if m 7 1 < b9 - (m 8 k.toNat) then b9 - (m 8 k.toNat) else m 7 1)) 7 2 (if m 7 2 < b9 + (m 9 k.toNat) then b9 + (m 9 k.toNat) else m 7 2)) 7 3 ((m 7 3) + 1)) ml) rfl ?_
        refine Go.dropl 3 ?_
        refine Go.dropl 4 ?_
        refine Go.dropl 5 ?_
        refine Go.run hsz hn1 0 (pc' := 38) (lv' := [some (gr 7), some (gi S), some (gi (k + 1)), none, none, none]) (st' := []) (M' := gw (gu (gu (gu (gu m 10 s9.toNat (b9 + (m 9 k.toNat))) 7 1 (if m 7 1 < b9 - (m 8 k.toNat) then b9 - (m 8 k.toNat) else m 7 1)) 7 2 (if m 7 2 < b9 + (m 9 k.toNat) then b9 + (m 9 k.toNat) else m 7 2)) 7 3 ((m 7 3) + 1)) ml) rfl ?_
        refine ih (k + 1) _ ?_ ?_ ?_ (by omega) (by omega) (by omega)
        · intro c j h1 h2; rw [gu_ne (by omega), gu_ne (by omega), gu_ne (by omega), gu_ne (by omega)]; exact hm c j h1 h2
        · exact gR32_gu (gR32_gu (gR32_gu (gR32_gu hmR ⟨by omega, by omega⟩) (by (repeat' split) <;> exact ⟨by omega, by omega⟩)) (by (repeat' split) <;> exact ⟨by omega, by omega⟩)) ⟨by omega, by omega⟩
        · rw [show (k + 1).toNat = k.toNat + 1 by omega]
          refine bCr_s (s := s9.toNat) (b := b9) hr (by omega) (by rw [← hsd, show (S - 1).toNat = S.toNat - 1 by omega]; rfl) (by rw [← hbd, e8]) (fun j hj => ?_) ?_ ?_ ?_
          · rw [gu_ne (by omega), gu_ne (by omega), gu_ne (by omega), gu_eq, ← e9]
            by_cases e : j = s9.toNat
            · rw [if_pos ⟨rfl, e⟩, if_pos e]
            · rw [if_neg (fun q => e q.2), if_neg e]
          · rw [gu_ne (by omega), gu_ne (by omega), gu_self, ← e8]
          · rw [gu_ne (by omega), gu_self, ← e9]
          · rw [gu_self, ← e8]; first | rw [if_pos (by omega)] | rw [if_neg (by omega)]
set_option maxRecDepth 100000 in
set_option maxHeartbeats 4000000 in
theorem lW_sv0 {G : gG} (hsz : G.2.2.2.2.2.2 = true) {n : Nat} (hn : 3 ≤ n) (mi : Nat → Nat → Int) (ml : Nat → Nat → Int64) (S : Int) (S0 : 1 ≤ S) (S1 : S ≤ 6) (hg : bGood mi) (hR : gR32 mi) : ∀ (f : Nat) (k : Int), 0 ≤ k → k ≤ 6 → 6 - k < f → Go G mX10_serve n 0 0 17 [some (gr 7), some (gi S), some (gi k), none, none, none] [] (gw (gfl (gu (gu (gu mi 7 1 0) 7 2 0) 7 3 0) 10 0 k.toNat) ml) (fun r M => ∃ m, r = none ∧ M = gw m ml ∧ bCo m mi ∧ gR32 m ∧ bCr m mi S.toNat (mi 7 0).toNat) := by
  have hn1 : 1 ≤ n := by omega

  intro f
  induction f with
  | zero => intros; omega
  | succ f ih =>
    intro k k0 k1 k2
    refine Go.run hsz hn1 2 (pc' := 20) (lv' := [some (gr 7), some (gi S), some (gi k), none, none, none]) (st' := [gi 6, gi k]) (M' := gw (gfl (gu (gu (gu mi 7 1 0) 7 2 0) 7 3 0) 10 0 k.toNat) ml) rfl ?_
    refine Go.icmp_ge (by rfl) ⟨by omega, by omega⟩ ⟨by decide, by decide⟩ (fun kq1 => ?_) (fun kq1 => ?_)
    · refine Go.run hsz hn1 2 (pc' := 38) (lv' := [some (gr 7), some (gi S), some (gi 0), none, none, none]) (st' := []) (M' := gw (gfl (gu (gu (gu mi 7 1 0) 7 2 0) 7 3 0) 10 0 k.toNat) ml) rfl ?_
      obtain rfl : k = 6 := by omega
      refine lW_serve hsz (n := n) (by omega) mi ml S S0 S1 hg ((mi 7 0).toNat + 1) 0 _ ?_ ?_ ?_ (by omega) (by have := hg.1; omega) (by omega)
      · intro c j h1 h2; rw [gfl_off (Or.inl h1), gu_ne (by omega), gu_ne (by omega), gu_ne (by omega)]
      · exact gfl_R (gR32_gu (gR32_gu (gR32_gu hR ⟨by decide, by decide⟩) ⟨by decide, by decide⟩) ⟨by decide, by decide⟩)
      · exact ⟨fun j hj => gfl_in (by omega) (by show j < 0 + 6; omega), rfl, rfl, rfl⟩
    · refine Go.run hsz hn1 4 (pc' := 29) (lv' := [some (gr 7), some (gi S), some (gi k), none, none, none]) (st' := [gi 0, gi k, gr 10]) (M' := gw (gfl (gu (gu (gu mi 7 1 0) 7 2 0) 7 3 0) 10 0 k.toNat) ml) rfl ?_
      refine Go.iast (by rfl) (N := 6) (by rfl) (by omega) (by omega) (by decide) ?_
      refine Go.run hsz hn1 2 (pc' := 17) (lv' := [some (gr 7), some (gi S), some (gi (k + 1)), none, none, none]) (st' := []) (M' := gw (gu (gfl (gu (gu (gu mi 7 1 0) 7 2 0) 7 3 0) 10 0 k.toNat) 10 k.toNat 0) ml) rfl ?_
      have h9 := ih (k + 1) (by omega) (by omega) (by omega)
      rw [show (k + 1).toNat = k.toNat + 1 by omega, ← gfl_s, Nat.zero_add] at h9
      exact h9
set_option maxRecDepth 100000 in
set_option maxHeartbeats 4000000 in
theorem cW_serve {G : gG} (hsz : G.2.2.2.2.2.2 = true) {n : Nat} (hn : 3 ≤ n) (mi : Nat → Nat → Int) (ml : Nat → Nat → Int64) (S : Int) (S0 : 1 ≤ S) (S1 : S ≤ 6) (hg : bGood mi) (hR : gR32 mi) : gM G 100 n 0 0 [gr 7, gi S] (gw mi ml) (fun r M => ∃ m, r = none ∧ M = gw m ml ∧ bCo m mi ∧ gR32 m ∧ bCr m mi S.toNat (mi 7 0).toNat) := by
  have hn1 : 1 ≤ n := by omega
  refine gM.of mX10_serve okX10_serve (gcp 100 (by decide)).1 (gcp 100 (by decide)).2 (Nat.le_of_ble_eq_true rfl) ?_
  refine Go.run hsz hn1 11 (pc' := 17) (lv' := [some (gr 7), some (gi S), some (gi 0), none, none, none]) (st' := []) (M' := gw (gu (gu (gu mi 7 1 0) 7 2 0) 7 3 0) ml) rfl ?_
  have h9 := lW_sv0 hsz hn mi ml S S0 S1 hg hR 7 0 (by omega) (by omega) (by omega)
  rw [show (0 : Int).toNat = 0 from rfl, gfl_0] at h9
  exact h9
def bOut (q : (Nat → Int) × Int × Int × Int) (w : Int) : Int := if w = 0 then q.2.1 else if w = 1 then q.2.2.1 else q.2.2.2
set_option maxRecDepth 100000 in
set_option maxHeartbeats 4000000 in
theorem pC_block {G : gG} (hsz : G.2.2.2.2.2.2 = true) {n : Nat} (hn : 4 ≤ n) (mi : Nat → Nat → Int) (ml : Nat → Nat → Int64) (S w : Int) (r_S : rng S) (r_w : rng w) (hv : CV mi) (hg : bGood mi) : gM G 134 n 0 0 [gr 0, gi S, gi w] (gw mi ml) (fun r M => gE (¬ ((1 ≤ S ∧ S ≤ 6) ∧ (0 ≤ w ∧ w ≤ 2))) (-1000001) (cFd mi 0) ml r M ∨ (((1 ≤ S ∧ S ≤ 6) ∧ (0 ≤ w ∧ w ≤ 2)) ∧ ∃ m, r = some (gi (bOut (bCs mi S.toNat (mi 7 0).toNat) w)) ∧ M = gw m ml ∧ bCo m mi ∧ gR32 m)) := by
  have hn1 : 1 ≤ n := by omega
  obtain ⟨hR, ht, hp, hq, hP, hQ⟩ := id hv
  refine gM.of mX11_block okX11_block (gcp 134 (by decide)).1 (gcp 134 (by decide)).2 (Nat.le_of_ble_eq_true rfl) ?_
  refine Go.run hsz hn1 3 (pc' := 4) (lv' := [some (gr 0), some (gi S), some (gi w), none]) (st' := [gi 6, gi 1, gi S]) (M' := gw mi ml) rfl ?_
  refine Go.callS (As := [gi S, gi 1, gi 6]) (st := []) (mc1 := 0) (mc := 0) (ms1 := 0) (ms := 0) (by rfl) rfl (gcn 150 (by decide)).1 (gcn 150 (by decide)).2 (Nat.le_of_ble_eq_true rfl) (by omega) (cC_isIn hsz (n := n - 1) (by omega) mi ml S 1 6 r_S ⟨by decide, by decide⟩ ⟨by decide, by decide⟩) ?_
  rintro _ _ ⟨rfl, rfl⟩
  refine Go.run hsz hn1 0 (pc' := 7) (lv' := [some (gr 0), some (gi S), some (gi w), none]) (st' := [gi (b2 (1 ≤ S ∧ S ≤ 6))]) (M' := gw mi ml) rfl ?_
  refine Go.if_eq (by rfl) (b2_rng _) (fun kq1 => ?_) (fun kq1 => ?_)
  · replace kq1 := b2_neg kq1
    refine Go.run hsz hn1 2 (pc' := 22) (lv' := [some (gr 0), some (gi S), some (gi w), none]) (st' := [gi (-1000001), gr 0]) (M' := gw mi ml) rfl ?_
    refine Go.callV (As := [gi (-1000001)]) (b := 0) (st := []) (mc1 := 0) (mc := 0) (ms1 := 0) (ms := 0) (by rfl) rfl (c := 10) (N := 9) (by rfl) (by decide) (by rfl) (gcn 147 (by decide)).1 (gcn 147 (by decide)).2 rfl (Nat.le_of_ble_eq_true rfl) (by omega) (cC_finding hsz (n := n - 1) (by omega) mi ml (-1000001) (by decide) (by decide)) ?_
    rintro _ _ ⟨rfl, rfl⟩
    refine Go.run hsz hn1 0 (pc' := 25) (lv' := [some (gr 0), some (gi S), some (gi w), none]) (st' := [gi (-1000001)]) (M' := gw (cFd mi 0) ml) rfl ?_
    exact Go.iret (by rfl) (Or.inl ⟨by omega, rfl, rfl⟩)
  · replace kq1 := b2_pos kq1
    refine Go.run hsz hn1 3 (pc' := 13) (lv' := [some (gr 0), some (gi S), some (gi w), none]) (st' := [gi 2, gi 0, gi w]) (M' := gw mi ml) rfl ?_
    refine Go.callS (As := [gi w, gi 0, gi 2]) (st := []) (mc1 := 0) (mc := 0) (ms1 := 0) (ms := 0) (by rfl) rfl (gcn 150 (by decide)).1 (gcn 150 (by decide)).2 (Nat.le_of_ble_eq_true rfl) (by omega) (cC_isIn hsz (n := n - 1) (by omega) mi ml w 0 2 r_w ⟨by decide, by decide⟩ ⟨by decide, by decide⟩) ?_
    rintro _ _ ⟨rfl, rfl⟩
    refine Go.run hsz hn1 0 (pc' := 16) (lv' := [some (gr 0), some (gi S), some (gi w), none]) (st' := [gi (b2 (0 ≤ w ∧ w ≤ 2))]) (M' := gw mi ml) rfl ?_
    refine Go.if_ne (by rfl) (b2_rng _) (fun kq2 => ?_) (fun kq2 => ?_)
    · replace kq2 := b2_pos kq2
      refine Go.run hsz hn1 6 (pc' := 36) (lv' := [some (gr 0), some (gi S), some (gi w), some (gr 7)]) (st' := [gi S, gr 7]) (M' := gw mi ml) rfl ?_
      refine Go.callV (As := [gi S]) (b := 7) (st := []) (mc1 := 0) (mc := 0) (ms1 := 0) (ms := 0) (by rfl) rfl (c := 9) (N := 7) (by rfl) (by decide) (by rfl) (gcn 100 (by decide)).1 (gcn 100 (by decide)).2 rfl (Nat.le_of_ble_eq_true rfl) (by omega) (cW_serve hsz (n := n - 1) (by omega) mi ml S (by omega) (by omega) hg hR) ?_
      rintro _ _ ⟨m, rfl, rfl, hm, hmR, hr⟩
      refine Go.run hsz hn1 1 (pc' := 40) (lv' := [some (gr 0), some (gi S), some (gi w), some (gr 7)]) (st' := [gi w]) (M' := gw m ml) rfl ?_
      refine Go.if_ne (by rfl) r_w (fun kq3 => ?_) (fun kq3 => ?_)
      · refine Go.run hsz hn1 2 (pc' := 50) (lv' := [some (gr 0), some (gi S), some (gi w), some (gr 7)]) (st' := [gi 1, gi w]) (M' := gw m ml) rfl ?_
        refine Go.icmp_ne (by rfl) r_w ⟨by decide, by decide⟩ (fun kq4 => ?_) (fun kq4 => ?_)
        · refine Go.run hsz hn1 2 (pc' := 64) (lv' := [some (gr 0), some (gi S), some (gi w), some (gr 7)]) (st' := [gi (m 7 3)]) (M' := gw m ml) rfl ?_
          refine Go.iret (by rfl) (Or.inr ⟨by omega, m, congrArg (fun z => some (gi z)) ?_, rfl, hm, hmR⟩)
          unfold bOut; obtain ⟨-, r2, r3, r4⟩ := hr
          first | (rw [if_pos (by omega)]; exact r2) | (rw [if_neg (by omega), if_pos (by omega)]; exact r3) | (rw [if_neg (by omega), if_neg (by omega)]; exact r4)
        · refine Go.run hsz hn1 3 (pc' := 64) (lv' := [some (gr 0), some (gi S), some (gi w), some (gr 7)]) (st' := [gi (m 7 2)]) (M' := gw m ml) rfl ?_
          refine Go.iret (by rfl) (Or.inr ⟨by omega, m, congrArg (fun z => some (gi z)) ?_, rfl, hm, hmR⟩)
          unfold bOut; obtain ⟨-, r2, r3, r4⟩ := hr
          first | (rw [if_pos (by omega)]; exact r2) | (rw [if_neg (by omega), if_pos (by omega)]; exact r3) | (rw [if_neg (by omega), if_neg (by omega)]; exact r4)
      · refine Go.run hsz hn1 2 (pc' := 47) (lv' := [some (gr 0), some (gi S), some (gi w), some (gr 7)]) (st' := [gi (m 7 1)]) (M' := gw m ml) rfl ?_
        refine Go.iret (by rfl) (Or.inr ⟨by omega, m, congrArg (fun z => some (gi z)) ?_, rfl, hm, hmR⟩)
        unfold bOut; obtain ⟨-, r2, r3, r4⟩ := hr
        first | (rw [if_pos (by omega)]; exact r2) | (rw [if_neg (by omega), if_pos (by omega)]; exact r3) | (rw [if_neg (by omega), if_neg (by omega)]; exact r4)
    · replace kq2 := b2_neg kq2
      refine Go.run hsz hn1 2 (pc' := 22) (lv' := [some (gr 0), some (gi S), some (gi w), none]) (st' := [gi (-1000001), gr 0]) (M' := gw mi ml) rfl ?_
      refine Go.callV (As := [gi (-1000001)]) (b := 0) (st := []) (mc1 := 0) (mc := 0) (ms1 := 0) (ms := 0) (by rfl) rfl (c := 10) (N := 9) (by rfl) (by decide) (by rfl) (gcn 147 (by decide)).1 (gcn 147 (by decide)).2 rfl (Nat.le_of_ble_eq_true rfl) (by omega) (cC_finding hsz (n := n - 1) (by omega) mi ml (-1000001) (by decide) (by decide)) ?_
      rintro _ _ ⟨rfl, rfl⟩
      refine Go.run hsz hn1 0 (pc' := 25) (lv' := [some (gr 0), some (gi S), some (gi w), none]) (st' := [gi (-1000001)]) (M' := gw (cFd mi 0) ml) rfl ?_
      exact Go.iret (by rfl) (Or.inl ⟨by omega, rfl, rfl⟩)
def bMo (m mi : Nat → Nat → Int) : Prop := ∀ c j : Nat, c ≠ 170 → c ≠ 171 → m c j = mi c j
def bMs (mi : Nat → Nat → Int) (f : Nat → Nat) (S k : Nat) := bS (fun i => mi 154 (f i)) (fun i => mi 155 (f i)) S k
def bFok (mi : Nat → Nat → Int) (f : Nat → Nat) : Prop := (0 ≤ mi 148 9 ∧ mi 148 9 ≤ 20) ∧ (∀ i : Nat, (i : Int) < mi 148 9 → (0 ≤ mi 154 i ∧ mi 154 i ≤ 999) ∧ (1 ≤ mi 155 i ∧ mi 155 i ≤ 60)) ∧ (∀ i : Nat, (i : Int) < mi 148 9 → ((f i : Nat) : Int) < mi 148 9) ∧ ∀ i j : Nat, i < j → (j : Int) < mi 148 9 → mi 154 (f i) < mi 154 (f j) ∨ (mi 154 (f i) = mi 154 (f j) ∧ f i < f j)
def bMr (m mi : Nat → Nat → Int) (f : Nat → Nat) (S k : Nat) : Prop := (∀ j, j < 6 → m 171 j = (bMs mi f S k).1 j) ∧ ∀ w : Nat, (w : Int) < mi 148 9 → (m 170 w = 0 ∨ m 170 w = 1) ∧ (m 170 w = 0 ↔ ∀ i, i < k → f i ≠ w)
/-- the next one, from behind: none yet, or the one to be served first among those looked at -/
def bNx (m mi : Nat → Nat → Int) (x w : Int) : Prop := (x = -1 ∧ ∀ u : Nat, w < u → (u : Int) < mi 148 9 → ¬ m 170 u = 0) ∨ ((0 ≤ x ∧ x < mi 148 9 ∧ m 170 x.toNat = 0) ∧ ∀ u : Nat, w < u → (u : Int) < mi 148 9 → m 170 u = 0 → mi 154 x.toNat < mi 154 u ∨ (mi 154 x.toNat = mi 154 u ∧ x ≤ u))
theorem bNx_take {m mi : Nat → Nat → Int} {x w : Int} (h : bNx m mi x w) (w0 : 0 ≤ w) (w1 : w < mi 148 9) (hu : m 170 w.toNat = 0) (hc : x < 0 ∨ mi 154 w.toNat ≤ mi 154 x.toNat) (hx : bNx m mi x w) : bNx m mi w (w - 1) := by
  refine Or.inr ⟨⟨w0, w1, hu⟩, fun u u0 u1 u2 => ?_⟩
  by_cases e : (u : Int) = w
  · right
    rw [show w.toNat = u by omega]
    exact ⟨rfl, by omega⟩
  · rcases h with ⟨-, h2⟩ | ⟨h1, h2⟩
    · exact absurd u2 (h2 u (by omega) u1)
    · have := h2 u (by omega) u1 u2
      omega
theorem bNx_keep {m mi : Nat → Nat → Int} {x w : Int} (h : bNx m mi x w) (w0 : 0 ≤ w) (hc : ¬ m 170 w.toNat = 0 ∨ (0 ≤ x ∧ mi 154 x.toNat < mi 154 w.toNat)) : bNx m mi x (w - 1) := by
  rcases h with ⟨h1, h2⟩ | ⟨h1, h2⟩
  · refine Or.inl ⟨h1, fun u u0 u1 => ?_⟩
    by_cases e : (u : Int) = w
    · have e' : u = w.toNat := by omega
      rw [e']
      rcases hc with q | q
      · exact q
      · omega
    · exact h2 u (by omega) u1
  · refine Or.inr ⟨h1, fun u u0 u1 u2 => ?_⟩
    by_cases e : (u : Int) = w
    · have e' : u = w.toNat := by omega
      rw [e'] at u2 ⊢
      rcases hc with q | q
      · exact absurd u2 q
      · exact Or.inl q.2
    · exact h2 u (by omega) u1 u2
theorem bFok.inj {mi : Nat → Nat → Int} {f : Nat → Nat} (h : bFok mi f) {i j : Nat} (hi : (i : Int) < mi 148 9) (hj : (j : Int) < mi 148 9) (e : f i = f j) : i = j := by
  rcases Nat.lt_trichotomy i j with c | c | c
  · have := h.2.2.2 i j c hj
    rw [e] at this
    omega
  · exact c
  · have := h.2.2.2 j i c hi
    rw [e] at this
    omega
theorem bNx_end {m mi : Nat → Nat → Int} {f : Nat → Nat} {S k : Nat} {x : Int} (hF : bFok mi f) (hr : bMr m mi f S k) (hk : (k : Int) < mi 148 9) (h : bNx m mi x (-1)) : x = ((f k : Nat) : Int) := by
  have hfk := hF.2.2.1 k hk
  have un : m 170 (f k) = 0 := (hr.2 (f k) hfk).2.mpr (fun i hi e => by have := hF.inj (by omega) hk e; omega)
  rcases h with ⟨-, h2⟩ | ⟨⟨x0, x1, x2⟩, h2⟩
  · exact absurd un (h2 (f k) (by omega) hfk)
  · have hle := h2 (f k) (by omega) hfk un
    obtain ⟨i, hi, e⟩ := php (mi 148 9).toNat f (fun i hi => by have := hF.2.2.1 i (by omega); omega) (fun i j hi hj e => hF.inj (by omega) (by omega) e) x.toNat (by omega)
    have hik : ¬ i < k := fun q => (hr.2 x.toNat (by omega)).2.mp x2 i q e
    by_cases e2 : i = k
    · rw [← e2, e]; omega
    · have := hF.2.2.2 k i (by omega) (by omega)
      rw [e] at this
      omega
theorem bMr_s {m mi m' : Nat → Nat → Int} {f : Nat → Nat} {S k s : Nat} {b : Int} (hF : bFok mi f) (hk : (k : Int) < mi 148 9) (hr : bMr m mi f S k) (hS : 1 ≤ S ∧ S ≤ 6) (hs : s = bMn (fun j => m 171 j) (S - 1)) (hb : b = if mi 154 (f k) < m 171 s then m 171 s else mi 154 (f k)) (h10 : ∀ j, j < 6 → m' 171 j = if j = s then b + mi 155 (f k) else m 171 j) (h70 : ∀ w : Nat, m' 170 w = if w = f k then 1 else m 170 w) : bMr m' mi f S (k + 1) ∧ (bMs mi f S (k + 1)).2.1 = (if (bMs mi f S k).2.1 < b - mi 154 (f k) then b - mi 154 (f k) else (bMs mi f S k).2.1) ∧ (bMs mi f S (k + 1)).2.2.1 = (if (bMs mi f S k).2.2.1 < b + mi 155 (f k) then b + mi 155 (f k) else (bMs mi f S k).2.2.1) ∧ (bMs mi f S (k + 1)).2.2.2 = (bMs mi f S k).2.2.2 + (if 0 < b - mi 154 (f k) then 1 else 0) := by
  obtain ⟨r1, r2⟩ := hr
  have hs' : s = bMn (bMs mi f S k).1 (S - 1) := by rw [hs]; exact bMn_congr (fun j hj => r1 j (by omega))
  have hle := bMn_le (bMs mi f S k).1 (S - 1)
  have e : m 171 s = (bMs mi f S k).1 (bMn (bMs mi f S k).1 (S - 1)) := by rw [hs']; exact r1 _ (by omega)
  have hb' : b = if mi 154 (f k) < (bMs mi f S k).1 (bMn (bMs mi f S k).1 (S - 1)) then (bMs mi f S k).1 (bMn (bMs mi f S k).1 (S - 1)) else mi 154 (f k) := by rw [hb, e]
  refine ⟨⟨fun j hj => ?_, fun w hw => ?_⟩, ?_, ?_, ?_⟩
  · rw [h10 j hj, r1 j hj, hb', hs']
    rfl
  · rw [h70 w]
    by_cases e9 : w = f k
    · rw [if_pos e9]
      exact ⟨Or.inr rfl, fun q => absurd q (by omega), fun q => absurd e9.symm (q k (by omega))⟩
    · rw [if_neg e9]
      refine ⟨(r2 w hw).1, ?_⟩
      rw [(r2 w hw).2]
      constructor
      · intro q i hi
        by_cases ei : i = k
        · rw [ei]; exact fun z => e9 z.symm
        · exact q i (by omega)
      · intro q i hi
        exact q i (by omega)
  · rw [hb']; rfl
  · rw [hb']; rfl
  · rw [hb']; rfl
theorem bMr_b {mi : Nat → Nat → Int} {f : Nat → Nat} {S k : Nat} (hF : bFok mi f) (hk : (k : Int) ≤ mi 148 9) : (∀ j, 0 ≤ (bMs mi f S k).1 j ∧ (bMs mi f S k).1 j ≤ 2199) ∧ (0 ≤ (bMs mi f S k).2.1 ∧ (bMs mi f S k).2.1 ≤ 2199) ∧ (0 ≤ (bMs mi f S k).2.2.1 ∧ (bMs mi f S k).2.2.1 ≤ 2199) ∧ (0 ≤ (bMs mi f S k).2.2.2 ∧ (bMs mi f S k).2.2.2 ≤ 20) := by
  have hb := bS_b (M := fun i => mi 154 (f i)) (T := fun i => mi 155 (f i)) (S := S) (n := (mi 148 9).toNat) (fun i hi => (hF.2.1 (f i) (hF.2.2.1 i (by omega))).1) (fun i hi => (hF.2.1 (f i) (hF.2.2.1 i (by omega))).2) k (by omega)
  have := hF.1
  obtain ⟨b1, b2, b3, b4⟩ := hb
  unfold bMs
  exact ⟨fun j => by have := b1 j; omega, by omega, by omega, by omega⟩
set_option maxRecDepth 100000 in
set_option maxHeartbeats 4000000 in
theorem lM_mn {G : gG} (hsz : G.2.2.2.2.2.2 = true) {n : Nat} (hn : 1 ≤ n) (mi : Nat → Nat → Int) (ml : Nat → Nat → Int64) (S w lo la wa q : Int) (S0 : 1 ≤ S) (S1 : S ≤ 6) (m : Nat → Nat → Int) (hm : bMo m mi) (hmR : gR32 m) (x : Int) (P : Option gV → gMe → Prop) (kk : ∀ s : Int, s = ((bMn (fun j => m 171 j) (S - 1).toNat : Nat) : Int) → Go G mX12_block n 0 0 202 [some (gr 148), some (gi S), some (gi w), some (gi lo), some (gi la), some (gi wa), some (gi q), some (gi x), some (gi s), none, none] [] (gw m ml) P) : ∀ (f : Nat) (k : Int), 1 ≤ k → k ≤ S → S - k < f → Go G mX12_block n 0 0 164 [some (gr 148), some (gi S), some (gi w), some (gi lo), some (gi la), some (gi wa), some (gi q), some (gi x), some (gi ((bMn (fun j => m 171 j) (k - 1).toNat : Nat) : Int)), some (gi k), none] [] (gw m ml) (P) := by
  have hn1 : 1 ≤ n := by omega

  intro f
  induction f with
  | zero => intros; omega
  | succ f ih =>
    intro k k0 k1 k2
    have hle := bMn_le (fun j => m 171 j) (k - 1).toNat
    have ez : (((bMn (fun j => m 171 j) (k - 1).toNat : Nat) : Int)).toNat = bMn (fun j => m 171 j) (k - 1).toNat := by omega
    refine Go.run hsz hn1 2 (pc' := 167) (lv' := [some (gr 148), some (gi S), some (gi w), some (gi lo), some (gi la), some (gi wa), some (gi q), some (gi x), some (gi ((bMn (fun j => m 171 j) (k - 1).toNat : Nat) : Int)), some (gi k), none]) (st' := [gi S, gi k]) (M' := gw m ml) rfl ?_
    refine Go.icmp_ge (by rfl) ⟨by omega, by omega⟩ ⟨by omega, by omega⟩ (fun kq1 => ?_) (fun kq1 => ?_)
    · refine Go.dropl 9 ?_
      refine Go.run hsz hn1 0 (pc' := 202) (lv' := [some (gr 148), some (gi S), some (gi w), some (gi lo), some (gi la), some (gi wa), some (gi q), some (gi x), some (gi ((bMn (fun j => m 171 j) (k - 1).toNat : Nat) : Int)), none, none]) (st' := []) (M' := gw m ml) rfl ?_
      have hk : k = S := by omega
      subst hk
      exact kk _ rfl
    · refine Go.run hsz hn1 3 (pc' := 176) (lv' := [some (gr 148), some (gi S), some (gi w), some (gi lo), some (gi la), some (gi wa), some (gi q), some (gi x), some (gi ((bMn (fun j => m 171 j) (k - 1).toNat : Nat) : Int)), some (gi k), none]) (st' := [gi k, gr 171]) (M' := gw m ml) rfl ?_
      refine Go.iald (by rfl) (N := 6) (by rfl) (by omega) (by omega) (by decide) ?_
      refine Go.run hsz hn1 3 (pc' := 183) (lv' := [some (gr 148), some (gi S), some (gi w), some (gi lo), some (gi la), some (gi wa), some (gi q), some (gi x), some (gi ((bMn (fun j => m 171 j) (k - 1).toNat : Nat) : Int)), some (gi k), none]) (st' := [gi ((bMn (fun j => m 171 j) (k - 1).toNat : Nat) : Int), gr 171, gi (m 171 k.toNat)]) (M' := gw m ml) rfl ?_
      refine Go.iald (by rfl) (N := 6) (by rfl) (by omega) (by omega) (by decide) ?_
      refine Go.run hsz hn1 0 (pc' := 184) (lv' := [some (gr 148), some (gi S), some (gi w), some (gi lo), some (gi la), some (gi wa), some (gi q), some (gi x), some (gi ((bMn (fun j => m 171 j) (k - 1).toNat : Nat) : Int)), some (gi k), none]) (st' := [gi (m 171 (((bMn (fun j => m 171 j) (k - 1).toNat : Nat) : Int).toNat)), gi (m 171 k.toNat)]) (M' := gw m ml) rfl ?_
      refine Go.icmp_ge (by rfl) (hmR _ _) (hmR _ _) (fun kq2 => ?_) (fun kq2 => ?_)
      · refine Go.run hsz hn1 4 (pc' := 164) (lv' := [some (gr 148), some (gi S), some (gi w), some (gi lo), some (gi la), some (gi wa), some (gi q), some (gi x), some (gi ((bMn (fun j => m 171 j) (k - 1).toNat : Nat) : Int)), some (gi (k + 1)), none]) (st' := []) (M' := gw m ml) rfl ?_
        rw [ez] at kq2
        have h9 := ih (k + 1) (by omega) (by omega) (by omega)
        rw [show (k + 1 - 1).toNat = (k - 1).toNat + 1 by omega] at h9
        have hst : bMn (fun j => m 171 j) ((k - 1).toNat + 1) = if m 171 ((k - 1).toNat + 1) < m 171 (bMn (fun j => m 171 j) (k - 1).toNat) then (k - 1).toNat + 1 else bMn (fun j => m 171 j) (k - 1).toNat := rfl
        rw [hst, show (k - 1).toNat + 1 = k.toNat by omega] at h9
        split at h9
        · first | (rw [show ((k.toNat : Nat) : Int) = k by omega] at h9; exact h9) | (exfalso; omega)
        · first | exact h9 | (exfalso; omega)
      · refine Go.run hsz hn1 5 (pc' := 164) (lv' := [some (gr 148), some (gi S), some (gi w), some (gi lo), some (gi la), some (gi wa), some (gi q), some (gi x), some (gi k), some (gi (k + 1)), none]) (st' := []) (M' := gw m ml) rfl ?_
        rw [ez] at kq2
        have h9 := ih (k + 1) (by omega) (by omega) (by omega)
        rw [show (k + 1 - 1).toNat = (k - 1).toNat + 1 by omega] at h9
        have hst : bMn (fun j => m 171 j) ((k - 1).toNat + 1) = if m 171 ((k - 1).toNat + 1) < m 171 (bMn (fun j => m 171 j) (k - 1).toNat) then (k - 1).toNat + 1 else bMn (fun j => m 171 j) (k - 1).toNat := rfl
        rw [hst, show (k - 1).toNat + 1 = k.toNat by omega] at h9
        split at h9
        · first | (rw [show ((k.toNat : Nat) : Int) = k by omega] at h9; exact h9) | (exfalso; omega)
        · first | exact h9 | (exfalso; omega)
set_option maxRecDepth 100000 in
set_option maxHeartbeats 4000000 in
theorem lM_nx {G : gG} (hsz : G.2.2.2.2.2.2 = true) {n : Nat} (hn : 1 ≤ n) (mi : Nat → Nat → Int) (ml : Nat → Nat → Int64) (S w lo la wa q : Int) (S0 : 1 ≤ S) (S1 : S ≤ 6) (m : Nat → Nat → Int) (hm : bMo m mi) (hmR : gR32 m) (hF : 0 ≤ mi 148 9 ∧ mi 148 9 ≤ 20) (P : Option gV → gMe → Prop) (kk : ∀ x : Int, bNx m mi x (-1) → Go G mX12_block n 0 0 150 [some (gr 148), some (gi S), some (gi w), some (gi lo), some (gi la), some (gi wa), some (gi q), some (gi x), none, none, none] [] (gw m ml) P) : ∀ (f : Nat) (k : Int) (x : Int) (hx : bNx m mi x k), -1 ≤ k → k ≤ mi 148 9 - 1 → k + 1 < f → Go G mX12_block n 0 0 98 [some (gr 148), some (gi S), some (gi w), some (gi lo), some (gi la), some (gi wa), some (gi q), some (gi x), some (gi k), none, none] [] (gw m ml) (P) := by
  have hn1 : 1 ≤ n := by omega

  intro f
  induction f with
  | zero => intros; omega
  | succ f ih =>
    intro k x hx k0 k1 k2
    have ec : ∀ j, m 154 j = mi 154 j := fun j => hm 154 j (by decide) (by decide)
    have hxr : -1 ≤ x ∧ x < 20 := by rcases hx with q | q <;> omega
    have ekc := ec k.toNat
    have exc := ec x.toNat
    have hxq : 0 ≤ x → x < mi 148 9 := fun q => by rcases hx with z | z <;> omega
    refine Go.run hsz hn1 1 (pc' := 100) (lv' := [some (gr 148), some (gi S), some (gi w), some (gi lo), some (gi la), some (gi wa), some (gi q), some (gi x), some (gi k), none, none]) (st' := [gi k]) (M' := gw m ml) rfl ?_
    refine Go.if_lt (by rfl) ⟨by omega, by omega⟩ (fun kq1 => ?_) (fun kq1 => ?_)
    · refine Go.dropl 8 ?_
      refine Go.run hsz hn1 0 (pc' := 150) (lv' := [some (gr 148), some (gi S), some (gi w), some (gi lo), some (gi la), some (gi wa), some (gi q), some (gi x), none, none, none]) (st' := []) (M' := gw m ml) rfl ?_
      obtain rfl : k = -1 := by omega
      exact kk x hx
    · refine Go.run hsz hn1 3 (pc' := 109) (lv' := [some (gr 148), some (gi S), some (gi w), some (gi lo), some (gi la), some (gi wa), some (gi q), some (gi x), some (gi k), none, none]) (st' := [gi k, gr 170]) (M' := gw m ml) rfl ?_
      refine Go.bald (by rfl) (N := 20) (by rfl) (by omega) (by omega) (by decide) ?_
      refine Go.run hsz hn1 0 (pc' := 110) (lv' := [some (gr 148), some (gi S), some (gi w), some (gi lo), some (gi la), some (gi wa), some (gi q), some (gi x), some (gi k), none, none]) (st' := [gi (m 170 k.toNat)]) (M' := gw m ml) rfl ?_
      refine Go.if_ne (by rfl) (hmR _ _) (fun kq2 => ?_) (fun kq2 => ?_)
      · refine Go.run hsz hn1 4 (pc' := 98) (lv' := [some (gr 148), some (gi S), some (gi w), some (gi lo), some (gi la), some (gi wa), some (gi q), some (gi x), some (gi (k + (-1))), none, none]) (st' := []) (M' := gw m ml) rfl ?_
        exact ih (k - 1) x (bNx_keep hx (by omega) (by omega)) (by omega) (by omega) (by omega)
      · refine Go.run hsz hn1 1 (pc' := 115) (lv' := [some (gr 148), some (gi S), some (gi w), some (gi lo), some (gi la), some (gi wa), some (gi q), some (gi x), some (gi k), none, none]) (st' := [gi x]) (M' := gw m ml) rfl ?_
        refine Go.if_lt (by rfl) ⟨by omega, by omega⟩ (fun kq3 => ?_) (fun kq3 => ?_)
        · refine Go.run hsz hn1 5 (pc' := 98) (lv' := [some (gr 148), some (gi S), some (gi w), some (gi lo), some (gi la), some (gi wa), some (gi q), some (gi k), some (gi (k + (-1))), none, none]) (st' := []) (M' := gw m ml) rfl ?_
          exact ih (k - 1) k (bNx_take hx (by omega) (by omega) (by omega) (by omega) hx) (by omega) (by omega) (by omega)
        · refine Go.run hsz hn1 3 (pc' := 124) (lv' := [some (gr 148), some (gi S), some (gi w), some (gi lo), some (gi la), some (gi wa), some (gi q), some (gi x), some (gi k), none, none]) (st' := [gi k, gr 154]) (M' := gw m ml) rfl ?_
          refine Go.iald (by rfl) (N := 20) (by rfl) (by omega) (by omega) (by decide) ?_
          refine Go.run hsz hn1 3 (pc' := 131) (lv' := [some (gr 148), some (gi S), some (gi w), some (gi lo), some (gi la), some (gi wa), some (gi q), some (gi x), some (gi k), none, none]) (st' := [gi x, gr 154, gi (m 154 k.toNat)]) (M' := gw m ml) rfl ?_
          refine Go.iald (by rfl) (N := 20) (by rfl) (by omega) (by omega) (by decide) ?_
          refine Go.run hsz hn1 0 (pc' := 132) (lv' := [some (gr 148), some (gi S), some (gi w), some (gi lo), some (gi la), some (gi wa), some (gi q), some (gi x), some (gi k), none, none]) (st' := [gi (m 154 x.toNat), gi (m 154 k.toNat)]) (M' := gw m ml) rfl ?_
          refine Go.icmp_gt (by rfl) (hmR _ _) (hmR _ _) (fun kq4 => ?_) (fun kq4 => ?_)
          · refine Go.run hsz hn1 4 (pc' := 98) (lv' := [some (gr 148), some (gi S), some (gi w), some (gi lo), some (gi la), some (gi wa), some (gi q), some (gi x), some (gi (k + (-1))), none, none]) (st' := []) (M' := gw m ml) rfl ?_
            exact ih (k - 1) x (bNx_keep hx (by omega) (by omega)) (by omega) (by omega) (by omega)
          · refine Go.run hsz hn1 5 (pc' := 98) (lv' := [some (gr 148), some (gi S), some (gi w), some (gi lo), some (gi la), some (gi wa), some (gi q), some (gi k), some (gi (k + (-1))), none, none]) (st' := []) (M' := gw m ml) rfl ?_
            exact ih (k - 1) k (bNx_take hx (by omega) (by omega) (by omega) (by omega) hx) (by omega) (by omega) (by omega)
set_option maxRecDepth 100000 in
set_option maxHeartbeats 4000000 in
theorem lM_blk {G : gG} (hsz : G.2.2.2.2.2.2 = true) {n : Nat} (hn : 2 ≤ n) (mi : Nat → Nat → Int) (ml : Nat → Nat → Int64) (S w : Int) (S0 : 1 ≤ S) (S1 : S ≤ 6) (rw_ : rng w) (fo : Nat → Nat) (hF : bFok mi fo) : ∀ (f : Nat) (k : Int) (m : Nat → Nat → Int) (lo la wa : Int) (hm : bMo m mi) (hmR : gR32 m) (hr : bMr m mi fo S.toNat k.toNat) (h1 : lo = (bMs mi fo S.toNat k.toNat).2.1) (h2 : la = (bMs mi fo S.toNat k.toNat).2.2.1) (h3 : wa = (bMs mi fo S.toNat k.toNat).2.2.2), 0 ≤ k → k ≤ mi 148 9 → mi 148 9 - k < f → Go G mX12_block n 0 0 78 [some (gr 148), some (gi S), some (gi w), some (gi lo), some (gi la), some (gi wa), some (gi k), none, none, none, none] [] (gw m ml) (fun r M => ∃ m, r = some (gi (bOut (bMs mi fo S.toNat (mi 148 9).toNat) w)) ∧ M = gw m ml ∧ bMo m mi ∧ gR32 m) := by
  have hn1 : 1 ≤ n := by omega

  intro f
  induction f with
  | zero => intros; omega
  | succ f ih =>
    intro k m lo la wa hm hmR hr h1 h2 h3 k0 k1 k2
    have e9 : m 148 9 = mi 148 9 := hm 148 9 (by decide) (by decide)
    have hF1 := hF.1
    have hbb := (bMr_b (S := S.toNat) (k := k.toNat) hF (by omega)).2
    rw [← h1, ← h2, ← h3] at hbb
    refine Go.run hsz hn1 3 (pc' := 84) (lv' := [some (gr 148), some (gi S), some (gi w), some (gi lo), some (gi la), some (gi wa), some (gi k), none, none, none, none]) (st' := [gi (m 148 9), gi k]) (M' := gw m ml) rfl ?_
    refine Go.icmp_ge (by rfl) ⟨by omega, by omega⟩ (hmR _ _) (fun kq1 => ?_) (fun kq1 => ?_)
    · refine Go.run hsz hn1 1 (pc' := 328) (lv' := [some (gr 148), some (gi S), some (gi w), some (gi lo), some (gi la), some (gi wa), some (gi k), none, none, none, none]) (st' := [gi w]) (M' := gw m ml) rfl ?_
      refine Go.if_ne (by rfl) rw_ (fun kq2 => ?_) (fun kq2 => ?_)
      · refine Go.run hsz hn1 2 (pc' := 337) (lv' := [some (gr 148), some (gi S), some (gi w), some (gi lo), some (gi la), some (gi wa), some (gi k), none, none, none, none]) (st' := [gi 1, gi w]) (M' := gw m ml) rfl ?_
        refine Go.icmp_ne (by rfl) rw_ ⟨by decide, by decide⟩ (fun kq3 => ?_) (fun kq3 => ?_)
        · refine Go.run hsz hn1 1 (pc' := 347) (lv' := [some (gr 148), some (gi S), some (gi w), some (gi lo), some (gi la), some (gi wa), some (gi k), none, none, none, none]) (st' := [gi wa]) (M' := gw m ml) rfl ?_
          have hk : k = mi 148 9 := by omega
          subst hk
          refine Go.iret (by rfl) ⟨m, congrArg (fun z => some (gi z)) ?_, rfl, hm, hmR⟩
          unfold bOut; first | (rw [if_pos (by omega)]; exact h1) | (rw [if_neg (by omega), if_pos (by omega)]; exact h2) | (rw [if_neg (by omega), if_neg (by omega)]; exact h3)
        · refine Go.run hsz hn1 2 (pc' := 347) (lv' := [some (gr 148), some (gi S), some (gi w), some (gi lo), some (gi la), some (gi wa), some (gi k), none, none, none, none]) (st' := [gi la]) (M' := gw m ml) rfl ?_
          have hk : k = mi 148 9 := by omega
          subst hk
          refine Go.iret (by rfl) ⟨m, congrArg (fun z => some (gi z)) ?_, rfl, hm, hmR⟩
          unfold bOut; first | (rw [if_pos (by omega)]; exact h1) | (rw [if_neg (by omega), if_pos (by omega)]; exact h2) | (rw [if_neg (by omega), if_neg (by omega)]; exact h3)
      · refine Go.run hsz hn1 2 (pc' := 347) (lv' := [some (gr 148), some (gi S), some (gi w), some (gi lo), some (gi la), some (gi wa), some (gi k), none, none, none, none]) (st' := [gi lo]) (M' := gw m ml) rfl ?_
        have hk : k = mi 148 9 := by omega
        subst hk
        refine Go.iret (by rfl) ⟨m, congrArg (fun z => some (gi z)) ?_, rfl, hm, hmR⟩
        unfold bOut; first | (rw [if_pos (by omega)]; exact h1) | (rw [if_neg (by omega), if_pos (by omega)]; exact h2) | (rw [if_neg (by omega), if_neg (by omega)]; exact h3)
    · refine Go.run hsz hn1 7 (pc' := 98) (lv' := [some (gr 148), some (gi S), some (gi w), some (gi lo), some (gi la), some (gi wa), some (gi k), some (gi (-1)), some (gi ((m 148 9) - 1)), none, none]) (st' := []) (M' := gw m ml) rfl ?_
      rw [e9]
      refine lM_nx hsz (n := n) (by omega) mi ml S w lo la wa k S0 S1 m hm hmR hF.1 _ (fun x9 hx9 => ?_) ((mi 148 9).toNat + 1) (mi 148 9 - 1) (-1) (Or.inl ⟨rfl, fun u u0 u1 => by omega⟩) (by omega) (by omega) (by omega)
      have hxk := bNx_end hF hr (by omega) hx9
      have hfk := hF.2.2.1 k.toNat (by omega)
      have hfv := hF.2.1 (fo k.toNat) hfk
      have hxn : x9.toNat = fo k.toNat := by omega
      have ec : m 154 x9.toNat = mi 154 (fo k.toNat) := by rw [hxn]; exact hm 154 _ (by decide) (by decide)
      have et : m 155 x9.toNat = mi 155 (fo k.toNat) := by rw [hxn]; exact hm 155 _ (by decide) (by decide)
      refine Go.run hsz hn1 4 (pc' := 157) (lv' := [some (gr 148), some (gi S), some (gi w), some (gi lo), some (gi la), some (gi wa), some (gi k), some (gi x9), none, none, none]) (st' := [gi 1, gi x9, gr 170]) (M' := gw m ml) rfl ?_
      refine Go.bast (by rfl) (N := 20) (by rfl) (Or.inr rfl) (by omega) (by omega) (by decide) ?_
      refine Go.run hsz hn1 4 (pc' := 164) (lv' := [some (gr 148), some (gi S), some (gi w), some (gi lo), some (gi la), some (gi wa), some (gi k), some (gi x9), some (gi 0), some (gi 1), none]) (st' := []) (M' := gw (gu m 170 x9.toNat 1) ml) rfl ?_
      refine lM_mn hsz (n := n) (by omega) mi ml S w lo la wa k S0 S1 (gu m 170 x9.toNat 1) (fun c j h1 h2 => (gu_other h1).trans (hm c j h1 h2)) (gR32_gu hmR ⟨by decide, by decide⟩) x9 _ (fun s9 hs9 => ?_) (S.toNat + 1) 1 (by omega) (by omega) (by omega)
      have hs8 : 0 ≤ s9 ∧ s9 ≤ 5 := by have := bMn_le (fun j => gu m 170 x9.toNat 1 171 j) (S - 1).toNat; omega
      have e71 : ∀ j, gu m 170 x9.toNat 1 171 j = m 171 j := fun j => gu_other (by decide)
      have hfr : 0 ≤ m 171 s9.toNat ∧ m 171 s9.toNat ≤ 2199 := by rw [hr.1 s9.toNat (by omega)]; exact (bMr_b hF (by omega)).1 _
      refine Go.run hsz hn1 3 (pc' := 208) (lv' := [some (gr 148), some (gi S), some (gi w), some (gi lo), some (gi la), some (gi wa), some (gi k), some (gi x9), some (gi s9), none, none]) (st' := [gi x9, gr 154]) (M' := gw (gu m 170 x9.toNat 1) ml) rfl ?_
      refine Go.iald (by rfl) (N := 20) (by rfl) (by omega) (by omega) (by decide) ?_
      refine Go.run hsz hn1 0 (pc' := 209) (lv' := [some (gr 148), some (gi S), some (gi w), some (gi lo), some (gi la), some (gi wa), some (gi k), some (gi x9), some (gi s9), none, none]) (st' := [gi ((gu m 170 x9.toNat 1) 154 x9.toNat)]) (M' := gw (gu m 170 x9.toNat 1) ml) rfl ?_
      rw [show (gu m 170 x9.toNat 1) 154 x9.toNat = m 154 x9.toNat from gu_ne (Or.inl (by decide))]
      refine Go.run hsz hn1 3 (pc' := 215) (lv' := [some (gr 148), some (gi S), some (gi w), some (gi lo), some (gi la), some (gi wa), some (gi k), some (gi x9), some (gi s9), none, none]) (st' := [gi s9, gr 171, gi (m 154 x9.toNat)]) (M' := gw (gu m 170 x9.toNat 1) ml) rfl ?_
      refine Go.iald (by rfl) (N := 6) (by rfl) (by omega) (by omega) (by decide) ?_
      refine Go.run hsz hn1 0 (pc' := 216) (lv' := [some (gr 148), some (gi S), some (gi w), some (gi lo), some (gi la), some (gi wa), some (gi k), some (gi x9), some (gi s9), none, none]) (st' := [gi ((gu m 170 x9.toNat 1) 171 s9.toNat), gi (m 154 x9.toNat)]) (M' := gw (gu m 170 x9.toNat 1) ml) rfl ?_
      rw [show (gu m 170 x9.toNat 1) 171 s9.toNat = m 171 s9.toNat from gu_ne (Or.inl (by decide))]
      refine Go.run hsz hn1 0 (pc' := 216) (lv' := [some (gr 148), some (gi S), some (gi w), some (gi lo), some (gi la), some (gi wa), some (gi k), some (gi x9), some (gi s9), none, none]) (st' := [gi (m 171 s9.toNat), gi (m 154 x9.toNat)]) (M' := gw (gu m 170 x9.toNat 1) ml) rfl ?_
      refine Go.icmp_le (by rfl) (hmR _ _) (hmR _ _) (fun kq4 => ?_) (fun kq4 => ?_)
      · refine Go.run hsz hn1 3 (pc' := 235) (lv' := [some (gr 148), some (gi S), some (gi w), some (gi lo), some (gi la), some (gi wa), some (gi k), some (gi x9), some (gi s9), none, none]) (st' := [gi s9, gr 171]) (M' := gw (gu m 170 x9.toNat 1) ml) rfl ?_
        refine Go.iald (by rfl) (N := 6) (by rfl) (by omega) (by omega) (by decide) ?_
        refine Go.run hsz hn1 0 (pc' := 236) (lv' := [some (gr 148), some (gi S), some (gi w), some (gi lo), some (gi la), some (gi wa), some (gi k), some (gi x9), some (gi s9), none, none]) (st' := [gi ((gu m 170 x9.toNat 1) 171 s9.toNat)]) (M' := gw (gu m 170 x9.toNat 1) ml) rfl ?_
        rw [show (gu m 170 x9.toNat 1) 171 s9.toNat = m 171 s9.toNat from gu_ne (Or.inl (by decide))]
        refine Go.run hsz hn1 1 (pc' := 238) (lv' := [some (gr 148), some (gi S), some (gi w), some (gi lo), some (gi la), some (gi wa), some (gi k), some (gi x9), some (gi s9), some (gi (m 171 s9.toNat)), none]) (st' := []) (M' := gw (gu m 170 x9.toNat 1) ml) rfl ?_
        refine Go.run hsz hn1 4 (pc' := 246) (lv' := [some (gr 148), some (gi S), some (gi w), some (gi lo), some (gi la), some (gi wa), some (gi k), some (gi x9), some (gi s9), some (gi (m 171 s9.toNat)), none]) (st' := [gi x9, gr 154, gi (m 171 s9.toNat)]) (M' := gw (gu m 170 x9.toNat 1) ml) rfl ?_
        refine Go.iald (by rfl) (N := 20) (by rfl) (by omega) (by omega) (by decide) ?_
        refine Go.run hsz hn1 0 (pc' := 247) (lv' := [some (gr 148), some (gi S), some (gi w), some (gi lo), some (gi la), some (gi wa), some (gi k), some (gi x9), some (gi s9), some (gi (m 171 s9.toNat)), none]) (st' := [gi ((gu m 170 x9.toNat 1) 154 x9.toNat), gi (m 171 s9.toNat)]) (M' := gw (gu m 170 x9.toNat 1) ml) rfl ?_
        rw [show (gu m 170 x9.toNat 1) 154 x9.toNat = m 154 x9.toNat from gu_ne (Or.inl (by decide))]
        refine Go.run hsz hn1 4 (pc' := 253) (lv' := [some (gr 148), some (gi S), some (gi w), some (gi lo), some (gi la), some (gi wa), some (gi k), some (gi x9), some (gi s9), some (gi (m 171 s9.toNat)), some (gi ((m 171 s9.toNat) - (m 154 x9.toNat)))]) (st' := [gi lo, gi ((m 171 s9.toNat) - (m 154 x9.toNat))]) (M' := gw (gu m 170 x9.toNat 1) ml) rfl ?_
        refine Go.icmp_le (by rfl) ⟨by omega, by omega⟩ ⟨by omega, by omega⟩ (fun kq5 => ?_) (fun kq5 => ?_)
        · refine Go.run hsz hn1 4 (pc' := 267) (lv' := [some (gr 148), some (gi S), some (gi w), some (gi lo), some (gi la), some (gi wa), some (gi k), some (gi x9), some (gi s9), some (gi (m 171 s9.toNat)), some (gi ((m 171 s9.toNat) - (m 154 x9.toNat)))]) (st' := [gi ((m 171 s9.toNat) - (m 154 x9.toNat)), gi wa]) (M' := gw (gu m 170 x9.toNat 1) ml) rfl ?_
          refine Go.if_le (by rfl) ⟨by omega, by omega⟩ (fun kq6 => ?_) (fun kq6 => ?_)
          · refine Go.run hsz hn1 10 (pc' := 292) (lv' := [some (gr 148), some (gi S), some (gi w), some (gi lo), some (gi la), some (gi (wa + 0)), some (gi k), some (gi x9), some (gi s9), some (gi (m 171 s9.toNat)), some (gi ((m 171 s9.toNat) - (m 154 x9.toNat)))]) (st' := [gi x9, gr 155, gi (m 171 s9.toNat), gi s9, gr 171]) (M' := gw (gu m 170 x9.toNat 1) ml) rfl ?_
            refine Go.iald (by rfl) (N := 20) (by rfl) (by omega) (by omega) (by decide) ?_
            refine Go.run hsz hn1 0 (pc' := 293) (lv' := [some (gr 148), some (gi S), some (gi w), some (gi lo), some (gi la), some (gi (wa + 0)), some (gi k), some (gi x9), some (gi s9), some (gi (m 171 s9.toNat)), some (gi ((m 171 s9.toNat) - (m 154 x9.toNat)))]) (st' := [gi ((gu m 170 x9.toNat 1) 155 x9.toNat), gi (m 171 s9.toNat), gi s9, gr 171]) (M' := gw (gu m 170 x9.toNat 1) ml) rfl ?_
            rw [show (gu m 170 x9.toNat 1) 155 x9.toNat = m 155 x9.toNat from gu_ne (Or.inl (by decide))]
            refine Go.run hsz hn1 1 (pc' := 294) (lv' := [some (gr 148), some (gi S), some (gi w), some (gi lo), some (gi la), some (gi (wa + 0)), some (gi k), some (gi x9), some (gi s9), some (gi (m 171 s9.toNat)), some (gi ((m 171 s9.toNat) - (m 154 x9.toNat)))]) (st' := [gi ((m 171 s9.toNat) + (m 155 x9.toNat)), gi s9, gr 171]) (M' := gw (gu m 170 x9.toNat 1) ml) rfl ?_
            refine Go.iast (by rfl) (N := 6) (by rfl) (by omega) (by omega) (by decide) ?_
            refine Go.run hsz hn1 3 (pc' := 301) (lv' := [some (gr 148), some (gi S), some (gi w), some (gi lo), some (gi la), some (gi (wa + 0)), some (gi k), some (gi x9), some (gi s9), some (gi (m 171 s9.toNat)), some (gi ((m 171 s9.toNat) - (m 154 x9.toNat)))]) (st' := [gi s9, gr 171]) (M' := gw (gu (gu m 170 x9.toNat 1) 171 s9.toNat ((m 171 s9.toNat) + (m 155 x9.toNat))) ml) rfl ?_
            refine Go.iald (by rfl) (N := 6) (by rfl) (by omega) (by omega) (by decide) ?_
            refine Go.run hsz hn1 0 (pc' := 302) (lv' := [some (gr 148), some (gi S), some (gi w), some (gi lo), some (gi la), some (gi (wa + 0)), some (gi k), some (gi x9), some (gi s9), some (gi (m 171 s9.toNat)), some (gi ((m 171 s9.toNat) - (m 154 x9.toNat)))]) (st' := [gi ((gu (gu m 170 x9.toNat 1) 171 s9.toNat ((m 171 s9.toNat) + (m 155 x9.toNat))) 171 s9.toNat)]) (M' := gw (gu (gu m 170 x9.toNat 1) 171 s9.toNat ((m 171 s9.toNat) + (m 155 x9.toNat))) ml) rfl ?_
            rw [show (gu (gu m 170 x9.toNat 1) 171 s9.toNat ((m 171 s9.toNat) + (m 155 x9.toNat))) 171 s9.toNat = (m 171 s9.toNat) + (m 155 x9.toNat) from gu_self _ _ _ _]
            refine Go.run hsz hn1 1 (pc' := 304) (lv' := [some (gr 148), some (gi S), some (gi w), some (gi lo), some (gi la), some (gi (wa + 0)), some (gi k), some (gi x9), some (gi s9), some (gi (m 171 s9.toNat)), some (gi ((m 171 s9.toNat) - (m 154 x9.toNat)))]) (st' := [gi la, gi ((m 171 s9.toNat) + (m 155 x9.toNat))]) (M' := gw (gu (gu m 170 x9.toNat 1) 171 s9.toNat ((m 171 s9.toNat) + (m 155 x9.toNat))) ml) rfl ?_
            refine Go.icmp_le (by rfl) ⟨by omega, by omega⟩ ⟨by omega, by omega⟩ (fun kq7 => ?_) (fun kq7 => ?_)
            · refine Go.run hsz hn1 4 (pc' := 78) (lv' := [some (gr 148), some (gi S), some (gi w), some (gi lo), some (gi la), some (gi (wa + 0)), some (gi (k + 1)), some (gi x9), some (gi s9), some (gi (m 171 s9.toNat)), some (gi ((m 171 s9.toNat) - (m 154 x9.toNat)))]) (st' := []) (M' := gw (gu (gu m 170 x9.toNat 1) 171 s9.toNat ((m 171 s9.toNat) + (m 155 x9.toNat))) ml) rfl ?_
              refine Go.dropl 7 ?_
              refine Go.dropl 8 ?_
              refine Go.dropl 9 ?_
              refine Go.dropl 10 ?_
              refine Go.run hsz hn1 0 (pc' := 78) (lv' := [some (gr 148), some (gi S), some (gi w), some (gi lo), some (gi la), some (gi (wa + 0)), some (gi (k + 1)), none, none, none, none]) (st' := []) (M' := gw (gu (gu m 170 x9.toNat 1) 171 s9.toNat ((m 171 s9.toNat) + (m 155 x9.toNat))) ml) rfl ?_
              have hst := bMr_s (m := m) (m' := gu (gu m 170 x9.toNat 1) 171 s9.toNat ((m 171 s9.toNat) + (m 155 x9.toNat))) (s := s9.toNat) (b := m 171 s9.toNat) hF (show ((k.toNat : Nat) : Int) < mi 148 9 by omega) hr (by omega) (by rw [hs9, show (S - 1).toNat = S.toNat - 1 by omega]; exact bMn_congr (fun j hj => e71 j)) (by rw [← ec]; split <;> omega) (fun j hj => ?_) (fun u => ?_)
              · obtain ⟨hr', g1, g2, g3⟩ := hst
                rw [← h1, ← ec] at g1; rw [← h2, ← et] at g2; rw [← h3, ← ec] at g3
                refine ih (k + 1) _ _ _ _ ?_ ?_ (by rw [show (k + 1).toNat = k.toNat + 1 by omega]; exact hr') ?_ ?_ ?_ (by omega) (by omega) (by omega)
                · intro c j q1 q2; rw [gu_other q2, gu_other q1]; exact hm c j q1 q2
                · exact gR32_gu (gR32_gu hmR ⟨by decide, by decide⟩) ⟨by omega, by omega⟩
                · rw [show (k + 1).toNat = k.toNat + 1 by omega, g1]; split <;> omega
                · rw [show (k + 1).toNat = k.toNat + 1 by omega, g2]; split <;> omega
                · rw [show (k + 1).toNat = k.toNat + 1 by omega, g3]; split <;> omega
              · rw [gu_eq, ← et]
                by_cases e : j = s9.toNat
                · rw [if_pos ⟨rfl, e⟩, if_pos e]
                · rw [if_neg (fun z => e z.2), if_neg e]; exact e71 j
              · rw [gu_other (by decide), gu_eq, hxn]
                by_cases e : u = fo k.toNat
                · rw [if_pos ⟨rfl, e⟩, if_pos e]
                · rw [if_neg (fun z => e z.2), if_neg e]
            · refine Go.run hsz hn1 3 (pc' := 313) (lv' := [some (gr 148), some (gi S), some (gi w), some (gi lo), some (gi la), some (gi (wa + 0)), some (gi k), some (gi x9), some (gi s9), some (gi (m 171 s9.toNat)), some (gi ((m 171 s9.toNat) - (m 154 x9.toNat)))]) (st' := [gi s9, gr 171]) (M' := gw (gu (gu m 170 x9.toNat 1) 171 s9.toNat ((m 171 s9.toNat) + (m 155 x9.toNat))) ml) rfl ?_
              refine Go.iald (by rfl) (N := 6) (by rfl) (by omega) (by omega) (by decide) ?_
              refine Go.run hsz hn1 0 (pc' := 314) (lv' := [some (gr 148), some (gi S), some (gi w), some (gi lo), some (gi la), some (gi (wa + 0)), some (gi k), some (gi x9), some (gi s9), some (gi (m 171 s9.toNat)), some (gi ((m 171 s9.toNat) - (m 154 x9.toNat)))]) (st' := [gi ((gu (gu m 170 x9.toNat 1) 171 s9.toNat ((m 171 s9.toNat) + (m 155 x9.toNat))) 171 s9.toNat)]) (M' := gw (gu (gu m 170 x9.toNat 1) 171 s9.toNat ((m 171 s9.toNat) + (m 155 x9.toNat))) ml) rfl ?_
              rw [show (gu (gu m 170 x9.toNat 1) 171 s9.toNat ((m 171 s9.toNat) + (m 155 x9.toNat))) 171 s9.toNat = (m 171 s9.toNat) + (m 155 x9.toNat) from gu_self _ _ _ _]
              refine Go.run hsz hn1 4 (pc' := 78) (lv' := [some (gr 148), some (gi S), some (gi w), some (gi lo), some (gi ((m 171 s9.toNat) + (m 155 x9.toNat))), some (gi (wa + 0)), some (gi (k + 1)), some (gi x9), some (gi s9), some (gi (m 171 s9.toNat)), some (gi ((m 171 s9.toNat) - (m 154 x9.toNat)))]) (st' := []) (M' := gw (gu (gu m 170 x9.toNat 1) 171 s9.toNat ((m 171 s9.toNat) + (m 155 x9.toNat))) ml) rfl ?_
              refine Go.dropl 7 ?_
              refine Go.dropl 8 ?_
              refine Go.dropl 9 ?_
              refine Go.dropl 10 ?_
              refine Go.run hsz hn1 0 (pc' := 78) (lv' := [some (gr 148), some (gi S), some (gi w), some (gi lo), some (gi ((m 171 s9.toNat) + (m 155 x9.toNat))), some (gi (wa + 0)), some (gi (k + 1)), none, none, none, none]) (st' := []) (M' := gw (gu (gu m 170 x9.toNat 1) 171 s9.toNat ((m 171 s9.toNat) + (m 155 x9.toNat))) ml) rfl ?_
              have hst := bMr_s (m := m) (m' := gu (gu m 170 x9.toNat 1) 171 s9.toNat ((m 171 s9.toNat) + (m 155 x9.toNat))) (s := s9.toNat) (b := m 171 s9.toNat) hF (show ((k.toNat : Nat) : Int) < mi 148 9 by omega) hr (by omega) (by rw [hs9, show (S - 1).toNat = S.toNat - 1 by omega]; exact bMn_congr (fun j hj => e71 j)) (by rw [← ec]; split <;> omega) (fun j hj => ?_) (fun u => ?_)
              · obtain ⟨hr', g1, g2, g3⟩ := hst
                rw [← h1, ← ec] at g1; rw [← h2, ← et] at g2; rw [← h3, ← ec] at g3
                refine ih (k + 1) _ _ _ _ ?_ ?_ (by rw [show (k + 1).toNat = k.toNat + 1 by omega]; exact hr') ?_ ?_ ?_ (by omega) (by omega) (by omega)
                · intro c j q1 q2; rw [gu_other q2, gu_other q1]; exact hm c j q1 q2
                · exact gR32_gu (gR32_gu hmR ⟨by decide, by decide⟩) ⟨by omega, by omega⟩
                · rw [show (k + 1).toNat = k.toNat + 1 by omega, g1]; split <;> omega
                · rw [show (k + 1).toNat = k.toNat + 1 by omega, g2]; split <;> omega
                · rw [show (k + 1).toNat = k.toNat + 1 by omega, g3]; split <;> omega
              · rw [gu_eq, ← et]
                by_cases e : j = s9.toNat
                · rw [if_pos ⟨rfl, e⟩, if_pos e]
                · rw [if_neg (fun z => e z.2), if_neg e]; exact e71 j
              · rw [gu_other (by decide), gu_eq, hxn]
                by_cases e : u = fo k.toNat
                · rw [if_pos ⟨rfl, e⟩, if_pos e]
                · rw [if_neg (fun z => e z.2), if_neg e]
          · refine Go.run hsz hn1 11 (pc' := 292) (lv' := [some (gr 148), some (gi S), some (gi w), some (gi lo), some (gi la), some (gi (wa + 1)), some (gi k), some (gi x9), some (gi s9), some (gi (m 171 s9.toNat)), some (gi ((m 171 s9.toNat) - (m 154 x9.toNat)))]) (st' := [gi x9, gr 155, gi (m 171 s9.toNat), gi s9, gr 171]) (M' := gw (gu m 170 x9.toNat 1) ml) rfl ?_
            refine Go.iald (by rfl) (N := 20) (by rfl) (by omega) (by omega) (by decide) ?_
            refine Go.run hsz hn1 0 (pc' := 293) (lv' := [some (gr 148), some (gi S), some (gi w), some (gi lo), some (gi la), some (gi (wa + 1)), some (gi k), some (gi x9), some (gi s9), some (gi (m 171 s9.toNat)), some (gi ((m 171 s9.toNat) - (m 154 x9.toNat)))]) (st' := [gi ((gu m 170 x9.toNat 1) 155 x9.toNat), gi (m 171 s9.toNat), gi s9, gr 171]) (M' := gw (gu m 170 x9.toNat 1) ml) rfl ?_
            rw [show (gu m 170 x9.toNat 1) 155 x9.toNat = m 155 x9.toNat from gu_ne (Or.inl (by decide))]
            refine Go.run hsz hn1 1 (pc' := 294) (lv' := [some (gr 148), some (gi S), some (gi w), some (gi lo), some (gi la), some (gi (wa + 1)), some (gi k), some (gi x9), some (gi s9), some (gi (m 171 s9.toNat)), some (gi ((m 171 s9.toNat) - (m 154 x9.toNat)))]) (st' := [gi ((m 171 s9.toNat) + (m 155 x9.toNat)), gi s9, gr 171]) (M' := gw (gu m 170 x9.toNat 1) ml) rfl ?_
            refine Go.iast (by rfl) (N := 6) (by rfl) (by omega) (by omega) (by decide) ?_
            refine Go.run hsz hn1 3 (pc' := 301) (lv' := [some (gr 148), some (gi S), some (gi w), some (gi lo), some (gi la), some (gi (wa + 1)), some (gi k), some (gi x9), some (gi s9), some (gi (m 171 s9.toNat)), some (gi ((m 171 s9.toNat) - (m 154 x9.toNat)))]) (st' := [gi s9, gr 171]) (M' := gw (gu (gu m 170 x9.toNat 1) 171 s9.toNat ((m 171 s9.toNat) + (m 155 x9.toNat))) ml) rfl ?_
            refine Go.iald (by rfl) (N := 6) (by rfl) (by omega) (by omega) (by decide) ?_
            refine Go.run hsz hn1 0 (pc' := 302) (lv' := [some (gr 148), some (gi S), some (gi w), some (gi lo), some (gi la), some (gi (wa + 1)), some (gi k), some (gi x9), some (gi s9), some (gi (m 171 s9.toNat)), some (gi ((m 171 s9.toNat) - (m 154 x9.toNat)))]) (st' := [gi ((gu (gu m 170 x9.toNat 1) 171 s9.toNat ((m 171 s9.toNat) + (m 155 x9.toNat))) 171 s9.toNat)]) (M' := gw (gu (gu m 170 x9.toNat 1) 171 s9.toNat ((m 171 s9.toNat) + (m 155 x9.toNat))) ml) rfl ?_
            rw [show (gu (gu m 170 x9.toNat 1) 171 s9.toNat ((m 171 s9.toNat) + (m 155 x9.toNat))) 171 s9.toNat = (m 171 s9.toNat) + (m 155 x9.toNat) from gu_self _ _ _ _]
            refine Go.run hsz hn1 1 (pc' := 304) (lv' := [some (gr 148), some (gi S), some (gi w), some (gi lo), some (gi la), some (gi (wa + 1)), some (gi k), some (gi x9), some (gi s9), some (gi (m 171 s9.toNat)), some (gi ((m 171 s9.toNat) - (m 154 x9.toNat)))]) (st' := [gi la, gi ((m 171 s9.toNat) + (m 155 x9.toNat))]) (M' := gw (gu (gu m 170 x9.toNat 1) 171 s9.toNat ((m 171 s9.toNat) + (m 155 x9.toNat))) ml) rfl ?_
            refine Go.icmp_le (by rfl) ⟨by omega, by omega⟩ ⟨by omega, by omega⟩ (fun kq8 => ?_) (fun kq8 => ?_)
            · refine Go.run hsz hn1 4 (pc' := 78) (lv' := [some (gr 148), some (gi S), some (gi w), some (gi lo), some (gi la), some (gi (wa + 1)), some (gi (k + 1)), some (gi x9), some (gi s9), some (gi (m 171 s9.toNat)), some (gi ((m 171 s9.toNat) - (m 154 x9.toNat)))]) (st' := []) (M' := gw (gu (gu m 170 x9.toNat 1) 171 s9.toNat ((m 171 s9.toNat) + (m 155 x9.toNat))) ml) rfl ?_
              refine Go.dropl 7 ?_
              refine Go.dropl 8 ?_
              refine Go.dropl 9 ?_
              refine Go.dropl 10 ?_
              refine Go.run hsz hn1 0 (pc' := 78) (lv' := [some (gr 148), some (gi S), some (gi w), some (gi lo), some (gi la), some (gi (wa + 1)), some (gi (k + 1)), none, none, none, none]) (st' := []) (M' := gw (gu (gu m 170 x9.toNat 1) 171 s9.toNat ((m 171 s9.toNat) + (m 155 x9.toNat))) ml) rfl ?_
              have hst := bMr_s (m := m) (m' := gu (gu m 170 x9.toNat 1) 171 s9.toNat ((m 171 s9.toNat) + (m 155 x9.toNat))) (s := s9.toNat) (b := m 171 s9.toNat) hF (show ((k.toNat : Nat) : Int) < mi 148 9 by omega) hr (by omega) (by rw [hs9, show (S - 1).toNat = S.toNat - 1 by omega]; exact bMn_congr (fun j hj => e71 j)) (by rw [← ec]; split <;> omega) (fun j hj => ?_) (fun u => ?_)
              · obtain ⟨hr', g1, g2, g3⟩ := hst
                rw [← h1, ← ec] at g1; rw [← h2, ← et] at g2; rw [← h3, ← ec] at g3
                refine ih (k + 1) _ _ _ _ ?_ ?_ (by rw [show (k + 1).toNat = k.toNat + 1 by omega]; exact hr') ?_ ?_ ?_ (by omega) (by omega) (by omega)
                · intro c j q1 q2; rw [gu_other q2, gu_other q1]; exact hm c j q1 q2
                · exact gR32_gu (gR32_gu hmR ⟨by decide, by decide⟩) ⟨by omega, by omega⟩
                · rw [show (k + 1).toNat = k.toNat + 1 by omega, g1]; split <;> omega
                · rw [show (k + 1).toNat = k.toNat + 1 by omega, g2]; split <;> omega
                · rw [show (k + 1).toNat = k.toNat + 1 by omega, g3]; split <;> omega
              · rw [gu_eq, ← et]
                by_cases e : j = s9.toNat
                · rw [if_pos ⟨rfl, e⟩, if_pos e]
                · rw [if_neg (fun z => e z.2), if_neg e]; exact e71 j
              · rw [gu_other (by decide), gu_eq, hxn]
                by_cases e : u = fo k.toNat
                · rw [if_pos ⟨rfl, e⟩, if_pos e]
                · rw [if_neg (fun z => e z.2), if_neg e]
            · refine Go.run hsz hn1 3 (pc' := 313) (lv' := [some (gr 148), some (gi S), some (gi w), some (gi lo), some (gi la), some (gi (wa + 1)), some (gi k), some (gi x9), some (gi s9), some (gi (m 171 s9.toNat)), some (gi ((m 171 s9.toNat) - (m 154 x9.toNat)))]) (st' := [gi s9, gr 171]) (M' := gw (gu (gu m 170 x9.toNat 1) 171 s9.toNat ((m 171 s9.toNat) + (m 155 x9.toNat))) ml) rfl ?_
              refine Go.iald (by rfl) (N := 6) (by rfl) (by omega) (by omega) (by decide) ?_
              refine Go.run hsz hn1 0 (pc' := 314) (lv' := [some (gr 148), some (gi S), some (gi w), some (gi lo), some (gi la), some (gi (wa + 1)), some (gi k), some (gi x9), some (gi s9), some (gi (m 171 s9.toNat)), some (gi ((m 171 s9.toNat) - (m 154 x9.toNat)))]) (st' := [gi ((gu (gu m 170 x9.toNat 1) 171 s9.toNat ((m 171 s9.toNat) + (m 155 x9.toNat))) 171 s9.toNat)]) (M' := gw (gu (gu m 170 x9.toNat 1) 171 s9.toNat ((m 171 s9.toNat) + (m 155 x9.toNat))) ml) rfl ?_
              rw [show (gu (gu m 170 x9.toNat 1) 171 s9.toNat ((m 171 s9.toNat) + (m 155 x9.toNat))) 171 s9.toNat = (m 171 s9.toNat) + (m 155 x9.toNat) from gu_self _ _ _ _]
              refine Go.run hsz hn1 4 (pc' := 78) (lv' := [some (gr 148), some (gi S), some (gi w), some (gi lo), some (gi ((m 171 s9.toNat) + (m 155 x9.toNat))), some (gi (wa + 1)), some (gi (k + 1)), some (gi x9), some (gi s9), some (gi (m 171 s9.toNat)), some (gi ((m 171 s9.toNat) - (m 154 x9.toNat)))]) (st' := []) (M' := gw (gu (gu m 170 x9.toNat 1) 171 s9.toNat ((m 171 s9.toNat) + (m 155 x9.toNat))) ml) rfl ?_
              refine Go.dropl 7 ?_
              refine Go.dropl 8 ?_
              refine Go.dropl 9 ?_
              refine Go.dropl 10 ?_
              refine Go.run hsz hn1 0 (pc' := 78) (lv' := [some (gr 148), some (gi S), some (gi w), some (gi lo), some (gi ((m 171 s9.toNat) + (m 155 x9.toNat))), some (gi (wa + 1)), some (gi (k + 1)), none, none, none, none]) (st' := []) (M' := gw (gu (gu m 170 x9.toNat 1) 171 s9.toNat ((m 171 s9.toNat) + (m 155 x9.toNat))) ml) rfl ?_
              have hst := bMr_s (m := m) (m' := gu (gu m 170 x9.toNat 1) 171 s9.toNat ((m 171 s9.toNat) + (m 155 x9.toNat))) (s := s9.toNat) (b := m 171 s9.toNat) hF (show ((k.toNat : Nat) : Int) < mi 148 9 by omega) hr (by omega) (by rw [hs9, show (S - 1).toNat = S.toNat - 1 by omega]; exact bMn_congr (fun j hj => e71 j)) (by rw [← ec]; split <;> omega) (fun j hj => ?_) (fun u => ?_)
              · obtain ⟨hr', g1, g2, g3⟩ := hst
                rw [← h1, ← ec] at g1; rw [← h2, ← et] at g2; rw [← h3, ← ec] at g3
                refine ih (k + 1) _ _ _ _ ?_ ?_ (by rw [show (k + 1).toNat = k.toNat + 1 by omega]; exact hr') ?_ ?_ ?_ (by omega) (by omega) (by omega)
                · intro c j q1 q2; rw [gu_other q2, gu_other q1]; exact hm c j q1 q2
                · exact gR32_gu (gR32_gu hmR ⟨by decide, by decide⟩) ⟨by omega, by omega⟩
                · rw [show (k + 1).toNat = k.toNat + 1 by omega, g1]; split <;> omega
                · rw [show (k + 1).toNat = k.toNat + 1 by omega, g2]; split <;> omega
                · rw [show (k + 1).toNat = k.toNat + 1 by omega, g3]; split <;> omega
              · rw [gu_eq, ← et]
                by_cases e : j = s9.toNat
                · rw [if_pos ⟨rfl, e⟩, if_pos e]
                · rw [if_neg (fun z => e z.2), if_neg e]; exact e71 j
              · rw [gu_other (by decide), gu_eq, hxn]
                by_cases e : u = fo k.toNat
                · rw [if_pos ⟨rfl, e⟩, if_pos e]
                · rw [if_neg (fun z => e z.2), if_neg e]
        · refine Go.run hsz hn1 5 (pc' := 267) (lv' := [some (gr 148), some (gi S), some (gi w), some (gi ((m 171 s9.toNat) - (m 154 x9.toNat))), some (gi la), some (gi wa), some (gi k), some (gi x9), some (gi s9), some (gi (m 171 s9.toNat)), some (gi ((m 171 s9.toNat) - (m 154 x9.toNat)))]) (st' := [gi ((m 171 s9.toNat) - (m 154 x9.toNat)), gi wa]) (M' := gw (gu m 170 x9.toNat 1) ml) rfl ?_
          refine Go.if_le (by rfl) ⟨by omega, by omega⟩ (fun kq9 => ?_) (fun kq9 => ?_)
          · refine Go.run hsz hn1 10 (pc' := 292) (lv' := [some (gr 148), some (gi S), some (gi w), some (gi ((m 171 s9.toNat) - (m 154 x9.toNat))), some (gi la), some (gi (wa + 0)), some (gi k), some (gi x9), some (gi s9), some (gi (m 171 s9.toNat)), some (gi ((m 171 s9.toNat) - (m 154 x9.toNat)))]) (st' := [gi x9, gr 155, gi (m 171 s9.toNat), gi s9, gr 171]) (M' := gw (gu m 170 x9.toNat 1) ml) rfl ?_
            refine Go.iald (by rfl) (N := 20) (by rfl) (by omega) (by omega) (by decide) ?_
            refine Go.run hsz hn1 0 (pc' := 293) (lv' := [some (gr 148), some (gi S), some (gi w), some (gi ((m 171 s9.toNat) - (m 154 x9.toNat))), some (gi la), some (gi (wa + 0)), some (gi k), some (gi x9), some (gi s9), some (gi (m 171 s9.toNat)), some (gi ((m 171 s9.toNat) - (m 154 x9.toNat)))]) (st' := [gi ((gu m 170 x9.toNat 1) 155 x9.toNat), gi (m 171 s9.toNat), gi s9, gr 171]) (M' := gw (gu m 170 x9.toNat 1) ml) rfl ?_
            rw [show (gu m 170 x9.toNat 1) 155 x9.toNat = m 155 x9.toNat from gu_ne (Or.inl (by decide))]
            refine Go.run hsz hn1 1 (pc' := 294) (lv' := [some (gr 148), some (gi S), some (gi w), some (gi ((m 171 s9.toNat) - (m 154 x9.toNat))), some (gi la), some (gi (wa + 0)), some (gi k), some (gi x9), some (gi s9), some (gi (m 171 s9.toNat)), some (gi ((m 171 s9.toNat) - (m 154 x9.toNat)))]) (st' := [gi ((m 171 s9.toNat) + (m 155 x9.toNat)), gi s9, gr 171]) (M' := gw (gu m 170 x9.toNat 1) ml) rfl ?_
            refine Go.iast (by rfl) (N := 6) (by rfl) (by omega) (by omega) (by decide) ?_
            refine Go.run hsz hn1 3 (pc' := 301) (lv' := [some (gr 148), some (gi S), some (gi w), some (gi ((m 171 s9.toNat) - (m 154 x9.toNat))), some (gi la), some (gi (wa + 0)), some (gi k), some (gi x9), some (gi s9), some (gi (m 171 s9.toNat)), some (gi ((m 171 s9.toNat) - (m 154 x9.toNat)))]) (st' := [gi s9, gr 171]) (M' := gw (gu (gu m 170 x9.toNat 1) 171 s9.toNat ((m 171 s9.toNat) + (m 155 x9.toNat))) ml) rfl ?_
            refine Go.iald (by rfl) (N := 6) (by rfl) (by omega) (by omega) (by decide) ?_
            refine Go.run hsz hn1 0 (pc' := 302) (lv' := [some (gr 148), some (gi S), some (gi w), some (gi ((m 171 s9.toNat) - (m 154 x9.toNat))), some (gi la), some (gi (wa + 0)), some (gi k), some (gi x9), some (gi s9), some (gi (m 171 s9.toNat)), some (gi ((m 171 s9.toNat) - (m 154 x9.toNat)))]) (st' := [gi ((gu (gu m 170 x9.toNat 1) 171 s9.toNat ((m 171 s9.toNat) + (m 155 x9.toNat))) 171 s9.toNat)]) (M' := gw (gu (gu m 170 x9.toNat 1) 171 s9.toNat ((m 171 s9.toNat) + (m 155 x9.toNat))) ml) rfl ?_
            rw [show (gu (gu m 170 x9.toNat 1) 171 s9.toNat ((m 171 s9.toNat) + (m 155 x9.toNat))) 171 s9.toNat = (m 171 s9.toNat) + (m 155 x9.toNat) from gu_self _ _ _ _]
            refine Go.run hsz hn1 1 (pc' := 304) (lv' := [some (gr 148), some (gi S), some (gi w), some (gi ((m 171 s9.toNat) - (m 154 x9.toNat))), some (gi la), some (gi (wa + 0)), some (gi k), some (gi x9), some (gi s9), some (gi (m 171 s9.toNat)), some (gi ((m 171 s9.toNat) - (m 154 x9.toNat)))]) (st' := [gi la, gi ((m 171 s9.toNat) + (m 155 x9.toNat))]) (M' := gw (gu (gu m 170 x9.toNat 1) 171 s9.toNat ((m 171 s9.toNat) + (m 155 x9.toNat))) ml) rfl ?_
            refine Go.icmp_le (by rfl) ⟨by omega, by omega⟩ ⟨by omega, by omega⟩ (fun kq10 => ?_) (fun kq10 => ?_)
            · refine Go.run hsz hn1 4 (pc' := 78) (lv' := [some (gr 148), some (gi S), some (gi w), some (gi ((m 171 s9.toNat) - (m 154 x9.toNat))), some (gi la), some (gi (wa + 0)), some (gi (k + 1)), some (gi x9), some (gi s9), some (gi (m 171 s9.toNat)), some (gi ((m 171 s9.toNat) - (m 154 x9.toNat)))]) (st' := []) (M' := gw (gu (gu m 170 x9.toNat 1) 171 s9.toNat ((m 171 s9.toNat) + (m 155 x9.toNat))) ml) rfl ?_
              refine Go.dropl 7 ?_
              refine Go.dropl 8 ?_
              refine Go.dropl 9 ?_
              refine Go.dropl 10 ?_
              refine Go.run hsz hn1 0 (pc' := 78) (lv' := [some (gr 148), some (gi S), some (gi w), some (gi ((m 171 s9.toNat) - (m 154 x9.toNat))), some (gi la), some (gi (wa + 0)), some (gi (k + 1)), none, none, none, none]) (st' := []) (M' := gw (gu (gu m 170 x9.toNat 1) 171 s9.toNat ((m 171 s9.toNat) + (m 155 x9.toNat))) ml) rfl ?_
              have hst := bMr_s (m := m) (m' := gu (gu m 170 x9.toNat 1) 171 s9.toNat ((m 171 s9.toNat) + (m 155 x9.toNat))) (s := s9.toNat) (b := m 171 s9.toNat) hF (show ((k.toNat : Nat) : Int) < mi 148 9 by omega) hr (by omega) (by rw [hs9, show (S - 1).toNat = S.toNat - 1 by omega]; exact bMn_congr (fun j hj => e71 j)) (by rw [← ec]; split <;> omega) (fun j hj => ?_) (fun u => ?_)
              · obtain ⟨hr', g1, g2, g3⟩ := hst
                rw [← h1, ← ec] at g1; rw [← h2, ← et] at g2; rw [← h3, ← ec] at g3
                refine ih (k + 1) _ _ _ _ ?_ ?_ (by rw [show (k + 1).toNat = k.toNat + 1 by omega]; exact hr') ?_ ?_ ?_ (by omega) (by omega) (by omega)
                · intro c j q1 q2; rw [gu_other q2, gu_other q1]; exact hm c j q1 q2
                · exact gR32_gu (gR32_gu hmR ⟨by decide, by decide⟩) ⟨by omega, by omega⟩
                · rw [show (k + 1).toNat = k.toNat + 1 by omega, g1]; split <;> omega
                · rw [show (k + 1).toNat = k.toNat + 1 by omega, g2]; split <;> omega
                · rw [show (k + 1).toNat = k.toNat + 1 by omega, g3]; split <;> omega
              · rw [gu_eq, ← et]
                by_cases e : j = s9.toNat
                · rw [if_pos ⟨rfl, e⟩, if_pos e]
                · rw [if_neg (fun z => e z.2), if_neg e]; exact e71 j
              · rw [gu_other (by decide), gu_eq, hxn]
                by_cases e : u = fo k.toNat
                · rw [if_pos ⟨rfl, e⟩, if_pos e]
                · rw [if_neg (fun z => e z.2), if_neg e]
            · refine Go.run hsz hn1 3 (pc' := 313) (lv' := [some (gr 148), some (gi S), some (gi w), some (gi ((m 171 s9.toNat) - (m 154 x9.toNat))), some (gi la), some (gi (wa + 0)), some (gi k), some (gi x9), some (gi s9), some (gi (m 171 s9.toNat)), some (gi ((m 171 s9.toNat) - (m 154 x9.toNat)))]) (st' := [gi s9, gr 171]) (M' := gw (gu (gu m 170 x9.toNat 1) 171 s9.toNat ((m 171 s9.toNat) + (m 155 x9.toNat))) ml) rfl ?_
              refine Go.iald (by rfl) (N := 6) (by rfl) (by omega) (by omega) (by decide) ?_
              refine Go.run hsz hn1 0 (pc' := 314) (lv' := [some (gr 148), some (gi S), some (gi w), some (gi ((m 171 s9.toNat) - (m 154 x9.toNat))), some (gi la), some (gi (wa + 0)), some (gi k), some (gi x9), some (gi s9), some (gi (m 171 s9.toNat)), some (gi ((m 171 s9.toNat) - (m 154 x9.toNat)))]) (st' := [gi ((gu (gu m 170 x9.toNat 1) 171 s9.toNat ((m 171 s9.toNat) + (m 155 x9.toNat))) 171 s9.toNat)]) (M' := gw (gu (gu m 170 x9.toNat 1) 171 s9.toNat ((m 171 s9.toNat) + (m 155 x9.toNat))) ml) rfl ?_
              rw [show (gu (gu m 170 x9.toNat 1) 171 s9.toNat ((m 171 s9.toNat) + (m 155 x9.toNat))) 171 s9.toNat = (m 171 s9.toNat) + (m 155 x9.toNat) from gu_self _ _ _ _]
              refine Go.run hsz hn1 4 (pc' := 78) (lv' := [some (gr 148), some (gi S), some (gi w), some (gi ((m 171 s9.toNat) - (m 154 x9.toNat))), some (gi ((m 171 s9.toNat) + (m 155 x9.toNat))), some (gi (wa + 0)), some (gi (k + 1)), some (gi x9), some (gi s9), some (gi (m 171 s9.toNat)), some (gi ((m 171 s9.toNat) - (m 154 x9.toNat)))]) (st' := []) (M' := gw (gu (gu m 170 x9.toNat 1) 171 s9.toNat ((m 171 s9.toNat) + (m 155 x9.toNat))) ml) rfl ?_
              refine Go.dropl 7 ?_
              refine Go.dropl 8 ?_
              refine Go.dropl 9 ?_
              refine Go.dropl 10 ?_
              refine Go.run hsz hn1 0 (pc' := 78) (lv' := [some (gr 148), some (gi S), some (gi w), some (gi ((m 171 s9.toNat) - (m 154 x9.toNat))), some (gi ((m 171 s9.toNat) + (m 155 x9.toNat))), some (gi (wa + 0)), some (gi (k + 1)), none, none, none, none]) (st' := []) (M' := gw (gu (gu m 170 x9.toNat 1) 171 s9.toNat ((m 171 s9.toNat) + (m 155 x9.toNat))) ml) rfl ?_
              have hst := bMr_s (m := m) (m' := gu (gu m 170 x9.toNat 1) 171 s9.toNat ((m 171 s9.toNat) + (m 155 x9.toNat))) (s := s9.toNat) (b := m 171 s9.toNat) hF (show ((k.toNat : Nat) : Int) < mi 148 9 by omega) hr (by omega) (by rw [hs9, show (S - 1).toNat = S.toNat - 1 by omega]; exact bMn_congr (fun j hj => e71 j)) (by rw [← ec]; split <;> omega) (fun j hj => ?_) (fun u => ?_)
              · obtain ⟨hr', g1, g2, g3⟩ := hst
                rw [← h1, ← ec] at g1; rw [← h2, ← et] at g2; rw [← h3, ← ec] at g3
                refine ih (k + 1) _ _ _ _ ?_ ?_ (by rw [show (k + 1).toNat = k.toNat + 1 by omega]; exact hr') ?_ ?_ ?_ (by omega) (by omega) (by omega)
                · intro c j q1 q2; rw [gu_other q2, gu_other q1]; exact hm c j q1 q2
                · exact gR32_gu (gR32_gu hmR ⟨by decide, by decide⟩) ⟨by omega, by omega⟩
                · rw [show (k + 1).toNat = k.toNat + 1 by omega, g1]; split <;> omega
                · rw [show (k + 1).toNat = k.toNat + 1 by omega, g2]; split <;> omega
                · rw [show (k + 1).toNat = k.toNat + 1 by omega, g3]; split <;> omega
              · rw [gu_eq, ← et]
                by_cases e : j = s9.toNat
                · rw [if_pos ⟨rfl, e⟩, if_pos e]
                · rw [if_neg (fun z => e z.2), if_neg e]; exact e71 j
              · rw [gu_other (by decide), gu_eq, hxn]
                by_cases e : u = fo k.toNat
                · rw [if_pos ⟨rfl, e⟩, if_pos e]
                · rw [if_neg (fun z => e z.2), if_neg e]
          · refine Go.run hsz hn1 11 (pc' := 292) (lv' := [some (gr 148), some (gi S), some (gi w), some (gi ((m 171 s9.toNat) - (m 154 x9.toNat))), some (gi la), some (gi (wa + 1)), some (gi k), some (gi x9), some (gi s9), some (gi (m 171 s9.toNat)), some (gi ((m 171 s9.toNat) - (m 154 x9.toNat)))]) (st' := [gi x9, gr 155, gi (m 171 s9.toNat), gi s9, gr 171]) (M' := gw (gu m 170 x9.toNat 1) ml) rfl ?_
            refine Go.iald (by rfl) (N := 20) (by rfl) (by omega) (by omega) (by decide) ?_
            refine Go.run hsz hn1 0 (pc' := 293) (lv' := [some (gr 148), some (gi S), some (gi w), some (gi ((m 171 s9.toNat) - (m 154 x9.toNat))), some (gi la), some (gi (wa + 1)), some (gi k), some (gi x9), some (gi s9), some (gi (m 171 s9.toNat)), some (gi ((m 171 s9.toNat) - (m 154 x9.toNat)))]) (st' := [gi ((gu m 170 x9.toNat 1) 155 x9.toNat), gi (m 171 s9.toNat), gi s9, gr 171]) (M' := gw (gu m 170 x9.toNat 1) ml) rfl ?_
            rw [show (gu m 170 x9.toNat 1) 155 x9.toNat = m 155 x9.toNat from gu_ne (Or.inl (by decide))]
            refine Go.run hsz hn1 1 (pc' := 294) (lv' := [some (gr 148), some (gi S), some (gi w), some (gi ((m 171 s9.toNat) - (m 154 x9.toNat))), some (gi la), some (gi (wa + 1)), some (gi k), some (gi x9), some (gi s9), some (gi (m 171 s9.toNat)), some (gi ((m 171 s9.toNat) - (m 154 x9.toNat)))]) (st' := [gi ((m 171 s9.toNat) + (m 155 x9.toNat)), gi s9, gr 171]) (M' := gw (gu m 170 x9.toNat 1) ml) rfl ?_
            refine Go.iast (by rfl) (N := 6) (by rfl) (by omega) (by omega) (by decide) ?_
            refine Go.run hsz hn1 3 (pc' := 301) (lv' := [some (gr 148), some (gi S), some (gi w), some (gi ((m 171 s9.toNat) - (m 154 x9.toNat))), some (gi la), some (gi (wa + 1)), some (gi k), some (gi x9), some (gi s9), some (gi (m 171 s9.toNat)), some (gi ((m 171 s9.toNat) - (m 154 x9.toNat)))]) (st' := [gi s9, gr 171]) (M' := gw (gu (gu m 170 x9.toNat 1) 171 s9.toNat ((m 171 s9.toNat) + (m 155 x9.toNat))) ml) rfl ?_
            refine Go.iald (by rfl) (N := 6) (by rfl) (by omega) (by omega) (by decide) ?_
            refine Go.run hsz hn1 0 (pc' := 302) (lv' := [some (gr 148), some (gi S), some (gi w), some (gi ((m 171 s9.toNat) - (m 154 x9.toNat))), some (gi la), some (gi (wa + 1)), some (gi k), some (gi x9), some (gi s9), some (gi (m 171 s9.toNat)), some (gi ((m 171 s9.toNat) - (m 154 x9.toNat)))]) (st' := [gi ((gu (gu m 170 x9.toNat 1) 171 s9.toNat ((m 171 s9.toNat) + (m 155 x9.toNat))) 171 s9.toNat)]) (M' := gw (gu (gu m 170 x9.toNat 1) 171 s9.toNat ((m 171 s9.toNat) + (m 155 x9.toNat))) ml) rfl ?_
            rw [show (gu (gu m 170 x9.toNat 1) 171 s9.toNat ((m 171 s9.toNat) + (m 155 x9.toNat))) 171 s9.toNat = (m 171 s9.toNat) + (m 155 x9.toNat) from gu_self _ _ _ _]
            refine Go.run hsz hn1 1 (pc' := 304) (lv' := [some (gr 148), some (gi S), some (gi w), some (gi ((m 171 s9.toNat) - (m 154 x9.toNat))), some (gi la), some (gi (wa + 1)), some (gi k), some (gi x9), some (gi s9), some (gi (m 171 s9.toNat)), some (gi ((m 171 s9.toNat) - (m 154 x9.toNat)))]) (st' := [gi la, gi ((m 171 s9.toNat) + (m 155 x9.toNat))]) (M' := gw (gu (gu m 170 x9.toNat 1) 171 s9.toNat ((m 171 s9.toNat) + (m 155 x9.toNat))) ml) rfl ?_
            refine Go.icmp_le (by rfl) ⟨by omega, by omega⟩ ⟨by omega, by omega⟩ (fun kq11 => ?_) (fun kq11 => ?_)
            · refine Go.run hsz hn1 4 (pc' := 78) (lv' := [some (gr 148), some (gi S), some (gi w), some (gi ((m 171 s9.toNat) - (m 154 x9.toNat))), some (gi la), some (gi (wa + 1)), some (gi (k + 1)), some (gi x9), some (gi s9), some (gi (m 171 s9.toNat)), some (gi ((m 171 s9.toNat) - (m 154 x9.toNat)))]) (st' := []) (M' := gw (gu (gu m 170 x9.toNat 1) 171 s9.toNat ((m 171 s9.toNat) + (m 155 x9.toNat))) ml) rfl ?_
              refine Go.dropl 7 ?_
              refine Go.dropl 8 ?_
              refine Go.dropl 9 ?_
              refine Go.dropl 10 ?_
              refine Go.run hsz hn1 0 (pc' := 78) (lv' := [some (gr 148), some (gi S), some (gi w), some (gi ((m 171 s9.toNat) - (m 154 x9.toNat))), some (gi la), some (gi (wa + 1)), some (gi (k + 1)), none, none, none, none]) (st' := []) (M' := gw (gu (gu m 170 x9.toNat 1) 171 s9.toNat ((m 171 s9.toNat) + (m 155 x9.toNat))) ml) rfl ?_
              have hst := bMr_s (m := m) (m' := gu (gu m 170 x9.toNat 1) 171 s9.toNat ((m 171 s9.toNat) + (m 155 x9.toNat))) (s := s9.toNat) (b := m 171 s9.toNat) hF (show ((k.toNat : Nat) : Int) < mi 148 9 by omega) hr (by omega) (by rw [hs9, show (S - 1).toNat = S.toNat - 1 by omega]; exact bMn_congr (fun j hj => e71 j)) (by rw [← ec]; split <;> omega) (fun j hj => ?_) (fun u => ?_)
              · obtain ⟨hr', g1, g2, g3⟩ := hst
                rw [← h1, ← ec] at g1; rw [← h2, ← et] at g2; rw [← h3, ← ec] at g3
                refine ih (k + 1) _ _ _ _ ?_ ?_ (by rw [show (k + 1).toNat = k.toNat + 1 by omega]; exact hr') ?_ ?_ ?_ (by omega) (by omega) (by omega)
                · intro c j q1 q2; rw [gu_other q2, gu_other q1]; exact hm c j q1 q2
                · exact gR32_gu (gR32_gu hmR ⟨by decide, by decide⟩) ⟨by omega, by omega⟩
                · rw [show (k + 1).toNat = k.toNat + 1 by omega, g1]; split <;> omega
                · rw [show (k + 1).toNat = k.toNat + 1 by omega, g2]; split <;> omega
                · rw [show (k + 1).toNat = k.toNat + 1 by omega, g3]; split <;> omega
              · rw [gu_eq, ← et]
                by_cases e : j = s9.toNat
                · rw [if_pos ⟨rfl, e⟩, if_pos e]
                · rw [if_neg (fun z => e z.2), if_neg e]; exact e71 j
              · rw [gu_other (by decide), gu_eq, hxn]
                by_cases e : u = fo k.toNat
                · rw [if_pos ⟨rfl, e⟩, if_pos e]
                · rw [if_neg (fun z => e z.2), if_neg e]
            · refine Go.run hsz hn1 3 (pc' := 313) (lv' := [some (gr 148), some (gi S), some (gi w), some (gi ((m 171 s9.toNat) - (m 154 x9.toNat))), some (gi la), some (gi (wa + 1)), some (gi k), some (gi x9), some (gi s9), some (gi (m 171 s9.toNat)), some (gi ((m 171 s9.toNat) - (m 154 x9.toNat)))]) (st' := [gi s9, gr 171]) (M' := gw (gu (gu m 170 x9.toNat 1) 171 s9.toNat ((m 171 s9.toNat) + (m 155 x9.toNat))) ml) rfl ?_
              refine Go.iald (by rfl) (N := 6) (by rfl) (by omega) (by omega) (by decide) ?_
              refine Go.run hsz hn1 0 (pc' := 314) (lv' := [some (gr 148), some (gi S), some (gi w), some (gi ((m 171 s9.toNat) - (m 154 x9.toNat))), some (gi la), some (gi (wa + 1)), some (gi k), some (gi x9), some (gi s9), some (gi (m 171 s9.toNat)), some (gi ((m 171 s9.toNat) - (m 154 x9.toNat)))]) (st' := [gi ((gu (gu m 170 x9.toNat 1) 171 s9.toNat ((m 171 s9.toNat) + (m 155 x9.toNat))) 171 s9.toNat)]) (M' := gw (gu (gu m 170 x9.toNat 1) 171 s9.toNat ((m 171 s9.toNat) + (m 155 x9.toNat))) ml) rfl ?_
              rw [show (gu (gu m 170 x9.toNat 1) 171 s9.toNat ((m 171 s9.toNat) + (m 155 x9.toNat))) 171 s9.toNat = (m 171 s9.toNat) + (m 155 x9.toNat) from gu_self _ _ _ _]
              refine Go.run hsz hn1 4 (pc' := 78) (lv' := [some (gr 148), some (gi S), some (gi w), some (gi ((m 171 s9.toNat) - (m 154 x9.toNat))), some (gi ((m 171 s9.toNat) + (m 155 x9.toNat))), some (gi (wa + 1)), some (gi (k + 1)), some (gi x9), some (gi s9), some (gi (m 171 s9.toNat)), some (gi ((m 171 s9.toNat) - (m 154 x9.toNat)))]) (st' := []) (M' := gw (gu (gu m 170 x9.toNat 1) 171 s9.toNat ((m 171 s9.toNat) + (m 155 x9.toNat))) ml) rfl ?_
              refine Go.dropl 7 ?_
              refine Go.dropl 8 ?_
              refine Go.dropl 9 ?_
              refine Go.dropl 10 ?_
              refine Go.run hsz hn1 0 (pc' := 78) (lv' := [some (gr 148), some (gi S), some (gi w), some (gi ((m 171 s9.toNat) - (m 154 x9.toNat))), some (gi ((m 171 s9.toNat) + (m 155 x9.toNat))), some (gi (wa + 1)), some (gi (k + 1)), none, none, none, none]) (st' := []) (M' := gw (gu (gu m 170 x9.toNat 1) 171 s9.toNat ((m 171 s9.toNat) + (m 155 x9.toNat))) ml) rfl ?_
              have hst := bMr_s (m := m) (m' := gu (gu m 170 x9.toNat 1) 171 s9.toNat ((m 171 s9.toNat) + (m 155 x9.toNat))) (s := s9.toNat) (b := m 171 s9.toNat) hF (show ((k.toNat : Nat) : Int) < mi 148 9 by omega) hr (by omega) (by rw [hs9, show (S - 1).toNat = S.toNat - 1 by omega]; exact bMn_congr (fun j hj => e71 j)) (by rw [← ec]; split <;> omega) (fun j hj => ?_) (fun u => ?_)
              · obtain ⟨hr', g1, g2, g3⟩ := hst
                rw [← h1, ← ec] at g1; rw [← h2, ← et] at g2; rw [← h3, ← ec] at g3
                refine ih (k + 1) _ _ _ _ ?_ ?_ (by rw [show (k + 1).toNat = k.toNat + 1 by omega]; exact hr') ?_ ?_ ?_ (by omega) (by omega) (by omega)
                · intro c j q1 q2; rw [gu_other q2, gu_other q1]; exact hm c j q1 q2
                · exact gR32_gu (gR32_gu hmR ⟨by decide, by decide⟩) ⟨by omega, by omega⟩
                · rw [show (k + 1).toNat = k.toNat + 1 by omega, g1]; split <;> omega
                · rw [show (k + 1).toNat = k.toNat + 1 by omega, g2]; split <;> omega
                · rw [show (k + 1).toNat = k.toNat + 1 by omega, g3]; split <;> omega
              · rw [gu_eq, ← et]
                by_cases e : j = s9.toNat
                · rw [if_pos ⟨rfl, e⟩, if_pos e]
                · rw [if_neg (fun z => e z.2), if_neg e]; exact e71 j
              · rw [gu_other (by decide), gu_eq, hxn]
                by_cases e : u = fo k.toNat
                · rw [if_pos ⟨rfl, e⟩, if_pos e]
                · rw [if_neg (fun z => e z.2), if_neg e]
      · refine Go.run hsz hn1 3 (pc' := 225) (lv' := [some (gr 148), some (gi S), some (gi w), some (gi lo), some (gi la), some (gi wa), some (gi k), some (gi x9), some (gi s9), none, none]) (st' := [gi x9, gr 154]) (M' := gw (gu m 170 x9.toNat 1) ml) rfl ?_
        refine Go.iald (by rfl) (N := 20) (by rfl) (by omega) (by omega) (by decide) ?_
        refine Go.run hsz hn1 0 (pc' := 226) (lv' := [some (gr 148), some (gi S), some (gi w), some (gi lo), some (gi la), some (gi wa), some (gi k), some (gi x9), some (gi s9), none, none]) (st' := [gi ((gu m 170 x9.toNat 1) 154 x9.toNat)]) (M' := gw (gu m 170 x9.toNat 1) ml) rfl ?_
        rw [show (gu m 170 x9.toNat 1) 154 x9.toNat = m 154 x9.toNat from gu_ne (Or.inl (by decide))]
        refine Go.run hsz hn1 2 (pc' := 238) (lv' := [some (gr 148), some (gi S), some (gi w), some (gi lo), some (gi la), some (gi wa), some (gi k), some (gi x9), some (gi s9), some (gi (m 154 x9.toNat)), none]) (st' := []) (M' := gw (gu m 170 x9.toNat 1) ml) rfl ?_
        refine Go.run hsz hn1 4 (pc' := 246) (lv' := [some (gr 148), some (gi S), some (gi w), some (gi lo), some (gi la), some (gi wa), some (gi k), some (gi x9), some (gi s9), some (gi (m 154 x9.toNat)), none]) (st' := [gi x9, gr 154, gi (m 154 x9.toNat)]) (M' := gw (gu m 170 x9.toNat 1) ml) rfl ?_
        refine Go.iald (by rfl) (N := 20) (by rfl) (by omega) (by omega) (by decide) ?_
        refine Go.run hsz hn1 0 (pc' := 247) (lv' := [some (gr 148), some (gi S), some (gi w), some (gi lo), some (gi la), some (gi wa), some (gi k), some (gi x9), some (gi s9), some (gi (m 154 x9.toNat)), none]) (st' := [gi ((gu m 170 x9.toNat 1) 154 x9.toNat), gi (m 154 x9.toNat)]) (M' := gw (gu m 170 x9.toNat 1) ml) rfl ?_
        rw [show (gu m 170 x9.toNat 1) 154 x9.toNat = m 154 x9.toNat from gu_ne (Or.inl (by decide))]
        refine Go.run hsz hn1 4 (pc' := 253) (lv' := [some (gr 148), some (gi S), some (gi w), some (gi lo), some (gi la), some (gi wa), some (gi k), some (gi x9), some (gi s9), some (gi (m 154 x9.toNat)), some (gi ((m 154 x9.toNat) - (m 154 x9.toNat)))]) (st' := [gi lo, gi ((m 154 x9.toNat) - (m 154 x9.toNat))]) (M' := gw (gu m 170 x9.toNat 1) ml) rfl ?_
        refine Go.icmp_le (by rfl) ⟨by omega, by omega⟩ ⟨by omega, by omega⟩ (fun kq12 => ?_) (fun kq12 => ?_)
        · refine Go.run hsz hn1 4 (pc' := 267) (lv' := [some (gr 148), some (gi S), some (gi w), some (gi lo), some (gi la), some (gi wa), some (gi k), some (gi x9), some (gi s9), some (gi (m 154 x9.toNat)), some (gi ((m 154 x9.toNat) - (m 154 x9.toNat)))]) (st' := [gi ((m 154 x9.toNat) - (m 154 x9.toNat)), gi wa]) (M' := gw (gu m 170 x9.toNat 1) ml) rfl ?_
          refine Go.if_le (by rfl) ⟨by omega, by omega⟩ (fun kq13 => ?_) (fun kq13 => ?_)
          · refine Go.run hsz hn1 10 (pc' := 292) (lv' := [some (gr 148), some (gi S), some (gi w), some (gi lo), some (gi la), some (gi (wa + 0)), some (gi k), some (gi x9), some (gi s9), some (gi (m 154 x9.toNat)), some (gi ((m 154 x9.toNat) - (m 154 x9.toNat)))]) (st' := [gi x9, gr 155, gi (m 154 x9.toNat), gi s9, gr 171]) (M' := gw (gu m 170 x9.toNat 1) ml) rfl ?_
            refine Go.iald (by rfl) (N := 20) (by rfl) (by omega) (by omega) (by decide) ?_
            refine Go.run hsz hn1 0 (pc' := 293) (lv' := [some (gr 148), some (gi S), some (gi w), some (gi lo), some (gi la), some (gi (wa + 0)), some (gi k), some (gi x9), some (gi s9), some (gi (m 154 x9.toNat)), some (gi ((m 154 x9.toNat) - (m 154 x9.toNat)))]) (st' := [gi ((gu m 170 x9.toNat 1) 155 x9.toNat), gi (m 154 x9.toNat), gi s9, gr 171]) (M' := gw (gu m 170 x9.toNat 1) ml) rfl ?_
            rw [show (gu m 170 x9.toNat 1) 155 x9.toNat = m 155 x9.toNat from gu_ne (Or.inl (by decide))]
            refine Go.run hsz hn1 1 (pc' := 294) (lv' := [some (gr 148), some (gi S), some (gi w), some (gi lo), some (gi la), some (gi (wa + 0)), some (gi k), some (gi x9), some (gi s9), some (gi (m 154 x9.toNat)), some (gi ((m 154 x9.toNat) - (m 154 x9.toNat)))]) (st' := [gi ((m 154 x9.toNat) + (m 155 x9.toNat)), gi s9, gr 171]) (M' := gw (gu m 170 x9.toNat 1) ml) rfl ?_
            refine Go.iast (by rfl) (N := 6) (by rfl) (by omega) (by omega) (by decide) ?_
            refine Go.run hsz hn1 3 (pc' := 301) (lv' := [some (gr 148), some (gi S), some (gi w), some (gi lo), some (gi la), some (gi (wa + 0)), some (gi k), some (gi x9), some (gi s9), some (gi (m 154 x9.toNat)), some (gi ((m 154 x9.toNat) - (m 154 x9.toNat)))]) (st' := [gi s9, gr 171]) (M' := gw (gu (gu m 170 x9.toNat 1) 171 s9.toNat ((m 154 x9.toNat) + (m 155 x9.toNat))) ml) rfl ?_
            refine Go.iald (by rfl) (N := 6) (by rfl) (by omega) (by omega) (by decide) ?_
            refine Go.run hsz hn1 0 (pc' := 302) (lv' := [some (gr 148), some (gi S), some (gi w), some (gi lo), some (gi la), some (gi (wa + 0)), some (gi k), some (gi x9), some (gi s9), some (gi (m 154 x9.toNat)), some (gi ((m 154 x9.toNat) - (m 154 x9.toNat)))]) (st' := [gi ((gu (gu m 170 x9.toNat 1) 171 s9.toNat ((m 154 x9.toNat) + (m 155 x9.toNat))) 171 s9.toNat)]) (M' := gw (gu (gu m 170 x9.toNat 1) 171 s9.toNat ((m 154 x9.toNat) + (m 155 x9.toNat))) ml) rfl ?_
            rw [show (gu (gu m 170 x9.toNat 1) 171 s9.toNat ((m 154 x9.toNat) + (m 155 x9.toNat))) 171 s9.toNat = (m 154 x9.toNat) + (m 155 x9.toNat) from gu_self _ _ _ _]
            refine Go.run hsz hn1 1 (pc' := 304) (lv' := [some (gr 148), some (gi S), some (gi w), some (gi lo), some (gi la), some (gi (wa + 0)), some (gi k), some (gi x9), some (gi s9), some (gi (m 154 x9.toNat)), some (gi ((m 154 x9.toNat) - (m 154 x9.toNat)))]) (st' := [gi la, gi ((m 154 x9.toNat) + (m 155 x9.toNat))]) (M' := gw (gu (gu m 170 x9.toNat 1) 171 s9.toNat ((m 154 x9.toNat) + (m 155 x9.toNat))) ml) rfl ?_
            refine Go.icmp_le (by rfl) ⟨by omega, by omega⟩ ⟨by omega, by omega⟩ (fun kq14 => ?_) (fun kq14 => ?_)
            · refine Go.run hsz hn1 4 (pc' := 78) (lv' := [some (gr 148), some (gi S), some (gi w), some (gi lo), some (gi la), some (gi (wa + 0)), some (gi (k + 1)), some (gi x9), some (gi s9), some (gi (m 154 x9.toNat)), some (gi ((m 154 x9.toNat) - (m 154 x9.toNat)))]) (st' := []) (M' := gw (gu (gu m 170 x9.toNat 1) 171 s9.toNat ((m 154 x9.toNat) + (m 155 x9.toNat))) ml) rfl ?_
              refine Go.dropl 7 ?_
              refine Go.dropl 8 ?_
              refine Go.dropl 9 ?_
              refine Go.dropl 10 ?_
              refine Go.run hsz hn1 0 (pc' := 78) (lv' := [some (gr 148), some (gi S), some (gi w), some (gi lo), some (gi la), some (gi (wa + 0)), some (gi (k + 1)), none, none, none, none]) (st' := []) (M' := gw (gu (gu m 170 x9.toNat 1) 171 s9.toNat ((m 154 x9.toNat) + (m 155 x9.toNat))) ml) rfl ?_
              have hst := bMr_s (m := m) (m' := gu (gu m 170 x9.toNat 1) 171 s9.toNat ((m 154 x9.toNat) + (m 155 x9.toNat))) (s := s9.toNat) (b := m 154 x9.toNat) hF (show ((k.toNat : Nat) : Int) < mi 148 9 by omega) hr (by omega) (by rw [hs9, show (S - 1).toNat = S.toNat - 1 by omega]; exact bMn_congr (fun j hj => e71 j)) (by rw [← ec]; split <;> omega) (fun j hj => ?_) (fun u => ?_)
              · obtain ⟨hr', g1, g2, g3⟩ := hst
                rw [← h1, ← ec] at g1; rw [← h2, ← et] at g2; rw [← h3, ← ec] at g3
                refine ih (k + 1) _ _ _ _ ?_ ?_ (by rw [show (k + 1).toNat = k.toNat + 1 by omega]; exact hr') ?_ ?_ ?_ (by omega) (by omega) (by omega)
                · intro c j q1 q2; rw [gu_other q2, gu_other q1]; exact hm c j q1 q2
                · exact gR32_gu (gR32_gu hmR ⟨by decide, by decide⟩) ⟨by omega, by omega⟩
                · rw [show (k + 1).toNat = k.toNat + 1 by omega, g1]; split <;> omega
                · rw [show (k + 1).toNat = k.toNat + 1 by omega, g2]; split <;> omega
                · rw [show (k + 1).toNat = k.toNat + 1 by omega, g3]; split <;> omega
              · rw [gu_eq, ← et]
                by_cases e : j = s9.toNat
                · rw [if_pos ⟨rfl, e⟩, if_pos e]
                · rw [if_neg (fun z => e z.2), if_neg e]; exact e71 j
              · rw [gu_other (by decide), gu_eq, hxn]
                by_cases e : u = fo k.toNat
                · rw [if_pos ⟨rfl, e⟩, if_pos e]
                · rw [if_neg (fun z => e z.2), if_neg e]
            · refine Go.run hsz hn1 3 (pc' := 313) (lv' := [some (gr 148), some (gi S), some (gi w), some (gi lo), some (gi la), some (gi (wa + 0)), some (gi k), some (gi x9), some (gi s9), some (gi (m 154 x9.toNat)), some (gi ((m 154 x9.toNat) - (m 154 x9.toNat)))]) (st' := [gi s9, gr 171]) (M' := gw (gu (gu m 170 x9.toNat 1) 171 s9.toNat ((m 154 x9.toNat) + (m 155 x9.toNat))) ml) rfl ?_
              refine Go.iald (by rfl) (N := 6) (by rfl) (by omega) (by omega) (by decide) ?_
              refine Go.run hsz hn1 0 (pc' := 314) (lv' := [some (gr 148), some (gi S), some (gi w), some (gi lo), some (gi la), some (gi (wa + 0)), some (gi k), some (gi x9), some (gi s9), some (gi (m 154 x9.toNat)), some (gi ((m 154 x9.toNat) - (m 154 x9.toNat)))]) (st' := [gi ((gu (gu m 170 x9.toNat 1) 171 s9.toNat ((m 154 x9.toNat) + (m 155 x9.toNat))) 171 s9.toNat)]) (M' := gw (gu (gu m 170 x9.toNat 1) 171 s9.toNat ((m 154 x9.toNat) + (m 155 x9.toNat))) ml) rfl ?_
              rw [show (gu (gu m 170 x9.toNat 1) 171 s9.toNat ((m 154 x9.toNat) + (m 155 x9.toNat))) 171 s9.toNat = (m 154 x9.toNat) + (m 155 x9.toNat) from gu_self _ _ _ _]
              refine Go.run hsz hn1 4 (pc' := 78) (lv' := [some (gr 148), some (gi S), some (gi w), some (gi lo), some (gi ((m 154 x9.toNat) + (m 155 x9.toNat))), some (gi (wa + 0)), some (gi (k + 1)), some (gi x9), some (gi s9), some (gi (m 154 x9.toNat)), some (gi ((m 154 x9.toNat) - (m 154 x9.toNat)))]) (st' := []) (M' := gw (gu (gu m 170 x9.toNat 1) 171 s9.toNat ((m 154 x9.toNat) + (m 155 x9.toNat))) ml) rfl ?_
              refine Go.dropl 7 ?_
              refine Go.dropl 8 ?_
              refine Go.dropl 9 ?_
              refine Go.dropl 10 ?_
              refine Go.run hsz hn1 0 (pc' := 78) (lv' := [some (gr 148), some (gi S), some (gi w), some (gi lo), some (gi ((m 154 x9.toNat) + (m 155 x9.toNat))), some (gi (wa + 0)), some (gi (k + 1)), none, none, none, none]) (st' := []) (M' := gw (gu (gu m 170 x9.toNat 1) 171 s9.toNat ((m 154 x9.toNat) + (m 155 x9.toNat))) ml) rfl ?_
              have hst := bMr_s (m := m) (m' := gu (gu m 170 x9.toNat 1) 171 s9.toNat ((m 154 x9.toNat) + (m 155 x9.toNat))) (s := s9.toNat) (b := m 154 x9.toNat) hF (show ((k.toNat : Nat) : Int) < mi 148 9 by omega) hr (by omega) (by rw [hs9, show (S - 1).toNat = S.toNat - 1 by omega]; exact bMn_congr (fun j hj => e71 j)) (by rw [← ec]; split <;> omega) (fun j hj => ?_) (fun u => ?_)
              · obtain ⟨hr', g1, g2, g3⟩ := hst
                rw [← h1, ← ec] at g1; rw [← h2, ← et] at g2; rw [← h3, ← ec] at g3
                refine ih (k + 1) _ _ _ _ ?_ ?_ (by rw [show (k + 1).toNat = k.toNat + 1 by omega]; exact hr') ?_ ?_ ?_ (by omega) (by omega) (by omega)
                · intro c j q1 q2; rw [gu_other q2, gu_other q1]; exact hm c j q1 q2
                · exact gR32_gu (gR32_gu hmR ⟨by decide, by decide⟩) ⟨by omega, by omega⟩
                · rw [show (k + 1).toNat = k.toNat + 1 by omega, g1]; split <;> omega
                · rw [show (k + 1).toNat = k.toNat + 1 by omega, g2]; split <;> omega
                · rw [show (k + 1).toNat = k.toNat + 1 by omega, g3]; split <;> omega
              · rw [gu_eq, ← et]
                by_cases e : j = s9.toNat
                · rw [if_pos ⟨rfl, e⟩, if_pos e]
                · rw [if_neg (fun z => e z.2), if_neg e]; exact e71 j
              · rw [gu_other (by decide), gu_eq, hxn]
                by_cases e : u = fo k.toNat
                · rw [if_pos ⟨rfl, e⟩, if_pos e]
                · rw [if_neg (fun z => e z.2), if_neg e]
          · refine Go.run hsz hn1 11 (pc' := 292) (lv' := [some (gr 148), some (gi S), some (gi w), some (gi lo), some (gi la), some (gi (wa + 1)), some (gi k), some (gi x9), some (gi s9), some (gi (m 154 x9.toNat)), some (gi ((m 154 x9.toNat) - (m 154 x9.toNat)))]) (st' := [gi x9, gr 155, gi (m 154 x9.toNat), gi s9, gr 171]) (M' := gw (gu m 170 x9.toNat 1) ml) rfl ?_
            refine Go.iald (by rfl) (N := 20) (by rfl) (by omega) (by omega) (by decide) ?_
            refine Go.run hsz hn1 0 (pc' := 293) (lv' := [some (gr 148), some (gi S), some (gi w), some (gi lo), some (gi la), some (gi (wa + 1)), some (gi k), some (gi x9), some (gi s9), some (gi (m 154 x9.toNat)), some (gi ((m 154 x9.toNat) - (m 154 x9.toNat)))]) (st' := [gi ((gu m 170 x9.toNat 1) 155 x9.toNat), gi (m 154 x9.toNat), gi s9, gr 171]) (M' := gw (gu m 170 x9.toNat 1) ml) rfl ?_
            rw [show (gu m 170 x9.toNat 1) 155 x9.toNat = m 155 x9.toNat from gu_ne (Or.inl (by decide))]
            refine Go.run hsz hn1 1 (pc' := 294) (lv' := [some (gr 148), some (gi S), some (gi w), some (gi lo), some (gi la), some (gi (wa + 1)), some (gi k), some (gi x9), some (gi s9), some (gi (m 154 x9.toNat)), some (gi ((m 154 x9.toNat) - (m 154 x9.toNat)))]) (st' := [gi ((m 154 x9.toNat) + (m 155 x9.toNat)), gi s9, gr 171]) (M' := gw (gu m 170 x9.toNat 1) ml) rfl ?_
            refine Go.iast (by rfl) (N := 6) (by rfl) (by omega) (by omega) (by decide) ?_
            refine Go.run hsz hn1 3 (pc' := 301) (lv' := [some (gr 148), some (gi S), some (gi w), some (gi lo), some (gi la), some (gi (wa + 1)), some (gi k), some (gi x9), some (gi s9), some (gi (m 154 x9.toNat)), some (gi ((m 154 x9.toNat) - (m 154 x9.toNat)))]) (st' := [gi s9, gr 171]) (M' := gw (gu (gu m 170 x9.toNat 1) 171 s9.toNat ((m 154 x9.toNat) + (m 155 x9.toNat))) ml) rfl ?_
            refine Go.iald (by rfl) (N := 6) (by rfl) (by omega) (by omega) (by decide) ?_
            refine Go.run hsz hn1 0 (pc' := 302) (lv' := [some (gr 148), some (gi S), some (gi w), some (gi lo), some (gi la), some (gi (wa + 1)), some (gi k), some (gi x9), some (gi s9), some (gi (m 154 x9.toNat)), some (gi ((m 154 x9.toNat) - (m 154 x9.toNat)))]) (st' := [gi ((gu (gu m 170 x9.toNat 1) 171 s9.toNat ((m 154 x9.toNat) + (m 155 x9.toNat))) 171 s9.toNat)]) (M' := gw (gu (gu m 170 x9.toNat 1) 171 s9.toNat ((m 154 x9.toNat) + (m 155 x9.toNat))) ml) rfl ?_
            rw [show (gu (gu m 170 x9.toNat 1) 171 s9.toNat ((m 154 x9.toNat) + (m 155 x9.toNat))) 171 s9.toNat = (m 154 x9.toNat) + (m 155 x9.toNat) from gu_self _ _ _ _]
            refine Go.run hsz hn1 1 (pc' := 304) (lv' := [some (gr 148), some (gi S), some (gi w), some (gi lo), some (gi la), some (gi (wa + 1)), some (gi k), some (gi x9), some (gi s9), some (gi (m 154 x9.toNat)), some (gi ((m 154 x9.toNat) - (m 154 x9.toNat)))]) (st' := [gi la, gi ((m 154 x9.toNat) + (m 155 x9.toNat))]) (M' := gw (gu (gu m 170 x9.toNat 1) 171 s9.toNat ((m 154 x9.toNat) + (m 155 x9.toNat))) ml) rfl ?_
            refine Go.icmp_le (by rfl) ⟨by omega, by omega⟩ ⟨by omega, by omega⟩ (fun kq15 => ?_) (fun kq15 => ?_)
            · refine Go.run hsz hn1 4 (pc' := 78) (lv' := [some (gr 148), some (gi S), some (gi w), some (gi lo), some (gi la), some (gi (wa + 1)), some (gi (k + 1)), some (gi x9), some (gi s9), some (gi (m 154 x9.toNat)), some (gi ((m 154 x9.toNat) - (m 154 x9.toNat)))]) (st' := []) (M' := gw (gu (gu m 170 x9.toNat 1) 171 s9.toNat ((m 154 x9.toNat) + (m 155 x9.toNat))) ml) rfl ?_
              refine Go.dropl 7 ?_
              refine Go.dropl 8 ?_
              refine Go.dropl 9 ?_
              refine Go.dropl 10 ?_
              refine Go.run hsz hn1 0 (pc' := 78) (lv' := [some (gr 148), some (gi S), some (gi w), some (gi lo), some (gi la), some (gi (wa + 1)), some (gi (k + 1)), none, none, none, none]) (st' := []) (M' := gw (gu (gu m 170 x9.toNat 1) 171 s9.toNat ((m 154 x9.toNat) + (m 155 x9.toNat))) ml) rfl ?_
              have hst := bMr_s (m := m) (m' := gu (gu m 170 x9.toNat 1) 171 s9.toNat ((m 154 x9.toNat) + (m 155 x9.toNat))) (s := s9.toNat) (b := m 154 x9.toNat) hF (show ((k.toNat : Nat) : Int) < mi 148 9 by omega) hr (by omega) (by rw [hs9, show (S - 1).toNat = S.toNat - 1 by omega]; exact bMn_congr (fun j hj => e71 j)) (by rw [← ec]; split <;> omega) (fun j hj => ?_) (fun u => ?_)
              · obtain ⟨hr', g1, g2, g3⟩ := hst
                rw [← h1, ← ec] at g1; rw [← h2, ← et] at g2; rw [← h3, ← ec] at g3
                refine ih (k + 1) _ _ _ _ ?_ ?_ (by rw [show (k + 1).toNat = k.toNat + 1 by omega]; exact hr') ?_ ?_ ?_ (by omega) (by omega) (by omega)
                · intro c j q1 q2; rw [gu_other q2, gu_other q1]; exact hm c j q1 q2
                · exact gR32_gu (gR32_gu hmR ⟨by decide, by decide⟩) ⟨by omega, by omega⟩
                · rw [show (k + 1).toNat = k.toNat + 1 by omega, g1]; split <;> omega
                · rw [show (k + 1).toNat = k.toNat + 1 by omega, g2]; split <;> omega
                · rw [show (k + 1).toNat = k.toNat + 1 by omega, g3]; split <;> omega
              · rw [gu_eq, ← et]
                by_cases e : j = s9.toNat
                · rw [if_pos ⟨rfl, e⟩, if_pos e]
                · rw [if_neg (fun z => e z.2), if_neg e]; exact e71 j
              · rw [gu_other (by decide), gu_eq, hxn]
                by_cases e : u = fo k.toNat
                · rw [if_pos ⟨rfl, e⟩, if_pos e]
                · rw [if_neg (fun z => e z.2), if_neg e]
            · refine Go.run hsz hn1 3 (pc' := 313) (lv' := [some (gr 148), some (gi S), some (gi w), some (gi lo), some (gi la), some (gi (wa + 1)), some (gi k), some (gi x9), some (gi s9), some (gi (m 154 x9.toNat)), some (gi ((m 154 x9.toNat) - (m 154 x9.toNat)))]) (st' := [gi s9, gr 171]) (M' := gw (gu (gu m 170 x9.toNat 1) 171 s9.toNat ((m 154 x9.toNat) + (m 155 x9.toNat))) ml) rfl ?_
              refine Go.iald (by rfl) (N := 6) (by rfl) (by omega) (by omega) (by decide) ?_
              refine Go.run hsz hn1 0 (pc' := 314) (lv' := [some (gr 148), some (gi S), some (gi w), some (gi lo), some (gi la), some (gi (wa + 1)), some (gi k), some (gi x9), some (gi s9), some (gi (m 154 x9.toNat)), some (gi ((m 154 x9.toNat) - (m 154 x9.toNat)))]) (st' := [gi ((gu (gu m 170 x9.toNat 1) 171 s9.toNat ((m 154 x9.toNat) + (m 155 x9.toNat))) 171 s9.toNat)]) (M' := gw (gu (gu m 170 x9.toNat 1) 171 s9.toNat ((m 154 x9.toNat) + (m 155 x9.toNat))) ml) rfl ?_
              rw [show (gu (gu m 170 x9.toNat 1) 171 s9.toNat ((m 154 x9.toNat) + (m 155 x9.toNat))) 171 s9.toNat = (m 154 x9.toNat) + (m 155 x9.toNat) from gu_self _ _ _ _]
              refine Go.run hsz hn1 4 (pc' := 78) (lv' := [some (gr 148), some (gi S), some (gi w), some (gi lo), some (gi ((m 154 x9.toNat) + (m 155 x9.toNat))), some (gi (wa + 1)), some (gi (k + 1)), some (gi x9), some (gi s9), some (gi (m 154 x9.toNat)), some (gi ((m 154 x9.toNat) - (m 154 x9.toNat)))]) (st' := []) (M' := gw (gu (gu m 170 x9.toNat 1) 171 s9.toNat ((m 154 x9.toNat) + (m 155 x9.toNat))) ml) rfl ?_
              refine Go.dropl 7 ?_
              refine Go.dropl 8 ?_
              refine Go.dropl 9 ?_
              refine Go.dropl 10 ?_
              refine Go.run hsz hn1 0 (pc' := 78) (lv' := [some (gr 148), some (gi S), some (gi w), some (gi lo), some (gi ((m 154 x9.toNat) + (m 155 x9.toNat))), some (gi (wa + 1)), some (gi (k + 1)), none, none, none, none]) (st' := []) (M' := gw (gu (gu m 170 x9.toNat 1) 171 s9.toNat ((m 154 x9.toNat) + (m 155 x9.toNat))) ml) rfl ?_
              have hst := bMr_s (m := m) (m' := gu (gu m 170 x9.toNat 1) 171 s9.toNat ((m 154 x9.toNat) + (m 155 x9.toNat))) (s := s9.toNat) (b := m 154 x9.toNat) hF (show ((k.toNat : Nat) : Int) < mi 148 9 by omega) hr (by omega) (by rw [hs9, show (S - 1).toNat = S.toNat - 1 by omega]; exact bMn_congr (fun j hj => e71 j)) (by rw [← ec]; split <;> omega) (fun j hj => ?_) (fun u => ?_)
              · obtain ⟨hr', g1, g2, g3⟩ := hst
                rw [← h1, ← ec] at g1; rw [← h2, ← et] at g2; rw [← h3, ← ec] at g3
                refine ih (k + 1) _ _ _ _ ?_ ?_ (by rw [show (k + 1).toNat = k.toNat + 1 by omega]; exact hr') ?_ ?_ ?_ (by omega) (by omega) (by omega)
                · intro c j q1 q2; rw [gu_other q2, gu_other q1]; exact hm c j q1 q2
                · exact gR32_gu (gR32_gu hmR ⟨by decide, by decide⟩) ⟨by omega, by omega⟩
                · rw [show (k + 1).toNat = k.toNat + 1 by omega, g1]; split <;> omega
                · rw [show (k + 1).toNat = k.toNat + 1 by omega, g2]; split <;> omega
                · rw [show (k + 1).toNat = k.toNat + 1 by omega, g3]; split <;> omega
              · rw [gu_eq, ← et]
                by_cases e : j = s9.toNat
                · rw [if_pos ⟨rfl, e⟩, if_pos e]
                · rw [if_neg (fun z => e z.2), if_neg e]; exact e71 j
              · rw [gu_other (by decide), gu_eq, hxn]
                by_cases e : u = fo k.toNat
                · rw [if_pos ⟨rfl, e⟩, if_pos e]
                · rw [if_neg (fun z => e z.2), if_neg e]
        · refine Go.run hsz hn1 5 (pc' := 267) (lv' := [some (gr 148), some (gi S), some (gi w), some (gi ((m 154 x9.toNat) - (m 154 x9.toNat))), some (gi la), some (gi wa), some (gi k), some (gi x9), some (gi s9), some (gi (m 154 x9.toNat)), some (gi ((m 154 x9.toNat) - (m 154 x9.toNat)))]) (st' := [gi ((m 154 x9.toNat) - (m 154 x9.toNat)), gi wa]) (M' := gw (gu m 170 x9.toNat 1) ml) rfl ?_
          refine Go.if_le (by rfl) ⟨by omega, by omega⟩ (fun kq16 => ?_) (fun kq16 => ?_)
          · refine Go.run hsz hn1 10 (pc' := 292) (lv' := [some (gr 148), some (gi S), some (gi w), some (gi ((m 154 x9.toNat) - (m 154 x9.toNat))), some (gi la), some (gi (wa + 0)), some (gi k), some (gi x9), some (gi s9), some (gi (m 154 x9.toNat)), some (gi ((m 154 x9.toNat) - (m 154 x9.toNat)))]) (st' := [gi x9, gr 155, gi (m 154 x9.toNat), gi s9, gr 171]) (M' := gw (gu m 170 x9.toNat 1) ml) rfl ?_
            refine Go.iald (by rfl) (N := 20) (by rfl) (by omega) (by omega) (by decide) ?_
            refine Go.run hsz hn1 0 (pc' := 293) (lv' := [some (gr 148), some (gi S), some (gi w), some (gi ((m 154 x9.toNat) - (m 154 x9.toNat))), some (gi la), some (gi (wa + 0)), some (gi k), some (gi x9), some (gi s9), some (gi (m 154 x9.toNat)), some (gi ((m 154 x9.toNat) - (m 154 x9.toNat)))]) (st' := [gi ((gu m 170 x9.toNat 1) 155 x9.toNat), gi (m 154 x9.toNat), gi s9, gr 171]) (M' := gw (gu m 170 x9.toNat 1) ml) rfl ?_
            rw [show (gu m 170 x9.toNat 1) 155 x9.toNat = m 155 x9.toNat from gu_ne (Or.inl (by decide))]
            refine Go.run hsz hn1 1 (pc' := 294) (lv' := [some (gr 148), some (gi S), some (gi w), some (gi ((m 154 x9.toNat) - (m 154 x9.toNat))), some (gi la), some (gi (wa + 0)), some (gi k), some (gi x9), some (gi s9), some (gi (m 154 x9.toNat)), some (gi ((m 154 x9.toNat) - (m 154 x9.toNat)))]) (st' := [gi ((m 154 x9.toNat) + (m 155 x9.toNat)), gi s9, gr 171]) (M' := gw (gu m 170 x9.toNat 1) ml) rfl ?_
            refine Go.iast (by rfl) (N := 6) (by rfl) (by omega) (by omega) (by decide) ?_
            refine Go.run hsz hn1 3 (pc' := 301) (lv' := [some (gr 148), some (gi S), some (gi w), some (gi ((m 154 x9.toNat) - (m 154 x9.toNat))), some (gi la), some (gi (wa + 0)), some (gi k), some (gi x9), some (gi s9), some (gi (m 154 x9.toNat)), some (gi ((m 154 x9.toNat) - (m 154 x9.toNat)))]) (st' := [gi s9, gr 171]) (M' := gw (gu (gu m 170 x9.toNat 1) 171 s9.toNat ((m 154 x9.toNat) + (m 155 x9.toNat))) ml) rfl ?_
            refine Go.iald (by rfl) (N := 6) (by rfl) (by omega) (by omega) (by decide) ?_
            refine Go.run hsz hn1 0 (pc' := 302) (lv' := [some (gr 148), some (gi S), some (gi w), some (gi ((m 154 x9.toNat) - (m 154 x9.toNat))), some (gi la), some (gi (wa + 0)), some (gi k), some (gi x9), some (gi s9), some (gi (m 154 x9.toNat)), some (gi ((m 154 x9.toNat) - (m 154 x9.toNat)))]) (st' := [gi ((gu (gu m 170 x9.toNat 1) 171 s9.toNat ((m 154 x9.toNat) + (m 155 x9.toNat))) 171 s9.toNat)]) (M' := gw (gu (gu m 170 x9.toNat 1) 171 s9.toNat ((m 154 x9.toNat) + (m 155 x9.toNat))) ml) rfl ?_
            rw [show (gu (gu m 170 x9.toNat 1) 171 s9.toNat ((m 154 x9.toNat) + (m 155 x9.toNat))) 171 s9.toNat = (m 154 x9.toNat) + (m 155 x9.toNat) from gu_self _ _ _ _]
            refine Go.run hsz hn1 1 (pc' := 304) (lv' := [some (gr 148), some (gi S), some (gi w), some (gi ((m 154 x9.toNat) - (m 154 x9.toNat))), some (gi la), some (gi (wa + 0)), some (gi k), some (gi x9), some (gi s9), some (gi (m 154 x9.toNat)), some (gi ((m 154 x9.toNat) - (m 154 x9.toNat)))]) (st' := [gi la, gi ((m 154 x9.toNat) + (m 155 x9.toNat))]) (M' := gw (gu (gu m 170 x9.toNat 1) 171 s9.toNat ((m 154 x9.toNat) + (m 155 x9.toNat))) ml) rfl ?_
            refine Go.icmp_le (by rfl) ⟨by omega, by omega⟩ ⟨by omega, by omega⟩ (fun kq17 => ?_) (fun kq17 => ?_)
            · refine Go.run hsz hn1 4 (pc' := 78) (lv' := [some (gr 148), some (gi S), some (gi w), some (gi ((m 154 x9.toNat) - (m 154 x9.toNat))), some (gi la), some (gi (wa + 0)), some (gi (k + 1)), some (gi x9), some (gi s9), some (gi (m 154 x9.toNat)), some (gi ((m 154 x9.toNat) - (m 154 x9.toNat)))]) (st' := []) (M' := gw (gu (gu m 170 x9.toNat 1) 171 s9.toNat ((m 154 x9.toNat) + (m 155 x9.toNat))) ml) rfl ?_
              refine Go.dropl 7 ?_
              refine Go.dropl 8 ?_
              refine Go.dropl 9 ?_
              refine Go.dropl 10 ?_
              refine Go.run hsz hn1 0 (pc' := 78) (lv' := [some (gr 148), some (gi S), some (gi w), some (gi ((m 154 x9.toNat) - (m 154 x9.toNat))), some (gi la), some (gi (wa + 0)), some (gi (k + 1)), none, none, none, none]) (st' := []) (M' := gw (gu (gu m 170 x9.toNat 1) 171 s9.toNat ((m 154 x9.toNat) + (m 155 x9.toNat))) ml) rfl ?_
              have hst := bMr_s (m := m) (m' := gu (gu m 170 x9.toNat 1) 171 s9.toNat ((m 154 x9.toNat) + (m 155 x9.toNat))) (s := s9.toNat) (b := m 154 x9.toNat) hF (show ((k.toNat : Nat) : Int) < mi 148 9 by omega) hr (by omega) (by rw [hs9, show (S - 1).toNat = S.toNat - 1 by omega]; exact bMn_congr (fun j hj => e71 j)) (by rw [← ec]; split <;> omega) (fun j hj => ?_) (fun u => ?_)
              · obtain ⟨hr', g1, g2, g3⟩ := hst
                rw [← h1, ← ec] at g1; rw [← h2, ← et] at g2; rw [← h3, ← ec] at g3
                refine ih (k + 1) _ _ _ _ ?_ ?_ (by rw [show (k + 1).toNat = k.toNat + 1 by omega]; exact hr') ?_ ?_ ?_ (by omega) (by omega) (by omega)
                · intro c j q1 q2; rw [gu_other q2, gu_other q1]; exact hm c j q1 q2
                · exact gR32_gu (gR32_gu hmR ⟨by decide, by decide⟩) ⟨by omega, by omega⟩
                · rw [show (k + 1).toNat = k.toNat + 1 by omega, g1]; split <;> omega
                · rw [show (k + 1).toNat = k.toNat + 1 by omega, g2]; split <;> omega
                · rw [show (k + 1).toNat = k.toNat + 1 by omega, g3]; split <;> omega
              · rw [gu_eq, ← et]
                by_cases e : j = s9.toNat
                · rw [if_pos ⟨rfl, e⟩, if_pos e]
                · rw [if_neg (fun z => e z.2), if_neg e]; exact e71 j
              · rw [gu_other (by decide), gu_eq, hxn]
                by_cases e : u = fo k.toNat
                · rw [if_pos ⟨rfl, e⟩, if_pos e]
                · rw [if_neg (fun z => e z.2), if_neg e]
            · refine Go.run hsz hn1 3 (pc' := 313) (lv' := [some (gr 148), some (gi S), some (gi w), some (gi ((m 154 x9.toNat) - (m 154 x9.toNat))), some (gi la), some (gi (wa + 0)), some (gi k), some (gi x9), some (gi s9), some (gi (m 154 x9.toNat)), some (gi ((m 154 x9.toNat) - (m 154 x9.toNat)))]) (st' := [gi s9, gr 171]) (M' := gw (gu (gu m 170 x9.toNat 1) 171 s9.toNat ((m 154 x9.toNat) + (m 155 x9.toNat))) ml) rfl ?_
              refine Go.iald (by rfl) (N := 6) (by rfl) (by omega) (by omega) (by decide) ?_
              refine Go.run hsz hn1 0 (pc' := 314) (lv' := [some (gr 148), some (gi S), some (gi w), some (gi ((m 154 x9.toNat) - (m 154 x9.toNat))), some (gi la), some (gi (wa + 0)), some (gi k), some (gi x9), some (gi s9), some (gi (m 154 x9.toNat)), some (gi ((m 154 x9.toNat) - (m 154 x9.toNat)))]) (st' := [gi ((gu (gu m 170 x9.toNat 1) 171 s9.toNat ((m 154 x9.toNat) + (m 155 x9.toNat))) 171 s9.toNat)]) (M' := gw (gu (gu m 170 x9.toNat 1) 171 s9.toNat ((m 154 x9.toNat) + (m 155 x9.toNat))) ml) rfl ?_
              rw [show (gu (gu m 170 x9.toNat 1) 171 s9.toNat ((m 154 x9.toNat) + (m 155 x9.toNat))) 171 s9.toNat = (m 154 x9.toNat) + (m 155 x9.toNat) from gu_self _ _ _ _]
              refine Go.run hsz hn1 4 (pc' := 78) (lv' := [some (gr 148), some (gi S), some (gi w), some (gi ((m 154 x9.toNat) - (m 154 x9.toNat))), some (gi ((m 154 x9.toNat) + (m 155 x9.toNat))), some (gi (wa + 0)), some (gi (k + 1)), some (gi x9), some (gi s9), some (gi (m 154 x9.toNat)), some (gi ((m 154 x9.toNat) - (m 154 x9.toNat)))]) (st' := []) (M' := gw (gu (gu m 170 x9.toNat 1) 171 s9.toNat ((m 154 x9.toNat) + (m 155 x9.toNat))) ml) rfl ?_
              refine Go.dropl 7 ?_
              refine Go.dropl 8 ?_
              refine Go.dropl 9 ?_
              refine Go.dropl 10 ?_
              refine Go.run hsz hn1 0 (pc' := 78) (lv' := [some (gr 148), some (gi S), some (gi w), some (gi ((m 154 x9.toNat) - (m 154 x9.toNat))), some (gi ((m 154 x9.toNat) + (m 155 x9.toNat))), some (gi (wa + 0)), some (gi (k + 1)), none, none, none, none]) (st' := []) (M' := gw (gu (gu m 170 x9.toNat 1) 171 s9.toNat ((m 154 x9.toNat) + (m 155 x9.toNat))) ml) rfl ?_
              have hst := bMr_s (m := m) (m' := gu (gu m 170 x9.toNat 1) 171 s9.toNat ((m 154 x9.toNat) + (m 155 x9.toNat))) (s := s9.toNat) (b := m 154 x9.toNat) hF (show ((k.toNat : Nat) : Int) < mi 148 9 by omega) hr (by omega) (by rw [hs9, show (S - 1).toNat = S.toNat - 1 by omega]; exact bMn_congr (fun j hj => e71 j)) (by rw [← ec]; split <;> omega) (fun j hj => ?_) (fun u => ?_)
              · obtain ⟨hr', g1, g2, g3⟩ := hst
                rw [← h1, ← ec] at g1; rw [← h2, ← et] at g2; rw [← h3, ← ec] at g3
                refine ih (k + 1) _ _ _ _ ?_ ?_ (by rw [show (k + 1).toNat = k.toNat + 1 by omega]; exact hr') ?_ ?_ ?_ (by omega) (by omega) (by omega)
                · intro c j q1 q2; rw [gu_other q2, gu_other q1]; exact hm c j q1 q2
                · exact gR32_gu (gR32_gu hmR ⟨by decide, by decide⟩) ⟨by omega, by omega⟩
                · rw [show (k + 1).toNat = k.toNat + 1 by omega, g1]; split <;> omega
                · rw [show (k + 1).toNat = k.toNat + 1 by omega, g2]; split <;> omega
                · rw [show (k + 1).toNat = k.toNat + 1 by omega, g3]; split <;> omega
              · rw [gu_eq, ← et]
                by_cases e : j = s9.toNat
                · rw [if_pos ⟨rfl, e⟩, if_pos e]
                · rw [if_neg (fun z => e z.2), if_neg e]; exact e71 j
              · rw [gu_other (by decide), gu_eq, hxn]
                by_cases e : u = fo k.toNat
                · rw [if_pos ⟨rfl, e⟩, if_pos e]
                · rw [if_neg (fun z => e z.2), if_neg e]
          · refine Go.run hsz hn1 11 (pc' := 292) (lv' := [some (gr 148), some (gi S), some (gi w), some (gi ((m 154 x9.toNat) - (m 154 x9.toNat))), some (gi la), some (gi (wa + 1)), some (gi k), some (gi x9), some (gi s9), some (gi (m 154 x9.toNat)), some (gi ((m 154 x9.toNat) - (m 154 x9.toNat)))]) (st' := [gi x9, gr 155, gi (m 154 x9.toNat), gi s9, gr 171]) (M' := gw (gu m 170 x9.toNat 1) ml) rfl ?_
            refine Go.iald (by rfl) (N := 20) (by rfl) (by omega) (by omega) (by decide) ?_
            refine Go.run hsz hn1 0 (pc' := 293) (lv' := [some (gr 148), some (gi S), some (gi w), some (gi ((m 154 x9.toNat) - (m 154 x9.toNat))), some (gi la), some (gi (wa + 1)), some (gi k), some (gi x9), some (gi s9), some (gi (m 154 x9.toNat)), some (gi ((m 154 x9.toNat) - (m 154 x9.toNat)))]) (st' := [gi ((gu m 170 x9.toNat 1) 155 x9.toNat), gi (m 154 x9.toNat), gi s9, gr 171]) (M' := gw (gu m 170 x9.toNat 1) ml) rfl ?_
            rw [show (gu m 170 x9.toNat 1) 155 x9.toNat = m 155 x9.toNat from gu_ne (Or.inl (by decide))]
            refine Go.run hsz hn1 1 (pc' := 294) (lv' := [some (gr 148), some (gi S), some (gi w), some (gi ((m 154 x9.toNat) - (m 154 x9.toNat))), some (gi la), some (gi (wa + 1)), some (gi k), some (gi x9), some (gi s9), some (gi (m 154 x9.toNat)), some (gi ((m 154 x9.toNat) - (m 154 x9.toNat)))]) (st' := [gi ((m 154 x9.toNat) + (m 155 x9.toNat)), gi s9, gr 171]) (M' := gw (gu m 170 x9.toNat 1) ml) rfl ?_
            refine Go.iast (by rfl) (N := 6) (by rfl) (by omega) (by omega) (by decide) ?_
            refine Go.run hsz hn1 3 (pc' := 301) (lv' := [some (gr 148), some (gi S), some (gi w), some (gi ((m 154 x9.toNat) - (m 154 x9.toNat))), some (gi la), some (gi (wa + 1)), some (gi k), some (gi x9), some (gi s9), some (gi (m 154 x9.toNat)), some (gi ((m 154 x9.toNat) - (m 154 x9.toNat)))]) (st' := [gi s9, gr 171]) (M' := gw (gu (gu m 170 x9.toNat 1) 171 s9.toNat ((m 154 x9.toNat) + (m 155 x9.toNat))) ml) rfl ?_
            refine Go.iald (by rfl) (N := 6) (by rfl) (by omega) (by omega) (by decide) ?_
            refine Go.run hsz hn1 0 (pc' := 302) (lv' := [some (gr 148), some (gi S), some (gi w), some (gi ((m 154 x9.toNat) - (m 154 x9.toNat))), some (gi la), some (gi (wa + 1)), some (gi k), some (gi x9), some (gi s9), some (gi (m 154 x9.toNat)), some (gi ((m 154 x9.toNat) - (m 154 x9.toNat)))]) (st' := [gi ((gu (gu m 170 x9.toNat 1) 171 s9.toNat ((m 154 x9.toNat) + (m 155 x9.toNat))) 171 s9.toNat)]) (M' := gw (gu (gu m 170 x9.toNat 1) 171 s9.toNat ((m 154 x9.toNat) + (m 155 x9.toNat))) ml) rfl ?_
            rw [show (gu (gu m 170 x9.toNat 1) 171 s9.toNat ((m 154 x9.toNat) + (m 155 x9.toNat))) 171 s9.toNat = (m 154 x9.toNat) + (m 155 x9.toNat) from gu_self _ _ _ _]
            refine Go.run hsz hn1 1 (pc' := 304) (lv' := [some (gr 148), some (gi S), some (gi w), some (gi ((m 154 x9.toNat) - (m 154 x9.toNat))), some (gi la), some (gi (wa + 1)), some (gi k), some (gi x9), some (gi s9), some (gi (m 154 x9.toNat)), some (gi ((m 154 x9.toNat) - (m 154 x9.toNat)))]) (st' := [gi la, gi ((m 154 x9.toNat) + (m 155 x9.toNat))]) (M' := gw (gu (gu m 170 x9.toNat 1) 171 s9.toNat ((m 154 x9.toNat) + (m 155 x9.toNat))) ml) rfl ?_
            refine Go.icmp_le (by rfl) ⟨by omega, by omega⟩ ⟨by omega, by omega⟩ (fun kq18 => ?_) (fun kq18 => ?_)
            · refine Go.run hsz hn1 4 (pc' := 78) (lv' := [some (gr 148), some (gi S), some (gi w), some (gi ((m 154 x9.toNat) - (m 154 x9.toNat))), some (gi la), some (gi (wa + 1)), some (gi (k + 1)), some (gi x9), some (gi s9), some (gi (m 154 x9.toNat)), some (gi ((m 154 x9.toNat) - (m 154 x9.toNat)))]) (st' := []) (M' := gw (gu (gu m 170 x9.toNat 1) 171 s9.toNat ((m 154 x9.toNat) + (m 155 x9.toNat))) ml) rfl ?_
              refine Go.dropl 7 ?_
              refine Go.dropl 8 ?_
              refine Go.dropl 9 ?_
              refine Go.dropl 10 ?_
              refine Go.run hsz hn1 0 (pc' := 78) (lv' := [some (gr 148), some (gi S), some (gi w), some (gi ((m 154 x9.toNat) - (m 154 x9.toNat))), some (gi la), some (gi (wa + 1)), some (gi (k + 1)), none, none, none, none]) (st' := []) (M' := gw (gu (gu m 170 x9.toNat 1) 171 s9.toNat ((m 154 x9.toNat) + (m 155 x9.toNat))) ml) rfl ?_
              have hst := bMr_s (m := m) (m' := gu (gu m 170 x9.toNat 1) 171 s9.toNat ((m 154 x9.toNat) + (m 155 x9.toNat))) (s := s9.toNat) (b := m 154 x9.toNat) hF (show ((k.toNat : Nat) : Int) < mi 148 9 by omega) hr (by omega) (by rw [hs9, show (S - 1).toNat = S.toNat - 1 by omega]; exact bMn_congr (fun j hj => e71 j)) (by rw [← ec]; split <;> omega) (fun j hj => ?_) (fun u => ?_)
              · obtain ⟨hr', g1, g2, g3⟩ := hst
                rw [← h1, ← ec] at g1; rw [← h2, ← et] at g2; rw [← h3, ← ec] at g3
                refine ih (k + 1) _ _ _ _ ?_ ?_ (by rw [show (k + 1).toNat = k.toNat + 1 by omega]; exact hr') ?_ ?_ ?_ (by omega) (by omega) (by omega)
                · intro c j q1 q2; rw [gu_other q2, gu_other q1]; exact hm c j q1 q2
                · exact gR32_gu (gR32_gu hmR ⟨by decide, by decide⟩) ⟨by omega, by omega⟩
                · rw [show (k + 1).toNat = k.toNat + 1 by omega, g1]; split <;> omega
                · rw [show (k + 1).toNat = k.toNat + 1 by omega, g2]; split <;> omega
                · rw [show (k + 1).toNat = k.toNat + 1 by omega, g3]; split <;> omega
              · rw [gu_eq, ← et]
                by_cases e : j = s9.toNat
                · rw [if_pos ⟨rfl, e⟩, if_pos e]
                · rw [if_neg (fun z => e z.2), if_neg e]; exact e71 j
              · rw [gu_other (by decide), gu_eq, hxn]
                by_cases e : u = fo k.toNat
                · rw [if_pos ⟨rfl, e⟩, if_pos e]
                · rw [if_neg (fun z => e z.2), if_neg e]
            · refine Go.run hsz hn1 3 (pc' := 313) (lv' := [some (gr 148), some (gi S), some (gi w), some (gi ((m 154 x9.toNat) - (m 154 x9.toNat))), some (gi la), some (gi (wa + 1)), some (gi k), some (gi x9), some (gi s9), some (gi (m 154 x9.toNat)), some (gi ((m 154 x9.toNat) - (m 154 x9.toNat)))]) (st' := [gi s9, gr 171]) (M' := gw (gu (gu m 170 x9.toNat 1) 171 s9.toNat ((m 154 x9.toNat) + (m 155 x9.toNat))) ml) rfl ?_
              refine Go.iald (by rfl) (N := 6) (by rfl) (by omega) (by omega) (by decide) ?_
              refine Go.run hsz hn1 0 (pc' := 314) (lv' := [some (gr 148), some (gi S), some (gi w), some (gi ((m 154 x9.toNat) - (m 154 x9.toNat))), some (gi la), some (gi (wa + 1)), some (gi k), some (gi x9), some (gi s9), some (gi (m 154 x9.toNat)), some (gi ((m 154 x9.toNat) - (m 154 x9.toNat)))]) (st' := [gi ((gu (gu m 170 x9.toNat 1) 171 s9.toNat ((m 154 x9.toNat) + (m 155 x9.toNat))) 171 s9.toNat)]) (M' := gw (gu (gu m 170 x9.toNat 1) 171 s9.toNat ((m 154 x9.toNat) + (m 155 x9.toNat))) ml) rfl ?_
              rw [show (gu (gu m 170 x9.toNat 1) 171 s9.toNat ((m 154 x9.toNat) + (m 155 x9.toNat))) 171 s9.toNat = (m 154 x9.toNat) + (m 155 x9.toNat) from gu_self _ _ _ _]
              refine Go.run hsz hn1 4 (pc' := 78) (lv' := [some (gr 148), some (gi S), some (gi w), some (gi ((m 154 x9.toNat) - (m 154 x9.toNat))), some (gi ((m 154 x9.toNat) + (m 155 x9.toNat))), some (gi (wa + 1)), some (gi (k + 1)), some (gi x9), some (gi s9), some (gi (m 154 x9.toNat)), some (gi ((m 154 x9.toNat) - (m 154 x9.toNat)))]) (st' := []) (M' := gw (gu (gu m 170 x9.toNat 1) 171 s9.toNat ((m 154 x9.toNat) + (m 155 x9.toNat))) ml) rfl ?_
              refine Go.dropl 7 ?_
              refine Go.dropl 8 ?_
              refine Go.dropl 9 ?_
              refine Go.dropl 10 ?_
              refine Go.run hsz hn1 0 (pc' := 78) (lv' := [some (gr 148), some (gi S), some (gi w), some (gi ((m 154 x9.toNat) - (m 154 x9.toNat))), some (gi ((m 154 x9.toNat) + (m 155 x9.toNat))), some (gi (wa + 1)), some (gi (k + 1)), none, none, none, none]) (st' := []) (M' := gw (gu (gu m 170 x9.toNat 1) 171 s9.toNat ((m 154 x9.toNat) + (m 155 x9.toNat))) ml) rfl ?_
              have hst := bMr_s (m := m) (m' := gu (gu m 170 x9.toNat 1) 171 s9.toNat ((m 154 x9.toNat) + (m 155 x9.toNat))) (s := s9.toNat) (b := m 154 x9.toNat) hF (show ((k.toNat : Nat) : Int) < mi 148 9 by omega) hr (by omega) (by rw [hs9, show (S - 1).toNat = S.toNat - 1 by omega]; exact bMn_congr (fun j hj => e71 j)) (by rw [← ec]; split <;> omega) (fun j hj => ?_) (fun u => ?_)
              · obtain ⟨hr', g1, g2, g3⟩ := hst
                rw [← h1, ← ec] at g1; rw [← h2, ← et] at g2; rw [← h3, ← ec] at g3
                refine ih (k + 1) _ _ _ _ ?_ ?_ (by rw [show (k + 1).toNat = k.toNat + 1 by omega]; exact hr') ?_ ?_ ?_ (by omega) (by omega) (by omega)
                · intro c j q1 q2; rw [gu_other q2, gu_other q1]; exact hm c j q1 q2
                · exact gR32_gu (gR32_gu hmR ⟨by decide, by decide⟩) ⟨by omega, by omega⟩
                · rw [show (k + 1).toNat = k.toNat + 1 by omega, g1]; split <;> omega
                · rw [show (k + 1).toNat = k.toNat + 1 by omega, g2]; split <;> omega
                · rw [show (k + 1).toNat = k.toNat + 1 by omega, g3]; split <;> omega
              · rw [gu_eq, ← et]
                by_cases e : j = s9.toNat
                · rw [if_pos ⟨rfl, e⟩, if_pos e]
                · rw [if_neg (fun z => e z.2), if_neg e]; exact e71 j
              · rw [gu_other (by decide), gu_eq, hxn]
                by_cases e : u = fo k.toNat
                · rw [if_pos ⟨rfl, e⟩, if_pos e]
                · rw [if_neg (fun z => e z.2), if_neg e]
set_option maxRecDepth 100000 in
set_option maxHeartbeats 4000000 in
theorem lM_bz1 {G : gG} (hsz : G.2.2.2.2.2.2 = true) {n : Nat} (hn : 2 ≤ n) (mi : Nat → Nat → Int) (ml : Nat → Nat → Int64) (S w : Int) (S0 : 1 ≤ S) (S1 : S ≤ 6) (rw_ : rng w) (fo : Nat → Nat) (hF : bFok mi fo) (hR : gR32 mi) : ∀ (f : Nat) (k : Int), 0 ≤ k → k ≤ 20 → 20 - k < f → Go G mX12_block n 0 0 48 [some (gr 148), some (gi S), some (gi w), some (gi k), none, none, none, none, none, none, none] [] (gw (gfl (gfl mi 171 0 6) 170 0 k.toNat) ml) (fun r M => ∃ m, r = some (gi (bOut (bMs mi fo S.toNat (mi 148 9).toNat) w)) ∧ M = gw m ml ∧ bMo m mi ∧ gR32 m) := by
  have hn1 : 1 ≤ n := by omega

  intro f
  induction f with
  | zero => intros; omega
  | succ f ih =>
    intro k k0 k1 k2
    refine Go.run hsz hn1 2 (pc' := 51) (lv' := [some (gr 148), some (gi S), some (gi w), some (gi k), none, none, none, none, none, none, none]) (st' := [gi 20, gi k]) (M' := gw (gfl (gfl mi 171 0 6) 170 0 k.toNat) ml) rfl ?_
    refine Go.icmp_ge (by rfl) ⟨by omega, by omega⟩ ⟨by decide, by decide⟩ (fun kq1 => ?_) (fun kq1 => ?_)
    · refine Go.run hsz hn1 8 (pc' := 78) (lv' := [some (gr 148), some (gi S), some (gi w), some (gi 0), some (gi 0), some (gi 0), some (gi 0), none, none, none, none]) (st' := []) (M' := gw (gfl (gfl mi 171 0 6) 170 0 k.toNat) ml) rfl ?_
      obtain rfl : k = 20 := by omega
      refine lM_blk hsz (n := n) (by omega) mi ml S w S0 S1 rw_ fo hF ((mi 148 9).toNat + 1) 0 _ 0 0 0 ?_ ?_ ?_ rfl rfl rfl (by omega) (by have := hF.1; omega) (by omega)
      · intro c j h1 h2; rw [gfl_off (Or.inl h1), gfl_off (Or.inl h2)]
      · exact gfl_R (gfl_R hR)
      · refine ⟨fun j hj => ?_, fun u hu => ?_⟩
        · rw [gfl_off (Or.inl (by decide)), gfl_in (by omega) (by omega)]; rfl
        · rw [gfl_in (by omega) (by have := hF.1; show u < 0 + 20; omega)]; exact ⟨Or.inl rfl, fun _ i hi => absurd hi (by omega), fun _ => rfl⟩
    · refine Go.run hsz hn1 4 (pc' := 60) (lv' := [some (gr 148), some (gi S), some (gi w), some (gi k), none, none, none, none, none, none, none]) (st' := [gi 0, gi k, gr 170]) (M' := gw (gfl (gfl mi 171 0 6) 170 0 k.toNat) ml) rfl ?_
      refine Go.bast (by rfl) (N := 20) (by rfl) (Or.inl rfl) (by omega) (by omega) (by decide) ?_
      refine Go.run hsz hn1 2 (pc' := 48) (lv' := [some (gr 148), some (gi S), some (gi w), some (gi (k + 1)), none, none, none, none, none, none, none]) (st' := []) (M' := gw (gu (gfl (gfl mi 171 0 6) 170 0 k.toNat) 170 k.toNat 0) ml) rfl ?_
      have h9 := ih (k + 1) (by omega) (by omega) (by omega)
      rw [show (k + 1).toNat = k.toNat + 1 by omega, ← gfl_s, Nat.zero_add] at h9
      exact h9
set_option maxRecDepth 100000 in
set_option maxHeartbeats 4000000 in
theorem lM_bz0 {G : gG} (hsz : G.2.2.2.2.2.2 = true) {n : Nat} (hn : 2 ≤ n) (mi : Nat → Nat → Int) (ml : Nat → Nat → Int64) (S w : Int) (S0 : 1 ≤ S) (S1 : S ≤ 6) (rw_ : rng w) (fo : Nat → Nat) (hF : bFok mi fo) (hR : gR32 mi) : ∀ (f : Nat) (k : Int), 0 ≤ k → k ≤ 6 → 6 - k < f → Go G mX12_block n 0 0 27 [some (gr 148), some (gi S), some (gi w), some (gi k), none, none, none, none, none, none, none] [] (gw (gfl mi 171 0 k.toNat) ml) (fun r M => ∃ m, r = some (gi (bOut (bMs mi fo S.toNat (mi 148 9).toNat) w)) ∧ M = gw m ml ∧ bMo m mi ∧ gR32 m) := by
  have hn1 : 1 ≤ n := by omega

  intro f
  induction f with
  | zero => intros; omega
  | succ f ih =>
    intro k k0 k1 k2
    refine Go.run hsz hn1 2 (pc' := 30) (lv' := [some (gr 148), some (gi S), some (gi w), some (gi k), none, none, none, none, none, none, none]) (st' := [gi 6, gi k]) (M' := gw (gfl mi 171 0 k.toNat) ml) rfl ?_
    refine Go.icmp_ge (by rfl) ⟨by omega, by omega⟩ ⟨by decide, by decide⟩ (fun kq1 => ?_) (fun kq1 => ?_)
    · refine Go.run hsz hn1 2 (pc' := 48) (lv' := [some (gr 148), some (gi S), some (gi w), some (gi 0), none, none, none, none, none, none, none]) (st' := []) (M' := gw (gfl mi 171 0 k.toNat) ml) rfl ?_
      obtain rfl : k = 6 := by omega
      have h9 := lM_bz1 hsz (n := n) (by omega) mi ml S w S0 S1 rw_ fo hF hR 21 0 (by omega) (by omega) (by omega)
      rw [show (0 : Int).toNat = 0 from rfl, gfl_0] at h9
      exact h9
    · refine Go.run hsz hn1 4 (pc' := 39) (lv' := [some (gr 148), some (gi S), some (gi w), some (gi k), none, none, none, none, none, none, none]) (st' := [gi 0, gi k, gr 171]) (M' := gw (gfl mi 171 0 k.toNat) ml) rfl ?_
      refine Go.iast (by rfl) (N := 6) (by rfl) (by omega) (by omega) (by decide) ?_
      refine Go.run hsz hn1 2 (pc' := 27) (lv' := [some (gr 148), some (gi S), some (gi w), some (gi (k + 1)), none, none, none, none, none, none, none]) (st' := []) (M' := gw (gu (gfl mi 171 0 k.toNat) 171 k.toNat 0) ml) rfl ?_
      have h9 := ih (k + 1) (by omega) (by omega) (by omega)
      rw [show (k + 1).toNat = k.toNat + 1 by omega, ← gfl_s, Nat.zero_add] at h9
      exact h9
set_option maxRecDepth 100000 in
set_option maxHeartbeats 4000000 in
theorem pM_block {G : gG} (hsz : G.2.2.2.2.2.2 = true) {n : Nat} (hn : 3 ≤ n) (mi : Nat → Nat → Int) (ml : Nat → Nat → Int64) (S w : Int) (r_S : rng S) (r_w : rng w) (hv : SV mi) (fo : Nat → Nat) (hF : bFok mi fo) : gM G 232 n 0 0 [gr 148, gi S, gi w] (gw mi ml) (fun r M => gE (¬ ((1 ≤ S ∧ S ≤ 6) ∧ (0 ≤ w ∧ w ≤ 2))) (-1000001) (mFd mi 0) ml r M ∨ (((1 ≤ S ∧ S ≤ 6) ∧ (0 ≤ w ∧ w ≤ 2)) ∧ (fun r M => ∃ m, r = some (gi (bOut (bMs mi fo S.toNat (mi 148 9).toNat) w)) ∧ M = gw m ml ∧ bMo m mi ∧ gR32 m) r M)) := by
  have hn1 : 1 ≤ n := by omega
  obtain ⟨hR, ht, hp, hq, hP, hQ⟩ := id hv
  refine gM.of mX12_block okX12_block (gcp 232 (by decide)).1 (gcp 232 (by decide)).2 (Nat.le_of_ble_eq_true rfl) ?_
  refine Go.run hsz hn1 3 (pc' := 4) (lv' := [some (gr 148), some (gi S), some (gi w), none, none, none, none, none, none, none, none]) (st' := [gi 6, gi 1, gi S]) (M' := gw mi ml) rfl ?_
  refine Go.callS (As := [gi S, gi 1, gi 6]) (st := []) (mc1 := 0) (mc := 0) (ms1 := 0) (ms := 0) (by rfl) rfl (gcn 153 (by decide)).1 (gcn 153 (by decide)).2 (Nat.le_of_ble_eq_true rfl) (by omega) (cM_in hsz (n := n - 1) (by omega) mi ml S 1 6 r_S ⟨by decide, by decide⟩ ⟨by decide, by decide⟩) ?_
  rintro _ _ ⟨rfl, rfl⟩
  refine Go.run hsz hn1 0 (pc' := 7) (lv' := [some (gr 148), some (gi S), some (gi w), none, none, none, none, none, none, none, none]) (st' := [gi (b2 (1 ≤ S ∧ S ≤ 6))]) (M' := gw mi ml) rfl ?_
  refine Go.if_eq (by rfl) (b2_rng _) (fun kq1 => ?_) (fun kq1 => ?_)
  · replace kq1 := b2_neg kq1
    refine Go.run hsz hn1 2 (pc' := 21) (lv' := [some (gr 148), some (gi S), some (gi w), none, none, none, none, none, none, none, none]) (st' := [gi 0, gr 148]) (M' := gw mi ml) rfl ?_
    refine Go.callV (As := [gi 0]) (b := 148) (st := []) (mc1 := 0) (mc := 0) (ms1 := 0) (ms := 0) (by rfl) rfl (c := 11) (N := 46) (by rfl) (by decide) (by rfl) (gcn 154 (by decide)).1 (gcn 154 (by decide)).2 rfl (Nat.le_of_ble_eq_true rfl) (by omega) (cM_finds hsz (n := n - 1) (by omega) mi ml 0 (by decide) (by decide)) ?_
    rintro _ _ ⟨rfl, rfl⟩
    refine Go.run hsz hn1 0 (pc' := 24) (lv' := [some (gr 148), some (gi S), some (gi w), none, none, none, none, none, none, none, none]) (st' := [gi (-1000001)]) (M' := gw (mFd mi 0) ml) rfl ?_
    exact Go.iret (by rfl) (Or.inl ⟨by omega, rfl, rfl⟩)
  · replace kq1 := b2_pos kq1
    refine Go.run hsz hn1 3 (pc' := 13) (lv' := [some (gr 148), some (gi S), some (gi w), none, none, none, none, none, none, none, none]) (st' := [gi 2, gi 0, gi w]) (M' := gw mi ml) rfl ?_
    refine Go.callS (As := [gi w, gi 0, gi 2]) (st := []) (mc1 := 0) (mc := 0) (ms1 := 0) (ms := 0) (by rfl) rfl (gcn 153 (by decide)).1 (gcn 153 (by decide)).2 (Nat.le_of_ble_eq_true rfl) (by omega) (cM_in hsz (n := n - 1) (by omega) mi ml w 0 2 r_w ⟨by decide, by decide⟩ ⟨by decide, by decide⟩) ?_
    rintro _ _ ⟨rfl, rfl⟩
    refine Go.run hsz hn1 0 (pc' := 16) (lv' := [some (gr 148), some (gi S), some (gi w), none, none, none, none, none, none, none, none]) (st' := [gi (b2 (0 ≤ w ∧ w ≤ 2))]) (M' := gw mi ml) rfl ?_
    refine Go.if_ne (by rfl) (b2_rng _) (fun kq2 => ?_) (fun kq2 => ?_)
    · replace kq2 := b2_pos kq2
      refine Go.run hsz hn1 2 (pc' := 27) (lv' := [some (gr 148), some (gi S), some (gi w), some (gi 0), none, none, none, none, none, none, none]) (st' := []) (M' := gw mi ml) rfl ?_
      have h9 := lM_bz0 hsz (n := n) (by omega) mi ml S w (by omega) (by omega) r_w fo hF hR 7 0 (by omega) (by omega) (by omega)
      rw [show (0 : Int).toNat = 0 from rfl, gfl_0] at h9
      exact Go.imp (fun r M h => Or.inr ⟨by omega, h⟩) h9
    · replace kq2 := b2_neg kq2
      refine Go.run hsz hn1 2 (pc' := 21) (lv' := [some (gr 148), some (gi S), some (gi w), none, none, none, none, none, none, none, none]) (st' := [gi 0, gr 148]) (M' := gw mi ml) rfl ?_
      refine Go.callV (As := [gi 0]) (b := 148) (st := []) (mc1 := 0) (mc := 0) (ms1 := 0) (ms := 0) (by rfl) rfl (c := 11) (N := 46) (by rfl) (by decide) (by rfl) (gcn 154 (by decide)).1 (gcn 154 (by decide)).2 rfl (Nat.le_of_ble_eq_true rfl) (by omega) (cM_finds hsz (n := n - 1) (by omega) mi ml 0 (by decide) (by decide)) ?_
      rintro _ _ ⟨rfl, rfl⟩
      refine Go.run hsz hn1 0 (pc' := 24) (lv' := [some (gr 148), some (gi S), some (gi w), none, none, none, none, none, none, none, none]) (st' := [gi (-1000001)]) (M' := gw (mFd mi 0) ml) rfl ?_
      exact Go.iret (by rfl) (Or.inl ⟨by omega, rfl, rfl⟩)
set_option maxHeartbeats 4000000 in
theorem op_block {G : gG} (hsz : G.2.2.2.2.2.2 = true) : gOp G Inv 134 232 2 := by
  intro t mi ml xs hlen hr ht hI
  match xs, hlen, hr with
  | [S, w], _, hr =>
    have r_S := hr S (by simp)
    have r_w := hr w (by simp)
    obtain ⟨w1, w2, w3, fo, w4, w5⟩ := hI.2.1.2.2.2.2.2.2.2
    have w1 : mi 7 0 = mi 148 9 := w1
    have w2 : 0 ≤ mi 148 9 ∧ mi 148 9 ≤ 20 := w2
    have w3 : ∀ j : Nat, (j : Int) < mi 148 9 → (0 ≤ mi 154 j ∧ mi 154 j ≤ 999) ∧ (1 ≤ mi 155 j ∧ mi 155 j ≤ 60) := w3
    have w4 : ∀ j : Nat, (j : Int) < mi 148 9 → ((fo j : Nat) : Int) < mi 148 9 ∧ mi 8 j = mi 154 (fo j) ∧ mi 9 j = mi 155 (fo j) := w4
    have hF : bFok mi fo := ⟨w2, w3, fun i hi => (w4 i hi).1, w5⟩
    have hg : bGood mi := ⟨by omega, fun i hi => by
      obtain ⟨a, b, c⟩ := w4 i (by omega)
      rw [b, c]
      exact w3 (fo i) a⟩
    have eqs : bCs mi S.toNat (mi 7 0).toNat = bMs mi fo S.toNat (mi 148 9).toNat := by
      rw [w1]
      exact bS_congr (fun i hi => (w4 i (by omega)).2)
    refine ⟨_, pC_block hsz (n := 399) (by decide) mi ml S w r_S r_w hI.CV hg, ?_⟩
    rintro r M1 (⟨c, rfl, rfl⟩ | ⟨c, m, rfl, rfl, hm, hmR⟩)
    · refine ⟨_, rfl, (rB _ (by decide) (by decide)), _, _, rfl, _, pM_block hsz (n := 399) (by decide) (cFd mi 0) ml S w r_S r_w (SV.cFd hI ht (by decide)) fo hF, ?_⟩
      rintro r2 M2 (⟨c2, rfl, rfl⟩ | ⟨c2, -⟩)
      · exact ⟨rfl, _, _, rfl, hI.find ht (by decide)⟩
      · exfalso; omega
    · have hIm : Inv (t + 1) m ml := hI.fr (by omega) hmR (fun a k hk => hm a k (fun e => by subst e; revert hk; unfold grel gsr; simp) (by
        by_cases e : a = 7
        · subst e
          by_cases e0 : k = 0
          · exact Or.inr (Or.inl e0)
          · exfalso
            revert hk
            unfold grel gsr
            simp [e0]
        · exact Or.inl e)) (fun _ _ _ => rfl)
      have hFm : bFok m fo := by
        have a1 : ∀ c j : Nat, 148 ≤ c → m c j = mi c j := fun c j hc => hm c j (by omega) (by omega)
        unfold bFok
        simp only [a1 148 _ (by decide), a1 154 _ (by decide), a1 155 _ (by decide)]
        exact hF
      have e9 : bMs m fo S.toNat (m 148 9).toNat = bMs mi fo S.toNat (mi 148 9).toNat := by
        have a1 : ∀ c j : Nat, 148 ≤ c → m c j = mi c j := fun c j hc => hm c j (by omega) (by omega)
        unfold bMs
        simp only [a1 148 _ (by decide), a1 154 _ (by decide), a1 155 _ (by decide)]
      have hb := (bMr_b (S := S.toNat) (k := (mi 148 9).toNat) hF (by omega)).2
      refine ⟨_, rfl, (by rw [eqs]; unfold bOut; (repeat' split) <;> exact ⟨by omega, by omega⟩), _, _, rfl, _, pM_block hsz (n := 399) (by decide) m ml S w r_S r_w hIm.SV fo hFm, ?_⟩
      rintro r2 M2 (⟨c2, rfl, rfl⟩ | ⟨c2, m2, rfl, rfl, hm2, hm2R⟩)
      · exfalso; omega
      · refine ⟨congrArg (fun z => some (gi z)) (by rw [e9, eqs]), _, _, rfl, hIm.fr (Nat.le_refl _) hm2R (fun a k hk => hm2 a k (fun e => by subst e; revert hk; unfold grel; simp) (fun e => by subst e; revert hk; unfold grel; simp)) (fun _ _ _ => rfl)⟩

set_option maxHeartbeats 4000000 in
theorem op_near {G : gG} (hsz : G.2.2.2.2.2.2 = true) : gOp G Inv 110 171 2 := by
  intro t mi ml xs hlen hr ht hI
  match xs, hlen, hr with
  | [a, b], _, hr =>
    have r_a := hr a (by simp)
    have r_b := hr b (by simp)
    have hR := hI.1
    have hrep := hI.2.1
    have e0 : mi 1 0 = mi 148 0 := hrep.1.1
    have e2 : mi 1 2 = mi 148 2 := hrep.1.2.2.1
    have e3 : mi 1 3 = mi 148 6 := hrep.1.2.2.2.1
    have hq : mi 148 6 ≤ 24 := hrep.1.2.2.2.2.2.2.1.2
    have hq0 : 0 ≤ mi 148 6 := hrep.1.2.2.2.2.2.2.1.1
    refine ⟨_, pC_near hsz (n := 399) (by decide) mi ml a b r_a r_b hI.CV, ?_⟩
    rintro r M1 (⟨c, rfl, rfl⟩ | ⟨c, rfl, rfl⟩)
    · have f0 : (gu mi (24 + a.toNat) 9 b) 148 0 = mi 148 0 := gu_other (by omega)
      have f2 : (gu mi (24 + a.toNat) 9 b) 148 2 = mi 148 2 := gu_other (by omega)
      have f6 : (gu mi (24 + a.toNat) 9 b) 148 6 = mi 148 6 := gu_other (by omega)
      refine ⟨_, rfl, (hR _ _), _, _, rfl, _, pM_near hsz (n := 399) (by decide) (gu mi (24 + a.toNat) 9 b) ml a b r_a r_b (hI.SV.low (gR32_gu hR r_b) (fun c k h => gu_other (by omega))), ?_⟩
      rintro r2 M2 (⟨c2, rfl, rfl⟩ | ⟨c2, rfl, rfl⟩)
      · exact ⟨congrArg (fun z => some (gi z)) ((show gu mi (24 + a.toNat) 9 b 152 (12 * a + 7).toNat = cA mi a 9 from (gu_other (by omega)).trans (hrep.cA (by omega) (by omega)).2.2.2.2.2.2.2.1.symm)), _, _, rfl, hI.setA (a := a) (w := 7) (v := b) (by omega) (by omega) (by omega) (by omega) (by omega) r_b (fun c c0 c1 => stA_PV (by omega) (by omega) (by omega) c0 (hI.SV.2.2.2.2.1 c c0 c1) (Or.inr (Or.inl ⟨rfl, by omega, by omega⟩))) (stA_dj (by omega) (by omega) (by omega) (by omega) hrep.2.2.2.1)⟩
      · exfalso; omega
    · have f0 : (cFd mi 0) 148 0 = mi 148 0 := rfl
      have f2 : (cFd mi 0) 148 2 = mi 148 2 := rfl
      have f6 : (cFd mi 0) 148 6 = mi 148 6 := rfl
      refine ⟨_, rfl, (rB _ (by decide) (by decide)), _, _, rfl, _, pM_near hsz (n := 399) (by decide) (cFd mi 0) ml a b r_a r_b (SV.cFd hI ht (by decide)), ?_⟩
      rintro r2 M2 (⟨c2, rfl, rfl⟩ | ⟨c2, rfl, rfl⟩)
      · exfalso; omega
      · exact ⟨congrArg (fun z => some (gi z)) (rfl), _, _, rfl, hI.find ht (by decide)⟩
theorem inv_use {t : Nat} {mi : Nat → Nat → Int} {ml : Nat → Nat → Int64} {a x v : Int} (h : Inv t mi ml) (a0 : 0 ≤ a) (a1 : a < mi 148 6) (x0 : 0 ≤ x) (x1 : x ≤ 16777215) (v0 : 0 ≤ v) (v1 : v ≤ 40) : Inv (t + 1) (gu (gu (gu (gu mi (24 + a.toNat) 11 x) (24 + a.toNat) 12 v) 152 (12 * a + 9).toNat x) 152 (12 * a + 10).toNat v) ml := by
  have hq : mi 148 6 ≤ 24 := h.2.1.1.2.2.2.2.2.2.1.2
  have h1 : Inv (t + 1) (stA mi a 9 x) ml := h.setA (by omega) a0 a1 (by omega) (by omega) ⟨by omega, by omega⟩ (fun c c0 c1 => stA_PV a0 (by omega) (by omega) c0 (h.SV.2.2.2.2.1 c c0 c1) (Or.inr (Or.inr (Or.inr (Or.inr (Or.inl ⟨rfl, by omega, by omega⟩)))))) (stA_dj a0 (by omega) (by omega) (by omega) h.2.1.2.2.2.1)
  have e6 : stA mi a 9 x 148 6 = mi 148 6 := stA_off 148 6 (by omega) (by omega)
  have h2 : Inv (t + 1) (stA (stA mi a 9 x) a 10 v) ml := h1.setA (Nat.le_refl _) a0 (by omega) (by omega) (by omega) ⟨by omega, by omega⟩ (fun c c0 c1 => stA_PV a0 (by omega) (by omega) c0 (h1.SV.2.2.2.2.1 c c0 c1) (Or.inr (Or.inr (Or.inr (Or.inr (Or.inr (Or.inl ⟨rfl, by omega, by omega⟩))))))) (stA_dj a0 (by omega) (by omega) (by omega) h1.2.1.2.2.2.1)
  have e : gu (gu (gu (gu mi (24 + a.toNat) 11 x) (24 + a.toNat) 12 v) 152 (12 * a + 9).toNat x) 152 (12 * a + 10).toNat v = stA (stA mi a 9 x) a 10 v := by
    unfold stA
    rw [gu_comm (f := gu mi (24 + a.toNat) 11 x) (a := 24 + a.toNat) (b := 152) (by omega)]
    rfl
  rw [e]
  exact h2
set_option maxHeartbeats 4000000 in
theorem op_use {G : gG} (hsz : G.2.2.2.2.2.2 = true) : gOp G Inv 126 218 3 := by
  intro t mi ml xs hlen hr ht hI
  match xs, hlen, hr with
  | [a, x, v], _, hr =>
    have r_a := hr a (by simp)
    have r_x := hr x (by simp)
    have r_v := hr v (by simp)
    have hR := hI.1
    have hrep := hI.2.1
    have e0 : mi 1 0 = mi 148 0 := hrep.1.1
    have e2 : mi 1 2 = mi 148 2 := hrep.1.2.2.1
    have e3 : mi 1 3 = mi 148 6 := hrep.1.2.2.2.1
    have hq : mi 148 6 ≤ 24 := hrep.1.2.2.2.2.2.2.1.2
    have hq0 : 0 ≤ mi 148 6 := hrep.1.2.2.2.2.2.2.1.1
    refine ⟨_, pC_use hsz (n := 399) (by decide) mi ml a x v r_a r_x r_v hI.CV, ?_⟩
    rintro r M1 (⟨c, rfl, rfl⟩ | ⟨c, rfl, rfl⟩)
    · have f0 : (gu (gu mi (24 + a.toNat) 11 x) (24 + a.toNat) 12 v) 148 0 = mi 148 0 := (gu_other (by omega)).trans (gu_other (by omega))
      have f2 : (gu (gu mi (24 + a.toNat) 11 x) (24 + a.toNat) 12 v) 148 2 = mi 148 2 := (gu_other (by omega)).trans (gu_other (by omega))
      have f6 : (gu (gu mi (24 + a.toNat) 11 x) (24 + a.toNat) 12 v) 148 6 = mi 148 6 := (gu_other (by omega)).trans (gu_other (by omega))
      refine ⟨_, rfl, (rB _ (by decide) (by decide)), _, _, rfl, _, pM_use hsz (n := 399) (by decide) (gu (gu mi (24 + a.toNat) 11 x) (24 + a.toNat) 12 v) ml a x v r_a r_x r_v (hI.SV.low (gR32_gu (gR32_gu hR r_x) r_v) (fun c k h => (gu_other (by omega)).trans (gu_other (by omega)))), ?_⟩
      rintro r2 M2 (⟨c2, rfl, rfl⟩ | ⟨c2, rfl, rfl⟩)
      · exact ⟨congrArg (fun z => some (gi z)) (rfl), _, _, rfl, inv_use hI (by omega) (by omega) (by omega) (by omega) (by omega) (by omega)⟩
      · exfalso; omega
    · have f0 : (cFd mi 0) 148 0 = mi 148 0 := rfl
      have f2 : (cFd mi 0) 148 2 = mi 148 2 := rfl
      have f6 : (cFd mi 0) 148 6 = mi 148 6 := rfl
      refine ⟨_, rfl, (rB _ (by decide) (by decide)), _, _, rfl, _, pM_use hsz (n := 399) (by decide) (cFd mi 0) ml a x v r_a r_x r_v (SV.cFd hI ht (by decide)), ?_⟩
      rintro r2 M2 (⟨c2, rfl, rfl⟩ | ⟨c2, rfl, rfl⟩)
      · exfalso; omega
      · exact ⟨congrArg (fun z => some (gi z)) (rfl), _, _, rfl, hI.find ht (by decide)⟩
theorem inv_hold {t : Nat} {mi : Nat → Nat → Int} {ml : Nat → Nat → Int64} (h : Inv t mi ml) {i : Nat} {v : Int} (hi : i < 10) (h0 : -1 ≤ v) (h1 : v < mi 148 6) : Inv (t + 1) (gu (gu mi 5 i v) 156 i v) ml := by
  have hq : mi 148 6 ≤ 24 := h.2.1.1.2.2.2.2.2.2.1.2
  have hrv : rng v := ⟨by omega, by omega⟩
  have off : ∀ a k : Nat, a ≠ 5 → a ≠ 156 → gu (gu mi 5 i v) 156 i v a k = mi a k := fun a k x y => by rw [gu_other y, gu_other x]
  refine h.live (by omega) (gR32_gu (gR32_gu h.1 hrv) hrv) (fun a k hk => off a k (by omega) (by omega)) (fun _ _ _ _ => rfl) ?_
  refine h.2.1.two (x := 5) (y := 156) (by omega) off (by omega) (by omega) (Or.inl (by omega)) (Or.inl (by omega)) (Or.inl (by omega)) (Or.inr (fun j hj => ?_)) (Or.inl (by omega)) (Or.inl (by omega))
  have e1 : gu (gu mi 5 i v) 156 i v (1 + 4) j = if j = i then v else mi 5 j := by
    rw [gu_other (by decide), gu_eq]
    by_cases e : j = i <;> simp [e]
  have e2 : sg (gu (gu mi 5 i v) 156 i v) 8 j = if j = i then v else mi 156 j := by
    show gu (gu mi 5 i v) 156 i v 156 j = _
    rw [gu_eq]
    by_cases e : j = i
    · simp [e]
    · simp only [e, and_false, if_false]
      exact gu_other (by decide)
  have e3 : sg (gu (gu mi 5 i v) 156 i v) 0 3 = mi 148 6 := off 148 6 (by decide) (by decide)
  rw [e1, e2, e3]
  have := h.2.1.2.2.2.2.2.1 j hj
  have this : mi 5 j = mi 156 j ∧ -1 ≤ mi 156 j ∧ mi 156 j < mi 148 6 := this
  split <;> omega
set_option maxHeartbeats 4000000 in
theorem op_hold {G : gG} (hsz : G.2.2.2.2.2.2 = true) : gOp G Inv 137 235 2 := by
  intro t mi ml xs hlen hr ht hI
  match xs, hlen, hr with
  | [x, a], _, hr =>
    have r_x := hr x (by simp)
    have r_a := hr a (by simp)
    have hR := hI.1
    have hrep := hI.2.1
    have e0 : mi 1 0 = mi 148 0 := hrep.1.1
    have e2 : mi 1 2 = mi 148 2 := hrep.1.2.2.1
    have e3 : mi 1 3 = mi 148 6 := hrep.1.2.2.2.1
    have hq : mi 148 6 ≤ 24 := hrep.1.2.2.2.2.2.2.1.2
    have hq0 : 0 ≤ mi 148 6 := hrep.1.2.2.2.2.2.2.1.1
    refine ⟨_, pC_hold hsz (n := 399) (by decide) mi ml x a r_x r_a hI.CV, ?_⟩
    rintro r M1 (⟨c, rfl, rfl⟩ | ⟨c, rfl, rfl⟩)
    · have f0 : (gu mi 5 x.toNat a) 148 0 = mi 148 0 := rfl
      have f2 : (gu mi 5 x.toNat a) 148 2 = mi 148 2 := rfl
      have f6 : (gu mi 5 x.toNat a) 148 6 = mi 148 6 := rfl
      refine ⟨_, rfl, (rB _ (by decide) (by decide)), _, _, rfl, _, pM_hold hsz (n := 399) (by decide) (gu mi 5 x.toNat a) ml x a r_x r_a (hI.SV.low (gR32_gu hR r_a) (fun c k h => gu_other (by omega))), ?_⟩
      rintro r2 M2 (⟨c2, rfl, rfl⟩ | ⟨c2, rfl, rfl⟩)
      · exact ⟨congrArg (fun z => some (gi z)) (rfl), _, _, rfl, inv_hold hI (by omega) (by omega) (by omega)⟩
      · exfalso; omega
    · have f0 : (cFd mi 0) 148 0 = mi 148 0 := rfl
      have f2 : (cFd mi 0) 148 2 = mi 148 2 := rfl
      have f6 : (cFd mi 0) 148 6 = mi 148 6 := rfl
      refine ⟨_, rfl, (rB _ (by decide) (by decide)), _, _, rfl, _, pM_hold hsz (n := 399) (by decide) (cFd mi 0) ml x a r_x r_a (SV.cFd hI ht (by decide)), ?_⟩
      rintro r2 M2 (⟨c2, rfl, rfl⟩ | ⟨c2, rfl, rfl⟩)
      · exfalso; omega
      · exact ⟨congrArg (fun z => some (gi z)) (rfl), _, _, rfl, hI.find ht (by decide)⟩
theorem inv_wipe {t : Nat} {mi : Nat → Nat → Int} {ml : Nat → Nat → Int64} (h : Inv t mi ml) : Inv (t + 1) (gu (gu mi 132 0 0) 148 22 0) ml := by
  have r0 : rng 0 := ⟨by decide, by decide⟩
  obtain ⟨hR, hrep, ⟨t1, t2, t3⟩, hfd, hsh, ⟨k1, k2, k3⟩⟩ := h
  have off : ∀ a k : Nat, a ≠ 132 → (a ≠ 148 ∨ k ≠ 22) → gu (gu mi 132 0 0) 148 22 0 a k = mi a k := fun a k x y => by rw [gu_ne y, gu_other x]
  have esg : sg (gu (gu mi 132 0 0) 148 22 0) = sg mi := by
    funext c k
    unfold sg
    split
    · split <;> rfl
    all_goals rfl
  refine ⟨gR32_gu (gR32_gu hR r0) r0, ?_, ⟨rfl, ⟨by show (0 : Int) ≤ 0; omega, by show (0 : Int) ≤ 120; omega⟩, fun i hi => ?_⟩, fun i hi => ?_, fun s hs => ?_, k1, k2, fun hk => ?_⟩
  · rw [esg]
    exact hrep.fr (by omega) (fun d k hd _ => off _ _ (by omega) (by omega)) (fun _ _ _ _ => rfl)
  · have hi : (i : Int) < 0 := hi
    omega
  · rw [off 147 i (by decide) (by omega), off 159 i (by decide) (by omega)]
    have := hfd i hi
    omega
  · have h9 := hsh s hs
    rw [off _ 0 (by omega) (by omega), off _ 1 (by omega) (by omega), off 172 s (by omega) (by omega), off 173 s (by omega) (by omega)]
    refine ⟨h9.1, h9.2.1, h9.2.2.1, h9.2.2.2.1, h9.2.2.2.2.1, fun i hi => ?_⟩
    rw [off _ i (by omega) (by omega), off 174 _ (by omega) (by omega)]
    exact h9.2.2.2.2.2 i hi
  · rw [sk_congr (fun k => off 176 k (by decide) (by omega))]
    exact (k3 hk).fr (by omega) (fun d k hd _ => off _ _ (by omega) (by omega)) (fun _ _ _ _ => rfl)
set_option maxHeartbeats 4000000 in
theorem op_wipe {G : gG} (hsz : G.2.2.2.2.2.2 = true) : gOp G Inv 118 188 0 := by
  intro t mi ml xs hlen hr ht hI
  match xs, hlen, hr with
  | [], _, hr =>
    have hR := hI.1
    have hrep := hI.2.1
    have e0 : mi 1 0 = mi 148 0 := hrep.1.1
    have e2 : mi 1 2 = mi 148 2 := hrep.1.2.2.1
    have e3 : mi 1 3 = mi 148 6 := hrep.1.2.2.2.1
    refine ⟨_, pC_wipe hsz (n := 399) (by decide) mi ml   hI.CV, ?_⟩
    rintro r M1 (⟨c, rfl, rfl⟩)
    · have f0 : (gu mi 132 0 0) 148 0 = mi 148 0 := rfl
      have f2 : (gu mi 132 0 0) 148 2 = mi 148 2 := rfl
      have f6 : (gu mi 132 0 0) 148 6 = mi 148 6 := rfl
      refine ⟨_, rfl, (hR _ _), _, _, rfl, _, pM_wipe hsz (n := 399) (by decide) (gu mi 132 0 0) ml   (hI.SV.low (gR32_gu hR ⟨by decide, by decide⟩) (fun c k h => gu_other (by omega))), ?_⟩
      rintro r2 M2 (⟨c2, rfl, rfl⟩)
      · exact ⟨congrArg (fun z => some (gi z)) (hI.2.2.1.1.symm), _, _, rfl, inv_wipe hI⟩

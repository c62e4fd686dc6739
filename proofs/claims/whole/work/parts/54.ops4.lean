set_option maxHeartbeats 4000000 in
theorem op_repeal {G : gG} (hsz : G.2.2.2.2.2.2 = true) : gOp G Inv 120 205 1 := by
  intro t mi ml xs hlen hr ht hI
  match xs, hlen, hr with
  | [l], _, hr =>
    have r_l := hr l (by simp)
    have hR := hI.1
    have hrep := hI.2.1
    have e0 : mi 1 0 = mi 148 0 := hrep.1.1
    have e2 : mi 1 2 = mi 148 2 := hrep.1.2.2.1
    have e3 : mi 1 3 = mi 148 6 := hrep.1.2.2.2.1
    have hb : (0 ≤ l ∧ l ≤ 1) → mi (48 + 3 * l.toNat) 0 = b2 (0 < mi 157 l.toNat) := fun h => (hrep.2.2.2.2.2.2.1 l.toNat (by omega)).1
    refine ⟨_, pC_repeal hsz (n := 399) (by decide) mi ml l r_l hI.CV , ?_⟩
    rintro r M1 (⟨c, rfl, rfl⟩ | ⟨c, rfl, rfl⟩ | ⟨c, rfl, rfl⟩)
    · have f0 : (gu mi (48 + 3 * l.toNat) 0 0) 148 0 = mi 148 0 := gu_other (by omega)
      have f2 : (gu mi (48 + 3 * l.toNat) 0 0) 148 2 = mi 148 2 := gu_other (by omega)
      have f6 : (gu mi (48 + 3 * l.toNat) 0 0) 148 6 = mi 148 6 := gu_other (by omega)
      have h7 : gu mi (48 + 3 * l.toNat) 0 0 157 l.toNat = mi 157 l.toNat := gu_other (by omega)
      have h8 := hb c.1
      unfold b2 at h8
      refine ⟨_, rfl, (rB _ (by decide) (by decide)), _, _, rfl, _, pM_repeal hsz (n := 399) (by decide) (gu mi (48 + 3 * l.toNat) 0 0) ml l r_l (hI.SV.low (gR32_gu hR ⟨by decide, by decide⟩) (fun c k h => gu_other (by omega))) , ?_⟩
      rintro r2 M2 (⟨c2, rfl, rfl⟩ | ⟨c2, rfl, rfl⟩ | ⟨c2, rfl, rfl⟩)
      · exact ⟨congrArg (fun z => some (gi z)) (rfl), _, _, rfl, inv_repeal hI (by omega) (by omega)⟩
      · exfalso; (split at h8 <;> omega)
      · exfalso; (split at h8 <;> omega)
    · have f0 : (gu mi (48 + 3 * l.toNat) 0 0) 148 0 = mi 148 0 := gu_other (by omega)
      have f2 : (gu mi (48 + 3 * l.toNat) 0 0) 148 2 = mi 148 2 := gu_other (by omega)
      have f6 : (gu mi (48 + 3 * l.toNat) 0 0) 148 6 = mi 148 6 := gu_other (by omega)
      have h7 : gu mi (48 + 3 * l.toNat) 0 0 157 l.toNat = mi 157 l.toNat := gu_other (by omega)
      have h8 := hb c.1
      unfold b2 at h8
      refine ⟨_, rfl, (rB _ (by decide) (by decide)), _, _, rfl, _, pM_repeal hsz (n := 399) (by decide) (gu mi (48 + 3 * l.toNat) 0 0) ml l r_l (hI.SV.low (gR32_gu hR ⟨by decide, by decide⟩) (fun c k h => gu_other (by omega))) , ?_⟩
      rintro r2 M2 (⟨c2, rfl, rfl⟩ | ⟨c2, rfl, rfl⟩ | ⟨c2, rfl, rfl⟩)
      · exfalso; (split at h8 <;> omega)
      · exact ⟨congrArg (fun z => some (gi z)) (rfl), _, _, rfl, inv_repeal hI (by omega) (by omega)⟩
      · exfalso; (split at h8 <;> omega)
    · have f0 : (cFd mi 0) 148 0 = mi 148 0 := rfl
      have f2 : (cFd mi 0) 148 2 = mi 148 2 := rfl
      have f6 : (cFd mi 0) 148 6 = mi 148 6 := rfl
      refine ⟨_, rfl, (rB _ (by decide) (by decide)), _, _, rfl, _, pM_repeal hsz (n := 399) (by decide) (cFd mi 0) ml l r_l (SV.cFd hI ht (by decide)) , ?_⟩
      rintro r2 M2 (⟨c2, rfl, rfl⟩ | ⟨c2, rfl, rfl⟩ | ⟨c2, rfl, rfl⟩)
      · exfalso; omega
      · exfalso; omega
      · exact ⟨congrArg (fun z => some (gi z)) (rfl), _, _, rfl, hI.find ht (by decide)⟩
set_option maxHeartbeats 4000000 in
theorem op_stars {G : gG} (hsz : G.2.2.2.2.2.2 = true) : gOp G Inv 125 217 1 := by
  intro t mi ml xs hlen hr ht hI
  match xs, hlen, hr with
  | [p], _, hr =>
    have r_p := hr p (by simp)
    have hR := hI.1
    have hrep := hI.2.1
    have e0 : mi 1 0 = mi 148 0 := hrep.1.1
    have e2 : mi 1 2 = mi 148 2 := hrep.1.2.2.1
    have e3 : mi 1 3 = mi 148 6 := hrep.1.2.2.2.1
    refine ⟨_, pC_stars hsz (n := 399) (by decide) mi ml p r_p hI.CV (hI.starsC ht), ?_⟩
    rintro r M1 (⟨c, rfl, rfl⟩ | ⟨c, rfl, rfl⟩ | ⟨c, rfl, rfl⟩)
    · have f0 : (cFd mi 0) 148 0 = mi 148 0 := rfl
      have f2 : (cFd mi 0) 148 2 = mi 148 2 := rfl
      have f6 : (cFd mi 0) 148 6 = mi 148 6 := rfl
      refine ⟨_, rfl, (rB _ (by decide) (by decide)), _, _, rfl, _, pM_stars hsz (n := 399) (by decide) (cFd mi 0) ml p r_p (SV.cFd hI ht (by decide)) (hI.starsM ht), ?_⟩
      rintro r2 M2 (⟨c2, rfl, rfl⟩ | ⟨c2, rfl, rfl⟩ | ⟨c2, rfl, rfl⟩)
      · exact ⟨congrArg (fun z => some (gi z)) (rfl), _, _, rfl, hI.find ht (by decide)⟩
      · exfalso; omega
      · exfalso; omega
    · have f0 : (cFd mi 3) 148 0 = mi 148 0 := rfl
      have f2 : (cFd mi 3) 148 2 = mi 148 2 := rfl
      have f6 : (cFd mi 3) 148 6 = mi 148 6 := rfl
      obtain ⟨-, d8, d9⟩ := hrep.cP (p := p) (by omega) (by omega)
      have g1 : cFd mi 3 151 p.toNat = mi 151 p.toNat := rfl
      refine ⟨_, rfl, (rB _ (by decide) (by decide)), _, _, rfl, _, pM_stars hsz (n := 399) (by decide) (cFd mi 3) ml p r_p (SV.cFd hI ht (by decide)) (hI.starsM ht), ?_⟩
      rintro r2 M2 (⟨c2, rfl, rfl⟩ | ⟨c2, rfl, rfl⟩ | ⟨c2, rfl, rfl⟩)
      · exfalso; omega
      · exact ⟨congrArg (fun z => some (gi z)) (rfl), _, _, rfl, hI.find ht (by decide)⟩
      · exfalso; omega
    · have f0 : (mi) 148 0 = mi 148 0 := rfl
      have f2 : (mi) 148 2 = mi 148 2 := rfl
      have f6 : (mi) 148 6 = mi 148 6 := rfl
      obtain ⟨-, d8, d9⟩ := hrep.cP (p := p) (by omega) (by omega)
      refine ⟨_, rfl, (rng_tdiv (by have := hI.starsC ht p (by omega) (by omega); exact ⟨by omega, by omega⟩) (by have := hI.starsC ht p (by omega) (by omega); omega)), _, _, rfl, _, pM_stars hsz (n := 399) (by decide) (mi) ml p r_p hI.SV (hI.starsM ht), ?_⟩
      rintro r2 M2 (⟨c2, rfl, rfl⟩ | ⟨c2, rfl, rfl⟩ | ⟨c2, rfl, rfl⟩)
      · exfalso; omega
      · exfalso; omega
      · exact ⟨congrArg (fun z => some (gi z)) ((by rw [d8, d9])), _, _, rfl, hI.mono⟩
set_option maxHeartbeats 4000000 in
theorem op_review {G : gG} (hsz : G.2.2.2.2.2.2 = true) : gOp G Inv 124 216 2 := by
  intro t mi ml xs hlen hr ht hI
  match xs, hlen, hr with
  | [a, v], _, hr =>
    have r_a := hr a (by simp)
    have r_v := hr v (by simp)
    have hR := hI.1
    have hrep := hI.2.1
    have e0 : mi 1 0 = mi 148 0 := hrep.1.1
    have e2 : mi 1 2 = mi 148 2 := hrep.1.2.2.1
    have e3 : mi 1 3 = mi 148 6 := hrep.1.2.2.2.1
    refine ⟨_, pC_review hsz (n := 399) (by decide) mi ml a v r_a r_v hI.CV , ?_⟩
    rintro r M1 (⟨c, rfl, rfl⟩ | ⟨c, rfl, rfl⟩ | ⟨c, rfl, rfl⟩)
    · have f0 : (cFd mi 0) 148 0 = mi 148 0 := rfl
      have f2 : (cFd mi 0) 148 2 = mi 148 2 := rfl
      have f6 : (cFd mi 0) 148 6 = mi 148 6 := rfl
      refine ⟨_, rfl, (rB _ (by decide) (by decide)), _, _, rfl, _, pM_review hsz (n := 399) (by decide) (cFd mi 0) ml a v r_a r_v (SV.cFd hI ht (by decide)) , ?_⟩
      rintro r2 M2 (⟨c2, rfl, rfl⟩ | ⟨c2, rfl, rfl⟩ | ⟨c2, rfl, rfl⟩)
      · exact ⟨congrArg (fun z => some (gi z)) (rfl), _, _, rfl, hI.find ht (by decide)⟩
      · exfalso; omega
      · exfalso; omega
    · have f0 : (cFd mi 4) 148 0 = mi 148 0 := rfl
      have f2 : (cFd mi 4) 148 2 = mi 148 2 := rfl
      have f6 : (cFd mi 4) 148 6 = mi 148 6 := rfl
      obtain ⟨-, -, -, -, c4, c5, c8, -, -, -, -, c13⟩ := hrep.cA (a := a) (by omega) (by omega)
      have hpv := (hI.SV.2.2.2.2.1 a (by omega) (by omega)).2.2.2.2.2.2.2
      have h8 : (-2 ≤ mOf mi a 6 ∧ mOf mi a 6 < mi 148 2) := hpv.1
      have h11 : (mOf mi a 11 = 0 ∨ mOf mi a 11 = 1) := hpv.2.2.2.2.2
      have g4 : mOf (cFd mi 4) a 4 = mOf mi a 4 := rfl
      have g5 : mOf (cFd mi 4) a 5 = mOf mi a 5 := rfl
      have g6 : mOf (cFd mi 4) a 6 = mOf mi a 6 := rfl
      have g11 : mOf (cFd mi 4) a 11 = mOf mi a 11 := rfl
      refine ⟨_, rfl, (rB _ (by decide) (by decide)), _, _, rfl, _, pM_review hsz (n := 399) (by decide) (cFd mi 4) ml a v r_a r_v (SV.cFd hI ht (by decide)) , ?_⟩
      rintro r2 M2 (⟨c2, rfl, rfl⟩ | ⟨c2, rfl, rfl⟩ | ⟨c2, rfl, rfl⟩)
      · exfalso; omega
      · exact ⟨congrArg (fun z => some (gi z)) (rfl), _, _, rfl, hI.find ht (by decide)⟩
      · exfalso; omega
    · have f0 : (gu (gu (gu mi (24 + a.toNat) 13 1) (12 + (cA mi a 8).toNat) 8 (cP mi (cA mi a 8) 8 + 1)) (12 + (cA mi a 8).toNat) 9 (cP mi (cA mi a 8) 9 + v)) 148 0 = mi 148 0 := by have h8 := (hI.CV.2.2.2.2.1 a (by omega) (by omega)).2.2.2.2.2.2.2.1; have hq := hI.CV.2.2.1; have hq6 := hI.CV.2.2.2.1; exact (gu_other (by omega)).trans ((gu_other (by omega)).trans (gu_other (by omega)))
      have f2 : (gu (gu (gu mi (24 + a.toNat) 13 1) (12 + (cA mi a 8).toNat) 8 (cP mi (cA mi a 8) 8 + 1)) (12 + (cA mi a 8).toNat) 9 (cP mi (cA mi a 8) 9 + v)) 148 2 = mi 148 2 := by have h8 := (hI.CV.2.2.2.2.1 a (by omega) (by omega)).2.2.2.2.2.2.2.1; have hq := hI.CV.2.2.1; have hq6 := hI.CV.2.2.2.1; exact (gu_other (by omega)).trans ((gu_other (by omega)).trans (gu_other (by omega)))
      have f6 : (gu (gu (gu mi (24 + a.toNat) 13 1) (12 + (cA mi a 8).toNat) 8 (cP mi (cA mi a 8) 8 + 1)) (12 + (cA mi a 8).toNat) 9 (cP mi (cA mi a 8) 9 + v)) 148 6 = mi 148 6 := by have h8 := (hI.CV.2.2.2.2.1 a (by omega) (by omega)).2.2.2.2.2.2.2.1; have hq := hI.CV.2.2.1; have hq6 := hI.CV.2.2.2.1; exact (gu_other (by omega)).trans ((gu_other (by omega)).trans (gu_other (by omega)))
      obtain ⟨-, -, -, -, c4, c5, c8, -, -, -, -, c13⟩ := hrep.cA (a := a) (by omega) (by omega)
      have hpv := (hI.SV.2.2.2.2.1 a (by omega) (by omega)).2.2.2.2.2.2.2
      have h8 : (-2 ≤ mOf mi a 6 ∧ mOf mi a 6 < mi 148 2) := hpv.1
      have h11 : (mOf mi a 11 = 0 ∨ mOf mi a 11 = 1) := hpv.2.2.2.2.2
      have hq := hI.CV.2.2.1
      have hq2 := hI.CV.2.2.2.1
      obtain ⟨-, d8, d9⟩ := hrep.cP (p := mOf mi a 6) (by omega) (by omega)
      have hs := hI.starsC ht (cA mi a 8) (by omega) (by omega)
      have rr : rng (cP mi (cA mi a 8) 8 + 1) := ⟨by omega, by omega⟩
      have rs : rng (cP mi (cA mi a 8) 9 + v) := ⟨by omega, by omega⟩
      have g4 : mOf (gu (gu (gu mi (24 + a.toNat) 13 1) (12 + (cA mi a 8).toNat) 8 (cP mi (cA mi a 8) 8 + 1)) (12 + (cA mi a 8).toNat) 9 (cP mi (cA mi a 8) 9 + v)) a 4 = mOf mi a 4 := (gu_other (by omega)).trans ((gu_other (by omega)).trans (gu_other (by omega)))
      have g5 : mOf (gu (gu (gu mi (24 + a.toNat) 13 1) (12 + (cA mi a 8).toNat) 8 (cP mi (cA mi a 8) 8 + 1)) (12 + (cA mi a 8).toNat) 9 (cP mi (cA mi a 8) 9 + v)) a 5 = mOf mi a 5 := (gu_other (by omega)).trans ((gu_other (by omega)).trans (gu_other (by omega)))
      have g6 : mOf (gu (gu (gu mi (24 + a.toNat) 13 1) (12 + (cA mi a 8).toNat) 8 (cP mi (cA mi a 8) 8 + 1)) (12 + (cA mi a 8).toNat) 9 (cP mi (cA mi a 8) 9 + v)) a 6 = mOf mi a 6 := (gu_other (by omega)).trans ((gu_other (by omega)).trans (gu_other (by omega)))
      have g11 : mOf (gu (gu (gu mi (24 + a.toNat) 13 1) (12 + (cA mi a 8).toNat) 8 (cP mi (cA mi a 8) 8 + 1)) (12 + (cA mi a 8).toNat) 9 (cP mi (cA mi a 8) 9 + v)) a 11 = mOf mi a 11 := (gu_other (by omega)).trans ((gu_other (by omega)).trans (gu_other (by omega)))
      have gr1 : (gu (gu (gu mi (24 + a.toNat) 13 1) (12 + (cA mi a 8).toNat) 8 (cP mi (cA mi a 8) 8 + 1)) (12 + (cA mi a 8).toNat) 9 (cP mi (cA mi a 8) 9 + v)) 151 (mOf mi a 6).toNat = mi 151 (mOf mi a 6).toNat := (gu_other (by omega)).trans ((gu_other (by omega)).trans (gu_other (by omega)))
      have gs1 : (gu (gu (gu mi (24 + a.toNat) 13 1) (12 + (cA mi a 8).toNat) 8 (cP mi (cA mi a 8) 8 + 1)) (12 + (cA mi a 8).toNat) 9 (cP mi (cA mi a 8) 9 + v)) 150 (mOf mi a 6).toNat = mi 150 (mOf mi a 6).toNat := (gu_other (by omega)).trans ((gu_other (by omega)).trans (gu_other (by omega)))
      refine ⟨_, rfl, rr, _, _, rfl, _, pM_review hsz (n := 399) (by decide) (gu (gu (gu mi (24 + a.toNat) 13 1) (12 + (cA mi a 8).toNat) 8 (cP mi (cA mi a 8) 8 + 1)) (12 + (cA mi a 8).toNat) 9 (cP mi (cA mi a 8) 9 + v)) ml a v r_a r_v (hI.SV.low (gR32_gu (gR32_gu (gR32_gu hR ⟨by decide, by decide⟩) rr) rs) (fun c k h => (gu_other (by omega)).trans ((gu_other (by omega)).trans (gu_other (by omega))))) , ?_⟩
      rintro r2 M2 (⟨c2, rfl, rfl⟩ | ⟨c2, rfl, rfl⟩ | ⟨c2, rfl, rfl⟩)
      · exfalso; omega
      · exfalso; omega
      · exact ⟨congrArg (fun z => some (gi z)) ((by rw [g6, gr1, c8, d8])), _, _, rfl, (by rw [g6, gs1, gr1, c8, d8, d9]; exact inv_review hI ht (by omega) (by omega) (by omega) (by omega) rfl (by omega) rfl rfl)⟩
set_option maxHeartbeats 4000000 in
theorem op_as {G : gG} (hsz : G.2.2.2.2.2.2 = true) : gOp G Inv 138 236 2 := by
  intro t mi ml xs hlen hr ht hI
  match xs, hlen, hr with
  | [x, kd], _, hr =>
    have r_x := hr x (by simp)
    have r_kd := hr kd (by simp)
    have hR := hI.1
    have hrep := hI.2.1
    have e0 : mi 1 0 = mi 148 0 := hrep.1.1
    have e2 : mi 1 2 = mi 148 2 := hrep.1.2.2.1
    have e3 : mi 1 3 = mi 148 6 := hrep.1.2.2.2.1
    have hsC : ∀ i : Nat, i < 10 → -1 ≤ mi 5 i ∧ mi 5 i < mi 1 3 := fun i hi => by
      have := hrep.2.2.2.2.2.1 i hi
      have this : mi 5 i = mi 156 i ∧ -1 ≤ mi 156 i ∧ mi 156 i < mi 148 6 := this
      omega
    have hsM : ∀ i : Nat, i < 10 → -1 ≤ mi 156 i ∧ mi 156 i < mi 148 6 := fun i hi => (hrep.2.2.2.2.2.1 i hi).2
    have hx5 : (0 ≤ x ∧ x ≤ 9) → mi 5 x.toNat = mi 156 x.toNat ∧ -1 ≤ mi 156 x.toNat ∧ mi 156 x.toNat < mi 148 6 := fun h => hrep.2.2.2.2.2.1 x.toNat (by omega)
    have hxa : (0 ≤ x ∧ x ≤ 9) → 0 ≤ mi 156 x.toNat → cA mi (mi 156 x.toNat) 0 = mOf mi (mi 156 x.toNat) 0 := fun h h0 => (hrep.cA h0 (hx5 h).2.2).1
    refine ⟨_, pC_as hsz (n := 399) (by decide) mi ml x kd r_x r_kd hI.CV hsC, ?_⟩
    rintro r M1 (⟨c, rfl, rfl⟩ | ⟨c, rfl, rfl⟩ | ⟨c, rfl, rfl⟩ | ⟨c, rfl, rfl⟩)
    · have f0 : (cFd mi 0) 148 0 = mi 148 0 := rfl
      have f2 : (cFd mi 0) 148 2 = mi 148 2 := rfl
      have f6 : (cFd mi 0) 148 6 = mi 148 6 := rfl
      refine ⟨_, rfl, (rB _ (by decide) (by decide)), _, _, rfl, _, pM_as hsz (n := 399) (by decide) (cFd mi 0) ml x kd r_x r_kd (SV.cFd hI ht (by decide)) hsM, ?_⟩
      rintro r2 M2 (⟨c2, rfl, rfl⟩ | ⟨c2, rfl, rfl⟩ | ⟨c2, rfl, rfl⟩ | ⟨c2, rfl, rfl⟩)
      · exact ⟨congrArg (fun z => some (gi z)) (rfl), _, _, rfl, hI.find ht (by decide)⟩
      · exfalso; omega
      · exfalso; omega
      · exfalso; omega
    · have f0 : (cFd mi 5) 148 0 = mi 148 0 := rfl
      have f2 : (cFd mi 5) 148 2 = mi 148 2 := rfl
      have f6 : (cFd mi 5) 148 6 = mi 148 6 := rfl
      have g1 : (cFd mi 5) 156 x.toNat = mi 156 x.toNat := rfl
      have g2 : mOf (cFd mi 5) (mi 156 x.toNat) 0 = mOf mi (mi 156 x.toNat) 0 := rfl
      refine ⟨_, rfl, (rB _ (by decide) (by decide)), _, _, rfl, _, pM_as hsz (n := 399) (by decide) (cFd mi 5) ml x kd r_x r_kd (SV.cFd hI ht (by decide)) hsM, ?_⟩
      rintro r2 M2 (⟨c2, rfl, rfl⟩ | ⟨c2, rfl, rfl⟩ | ⟨c2, rfl, rfl⟩ | ⟨c2, rfl, rfl⟩)
      · exfalso; (have q1 := hx5 (by omega); have q2 := hxa (by omega); rw [q1.1] at c; (try rw [g1] at c2); omega)
      · exact ⟨congrArg (fun z => some (gi z)) (rfl), _, _, rfl, hI.find ht (by decide)⟩
      · exfalso; (have q1 := hx5 (by omega); have q2 := hxa (by omega); rw [q1.1] at c; (try rw [g1] at c2); omega)
      · exfalso; (have q1 := hx5 (by omega); have q2 := hxa (by omega); rw [q1.1] at c; (try rw [g1] at c2); omega)
    · have f0 : (mi) 148 0 = mi 148 0 := rfl
      have f2 : (mi) 148 2 = mi 148 2 := rfl
      have f6 : (mi) 148 6 = mi 148 6 := rfl
      refine ⟨_, rfl, (hR _ _), _, _, rfl, _, pM_as hsz (n := 399) (by decide) (mi) ml x kd r_x r_kd hI.SV hsM, ?_⟩
      rintro r2 M2 (⟨c2, rfl, rfl⟩ | ⟨c2, rfl, rfl⟩ | ⟨c2, rfl, rfl⟩ | ⟨c2, rfl, rfl⟩)
      · exfalso; (have q1 := hx5 (by omega); have q2 := hxa (by omega); rw [q1.1] at c; omega)
      · exfalso; (have q1 := hx5 (by omega); have q2 := hxa (by omega); rw [q1.1] at c; omega)
      · exact ⟨congrArg (fun z => some (gi z)) ((hx5 (by omega)).1.symm), _, _, rfl, hI.mono⟩
      · exfalso; (have q1 := hx5 (by omega); have q2 := hxa (by omega); rw [q1.1] at c; omega)
    · have f0 : (cFd mi 2) 148 0 = mi 148 0 := rfl
      have f2 : (cFd mi 2) 148 2 = mi 148 2 := rfl
      have f6 : (cFd mi 2) 148 6 = mi 148 6 := rfl
      have g1 : (cFd mi 2) 156 x.toNat = mi 156 x.toNat := rfl
      have g2 : mOf (cFd mi 2) (mi 156 x.toNat) 0 = mOf mi (mi 156 x.toNat) 0 := rfl
      refine ⟨_, rfl, (rB _ (by decide) (by decide)), _, _, rfl, _, pM_as hsz (n := 399) (by decide) (cFd mi 2) ml x kd r_x r_kd (SV.cFd hI ht (by decide)) hsM, ?_⟩
      rintro r2 M2 (⟨c2, rfl, rfl⟩ | ⟨c2, rfl, rfl⟩ | ⟨c2, rfl, rfl⟩ | ⟨c2, rfl, rfl⟩)
      · exfalso; (have q1 := hx5 (by omega); have q2 := hxa (by omega); rw [q1.1] at c; (try rw [g1] at c2); omega)
      · exfalso; (have q1 := hx5 (by omega); have q2 := hxa (by omega); rw [q1.1] at c; (try rw [g1] at c2); omega)
      · exfalso; (have q1 := hx5 (by omega); have q2 := hxa (by omega); rw [q1.1] at c; (try rw [g1] at c2); omega)
      · exact ⟨congrArg (fun z => some (gi z)) (rfl), _, _, rfl, hI.find ht (by decide)⟩
set_option maxHeartbeats 4000000 in
theorem op_tear {G : gG} (hsz : G.2.2.2.2.2.2 = true) : gOp G Inv 144 245 0 := by
  intro t mi ml xs hlen hr ht hI
  match xs, hlen, hr with
  | [], _, hr =>
    have hR := hI.1
    have hrep := hI.2.1
    have e0 : mi 1 0 = mi 148 0 := hrep.1.1
    have e2 : mi 1 2 = mi 148 2 := hrep.1.2.2.1
    have e3 : mi 1 3 = mi 148 6 := hrep.1.2.2.2.1
    refine ⟨_, pC_tear hsz (n := 399) (by decide) mi ml   hI.CV , ?_⟩
    rintro r M1 (⟨c, rfl, rfl⟩ | ⟨c, rfl, rfl⟩)
    · have f0 : (gu mi 0 8 0) 148 0 = mi 148 0 := rfl
      have f2 : (gu mi 0 8 0) 148 2 = mi 148 2 := rfl
      have f6 : (gu mi 0 8 0) 148 6 = mi 148 6 := rfl
      have k1 : mi 0 8 = mi 148 42 := hI.2.2.2.2.2.1
      have g1 : gu mi 0 8 0 148 42 = mi 148 42 := rfl
      refine ⟨_, rfl, (rB _ (by decide) (by decide)), _, _, rfl, _, pM_tear hsz (n := 399) (by decide) (gu mi 0 8 0) ml   (hI.SV.low (gR32_gu hR ⟨by decide, by decide⟩) (fun c k h => gu_other (by omega))) , ?_⟩
      rintro r2 M2 (⟨c2, rfl, rfl⟩ | ⟨c2, rfl, rfl⟩)
      · exact ⟨congrArg (fun z => some (gi z)) (rfl), _, _, rfl, inv_tear hI⟩
      · exfalso; omega
    · have f0 : (gu mi 0 8 0) 148 0 = mi 148 0 := rfl
      have f2 : (gu mi 0 8 0) 148 2 = mi 148 2 := rfl
      have f6 : (gu mi 0 8 0) 148 6 = mi 148 6 := rfl
      have k1 : mi 0 8 = mi 148 42 := hI.2.2.2.2.2.1
      have g1 : gu mi 0 8 0 148 42 = mi 148 42 := rfl
      refine ⟨_, rfl, (rB _ (by decide) (by decide)), _, _, rfl, _, pM_tear hsz (n := 399) (by decide) (gu mi 0 8 0) ml   (hI.SV.low (gR32_gu hR ⟨by decide, by decide⟩) (fun c k h => gu_other (by omega))) , ?_⟩
      rintro r2 M2 (⟨c2, rfl, rfl⟩ | ⟨c2, rfl, rfl⟩)
      · exfalso; omega
      · exact ⟨congrArg (fun z => some (gi z)) (rfl), _, _, rfl, inv_tear hI⟩
set_option maxHeartbeats 4000000 in
theorem op_wet {G : gG} (hsz : G.2.2.2.2.2.2 = true) : gOp G Inv 131 228 1 := by
  intro t mi ml xs hlen hr ht hI
  match xs, hlen, hr with
  | [x], _, hr =>
    have r_x := hr x (by simp)
    have hR := hI.1
    have hrep := hI.2.1
    have e0 : mi 1 0 = mi 148 0 := hrep.1.1
    have e2 : mi 1 2 = mi 148 2 := hrep.1.2.2.1
    have e3 : mi 1 3 = mi 148 6 := hrep.1.2.2.2.1
    refine ⟨_, pC_wet hsz (n := 399) (by decide) mi ml x r_x hI.CV , ?_⟩
    rintro r M1 (⟨c, rfl, rfl⟩ | ⟨c, rfl, rfl⟩)
    · have f0 : (mi) 148 0 = mi 148 0 := rfl
      have f2 : (mi) 148 2 = mi 148 2 := rfl
      have f6 : (mi) 148 6 = mi 148 6 := rfl
      refine ⟨_, rfl, (gset1_rng _ _), _, _, rfl, _, pM_wet hsz (n := 399) (by decide) (mi) ml x r_x hI.SV , ?_⟩
      rintro r2 M2 (⟨c2, rfl, rfl⟩ | ⟨c2, rfl, rfl⟩)
      · exact ⟨congrArg (fun z => some (gi z)) ((eq_wet hrep x).symm), _, _, rfl, hI.mono⟩
      · exfalso; omega
    · have f0 : (cFd mi 0) 148 0 = mi 148 0 := rfl
      have f2 : (cFd mi 0) 148 2 = mi 148 2 := rfl
      have f6 : (cFd mi 0) 148 6 = mi 148 6 := rfl
      refine ⟨_, rfl, (rB _ (by decide) (by decide)), _, _, rfl, _, pM_wet hsz (n := 399) (by decide) (cFd mi 0) ml x r_x (SV.cFd hI ht (by decide)) , ?_⟩
      rintro r2 M2 (⟨c2, rfl, rfl⟩ | ⟨c2, rfl, rfl⟩)
      · exfalso; omega
      · exact ⟨congrArg (fun z => some (gi z)) (rfl), _, _, rfl, hI.find ht (by decide)⟩
set_option maxHeartbeats 4000000 in
theorem op_trips {G : gG} (hsz : G.2.2.2.2.2.2 = true) : gOp G Inv 129 225 1 := by
  intro t mi ml xs hlen hr ht hI
  match xs, hlen, hr with
  | [post], _, hr =>
    have r_post := hr post (by simp)
    have hR := hI.1
    have hrep := hI.2.1
    have e0 : mi 1 0 = mi 148 0 := hrep.1.1
    have e2 : mi 1 2 = mi 148 2 := hrep.1.2.2.1
    have e3 : mi 1 3 = mi 148 6 := hrep.1.2.2.2.1
    refine ⟨_, pC_trips hsz (n := 399) (by decide) mi ml post r_post hI.CV , ?_⟩
    rintro r M1 (⟨c, rfl, rfl⟩ | ⟨c, rfl, rfl⟩)
    · have f0 : (mi) 148 0 = mi 148 0 := rfl
      have f2 : (mi) 148 2 = mi 148 2 := rfl
      have f6 : (mi) 148 6 = mi 148 6 := rfl
      refine ⟨_, rfl, (gset1_rng _ _), _, _, rfl, _, pM_trips hsz (n := 399) (by decide) (mi) ml post r_post hI.SV , ?_⟩
      rintro r2 M2 (⟨c2, rfl, rfl⟩ | ⟨c2, rfl, rfl⟩)
      · exact ⟨congrArg (fun z => some (gi z)) ((eq_trips hrep (by omega) (by omega)).symm), _, _, rfl, hI.mono⟩
      · exfalso; omega
    · have f0 : (cFd mi 0) 148 0 = mi 148 0 := rfl
      have f2 : (cFd mi 0) 148 2 = mi 148 2 := rfl
      have f6 : (cFd mi 0) 148 6 = mi 148 6 := rfl
      refine ⟨_, rfl, (rB _ (by decide) (by decide)), _, _, rfl, _, pM_trips hsz (n := 399) (by decide) (cFd mi 0) ml post r_post (SV.cFd hI ht (by decide)) , ?_⟩
      rintro r2 M2 (⟨c2, rfl, rfl⟩ | ⟨c2, rfl, rfl⟩)
      · exfalso; omega
      · exact ⟨congrArg (fun z => some (gi z)) (rfl), _, _, rfl, hI.find ht (by decide)⟩
set_option maxHeartbeats 4000000 in
theorem op_status {G : gG} (hsz : G.2.2.2.2.2.2 = true) : gOp G Inv 146 247 1 := by
  intro t mi ml xs hlen hr ht hI
  match xs, hlen, hr with
  | [x], _, hr =>
    have r_x := hr x (by simp)
    have hR := hI.1
    have hrep := hI.2.1
    have e0 : mi 1 0 = mi 148 0 := hrep.1.1
    have e2 : mi 1 2 = mi 148 2 := hrep.1.2.2.1
    have e3 : mi 1 3 = mi 148 6 := hrep.1.2.2.2.1
    refine ⟨_, pC_status hsz (n := 399) (by decide) mi ml x r_x hI.CV , ?_⟩
    rintro r M1 (⟨c, rfl, rfl⟩ | ⟨c, rfl, rfl⟩ | ⟨c, rfl, rfl⟩)
    · have f0 : (mi) 148 0 = mi 148 0 := rfl
      have f2 : (mi) 148 2 = mi 148 2 := rfl
      have f6 : (mi) 148 6 = mi 148 6 := rfl
      refine ⟨_, rfl, (hR _ _), _, _, rfl, _, pM_status hsz (n := 399) (by decide) (mi) ml x r_x hI.SV , ?_⟩
      rintro r2 M2 (⟨c2, rfl, rfl⟩ | ⟨c2, rfl, rfl⟩)
      · exact ⟨congrArg (fun z => some (gi z)) ((eq_stat1 hI (by omega) (by omega)).symm), _, _, rfl, hI.mono⟩
      · exfalso; omega
    · have f0 : (mi) 148 0 = mi 148 0 := rfl
      have f2 : (mi) 148 2 = mi 148 2 := rfl
      have f6 : (mi) 148 6 = mi 148 6 := rfl
      refine ⟨_, rfl, (stat_rng hI ht), _, _, rfl, _, pM_status hsz (n := 399) (by decide) (mi) ml x r_x hI.SV , ?_⟩
      rintro r2 M2 (⟨c2, rfl, rfl⟩ | ⟨c2, rfl, rfl⟩)
      · exact ⟨congrArg (fun z => some (gi z)) ((by rw [show x = -1 by omega]; exact (eq_stat hI).symm)), _, _, rfl, hI.mono⟩
      · exfalso; omega
    · have f0 : (cFd mi 0) 148 0 = mi 148 0 := rfl
      have f2 : (cFd mi 0) 148 2 = mi 148 2 := rfl
      have f6 : (cFd mi 0) 148 6 = mi 148 6 := rfl
      refine ⟨_, rfl, (rB _ (by decide) (by decide)), _, _, rfl, _, pM_status hsz (n := 399) (by decide) (cFd mi 0) ml x r_x (SV.cFd hI ht (by decide)) , ?_⟩
      rintro r2 M2 (⟨c2, rfl, rfl⟩ | ⟨c2, rfl, rfl⟩)
      · exfalso; omega
      · exact ⟨congrArg (fun z => some (gi z)) (rfl), _, _, rfl, hI.find ht (by decide)⟩
set_option maxHeartbeats 4000000 in
theorem op_count {G : gG} (hsz : G.2.2.2.2.2.2 = true) : gOp G Inv 145 246 1 := by
  intro t mi ml xs hlen hr ht hI
  match xs, hlen, hr with
  | [x], _, hr =>
    have r_x := hr x (by simp)
    have hR := hI.1
    have hrep := hI.2.1
    have e0 : mi 1 0 = mi 148 0 := hrep.1.1
    have e2 : mi 1 2 = mi 148 2 := hrep.1.2.2.1
    have e3 : mi 1 3 = mi 148 6 := hrep.1.2.2.2.1
    refine ⟨_, pC_count hsz (n := 399) (by decide) mi ml x r_x hI.CV , ?_⟩
    rintro r M1 (⟨c, rfl, rfl⟩ | ⟨c, rfl, rfl⟩ | ⟨c, rfl, rfl⟩ | ⟨c, rfl, rfl⟩ | ⟨c, rfl, rfl⟩ | ⟨c, rfl, rfl⟩ | ⟨c, rfl, rfl⟩ | ⟨c, rfl, rfl⟩ | ⟨c, rfl, rfl⟩)
    · have f0 : (mi) 148 0 = mi 148 0 := rfl
      have f2 : (mi) 148 2 = mi 148 2 := rfl
      have f6 : (mi) 148 6 = mi 148 6 := rfl
      refine ⟨_, rfl, (hR _ _), _, _, rfl, _, pM_count hsz (n := 399) (by decide) (mi) ml x r_x hI.SV , ?_⟩
      rintro r2 M2 (⟨c2, rfl, rfl⟩ | ⟨c2, rfl, rfl⟩ | ⟨c2, rfl, rfl⟩ | ⟨c2, rfl, rfl⟩ | ⟨c2, rfl, rfl⟩ | ⟨c2, rfl, rfl⟩ | ⟨c2, rfl, rfl⟩ | ⟨c2, rfl, rfl⟩ | ⟨c2, rfl, rfl⟩)
      · exact ⟨congrArg (fun z => some (gi z)) (e0.symm), _, _, rfl, hI.mono⟩
      · exfalso; omega
      · exfalso; omega
      · exfalso; omega
      · exfalso; omega
      · exfalso; omega
      · exfalso; omega
      · exfalso; omega
      · exfalso; omega
    · have f0 : (mi) 148 0 = mi 148 0 := rfl
      have f2 : (mi) 148 2 = mi 148 2 := rfl
      have f6 : (mi) 148 6 = mi 148 6 := rfl
      refine ⟨_, rfl, (hR _ _), _, _, rfl, _, pM_count hsz (n := 399) (by decide) (mi) ml x r_x hI.SV , ?_⟩
      rintro r2 M2 (⟨c2, rfl, rfl⟩ | ⟨c2, rfl, rfl⟩ | ⟨c2, rfl, rfl⟩ | ⟨c2, rfl, rfl⟩ | ⟨c2, rfl, rfl⟩ | ⟨c2, rfl, rfl⟩ | ⟨c2, rfl, rfl⟩ | ⟨c2, rfl, rfl⟩ | ⟨c2, rfl, rfl⟩)
      · exfalso; omega
      · exact ⟨congrArg (fun z => some (gi z)) (e2.symm), _, _, rfl, hI.mono⟩
      · exfalso; omega
      · exfalso; omega
      · exfalso; omega
      · exfalso; omega
      · exfalso; omega
      · exfalso; omega
      · exfalso; omega
    · have f0 : (mi) 148 0 = mi 148 0 := rfl
      have f2 : (mi) 148 2 = mi 148 2 := rfl
      have f6 : (mi) 148 6 = mi 148 6 := rfl
      refine ⟨_, rfl, (hR _ _), _, _, rfl, _, pM_count hsz (n := 399) (by decide) (mi) ml x r_x hI.SV , ?_⟩
      rintro r2 M2 (⟨c2, rfl, rfl⟩ | ⟨c2, rfl, rfl⟩ | ⟨c2, rfl, rfl⟩ | ⟨c2, rfl, rfl⟩ | ⟨c2, rfl, rfl⟩ | ⟨c2, rfl, rfl⟩ | ⟨c2, rfl, rfl⟩ | ⟨c2, rfl, rfl⟩ | ⟨c2, rfl, rfl⟩)
      · exfalso; omega
      · exfalso; omega
      · exact ⟨congrArg (fun z => some (gi z)) (e3.symm), _, _, rfl, hI.mono⟩
      · exfalso; omega
      · exfalso; omega
      · exfalso; omega
      · exfalso; omega
      · exfalso; omega
      · exfalso; omega
    · have f0 : (mi) 148 0 = mi 148 0 := rfl
      have f2 : (mi) 148 2 = mi 148 2 := rfl
      have f6 : (mi) 148 6 = mi 148 6 := rfl
      refine ⟨_, rfl, (hR _ _), _, _, rfl, _, pM_count hsz (n := 399) (by decide) (mi) ml x r_x hI.SV , ?_⟩
      rintro r2 M2 (⟨c2, rfl, rfl⟩ | ⟨c2, rfl, rfl⟩ | ⟨c2, rfl, rfl⟩ | ⟨c2, rfl, rfl⟩ | ⟨c2, rfl, rfl⟩ | ⟨c2, rfl, rfl⟩ | ⟨c2, rfl, rfl⟩ | ⟨c2, rfl, rfl⟩ | ⟨c2, rfl, rfl⟩)
      · exfalso; omega
      · exfalso; omega
      · exfalso; omega
      · exact ⟨congrArg (fun z => some (gi z)) (hrep.1.2.1.symm), _, _, rfl, hI.mono⟩
      · exfalso; omega
      · exfalso; omega
      · exfalso; omega
      · exfalso; omega
      · exfalso; omega
    · have f0 : (mi) 148 0 = mi 148 0 := rfl
      have f2 : (mi) 148 2 = mi 148 2 := rfl
      have f6 : (mi) 148 6 = mi 148 6 := rfl
      refine ⟨_, rfl, (hR _ _), _, _, rfl, _, pM_count hsz (n := 399) (by decide) (mi) ml x r_x hI.SV , ?_⟩
      rintro r2 M2 (⟨c2, rfl, rfl⟩ | ⟨c2, rfl, rfl⟩ | ⟨c2, rfl, rfl⟩ | ⟨c2, rfl, rfl⟩ | ⟨c2, rfl, rfl⟩ | ⟨c2, rfl, rfl⟩ | ⟨c2, rfl, rfl⟩ | ⟨c2, rfl, rfl⟩ | ⟨c2, rfl, rfl⟩)
      · exfalso; omega
      · exfalso; omega
      · exfalso; omega
      · exfalso; omega
      · exact ⟨congrArg (fun z => some (gi z)) (hI.2.2.1.1.symm), _, _, rfl, hI.mono⟩
      · exfalso; omega
      · exfalso; omega
      · exfalso; omega
      · exfalso; omega
    · have f0 : (mi) 148 0 = mi 148 0 := rfl
      have f2 : (mi) 148 2 = mi 148 2 := rfl
      have f6 : (mi) 148 6 = mi 148 6 := rfl
      refine ⟨_, rfl, (hR _ _), _, _, rfl, _, pM_count hsz (n := 399) (by decide) (mi) ml x r_x hI.SV , ?_⟩
      rintro r2 M2 (⟨c2, rfl, rfl⟩ | ⟨c2, rfl, rfl⟩ | ⟨c2, rfl, rfl⟩ | ⟨c2, rfl, rfl⟩ | ⟨c2, rfl, rfl⟩ | ⟨c2, rfl, rfl⟩ | ⟨c2, rfl, rfl⟩ | ⟨c2, rfl, rfl⟩ | ⟨c2, rfl, rfl⟩)
      · exfalso; omega
      · exfalso; omega
      · exfalso; omega
      · exfalso; omega
      · exfalso; omega
      · exact ⟨congrArg (fun z => some (gi z)) (hrep.2.2.2.2.2.2.2.1.symm), _, _, rfl, hI.mono⟩
      · exfalso; omega
      · exfalso; omega
      · exfalso; omega
    · have f0 : (mi) 148 0 = mi 148 0 := rfl
      have f2 : (mi) 148 2 = mi 148 2 := rfl
      have f6 : (mi) 148 6 = mi 148 6 := rfl
      refine ⟨_, rfl, (cHereN_rng hI.CV), _, _, rfl, _, pM_count hsz (n := 399) (by decide) (mi) ml x r_x hI.SV , ?_⟩
      rintro r2 M2 (⟨c2, rfl, rfl⟩ | ⟨c2, rfl, rfl⟩ | ⟨c2, rfl, rfl⟩ | ⟨c2, rfl, rfl⟩ | ⟨c2, rfl, rfl⟩ | ⟨c2, rfl, rfl⟩ | ⟨c2, rfl, rfl⟩ | ⟨c2, rfl, rfl⟩ | ⟨c2, rfl, rfl⟩)
      · exfalso; omega
      · exfalso; omega
      · exfalso; omega
      · exfalso; omega
      · exfalso; omega
      · exfalso; omega
      · exact ⟨congrArg (fun z => some (gi z)) ((eq_hereN hrep).symm), _, _, rfl, hI.mono⟩
      · exfalso; omega
      · exfalso; omega
    · have f0 : (mi) 148 0 = mi 148 0 := rfl
      have f2 : (mi) 148 2 = mi 148 2 := rfl
      have f6 : (mi) 148 6 = mi 148 6 := rfl
      refine ⟨_, rfl, (cWaitN_rng hI.CV), _, _, rfl, _, pM_count hsz (n := 399) (by decide) (mi) ml x r_x hI.SV , ?_⟩
      rintro r2 M2 (⟨c2, rfl, rfl⟩ | ⟨c2, rfl, rfl⟩ | ⟨c2, rfl, rfl⟩ | ⟨c2, rfl, rfl⟩ | ⟨c2, rfl, rfl⟩ | ⟨c2, rfl, rfl⟩ | ⟨c2, rfl, rfl⟩ | ⟨c2, rfl, rfl⟩ | ⟨c2, rfl, rfl⟩)
      · exfalso; omega
      · exfalso; omega
      · exfalso; omega
      · exfalso; omega
      · exfalso; omega
      · exfalso; omega
      · exfalso; omega
      · exact ⟨congrArg (fun z => some (gi z)) ((eq_waitN hrep).symm), _, _, rfl, hI.mono⟩
      · exfalso; omega
    · have f0 : (cFd mi 0) 148 0 = mi 148 0 := rfl
      have f2 : (cFd mi 0) 148 2 = mi 148 2 := rfl
      have f6 : (cFd mi 0) 148 6 = mi 148 6 := rfl
      refine ⟨_, rfl, (rB _ (by decide) (by decide)), _, _, rfl, _, pM_count hsz (n := 399) (by decide) (cFd mi 0) ml x r_x (SV.cFd hI ht (by decide)) , ?_⟩
      rintro r2 M2 (⟨c2, rfl, rfl⟩ | ⟨c2, rfl, rfl⟩ | ⟨c2, rfl, rfl⟩ | ⟨c2, rfl, rfl⟩ | ⟨c2, rfl, rfl⟩ | ⟨c2, rfl, rfl⟩ | ⟨c2, rfl, rfl⟩ | ⟨c2, rfl, rfl⟩ | ⟨c2, rfl, rfl⟩)
      · exfalso; omega
      · exfalso; omega
      · exfalso; omega
      · exfalso; omega
      · exfalso; omega
      · exfalso; omega
      · exfalso; omega
      · exfalso; omega
      · exact ⟨congrArg (fun z => some (gi z)) (rfl), _, _, rfl, hI.find ht (by decide)⟩

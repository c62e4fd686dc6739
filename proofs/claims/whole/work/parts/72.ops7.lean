set_option maxHeartbeats 4000000 in
theorem op_who {G : gG} (hsz : G.2.2.2.2.2.2 = true) : gOp G Inv 113 178 2 := by
  intro t mi ml xs hlen hr ht hI
  match xs, hlen, hr with
  | [p, x], _, hr =>
    have r_p := hr p (by simp)
    have r_x := hr x (by simp)
    have hR := hI.1
    have hrep := hI.2.1
    have e0 : mi 1 0 = mi 148 0 := hrep.1.1
    have e2 : mi 1 2 = mi 148 2 := hrep.1.2.2.1
    have e3 : mi 1 3 = mi 148 6 := hrep.1.2.2.2.1
    refine ⟨_, pC_who hsz (n := 399) (by decide) mi ml p x r_p r_x hI.CV hrep.uni, ?_⟩
    rintro r M1 (⟨c, rfl, rfl⟩ | ⟨c, rfl, rfl⟩)
    · have f0 : (mi) 148 0 = mi 148 0 := rfl
      have f2 : (mi) 148 2 = mi 148 2 := rfl
      have f6 : (mi) 148 6 = mi 148 6 := rfl
      refine ⟨_, rfl, (by rw [eq_who hrep]; have := who_b (mi := mi) p x (mi 148 6).toNat; have := hI.SV.2.2.2.1; exact ⟨by omega, by omega⟩), _, _, rfl, _, pM_who hsz (n := 399) (by decide) (mi) ml p x r_p r_x hI.SV , ?_⟩
      rintro r2 M2 (⟨c2, rfl, rfl⟩ | ⟨c2, rfl, rfl⟩)
      · exact ⟨congrArg (fun z => some (gi z)) ((eq_who hrep p x).symm), _, _, rfl, hI.mono⟩
      · exfalso; omega
    · have f0 : (cFd mi 0) 148 0 = mi 148 0 := rfl
      have f2 : (cFd mi 0) 148 2 = mi 148 2 := rfl
      have f6 : (cFd mi 0) 148 6 = mi 148 6 := rfl
      refine ⟨_, rfl, (rB _ (by decide) (by decide)), _, _, rfl, _, pM_who hsz (n := 399) (by decide) (cFd mi 0) ml p x r_p r_x (SV.cFd hI ht (by decide)) , ?_⟩
      rintro r2 M2 (⟨c2, rfl, rfl⟩ | ⟨c2, rfl, rfl⟩)
      · exfalso; omega
      · exact ⟨congrArg (fun z => some (gi z)) (rfl), _, _, rfl, hI.find ht (by decide)⟩
set_option maxHeartbeats 4000000 in
theorem op_put {G : gG} (hsz : G.2.2.2.2.2.2 = true) : gOp G Inv 111 175 2 := by
  intro t mi ml xs hlen hr ht hI
  match xs, hlen, hr with
  | [a, p], _, hr =>
    have r_a := hr a (by simp)
    have r_p := hr p (by simp)
    have hR := hI.1
    have hrep := hI.2.1
    have e0 : mi 1 0 = mi 148 0 := hrep.1.1
    have e2 : mi 1 2 = mi 148 2 := hrep.1.2.2.1
    have e3 : mi 1 3 = mi 148 6 := hrep.1.2.2.2.1
    have bq6 : 0 ≤ mi 148 6 ∧ mi 148 6 ≤ 24 := hrep.1.2.2.2.2.2.2.1
    refine ⟨_, pC_put hsz (n := 399) (by decide) mi ml a p r_a r_p hI.CV , ?_⟩
    rintro r M1 (⟨c, rfl, rfl⟩ | ⟨c, rfl, rfl⟩ | ⟨c, rfl, rfl⟩ | ⟨c, rfl, rfl⟩ | ⟨c, rfl, rfl⟩)
    · have f0 : (cFd mi 0) 148 0 = mi 148 0 := rfl
      have f2 : (cFd mi 0) 148 2 = mi 148 2 := rfl
      have f6 : (cFd mi 0) 148 6 = mi 148 6 := rfl
      refine ⟨_, rfl, (rB _ (by decide) (by decide)), _, _, rfl, _, pM_put hsz (n := 399) (by decide) (cFd mi 0) ml a p r_a r_p (SV.cFd hI ht (by decide)) , ?_⟩
      rintro r2 M2 (⟨c2, rfl, rfl⟩ | ⟨c2, rfl, rfl⟩ | ⟨c2, rfl, rfl⟩ | ⟨c2, rfl, rfl⟩ | ⟨c2, rfl, rfl⟩)
      · exact ⟨congrArg (fun z => some (gi z)) (rfl), _, _, rfl, hI.find ht (by decide)⟩
      · exfalso; omega
      · exfalso; omega
      · exfalso; omega
      · exfalso; omega
    · have f0 : (cFd mi 4) 148 0 = mi 148 0 := rfl
      have f2 : (cFd mi 4) 148 2 = mi 148 2 := rfl
      have f6 : (cFd mi 4) 148 6 = mi 148 6 := rfl
      have q4 : cA mi a 4 = mOf mi a 4 := (hrep.cA (a := a) (by omega) (by omega)).2.2.2.2.1
      have q8 : cA mi a 8 = mOf mi a 6 := (hrep.cA (a := a) (by omega) (by omega)).2.2.2.2.2.2.1
      have qr := eq_reason hrep (a := a) (p := p) (by omega) (by omega) (by omega) (by omega)
      have qf := eq_put hI (a := a) (p := p) (by omega) (by omega) (by omega) (by omega)
      have g4 : mOf (cFd mi 4) a 4 = mOf mi a 4 := rfl
      have g6 : mOf (cFd mi 4) a 6 = mOf mi a 6 := rfl
      have gy : mWhy (cFd mi 4) a p = mWhy mi a p := rfl
      have gf : mFree (cFd mi 4) a p = mFree mi a p := rfl
      refine ⟨_, rfl, (rB _ (by decide) (by decide)), _, _, rfl, _, pM_put hsz (n := 399) (by decide) (cFd mi 4) ml a p r_a r_p (SV.cFd hI ht (by decide)) , ?_⟩
      rintro r2 M2 (⟨c2, rfl, rfl⟩ | ⟨c2, rfl, rfl⟩ | ⟨c2, rfl, rfl⟩ | ⟨c2, rfl, rfl⟩ | ⟨c2, rfl, rfl⟩)
      · exfalso; omega
      · exact ⟨congrArg (fun z => some (gi z)) (rfl), _, _, rfl, hI.find ht (by decide)⟩
      · exfalso; omega
      · exfalso; omega
      · exfalso; omega
    · have f0 : (cFd mi 2) 148 0 = mi 148 0 := rfl
      have f2 : (cFd mi 2) 148 2 = mi 148 2 := rfl
      have f6 : (cFd mi 2) 148 6 = mi 148 6 := rfl
      have q4 : cA mi a 4 = mOf mi a 4 := (hrep.cA (a := a) (by omega) (by omega)).2.2.2.2.1
      have q8 : cA mi a 8 = mOf mi a 6 := (hrep.cA (a := a) (by omega) (by omega)).2.2.2.2.2.2.1
      have qr := eq_reason hrep (a := a) (p := p) (by omega) (by omega) (by omega) (by omega)
      have qf := eq_put hI (a := a) (p := p) (by omega) (by omega) (by omega) (by omega)
      have g4 : mOf (cFd mi 2) a 4 = mOf mi a 4 := rfl
      have g6 : mOf (cFd mi 2) a 6 = mOf mi a 6 := rfl
      have gy : mWhy (cFd mi 2) a p = mWhy mi a p := rfl
      have gf : mFree (cFd mi 2) a p = mFree mi a p := rfl
      refine ⟨_, rfl, (rB _ (by decide) (by decide)), _, _, rfl, _, pM_put hsz (n := 399) (by decide) (cFd mi 2) ml a p r_a r_p (SV.cFd hI ht (by decide)) , ?_⟩
      rintro r2 M2 (⟨c2, rfl, rfl⟩ | ⟨c2, rfl, rfl⟩ | ⟨c2, rfl, rfl⟩ | ⟨c2, rfl, rfl⟩ | ⟨c2, rfl, rfl⟩)
      · exfalso; omega
      · exfalso; omega
      · exact ⟨congrArg (fun z => some (gi z)) (rfl), _, _, rfl, hI.find ht (by decide)⟩
      · exfalso; omega
      · exfalso; omega
    · have f0 : (cFd mi 3) 148 0 = mi 148 0 := rfl
      have f2 : (cFd mi 3) 148 2 = mi 148 2 := rfl
      have f6 : (cFd mi 3) 148 6 = mi 148 6 := rfl
      have q4 : cA mi a 4 = mOf mi a 4 := (hrep.cA (a := a) (by omega) (by omega)).2.2.2.2.1
      have q8 : cA mi a 8 = mOf mi a 6 := (hrep.cA (a := a) (by omega) (by omega)).2.2.2.2.2.2.1
      have qr := eq_reason hrep (a := a) (p := p) (by omega) (by omega) (by omega) (by omega)
      have qf := eq_put hI (a := a) (p := p) (by omega) (by omega) (by omega) (by omega)
      have g4 : mOf (cFd mi 3) a 4 = mOf mi a 4 := rfl
      have g6 : mOf (cFd mi 3) a 6 = mOf mi a 6 := rfl
      have gy : mWhy (cFd mi 3) a p = mWhy mi a p := rfl
      have gf : mFree (cFd mi 3) a p = mFree mi a p := rfl
      refine ⟨_, rfl, (rB _ (by decide) (by decide)), _, _, rfl, _, pM_put hsz (n := 399) (by decide) (cFd mi 3) (lMark mi ml (shlI 1 a) (mi 1 3).toNat) a p r_a r_p (SV.cFd hI ht (by decide)) , ?_⟩
      rintro r2 M2 (⟨c2, rfl, rfl⟩ | ⟨c2, rfl, rfl⟩ | ⟨c2, rfl, rfl⟩ | ⟨c2, rfl, rfl⟩ | ⟨c2, rfl, rfl⟩)
      · exfalso; omega
      · exfalso; omega
      · exfalso; omega
      · exact ⟨congrArg (fun z => some (gi z)) (rfl), _, _, rfl, (hI.find ht (by decide)).lm (fun a k h1 h2 => lMark_off h1 h2 _)⟩
      · exfalso; omega
    · have f0 : (gu mi (24 + a.toNat) 8 p) 148 0 = mi 148 0 := gu_other (by omega)
      have f2 : (gu mi (24 + a.toNat) 8 p) 148 2 = mi 148 2 := gu_other (by omega)
      have f6 : (gu mi (24 + a.toNat) 8 p) 148 6 = mi 148 6 := gu_other (by omega)
      have q4 : cA mi a 4 = mOf mi a 4 := (hrep.cA (a := a) (by omega) (by omega)).2.2.2.2.1
      have q8 : cA mi a 8 = mOf mi a 6 := (hrep.cA (a := a) (by omega) (by omega)).2.2.2.2.2.2.1
      have qr := eq_reason hrep (a := a) (p := p) (by omega) (by omega) (by omega) (by omega)
      have qf := eq_put hI (a := a) (p := p) (by omega) (by omega) (by omega) (by omega)
      have g4 : mOf (gu mi (24 + a.toNat) 8 p) a 4 = mOf mi a 4 := gu_other (by omega)
      have g6 : mOf (gu mi (24 + a.toNat) 8 p) a 6 = mOf mi a 6 := gu_other (by omega)
      have eO : ∀ b w, mOf (gu mi (24 + a.toNat) 8 p) b w = mOf mi b w := fun b w => gu_other (by omega)
      have eP : ∀ b w, mPi (gu mi (24 + a.toNat) 8 p) b w = mPi mi b w := fun b w => gu_other (by omega)
      have gy : mWhy (gu mi (24 + a.toNat) 8 p) a p = mWhy mi a p := by unfold mWhy mLacks; simp only [eO, eP]
      have gf : mFree (gu mi (24 + a.toNat) 8 p) a p = mFree mi a p := by unfold mFree mMeet; simp only [eO, f6]
      refine ⟨_, rfl, (hR _ _), _, _, rfl, _, pM_put hsz (n := 399) (by decide) (gu mi (24 + a.toNat) 8 p) (lMark mi ml (shlI 1 a) (mi 1 3).toNat) a p r_a r_p (hI.SV.low (gR32_gu hR r_p) (fun c k h => gu_other (by omega))) , ?_⟩
      rintro r2 M2 (⟨c2, rfl, rfl⟩ | ⟨c2, rfl, rfl⟩ | ⟨c2, rfl, rfl⟩ | ⟨c2, rfl, rfl⟩ | ⟨c2, rfl, rfl⟩)
      · exfalso; omega
      · exfalso; omega
      · exfalso; omega
      · exfalso; omega
      · exact ⟨congrArg (fun z => some (gi z)) ((by rw [g6, q8])), _, _, rfl, (inv_put hI (by omega) (by omega) (by omega) (by omega) (by omega)).lm (fun a k h1 h2 => lMark_off h1 h2 _)⟩
theorem Inv.o160 {t : Nat} {mi m : Nat → Nat → Int} {ml : Nat → Nat → Int64} (h : Inv t mi ml) (hm : off160 m mi) (hR : gR32 m) : Inv t m ml := h.fr (Nat.le_refl _) hR (fun a k hk => hm a k (fun e => by subst e; revert hk; unfold grel; simp)) (fun _ _ _ => rfl)
set_option maxHeartbeats 4000000 in
theorem op_gaps {G : gG} (hsz : G.2.2.2.2.2.2 = true) : gOp G Inv 114 180 1 := by
  intro t mi ml xs hlen hr ht hI
  match xs, hlen, hr with
  | [p], _, hr =>
    have r_p := hr p (by simp)
    have hR := hI.1
    have hrep := hI.2.1
    have e2 : mi 1 2 = mi 148 2 := hrep.1.2.2.1
    have bq : 0 ≤ mi 148 2 ∧ mi 148 2 ≤ 12 := hrep.1.2.2.2.2.2.1
    have fin : ∀ (m : Nat → Nat → Int), off160 m mi → gR32 m → Inv (t + 1) m (lMark mi ml 0 (mi 1 3).toNat) := fun m hm hmR => ((hI.mono).o160 hm hmR).lm (fun a k h1 h2 => lMark_off h1 h2 _)
    refine ⟨_, pC_gaps hsz (n := 399) (by decide) mi ml p r_p hI.CV, ?_⟩
    rintro r M1 (⟨c, rfl, rfl⟩ | ⟨c, rfl, rfl⟩ | ⟨c, rfl, rfl⟩)
    · have f2 : (cFd mi 0) 148 2 = mi 148 2 := rfl
      refine ⟨_, rfl, (rB _ (by decide) (by decide)), _, _, rfl, _, pM_gaps hsz (n := 399) (by decide) (cFd mi 0) ml p r_p (SV.cFd hI ht (by decide)), ?_⟩
      rintro r2 M2 (⟨c2, rfl, rfl⟩ | ⟨c2, -⟩)
      · exact ⟨rfl, _, _, rfl, hI.find ht (by decide)⟩
      · exfalso; omega
    · have e := eq_gap hrep (p := p) (by omega) (by omega)
      have eb := mGapOf_b mi p
      refine ⟨_, rfl, (by rw [e]; exact ⟨by omega, by omega⟩), _, _, rfl, _, pM_gaps hsz (n := 399) (by decide) mi _ p r_p hI.SV, ?_⟩
      rintro r2 M2 (⟨c2, rfl, rfl⟩ | ⟨c2, m, rfl, rfl, hm, hmR⟩)
      · exfalso; omega
      · refine ⟨congrArg (fun z => some (gi z)) ?_, _, _, rfl, fin m hm hmR⟩
        rw [e, mGaps_one mi p (by omega), if_pos (by omega)]
    · subst c
      have e := eq_gaps hrep
      have eb := mGaps_b mi (-1) (mi 148 2).toNat
      refine ⟨_, rfl, (by rw [e]; exact ⟨by omega, by omega⟩), _, _, rfl, _, pM_gaps hsz (n := 399) (by decide) mi _ (-1) r_p hI.SV, ?_⟩
      rintro r2 M2 (⟨c2, rfl, rfl⟩ | ⟨c2, m, rfl, rfl, hm, hmR⟩)
      · exfalso; omega
      · exact ⟨congrArg (fun z => some (gi z)) e.symm, _, _, rfl, fin m hm hmR⟩

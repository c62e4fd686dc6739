set_option maxHeartbeats 4000000 in
theorem op_shade {G : gG} (hsz : G.2.2.2.2.2.2 = true) : gOp G Inv 105 160 2 := by
  intro t mi ml xs hlen hr ht hI
  match xs, hlen, hr with
  | [p, v], _, hr =>
    have r_p := hr p (by simp)
    have r_v := hr v (by simp)
    have hR := hI.1
    have hrep := hI.2.1
    have e0 : mi 1 0 = mi 148 0 := hrep.1.1
    have e2 : mi 1 2 = mi 148 2 := hrep.1.2.2.1
    have e3 : mi 1 3 = mi 148 6 := hrep.1.2.2.2.1
    have hq : mi 148 2 ≤ 12 := hrep.1.2.2.2.2.2.1.2
    have hq0 : 0 ≤ mi 148 2 := hrep.1.2.2.2.2.2.1.1
    have ht0 : 0 ≤ mi 148 0 ∧ mi 148 0 ≤ 99 := hrep.1.2.2.2.2.1
    refine ⟨_, pC_shade hsz (n := 399) (by decide) mi ml p v r_p r_v hI.CV, ?_⟩
    rintro r M1 (⟨c, rfl, rfl⟩ | ⟨c, rfl, rfl⟩)
    · have f0 : (gu mi (12 + p.toNat) 4 v) 148 0 = mi 148 0 := gu_other (by omega)
      have f2 : (gu mi (12 + p.toNat) 4 v) 148 2 = mi 148 2 := gu_other (by omega)
      have f6 : (gu mi (12 + p.toNat) 4 v) 148 6 = mi 148 6 := gu_other (by omega)
      refine ⟨_, rfl, (hR _ _), _, _, rfl, _, pM_shade hsz (n := 399) (by decide) (gu mi (12 + p.toNat) 4 v) ml p v r_p r_v (hI.SV.low (gR32_gu hR r_v) (fun c k h => gu_other (by omega))), ?_⟩
      rintro r2 M2 (⟨c2, rfl, rfl⟩ | ⟨c2, rfl, rfl⟩)
      · exact ⟨congrArg (fun z => some (gi z)) ((show gu mi (12 + p.toNat) 4 v 149 (8 * p + 4).toNat = cP mi p 4 from (gu_other (by omega)).trans ((hrep.cP (by omega) (by omega)).1 4 (by decide)).symm)), _, _, rfl, inv_shade hI (by omega) (by omega) (by omega) (by omega)⟩
      · exfalso; omega
    · have f0 : (cFd mi 0) 148 0 = mi 148 0 := rfl
      have f2 : (cFd mi 0) 148 2 = mi 148 2 := rfl
      have f6 : (cFd mi 0) 148 6 = mi 148 6 := rfl
      refine ⟨_, rfl, (rB _ (by decide) (by decide)), _, _, rfl, _, pM_shade hsz (n := 399) (by decide) (cFd mi 0) ml p v r_p r_v (SV.cFd hI ht (by decide)), ?_⟩
      rintro r2 M2 (⟨c2, rfl, rfl⟩ | ⟨c2, rfl, rfl⟩)
      · exfalso; omega
      · exact ⟨congrArg (fun z => some (gi z)) (rfl), _, _, rfl, hI.find ht (by decide)⟩
set_option maxHeartbeats 4000000 in
theorem op_far {G : gG} (hsz : G.2.2.2.2.2.2 = true) : gOp G Inv 106 163 2 := by
  intro t mi ml xs hlen hr ht hI
  match xs, hlen, hr with
  | [p, q], _, hr =>
    have r_p := hr p (by simp)
    have r_q := hr q (by simp)
    have hR := hI.1
    have hrep := hI.2.1
    have e0 : mi 1 0 = mi 148 0 := hrep.1.1
    have e2 : mi 1 2 = mi 148 2 := hrep.1.2.2.1
    have e3 : mi 1 3 = mi 148 6 := hrep.1.2.2.2.1
    have hq : mi 148 2 ≤ 12 := hrep.1.2.2.2.2.2.1.2
    have hq0 : 0 ≤ mi 148 2 := hrep.1.2.2.2.2.2.1.1
    have ht0 : 0 ≤ mi 148 0 ∧ mi 148 0 ≤ 99 := hrep.1.2.2.2.2.1
    refine ⟨_, pC_far hsz (n := 399) (by decide) mi ml p q r_p r_q hI.CV, ?_⟩
    rintro r M1 (⟨c, rfl, rfl⟩ | ⟨c, rfl, rfl⟩)
    · have f0 : (mi) 148 0 = mi 148 0 := rfl
      have f2 : (mi) 148 2 = mi 148 2 := rfl
      have f6 : (mi) 148 6 = mi 148 6 := rfl
      refine ⟨_, rfl, (by rw [eq_far hrep (by omega) (by omega) (by omega) (by omega)]; have := mFar_b (hI.SV.2.2.2.2.2 p (by omega) (by omega)) (hI.SV.2.2.2.2.2 q (by omega) (by omega)); exact ⟨by omega, by omega⟩), _, _, rfl, _, pM_far hsz (n := 399) (by decide) (mi) ml p q r_p r_q hI.SV, ?_⟩
      rintro r2 M2 (⟨c2, rfl, rfl⟩ | ⟨c2, rfl, rfl⟩)
      · exact ⟨congrArg (fun z => some (gi z)) ((eq_far hrep (by omega) (by omega) (by omega) (by omega)).symm), _, _, rfl, hI.mono⟩
      · exfalso; omega
    · have f0 : (cFd mi 0) 148 0 = mi 148 0 := rfl
      have f2 : (cFd mi 0) 148 2 = mi 148 2 := rfl
      have f6 : (cFd mi 0) 148 6 = mi 148 6 := rfl
      refine ⟨_, rfl, (rB _ (by decide) (by decide)), _, _, rfl, _, pM_far hsz (n := 399) (by decide) (cFd mi 0) ml p q r_p r_q (SV.cFd hI ht (by decide)), ?_⟩
      rintro r2 M2 (⟨c2, rfl, rfl⟩ | ⟨c2, rfl, rfl⟩)
      · exfalso; omega
      · exact ⟨congrArg (fun z => some (gi z)) (rfl), _, _, rfl, hI.find ht (by decide)⟩
set_option maxHeartbeats 4000000 in
theorem op_nights {G : gG} (hsz : G.2.2.2.2.2.2 = true) : gOp G Inv 112 176 1 := by
  intro t mi ml xs hlen hr ht hI
  match xs, hlen, hr with
  | [x], _, hr =>
    have r_x := hr x (by simp)
    have hR := hI.1
    have hrep := hI.2.1
    have e0 : mi 1 0 = mi 148 0 := hrep.1.1
    have e2 : mi 1 2 = mi 148 2 := hrep.1.2.2.1
    have e3 : mi 1 3 = mi 148 6 := hrep.1.2.2.2.1
    have hq : mi 148 2 ≤ 12 := hrep.1.2.2.2.2.2.1.2
    have hq0 : 0 ≤ mi 148 2 := hrep.1.2.2.2.2.2.1.1
    have ht0 : 0 ≤ mi 148 0 ∧ mi 148 0 ≤ 99 := hrep.1.2.2.2.2.1
    refine ⟨_, pC_nights hsz (n := 399) (by decide) mi ml x r_x hI.CV, ?_⟩
    rintro r M1 (⟨c, rfl, rfl⟩ | ⟨c, rfl, rfl⟩ | ⟨c, rfl, rfl⟩)
    · have f0 : (cFd mi 0) 148 0 = mi 148 0 := rfl
      have f2 : (cFd mi 0) 148 2 = mi 148 2 := rfl
      have f6 : (cFd mi 0) 148 6 = mi 148 6 := rfl
      refine ⟨_, rfl, (rB _ (by decide) (by decide)), _, _, rfl, _, pM_nights hsz (n := 399) (by decide) (cFd mi 0) ml x r_x (SV.cFd hI ht (by decide)), ?_⟩
      rintro r2 M2 (⟨c2, rfl, rfl⟩ | ⟨c2, rfl, rfl⟩ | ⟨c2, rfl, rfl⟩)
      · exact ⟨congrArg (fun z => some (gi z)) (rfl), _, _, rfl, hI.find ht (by decide)⟩
      · exfalso; omega
      · exfalso; omega
    · have f0 : (cFd mi 4) 148 0 = mi 148 0 := rfl
      have f2 : (cFd mi 4) 148 2 = mi 148 2 := rfl
      have f6 : (cFd mi 4) 148 6 = mi 148 6 := rfl
      refine ⟨_, rfl, (rB _ (by decide) (by decide)), _, _, rfl, _, pM_nights hsz (n := 399) (by decide) (cFd mi 4) ml x r_x (SV.cFd hI ht (by decide)), ?_⟩
      rintro r2 M2 (⟨c2, rfl, rfl⟩ | ⟨c2, rfl, rfl⟩ | ⟨c2, rfl, rfl⟩)
      · exfalso; omega
      · exact ⟨congrArg (fun z => some (gi z)) (rfl), _, _, rfl, hI.find ht (by decide)⟩
      · exfalso; omega
    · have f0 : (gu mi 1 0 (mi 1 0 + x)) 148 0 = mi 148 0 := gu_other (by omega)
      have f2 : (gu mi 1 0 (mi 1 0 + x)) 148 2 = mi 148 2 := gu_other (by omega)
      have f6 : (gu mi 1 0 (mi 1 0 + x)) 148 6 = mi 148 6 := gu_other (by omega)
      refine ⟨_, rfl, ⟨by omega, by omega⟩, _, _, rfl, _, pM_nights hsz (n := 399) (by decide) (gu mi 1 0 (mi 1 0 + x)) ml x r_x (hI.SV.low (gR32_gu hR ⟨by omega, by omega⟩) (fun c k h => gu_other (by omega))), ?_⟩
      rintro r2 M2 (⟨c2, rfl, rfl⟩ | ⟨c2, rfl, rfl⟩ | ⟨c2, rfl, rfl⟩)
      · exfalso; omega
      · exfalso; omega
      · exact ⟨congrArg (fun z => some (gi z)) ((by rw [f0, e0])), _, _, rfl, (by have e : gu (gu mi 1 0 (mi 1 0 + x)) 148 0 (gu mi 1 0 (mi 1 0 + x) 148 0 + x) = stT mi 0 (mi 148 0 + x) := (by rw [f0, e0]; rfl); rw [e]; exact hI.setT (by omega) (by omega) ⟨by omega, by omega⟩ (Or.inl ⟨rfl, by omega, by omega⟩))⟩
set_option maxHeartbeats 4000000 in
theorem op_dry {G : gG} (hsz : G.2.2.2.2.2.2 = true) : gOp G Inv 135 233 0 := by
  intro t mi ml xs hlen hr ht hI
  match xs, hlen, hr with
  | [], _, hr =>
    have hR := hI.1
    have hrep := hI.2.1
    have e0 : mi 1 0 = mi 148 0 := hrep.1.1
    have e2 : mi 1 2 = mi 148 2 := hrep.1.2.2.1
    have e3 : mi 1 3 = mi 148 6 := hrep.1.2.2.2.1
    refine ⟨_, pC_dry hsz (n := 399) (by decide) mi ml   hI.CV, ?_⟩
    rintro r M1 (⟨c, rfl, rfl⟩)
    · have f0 : (gu mi 7 0 0) 148 0 = mi 148 0 := rfl
      have f2 : (gu mi 7 0 0) 148 2 = mi 148 2 := rfl
      have f6 : (gu mi 7 0 0) 148 6 = mi 148 6 := rfl
      refine ⟨_, rfl, (hR _ _), _, _, rfl, _, pM_dry hsz (n := 399) (by decide) (gu mi 7 0 0) ml   (hI.SV.low (gR32_gu hR ⟨by decide, by decide⟩) (fun c k h => gu_other (by omega))), ?_⟩
      rintro r2 M2 (⟨c2, rfl, rfl⟩)
      · exact ⟨congrArg (fun z => some (gi z)) (hrep.2.2.2.2.2.2.2.1.symm), _, _, rfl, inv_dry hI⟩
set_option maxHeartbeats 4000000 in
theorem op_apart {G : gG} (hsz : G.2.2.2.2.2.2 = true) : gOp G Inv 116 182 0 := by
  intro t mi ml xs hlen hr ht hI
  match xs, hlen, hr with
  | [], _, hr =>
    have hrep := hI.2.1
    refine ⟨_, cC_apart hsz (n := 399) (by decide) mi ml hI.CV, ?_⟩
    rintro r M1 ⟨rfl, rfl⟩
    refine ⟨_, rfl, ?_, _, _, rfl, _, pM_apart hsz (n := 399) (by decide) mi ml hI.SV, ?_⟩
    · have h9 := hI.SV.2.2.2.1
      have := mApart_b hI.SV (mi 148 6).toNat (by omega)
      rw [eq_apart hrep]
      exact ⟨by omega, by omega⟩
    · rintro r2 M2 ⟨-, rfl, rfl⟩
      exact ⟨congrArg (fun z => some (gi z)) (eq_apart hrep).symm, _, _, rfl, hI.mono⟩

set_option maxHeartbeats 4000000 in
theorem op_pitch {G : gG} (hsz : G.2.2.2.2.2.2 = true) : gOp G Inv 103 158 4 := by
  intro t mi ml xs hlen hr ht hI
  match xs, hlen, hr with
  | [x, y, z, w], _, hr =>
    have r_x := hr x (by simp)
    have r_y := hr y (by simp)
    have r_z := hr z (by simp)
    have r_w := hr w (by simp)
    have hR := hI.1
    have hrep := hI.2.1
    have e0 : mi 1 0 = mi 148 0 := hrep.1.1
    have e2 : mi 1 2 = mi 148 2 := hrep.1.2.2.1
    have e3 : mi 1 3 = mi 148 6 := hrep.1.2.2.2.1
    have bq : 0 ≤ mi 148 2 ∧ mi 148 2 ≤ 12 := hrep.1.2.2.2.2.2.1
    have bp : 0 ≤ mi 148 6 ∧ mi 148 6 ≤ 24 := hrep.1.2.2.2.2.2.2.1
    have bt : 0 ≤ mi 148 0 ∧ mi 148 0 ≤ 99 := hrep.1.2.2.2.2.1
    refine ⟨_, pC_pitch hsz (n := 399) (by decide) mi ml x y z w r_x r_y r_z r_w hI.CV , ?_⟩
    rintro r M1 (⟨c, rfl, rfl⟩ | ⟨c, rfl, rfl⟩ | ⟨c, rfl, rfl⟩)
    · have f0 : (cFd mi 0) 148 0 = mi 148 0 := rfl
      have f2 : (cFd mi 0) 148 2 = mi 148 2 := rfl
      have f6 : (cFd mi 0) 148 6 = mi 148 6 := rfl
      refine ⟨_, rfl, (rB _ (by decide) (by decide)), _, _, rfl, _, pM_pitch hsz (n := 399) (by decide) (cFd mi 0) ml x y z w r_x r_y r_z r_w (SV.cFd hI ht (by decide)) , ?_⟩
      rintro r2 M2 (⟨c2, rfl, rfl⟩ | ⟨c2, rfl, rfl⟩ | ⟨c2, rfl, rfl⟩)
      · exact ⟨congrArg (fun z => some (gi z)) (rfl), _, _, rfl, hI.find ht (by decide)⟩
      · exfalso; omega
      · exfalso; omega
    · have f0 : (cFd mi 1) 148 0 = mi 148 0 := rfl
      have f2 : (cFd mi 1) 148 2 = mi 148 2 := rfl
      have f6 : (cFd mi 1) 148 6 = mi 148 6 := rfl
      refine ⟨_, rfl, (rB _ (by decide) (by decide)), _, _, rfl, _, pM_pitch hsz (n := 399) (by decide) (cFd mi 1) ml x y z w r_x r_y r_z r_w (SV.cFd hI ht (by decide)) , ?_⟩
      rintro r2 M2 (⟨c2, rfl, rfl⟩ | ⟨c2, rfl, rfl⟩ | ⟨c2, rfl, rfl⟩)
      · exfalso; omega
      · exact ⟨congrArg (fun z => some (gi z)) (rfl), _, _, rfl, hI.find ht (by decide)⟩
      · exfalso; omega
    · have f0 : (gu (cPit mi (mi 1 2) x y z w) 1 2 (mi 1 2 + 1)) 148 0 = mi 148 0 := ((gu_other (by decide)).trans (cPit_off (by omega)))
      have f2 : (gu (cPit mi (mi 1 2) x y z w) 1 2 (mi 1 2 + 1)) 148 2 = mi 148 2 := ((gu_other (by decide)).trans (cPit_off (by omega)))
      have f6 : (gu (cPit mi (mi 1 2) x y z w) 1 2 (mi 1 2 + 1)) 148 6 = mi 148 6 := ((gu_other (by decide)).trans (cPit_off (by omega)))
      refine ⟨_, rfl, (hR _ _), _, _, rfl, _, pM_pitch hsz (n := 399) (by decide) (gu (cPit mi (mi 1 2) x y z w) 1 2 (mi 1 2 + 1)) ml x y z w r_x r_y r_z r_w (hI.SV.low (gR32_gu (cPit_R hR (by omega) (by omega) (by omega) (by omega)) ⟨by omega, by omega⟩) (fun c k h => (gu_other (by omega)).trans (cPit_off (by omega)))) , ?_⟩
      rintro r2 M2 (⟨c2, rfl, rfl⟩ | ⟨c2, rfl, rfl⟩ | ⟨c2, rfl, rfl⟩)
      · exfalso; omega
      · exfalso; omega
      · exact ⟨congrArg (fun z => some (gi z)) ((by omega)), _, _, rfl, (by rw [e2]; exact fin_pitch hI (by omega) (by omega) (by omega) (by omega) (by omega) (by omega) (by omega))⟩
set_option maxHeartbeats 4000000 in
theorem op_party {G : gG} (hsz : G.2.2.2.2.2.2 = true) : gOp G Inv 107 164 4 := by
  intro t mi ml xs hlen hr ht hI
  match xs, hlen, hr with
  | [x, y, z, w], _, hr =>
    have r_x := hr x (by simp)
    have r_y := hr y (by simp)
    have r_z := hr z (by simp)
    have r_w := hr w (by simp)
    have hR := hI.1
    have hrep := hI.2.1
    have e0 : mi 1 0 = mi 148 0 := hrep.1.1
    have e2 : mi 1 2 = mi 148 2 := hrep.1.2.2.1
    have e3 : mi 1 3 = mi 148 6 := hrep.1.2.2.2.1
    have bq : 0 ≤ mi 148 2 ∧ mi 148 2 ≤ 12 := hrep.1.2.2.2.2.2.1
    have bp : 0 ≤ mi 148 6 ∧ mi 148 6 ≤ 24 := hrep.1.2.2.2.2.2.2.1
    have bt : 0 ≤ mi 148 0 ∧ mi 148 0 ≤ 99 := hrep.1.2.2.2.2.1
    refine ⟨_, pC_party hsz (n := 399) (by decide) mi ml x y z w r_x r_y r_z r_w hI.CV , ?_⟩
    rintro r M1 (⟨c, rfl, rfl⟩ | ⟨c, rfl, rfl⟩ | ⟨c, rfl, rfl⟩)
    · have f0 : (cFd mi 0) 148 0 = mi 148 0 := rfl
      have f2 : (cFd mi 0) 148 2 = mi 148 2 := rfl
      have f6 : (cFd mi 0) 148 6 = mi 148 6 := rfl
      refine ⟨_, rfl, (rB _ (by decide) (by decide)), _, _, rfl, _, pM_party hsz (n := 399) (by decide) (cFd mi 0) ml x y z w r_x r_y r_z r_w (SV.cFd hI ht (by decide)) , ?_⟩
      rintro r2 M2 (⟨c2, rfl, rfl⟩ | ⟨c2, rfl, rfl⟩ | ⟨c2, rfl, rfl⟩)
      · exact ⟨congrArg (fun z => some (gi z)) (rfl), _, _, rfl, hI.find ht (by decide)⟩
      · exfalso; omega
      · exfalso; omega
    · have f0 : (cFd mi 1) 148 0 = mi 148 0 := rfl
      have f2 : (cFd mi 1) 148 2 = mi 148 2 := rfl
      have f6 : (cFd mi 1) 148 6 = mi 148 6 := rfl
      refine ⟨_, rfl, (rB _ (by decide) (by decide)), _, _, rfl, _, pM_party hsz (n := 399) (by decide) (cFd mi 1) ml x y z w r_x r_y r_z r_w (SV.cFd hI ht (by decide)) , ?_⟩
      rintro r2 M2 (⟨c2, rfl, rfl⟩ | ⟨c2, rfl, rfl⟩ | ⟨c2, rfl, rfl⟩)
      · exfalso; omega
      · exact ⟨congrArg (fun z => some (gi z)) (rfl), _, _, rfl, hI.find ht (by decide)⟩
      · exfalso; omega
    · have f0 : (gu (cPar mi (mi 1 3) x y z w) 1 3 (mi 1 3 + 1)) 148 0 = mi 148 0 := ((gu_other (by decide)).trans (cPar_off (by omega)))
      have f2 : (gu (cPar mi (mi 1 3) x y z w) 1 3 (mi 1 3 + 1)) 148 2 = mi 148 2 := ((gu_other (by decide)).trans (cPar_off (by omega)))
      have f6 : (gu (cPar mi (mi 1 3) x y z w) 1 3 (mi 1 3 + 1)) 148 6 = mi 148 6 := ((gu_other (by decide)).trans (cPar_off (by omega)))
      refine ⟨_, rfl, (hR _ _), _, _, rfl, _, pM_party hsz (n := 399) (by decide) (gu (cPar mi (mi 1 3) x y z w) 1 3 (mi 1 3 + 1)) (cParL ml (mi 1 3) w) x y z w r_x r_y r_z r_w (hI.SV.low (gR32_gu (cPar_R hR (by omega) (by omega) (by omega) (by omega)) ⟨by omega, by omega⟩) (fun c k h => (gu_other (by omega)).trans (cPar_off (by omega)))) , ?_⟩
      rintro r2 M2 (⟨c2, rfl, rfl⟩ | ⟨c2, rfl, rfl⟩ | ⟨c2, rfl, rfl⟩)
      · exfalso; omega
      · exfalso; omega
      · exact ⟨congrArg (fun z => some (gi z)) ((by omega)), _, _, rfl, (by rw [e3]; exact fin_party hI (by omega) (by omega) (by omega) (by omega) (by omega) (by omega) (by omega) (by omega))⟩

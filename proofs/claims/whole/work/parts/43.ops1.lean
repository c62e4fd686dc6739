set_option maxHeartbeats 4000000 in
theorem op_pitchOf {G : gG} (hsz : G.2.2.2.2.2.2 = true) : gOp G Inv 104 159 2 := by
  intro t mi ml xs hlen hr ht hI
  match xs, hlen, hr with
  | [p, w], _, hr =>
    have r_p := hr p (by simp)
    have r_w := hr w (by simp)
    have hR := hI.1
    have hrep := hI.2.1
    have e0 : mi 1 0 = mi 148 0 := hrep.1.1
    have e2 : mi 1 2 = mi 148 2 := hrep.1.2.2.1
    have e3 : mi 1 3 = mi 148 6 := hrep.1.2.2.2.1
    refine ⟨_, pC_pitchOf hsz (n := 399) (by decide) mi ml p w r_p r_w hI.CV, ?_⟩
    rintro r M1 (⟨c, rfl, rfl⟩ | ⟨c, rfl, rfl⟩)
    · have f0 : (mi) 148 0 = mi 148 0 := rfl
      have f2 : (mi) 148 2 = mi 148 2 := rfl
      have f6 : (mi) 148 6 = mi 148 6 := rfl
      refine ⟨_, rfl, (hR _ _), _, _, rfl, _, pM_pitchOf hsz (n := 399) (by decide) (mi) ml p w r_p r_w hI.SV, ?_⟩
      rintro r2 M2 (⟨c2, rfl, rfl⟩ | ⟨c2, rfl, rfl⟩)
      · exact ⟨congrArg (fun z => some (gi z)) (by have := (hrep.cP (p := p) (by omega) (by omega)).1 w.toNat (by omega); rw [show ((w.toNat : Nat) : Int) = w by omega] at this; exact this.symm), _, _, rfl, hI.mono⟩
      · exfalso; omega
    · have f0 : (cFd mi 0) 148 0 = mi 148 0 := rfl
      have f2 : (cFd mi 0) 148 2 = mi 148 2 := rfl
      have f6 : (cFd mi 0) 148 6 = mi 148 6 := rfl
      refine ⟨_, rfl, (rB _ (by decide) (by decide)), _, _, rfl, _, pM_pitchOf hsz (n := 399) (by decide) (cFd mi 0) ml p w r_p r_w (SV.cFd hI ht (by decide)), ?_⟩
      rintro r2 M2 (⟨c2, rfl, rfl⟩ | ⟨c2, rfl, rfl⟩)
      · exfalso; omega
      · exact ⟨congrArg (fun z => some (gi z)) (rfl), _, _, rfl, hI.find ht (by decide)⟩
theorem cTr_eq {t : Nat} {mi : Nat → Nat → Int} {ml : Nat → Nat → Int64} (h : Rep t 1 mi ml (sg mi)) {a w : Int} (a0 : 0 ≤ a) (a1 : a < mi 148 6) (w0 : 0 ≤ w) (w1 : w ≤ 8) : cA mi a (cTr w) = mOf mi a w := by
  obtain ⟨c0, c1, c2, c3, c4, c5, c8, c9, c10, -⟩ := h.cA a0 a1
  rcases (show w = 0 ∨ w = 1 ∨ w = 2 ∨ w = 3 ∨ w = 4 ∨ w = 5 ∨ w = 6 ∨ w = 7 ∨ w = 8 by omega) with rfl | rfl | rfl | rfl | rfl | rfl | rfl | rfl | rfl
  · exact c0
  · exact c1
  · exact c2
  · exact c3
  · exact c4
  · exact c5
  · exact c8
  · exact c9
  · exact c10
set_option maxHeartbeats 4000000 in
theorem op_partyOf {G : gG} (hsz : G.2.2.2.2.2.2 = true) : gOp G Inv 108 167 2 := by
  intro t mi ml xs hlen hr ht hI
  match xs, hlen, hr with
  | [a, w], _, hr =>
    have r_a := hr a (by simp)
    have r_w := hr w (by simp)
    have hR := hI.1
    have hrep := hI.2.1
    have e0 : mi 1 0 = mi 148 0 := hrep.1.1
    have e2 : mi 1 2 = mi 148 2 := hrep.1.2.2.1
    have e3 : mi 1 3 = mi 148 6 := hrep.1.2.2.2.1
    refine ⟨_, pC_partyOf hsz (n := 399) (by decide) mi ml a w r_a r_w hI.CV, ?_⟩
    rintro r M1 (⟨c, rfl, rfl⟩ | ⟨c, rfl, rfl⟩ | ⟨c, rfl, rfl⟩ | ⟨c, rfl, rfl⟩)
    · have f0 : (mi) 148 0 = mi 148 0 := rfl
      have f2 : (mi) 148 2 = mi 148 2 := rfl
      have f6 : (mi) 148 6 = mi 148 6 := rfl
      refine ⟨_, rfl, (hR _ _), _, _, rfl, _, pM_partyOf hsz (n := 399) (by decide) (mi) ml a w r_a r_w hI.SV, ?_⟩
      rintro r2 M2 (⟨c2, rfl, rfl⟩ | ⟨c2, rfl, rfl⟩ | ⟨c2, rfl, rfl⟩ | ⟨c2, rfl, rfl⟩)
      · exact ⟨congrArg (fun z => some (gi z)) ((cTr_eq hrep (by omega) (by omega) (by omega) (by omega)).symm), _, _, rfl, hI.mono⟩
      · exfalso; omega
      · exfalso; omega
      · exfalso; omega
    · have f0 : (mi) 148 0 = mi 148 0 := rfl
      have f2 : (mi) 148 2 = mi 148 2 := rfl
      have f6 : (mi) 148 6 = mi 148 6 := rfl
      have c4 := (hrep.cA (a := a) (by omega) (by omega)).2.2.2.2.1
      refine ⟨_, rfl, (rB _ (by decide) (by decide)), _, _, rfl, _, pM_partyOf hsz (n := 399) (by decide) (mi) ml a w r_a r_w hI.SV, ?_⟩
      rintro r2 M2 (⟨c2, rfl, rfl⟩ | ⟨c2, rfl, rfl⟩ | ⟨c2, rfl, rfl⟩ | ⟨c2, rfl, rfl⟩)
      · exfalso; omega
      · exact ⟨congrArg (fun z => some (gi z)) (rfl), _, _, rfl, hI.mono⟩
      · exfalso; omega
      · exfalso; omega
    · have f0 : (mi) 148 0 = mi 148 0 := rfl
      have f2 : (mi) 148 2 = mi 148 2 := rfl
      have f6 : (mi) 148 6 = mi 148 6 := rfl
      have c4 := (hrep.cA (a := a) (by omega) (by omega)).2.2.2.2.1
      refine ⟨_, rfl, (rB _ (by decide) (by decide)), _, _, rfl, _, pM_partyOf hsz (n := 399) (by decide) (mi) ml a w r_a r_w hI.SV, ?_⟩
      rintro r2 M2 (⟨c2, rfl, rfl⟩ | ⟨c2, rfl, rfl⟩ | ⟨c2, rfl, rfl⟩ | ⟨c2, rfl, rfl⟩)
      · exfalso; omega
      · exfalso; omega
      · exact ⟨congrArg (fun z => some (gi z)) (rfl), _, _, rfl, hI.mono⟩
      · exfalso; omega
    · have f0 : (cFd mi 0) 148 0 = mi 148 0 := rfl
      have f2 : (cFd mi 0) 148 2 = mi 148 2 := rfl
      have f6 : (cFd mi 0) 148 6 = mi 148 6 := rfl
      refine ⟨_, rfl, (rB _ (by decide) (by decide)), _, _, rfl, _, pM_partyOf hsz (n := 399) (by decide) (cFd mi 0) ml a w r_a r_w (SV.cFd hI ht (by decide)), ?_⟩
      rintro r2 M2 (⟨c2, rfl, rfl⟩ | ⟨c2, rfl, rfl⟩ | ⟨c2, rfl, rfl⟩ | ⟨c2, rfl, rfl⟩)
      · exfalso; omega
      · exfalso; omega
      · exfalso; omega
      · exact ⟨congrArg (fun z => some (gi z)) (rfl), _, _, rfl, hI.find ht (by decide)⟩
set_option maxHeartbeats 4000000 in
theorem op_why {G : gG} (hsz : G.2.2.2.2.2.2 = true) : gOp G Inv 109 170 2 := by
  intro t mi ml xs hlen hr ht hI
  match xs, hlen, hr with
  | [a, p], _, hr =>
    have r_a := hr a (by simp)
    have r_p := hr p (by simp)
    have hR := hI.1
    have hrep := hI.2.1
    have e0 : mi 1 0 = mi 148 0 := hrep.1.1
    have e2 : mi 1 2 = mi 148 2 := hrep.1.2.2.1
    have e3 : mi 1 3 = mi 148 6 := hrep.1.2.2.2.1
    refine ⟨_, pC_why hsz (n := 399) (by decide) mi ml a p r_a r_p hI.CV, ?_⟩
    rintro r M1 (⟨c, rfl, rfl⟩ | ⟨c, rfl, rfl⟩)
    · have f0 : (mi) 148 0 = mi 148 0 := rfl
      have f2 : (mi) 148 2 = mi 148 2 := rfl
      have f6 : (mi) 148 6 = mi 148 6 := rfl
      refine ⟨_, rfl, ⟨by have := cReason_b mi a p; omega, by have := cReason_b mi a p; omega⟩, _, _, rfl, _, pM_why hsz (n := 399) (by decide) (mi) ml a p r_a r_p hI.SV, ?_⟩
      rintro r2 M2 (⟨c2, rfl, rfl⟩ | ⟨c2, rfl, rfl⟩)
      · exact ⟨congrArg (fun z => some (gi z)) ((eq_reason hrep (by omega) (by omega) (by omega) (by omega)).symm), _, _, rfl, hI.mono⟩
      · exfalso; omega
    · have f0 : (cFd mi 0) 148 0 = mi 148 0 := rfl
      have f2 : (cFd mi 0) 148 2 = mi 148 2 := rfl
      have f6 : (cFd mi 0) 148 6 = mi 148 6 := rfl
      refine ⟨_, rfl, (rB _ (by decide) (by decide)), _, _, rfl, _, pM_why hsz (n := 399) (by decide) (cFd mi 0) ml a p r_a r_p (SV.cFd hI ht (by decide)), ?_⟩
      rintro r2 M2 (⟨c2, rfl, rfl⟩ | ⟨c2, rfl, rfl⟩)
      · exfalso; omega
      · exact ⟨congrArg (fun z => some (gi z)) (rfl), _, _, rfl, hI.find ht (by decide)⟩
theorem mLoad_b {mi : Nat → Nat → Int} (hv : SV mi) (post hour : Int) : ∀ k : Nat, (k : Int) ≤ mi 148 6 → 0 ≤ mLoad mi post hour k ∧ mLoad mi post hour k ≤ 40 * k
  | 0, _ => ⟨Int.le_refl 0, Int.le_refl 0⟩
  | k + 1, h => by
    have ih := mLoad_b hv post hour k (by omega)
    have hb := (hv.2.2.2.2.1 k (by omega) (by omega)).2.2.2.2.2.2.2.2.2.2.2.1
    have e : mLoad mi post hour (k + 1) = if ¬ mHere mi k = 0 ∧ mPost mi k = post ∧ andI (shrI (mOf mi k 9) hour) 1 = 1 then mLoad mi post hour k + mOf mi k 10 else mLoad mi post hour k + 0 := rfl
    rw [e]
    split <;> omega
set_option maxHeartbeats 4000000 in
theorem op_load {G : gG} (hsz : G.2.2.2.2.2.2 = true) : gOp G Inv 128 224 2 := by
  intro t mi ml xs hlen hr ht hI
  match xs, hlen, hr with
  | [post, x], _, hr =>
    have r_post := hr post (by simp)
    have r_x := hr x (by simp)
    have hR := hI.1
    have hrep := hI.2.1
    have e0 : mi 1 0 = mi 148 0 := hrep.1.1
    have e2 : mi 1 2 = mi 148 2 := hrep.1.2.2.1
    have e3 : mi 1 3 = mi 148 6 := hrep.1.2.2.2.1
    refine ⟨_, pC_load hsz (n := 399) (by decide) mi ml post x r_post r_x hI.CV, ?_⟩
    rintro r M1 (⟨c, rfl, rfl⟩ | ⟨c, rfl, rfl⟩)
    · have f0 : (mi) 148 0 = mi 148 0 := rfl
      have f2 : (mi) 148 2 = mi 148 2 := rfl
      have f6 : (mi) 148 6 = mi 148 6 := rfl
      refine ⟨_, rfl, (by rw [eq_load hrep]; have := mLoad_b hI.SV post x (mi 148 6).toNat (by have := hI.SV.2.2.2.1; omega); have := hI.SV.2.2.2.1; exact ⟨by omega, by omega⟩), _, _, rfl, _, pM_load hsz (n := 399) (by decide) (mi) ml post x r_post r_x hI.SV, ?_⟩
      rintro r2 M2 (⟨c2, rfl, rfl⟩ | ⟨c2, rfl, rfl⟩)
      · exact ⟨congrArg (fun z => some (gi z)) ((eq_load hrep post x).symm), _, _, rfl, hI.mono⟩
      · exfalso; omega
    · have f0 : (cFd mi 0) 148 0 = mi 148 0 := rfl
      have f2 : (cFd mi 0) 148 2 = mi 148 2 := rfl
      have f6 : (cFd mi 0) 148 6 = mi 148 6 := rfl
      refine ⟨_, rfl, (rB _ (by decide) (by decide)), _, _, rfl, _, pM_load hsz (n := 399) (by decide) (cFd mi 0) ml post x r_post r_x (SV.cFd hI ht (by decide)), ?_⟩
      rintro r2 M2 (⟨c2, rfl, rfl⟩ | ⟨c2, rfl, rfl⟩)
      · exfalso; omega
      · exact ⟨congrArg (fun z => some (gi z)) (rfl), _, _, rfl, hI.find ht (by decide)⟩
theorem inv_limit {t : Nat} {mi : Nat → Nat → Int} {ml : Nat → Nat → Int64} (h : Inv t mi ml) {i : Nat} {v : Int} (hi : i < 4) (h0 : 0 ≤ v) (h1 : v ≤ 200) : Inv (t + 1) (gu (gu mi 4 i v) 153 i v) ml := by
  have hrv : rng v := ⟨by omega, by omega⟩
  have off : ∀ a k : Nat, a ≠ 4 → a ≠ 153 → gu (gu mi 4 i v) 153 i v a k = mi a k := fun a k x y => by rw [gu_other y, gu_other x]
  refine h.live (by omega) (gR32_gu (gR32_gu h.1 hrv) hrv) (fun a k hk => off a k (by omega) (by omega)) (fun _ _ _ _ => rfl) ?_
  obtain ⟨hsc, hpi, hpa, hdj, hli, hsp, hlw, hwa⟩ := h.2.1
  have hb := hsc.2.2.2.2.2.1.2
  have hc := hsc.2.2.2.2.2.2.1.2
  refine ⟨⟨hsc.1, hsc.2.1, hsc.2.2.1, hsc.2.2.2.1, hsc.2.2.2.2.1, hsc.2.2.2.2.2.1, hsc.2.2.2.2.2.2.1, ?_⟩, hpi.fr (by omega) rfl hb (fun d k hd => off _ _ (by omega) (by omega)) (fun _ => rfl) (fun _ => rfl) (fun _ => rfl), hpa.fr rfl rfl hc (fun d k hd => off _ _ (by omega) (by omega)) (fun _ _ _ => rfl) (fun _ => rfl), hdj.fr rfl (fun _ => rfl), fun j hj => ?_, hsp.fr (Int.le_refl _) (fun _ => off _ _ (by decide) (by decide)) (fun _ => rfl), hlw.fr (fun l k hl => ⟨off _ _ (by omega) (by omega), off _ _ (by omega) (by omega)⟩) (fun _ => rfl) (fun _ => rfl), hwa.fr rfl rfl (fun _ => rfl) (fun _ => rfl) (fun _ => rfl) (fun _ => rfl)⟩
  · have := hsc.2.2.2.2.2.2.2
    show _ ≤ mi 148 1 ∧ mi 148 1 ≤ _
    have this : -(299970 * (t : Int)) ≤ mi 148 1 ∧ mi 148 1 ≤ 299970 * t := this
    omega
  · have e1 : gu (gu mi 4 i v) 153 i v (1 + 3) j = if j = i then v else mi 4 j := by
      rw [gu_other (by decide), gu_eq]
      by_cases e : j = i <;> simp [e]
    have e2 : sg (gu (gu mi 4 i v) 153 i v) 5 j = if j = i then v else mi 153 j := by
      show gu (gu mi 4 i v) 153 i v 153 j = _
      rw [gu_eq]
      by_cases e : j = i
      · simp [e]
      · simp only [e, and_false, if_false]
        exact gu_other (by decide)
    rw [e1, e2]
    have := hli j hj
    have this : mi 4 j = mi 153 j ∧ 0 ≤ mi 153 j ∧ mi 153 j ≤ 200 := this
    split <;> omega
set_option maxHeartbeats 4000000 in
theorem op_limit {G : gG} (hsz : G.2.2.2.2.2.2 = true) : gOp G Inv 127 220 2 := by
  intro t mi ml xs hlen hr ht hI
  match xs, hlen, hr with
  | [post, v], _, hr =>
    have r_post := hr post (by simp)
    have r_v := hr v (by simp)
    have hR := hI.1
    have hrep := hI.2.1
    have e0 : mi 1 0 = mi 148 0 := hrep.1.1
    have e2 : mi 1 2 = mi 148 2 := hrep.1.2.2.1
    have e3 : mi 1 3 = mi 148 6 := hrep.1.2.2.2.1
    refine ⟨_, pC_limit hsz (n := 399) (by decide) mi ml post v r_post r_v hI.CV, ?_⟩
    rintro r M1 (⟨c, rfl, rfl⟩ | ⟨c, rfl, rfl⟩)
    · have f0 : (gu mi 4 post.toNat v) 148 0 = mi 148 0 := rfl
      have f2 : (gu mi 4 post.toNat v) 148 2 = mi 148 2 := rfl
      have f6 : (gu mi 4 post.toNat v) 148 6 = mi 148 6 := rfl
      refine ⟨_, rfl, (hR _ _), _, _, rfl, _, pM_limit hsz (n := 399) (by decide) (gu mi 4 post.toNat v) ml post v r_post r_v (hI.SV.low (gR32_gu hR r_v) (fun a k h => gu_other (by omega))), ?_⟩
      rintro r2 M2 (⟨c2, rfl, rfl⟩ | ⟨c2, rfl, rfl⟩)
      · exact ⟨congrArg (fun z => some (gi z)) (((hrep.2.2.2.2.1 post.toNat (by omega)).1.symm : sg mi 5 post.toNat = mi 4 post.toNat)), _, _, rfl, inv_limit hI (by omega) (by omega) (by omega)⟩
      · exfalso; omega
    · have f0 : (cFd mi 0) 148 0 = mi 148 0 := rfl
      have f2 : (cFd mi 0) 148 2 = mi 148 2 := rfl
      have f6 : (cFd mi 0) 148 6 = mi 148 6 := rfl
      refine ⟨_, rfl, (rB _ (by decide) (by decide)), _, _, rfl, _, pM_limit hsz (n := 399) (by decide) (cFd mi 0) ml post v r_post r_v (SV.cFd hI ht (by decide)), ?_⟩
      rintro r2 M2 (⟨c2, rfl, rfl⟩ | ⟨c2, rfl, rfl⟩)
      · exfalso; omega
      · exact ⟨congrArg (fun z => some (gi z)) (rfl), _, _, rfl, hI.find ht (by decide)⟩

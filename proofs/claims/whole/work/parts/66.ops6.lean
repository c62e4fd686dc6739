set_option maxHeartbeats 4000000 in
theorem op_feed {G : gG} (hsz : G.2.2.2.2.2.2 = true) : gOp G Inv 117 187 2 := by
  intro t mi ml xs hlen hr ht hI
  match xs, hlen, hr with
  | [x, n_], _, hr =>
    have r_x := hr x (by simp)
    have r_n_ := hr n_ (by simp)
    have hR := hI.1
    have hrep := hI.2.1
    have e0 : mi 1 0 = mi 148 0 := hrep.1.1
    have e2 : mi 1 2 = mi 148 2 := hrep.1.2.2.1
    have e3 : mi 1 3 = mi 148 6 := hrep.1.2.2.2.1
    obtain ⟨l, hc, hm, hl, hb, hz⟩ := hI.2.2.1.list
    have hz1 : mi 132 0 = l.length := hc.1
    have bR : ∀ i, rng (gby x i) := fun i => (by have := gby_b x i; exact ⟨by omega, by omega⟩)
    refine ⟨_, pC_feed hsz (n := 399) (by decide) mi ml x n_ r_x r_n_ hI.CV (by omega), ?_⟩
    rintro r M1 (⟨c, rfl, rfl⟩ | ⟨c, rfl, rfl⟩ | ⟨c, rfl, rfl⟩ | ⟨c, rfl, rfl⟩ | ⟨c, rfl, rfl⟩ | ⟨c, rfl, rfl⟩)
    · have f0 : (gu (gu mi 134 (mi 132 0).toNat (gby x 0)) 132 0 (mi 132 0 + 1)) 148 0 = mi 148 0 := by (repeat rw [gu_ne (by omega)])
      have f2 : (gu (gu mi 134 (mi 132 0).toNat (gby x 0)) 132 0 (mi 132 0 + 1)) 148 2 = mi 148 2 := by (repeat rw [gu_ne (by omega)])
      have f6 : (gu (gu mi 134 (mi 132 0).toNat (gby x 0)) 132 0 (mi 132 0 + 1)) 148 6 = mi 148 6 := by (repeat rw [gu_ne (by omega)])
      have f22 : (gu (gu mi 134 (mi 132 0).toNat (gby x 0)) 132 0 (mi 132 0 + 1)) 148 22 = mi 148 22 := by (repeat rw [gu_ne (by omega)])
      have hR1 : gR32 (gu (gu mi 134 (mi 132 0).toNat (gby x 0)) 132 0 (mi 132 0 + 1)) := by (repeat' first | exact hR | exact bR _ | refine gR32_gu ?_ ?_) <;> exact ⟨by omega, by omega⟩
      have hcc := (cTp_add (z := mi 132 0) (b := gby x 0) hc (by (try simp only [List.length_append, List.length_cons, List.length_nil]); omega))
      refine ⟨_, rfl, ⟨by omega, by omega⟩, _, _, rfl, _, pM_feed hsz (n := 399) (by decide) (gu (gu mi 134 (mi 132 0).toNat (gby x 0)) 132 0 (mi 132 0 + 1)) ml x n_ r_x r_n_ (hI.SV.low hR1 (fun c k h => by (repeat rw [gu_ne (by omega)]))) (by rw [f22]; omega), ?_⟩
      rintro r2 M2 (⟨c2, rfl, rfl⟩ | ⟨c2, rfl, rfl⟩ | ⟨c2, rfl, rfl⟩ | ⟨c2, rfl, rfl⟩ | ⟨c2, rfl, rfl⟩ | ⟨c2, rfl, rfl⟩)
      · exact ⟨congrArg (fun z => some (gi z)) ((by omega)), _, _, rfl, inv_tape hI (by (repeat' first | exact hR1 | exact bR _ | refine gR32_gu ?_ ?_) <;> exact ⟨by omega, by omega⟩) (fun a k h1 h2 h3 h4 => by (repeat rw [gu_ne (by omega)])) (hcc.fr (by (repeat rw [gu_ne (by omega)])) (fun k => by (repeat rw [gu_ne (by omega)]))) (mTp_add (hm.fr f22 (fun k => by (repeat rw [gu_ne (by omega)]))) (by (try simp only [List.length_append, List.length_cons, List.length_nil]); omega)) (by (try simp only [List.length_append, List.length_cons, List.length_nil]); omega) (getD_snoc_b hb (gby_b x 0))⟩
      · exfalso; omega
      · exfalso; omega
      · exfalso; omega
      · exfalso; omega
      · exfalso; omega
    · have f0 : (gu (gu (gu (gu mi 134 (mi 132 0).toNat (gby x 1)) 132 0 (mi 132 0 + 1)) 134 (mi 132 0 + 1).toNat (gby x 0)) 132 0 (mi 132 0 + 1 + 1)) 148 0 = mi 148 0 := by (repeat rw [gu_ne (by omega)])
      have f2 : (gu (gu (gu (gu mi 134 (mi 132 0).toNat (gby x 1)) 132 0 (mi 132 0 + 1)) 134 (mi 132 0 + 1).toNat (gby x 0)) 132 0 (mi 132 0 + 1 + 1)) 148 2 = mi 148 2 := by (repeat rw [gu_ne (by omega)])
      have f6 : (gu (gu (gu (gu mi 134 (mi 132 0).toNat (gby x 1)) 132 0 (mi 132 0 + 1)) 134 (mi 132 0 + 1).toNat (gby x 0)) 132 0 (mi 132 0 + 1 + 1)) 148 6 = mi 148 6 := by (repeat rw [gu_ne (by omega)])
      have f22 : (gu (gu (gu (gu mi 134 (mi 132 0).toNat (gby x 1)) 132 0 (mi 132 0 + 1)) 134 (mi 132 0 + 1).toNat (gby x 0)) 132 0 (mi 132 0 + 1 + 1)) 148 22 = mi 148 22 := by (repeat rw [gu_ne (by omega)])
      have hR1 : gR32 (gu (gu (gu (gu mi 134 (mi 132 0).toNat (gby x 1)) 132 0 (mi 132 0 + 1)) 134 (mi 132 0 + 1).toNat (gby x 0)) 132 0 (mi 132 0 + 1 + 1)) := by (repeat' first | exact hR | exact bR _ | refine gR32_gu ?_ ?_) <;> exact ⟨by omega, by omega⟩
      have hcc := (cTp_add (z := mi 132 0 + 1) (b := gby x 0) (cTp_add (z := mi 132 0) (b := gby x 1) hc (by (try simp only [List.length_append, List.length_cons, List.length_nil]); omega)) (by (try simp only [List.length_append, List.length_cons, List.length_nil]); omega))
      refine ⟨_, rfl, ⟨by omega, by omega⟩, _, _, rfl, _, pM_feed hsz (n := 399) (by decide) (gu (gu (gu (gu mi 134 (mi 132 0).toNat (gby x 1)) 132 0 (mi 132 0 + 1)) 134 (mi 132 0 + 1).toNat (gby x 0)) 132 0 (mi 132 0 + 1 + 1)) ml x n_ r_x r_n_ (hI.SV.low hR1 (fun c k h => by (repeat rw [gu_ne (by omega)]))) (by rw [f22]; omega), ?_⟩
      rintro r2 M2 (⟨c2, rfl, rfl⟩ | ⟨c2, rfl, rfl⟩ | ⟨c2, rfl, rfl⟩ | ⟨c2, rfl, rfl⟩ | ⟨c2, rfl, rfl⟩ | ⟨c2, rfl, rfl⟩)
      · exfalso; omega
      · exact ⟨congrArg (fun z => some (gi z)) ((by omega)), _, _, rfl, inv_tape hI (by (repeat' first | exact hR1 | exact bR _ | refine gR32_gu ?_ ?_) <;> exact ⟨by omega, by omega⟩) (fun a k h1 h2 h3 h4 => by (repeat rw [gu_ne (by omega)])) (hcc.fr (by (repeat rw [gu_ne (by omega)])) (fun k => by (repeat rw [gu_ne (by omega)]))) (mTp_add (mTp_add (hm.fr f22 (fun k => by (repeat rw [gu_ne (by omega)]))) (by (try simp only [List.length_append, List.length_cons, List.length_nil]); omega)) (by (try simp only [List.length_append, List.length_cons, List.length_nil]); omega)) (by (try simp only [List.length_append, List.length_cons, List.length_nil]); omega) (getD_snoc_b (getD_snoc_b hb (gby_b x 1)) (gby_b x 0))⟩
      · exfalso; omega
      · exfalso; omega
      · exfalso; omega
      · exfalso; omega
    · have f0 : (gu (gu (gu (gu (gu (gu mi 134 (mi 132 0).toNat (gby x 2)) 132 0 (mi 132 0 + 1)) 134 (mi 132 0 + 1).toNat (gby x 1)) 132 0 (mi 132 0 + 1 + 1)) 134 ((mi 132 0 + 1) + 1).toNat (gby x 0)) 132 0 ((mi 132 0 + 1) + 1 + 1)) 148 0 = mi 148 0 := by (repeat rw [gu_ne (by omega)])
      have f2 : (gu (gu (gu (gu (gu (gu mi 134 (mi 132 0).toNat (gby x 2)) 132 0 (mi 132 0 + 1)) 134 (mi 132 0 + 1).toNat (gby x 1)) 132 0 (mi 132 0 + 1 + 1)) 134 ((mi 132 0 + 1) + 1).toNat (gby x 0)) 132 0 ((mi 132 0 + 1) + 1 + 1)) 148 2 = mi 148 2 := by (repeat rw [gu_ne (by omega)])
      have f6 : (gu (gu (gu (gu (gu (gu mi 134 (mi 132 0).toNat (gby x 2)) 132 0 (mi 132 0 + 1)) 134 (mi 132 0 + 1).toNat (gby x 1)) 132 0 (mi 132 0 + 1 + 1)) 134 ((mi 132 0 + 1) + 1).toNat (gby x 0)) 132 0 ((mi 132 0 + 1) + 1 + 1)) 148 6 = mi 148 6 := by (repeat rw [gu_ne (by omega)])
      have f22 : (gu (gu (gu (gu (gu (gu mi 134 (mi 132 0).toNat (gby x 2)) 132 0 (mi 132 0 + 1)) 134 (mi 132 0 + 1).toNat (gby x 1)) 132 0 (mi 132 0 + 1 + 1)) 134 ((mi 132 0 + 1) + 1).toNat (gby x 0)) 132 0 ((mi 132 0 + 1) + 1 + 1)) 148 22 = mi 148 22 := by (repeat rw [gu_ne (by omega)])
      have hR1 : gR32 (gu (gu (gu (gu (gu (gu mi 134 (mi 132 0).toNat (gby x 2)) 132 0 (mi 132 0 + 1)) 134 (mi 132 0 + 1).toNat (gby x 1)) 132 0 (mi 132 0 + 1 + 1)) 134 ((mi 132 0 + 1) + 1).toNat (gby x 0)) 132 0 ((mi 132 0 + 1) + 1 + 1)) := by (repeat' first | exact hR | exact bR _ | refine gR32_gu ?_ ?_) <;> exact ⟨by omega, by omega⟩
      have hcc := (cTp_add (z := (mi 132 0 + 1) + 1) (b := gby x 0) (cTp_add (z := mi 132 0 + 1) (b := gby x 1) (cTp_add (z := mi 132 0) (b := gby x 2) hc (by (try simp only [List.length_append, List.length_cons, List.length_nil]); omega)) (by (try simp only [List.length_append, List.length_cons, List.length_nil]); omega)) (by (try simp only [List.length_append, List.length_cons, List.length_nil]); omega))
      refine ⟨_, rfl, ⟨by omega, by omega⟩, _, _, rfl, _, pM_feed hsz (n := 399) (by decide) (gu (gu (gu (gu (gu (gu mi 134 (mi 132 0).toNat (gby x 2)) 132 0 (mi 132 0 + 1)) 134 (mi 132 0 + 1).toNat (gby x 1)) 132 0 (mi 132 0 + 1 + 1)) 134 ((mi 132 0 + 1) + 1).toNat (gby x 0)) 132 0 ((mi 132 0 + 1) + 1 + 1)) ml x n_ r_x r_n_ (hI.SV.low hR1 (fun c k h => by (repeat rw [gu_ne (by omega)]))) (by rw [f22]; omega), ?_⟩
      rintro r2 M2 (⟨c2, rfl, rfl⟩ | ⟨c2, rfl, rfl⟩ | ⟨c2, rfl, rfl⟩ | ⟨c2, rfl, rfl⟩ | ⟨c2, rfl, rfl⟩ | ⟨c2, rfl, rfl⟩)
      · exfalso; omega
      · exfalso; omega
      · exact ⟨congrArg (fun z => some (gi z)) ((by omega)), _, _, rfl, inv_tape hI (by (repeat' first | exact hR1 | exact bR _ | refine gR32_gu ?_ ?_) <;> exact ⟨by omega, by omega⟩) (fun a k h1 h2 h3 h4 => by (repeat rw [gu_ne (by omega)])) (hcc.fr (by (repeat rw [gu_ne (by omega)])) (fun k => by (repeat rw [gu_ne (by omega)]))) (mTp_add (mTp_add (mTp_add (hm.fr f22 (fun k => by (repeat rw [gu_ne (by omega)]))) (by (try simp only [List.length_append, List.length_cons, List.length_nil]); omega)) (by (try simp only [List.length_append, List.length_cons, List.length_nil]); omega)) (by (try simp only [List.length_append, List.length_cons, List.length_nil]); omega)) (by (try simp only [List.length_append, List.length_cons, List.length_nil]); omega) (getD_snoc_b (getD_snoc_b (getD_snoc_b hb (gby_b x 2)) (gby_b x 1)) (gby_b x 0))⟩
      · exfalso; omega
      · exfalso; omega
      · exfalso; omega
    · have f0 : (gu (gu (gu (gu (gu (gu (gu (gu mi 134 (mi 132 0).toNat (gby x 3)) 132 0 (mi 132 0 + 1)) 134 (mi 132 0 + 1).toNat (gby x 2)) 132 0 (mi 132 0 + 1 + 1)) 134 ((mi 132 0 + 1) + 1).toNat (gby x 1)) 132 0 ((mi 132 0 + 1) + 1 + 1)) 134 (((mi 132 0 + 1) + 1) + 1).toNat (gby x 0)) 132 0 (((mi 132 0 + 1) + 1) + 1 + 1)) 148 0 = mi 148 0 := by (repeat rw [gu_ne (by omega)])
      have f2 : (gu (gu (gu (gu (gu (gu (gu (gu mi 134 (mi 132 0).toNat (gby x 3)) 132 0 (mi 132 0 + 1)) 134 (mi 132 0 + 1).toNat (gby x 2)) 132 0 (mi 132 0 + 1 + 1)) 134 ((mi 132 0 + 1) + 1).toNat (gby x 1)) 132 0 ((mi 132 0 + 1) + 1 + 1)) 134 (((mi 132 0 + 1) + 1) + 1).toNat (gby x 0)) 132 0 (((mi 132 0 + 1) + 1) + 1 + 1)) 148 2 = mi 148 2 := by (repeat rw [gu_ne (by omega)])
      have f6 : (gu (gu (gu (gu (gu (gu (gu (gu mi 134 (mi 132 0).toNat (gby x 3)) 132 0 (mi 132 0 + 1)) 134 (mi 132 0 + 1).toNat (gby x 2)) 132 0 (mi 132 0 + 1 + 1)) 134 ((mi 132 0 + 1) + 1).toNat (gby x 1)) 132 0 ((mi 132 0 + 1) + 1 + 1)) 134 (((mi 132 0 + 1) + 1) + 1).toNat (gby x 0)) 132 0 (((mi 132 0 + 1) + 1) + 1 + 1)) 148 6 = mi 148 6 := by (repeat rw [gu_ne (by omega)])
      have f22 : (gu (gu (gu (gu (gu (gu (gu (gu mi 134 (mi 132 0).toNat (gby x 3)) 132 0 (mi 132 0 + 1)) 134 (mi 132 0 + 1).toNat (gby x 2)) 132 0 (mi 132 0 + 1 + 1)) 134 ((mi 132 0 + 1) + 1).toNat (gby x 1)) 132 0 ((mi 132 0 + 1) + 1 + 1)) 134 (((mi 132 0 + 1) + 1) + 1).toNat (gby x 0)) 132 0 (((mi 132 0 + 1) + 1) + 1 + 1)) 148 22 = mi 148 22 := by (repeat rw [gu_ne (by omega)])
      have hR1 : gR32 (gu (gu (gu (gu (gu (gu (gu (gu mi 134 (mi 132 0).toNat (gby x 3)) 132 0 (mi 132 0 + 1)) 134 (mi 132 0 + 1).toNat (gby x 2)) 132 0 (mi 132 0 + 1 + 1)) 134 ((mi 132 0 + 1) + 1).toNat (gby x 1)) 132 0 ((mi 132 0 + 1) + 1 + 1)) 134 (((mi 132 0 + 1) + 1) + 1).toNat (gby x 0)) 132 0 (((mi 132 0 + 1) + 1) + 1 + 1)) := by (repeat' first | exact hR | exact bR _ | refine gR32_gu ?_ ?_) <;> exact ⟨by omega, by omega⟩
      have hcc := (cTp_add (z := ((mi 132 0 + 1) + 1) + 1) (b := gby x 0) (cTp_add (z := (mi 132 0 + 1) + 1) (b := gby x 1) (cTp_add (z := mi 132 0 + 1) (b := gby x 2) (cTp_add (z := mi 132 0) (b := gby x 3) hc (by (try simp only [List.length_append, List.length_cons, List.length_nil]); omega)) (by (try simp only [List.length_append, List.length_cons, List.length_nil]); omega)) (by (try simp only [List.length_append, List.length_cons, List.length_nil]); omega)) (by (try simp only [List.length_append, List.length_cons, List.length_nil]); omega))
      refine ⟨_, rfl, ⟨by omega, by omega⟩, _, _, rfl, _, pM_feed hsz (n := 399) (by decide) (gu (gu (gu (gu (gu (gu (gu (gu mi 134 (mi 132 0).toNat (gby x 3)) 132 0 (mi 132 0 + 1)) 134 (mi 132 0 + 1).toNat (gby x 2)) 132 0 (mi 132 0 + 1 + 1)) 134 ((mi 132 0 + 1) + 1).toNat (gby x 1)) 132 0 ((mi 132 0 + 1) + 1 + 1)) 134 (((mi 132 0 + 1) + 1) + 1).toNat (gby x 0)) 132 0 (((mi 132 0 + 1) + 1) + 1 + 1)) ml x n_ r_x r_n_ (hI.SV.low hR1 (fun c k h => by (repeat rw [gu_ne (by omega)]))) (by rw [f22]; omega), ?_⟩
      rintro r2 M2 (⟨c2, rfl, rfl⟩ | ⟨c2, rfl, rfl⟩ | ⟨c2, rfl, rfl⟩ | ⟨c2, rfl, rfl⟩ | ⟨c2, rfl, rfl⟩ | ⟨c2, rfl, rfl⟩)
      · exfalso; omega
      · exfalso; omega
      · exfalso; omega
      · exact ⟨congrArg (fun z => some (gi z)) ((by omega)), _, _, rfl, inv_tape hI (by (repeat' first | exact hR1 | exact bR _ | refine gR32_gu ?_ ?_) <;> exact ⟨by omega, by omega⟩) (fun a k h1 h2 h3 h4 => by (repeat rw [gu_ne (by omega)])) (hcc.fr (by (repeat rw [gu_ne (by omega)])) (fun k => by (repeat rw [gu_ne (by omega)]))) (mTp_add (mTp_add (mTp_add (mTp_add (hm.fr f22 (fun k => by (repeat rw [gu_ne (by omega)]))) (by (try simp only [List.length_append, List.length_cons, List.length_nil]); omega)) (by (try simp only [List.length_append, List.length_cons, List.length_nil]); omega)) (by (try simp only [List.length_append, List.length_cons, List.length_nil]); omega)) (by (try simp only [List.length_append, List.length_cons, List.length_nil]); omega)) (by (try simp only [List.length_append, List.length_cons, List.length_nil]); omega) (getD_snoc_b (getD_snoc_b (getD_snoc_b (getD_snoc_b hb (gby_b x 3)) (gby_b x 2)) (gby_b x 1)) (gby_b x 0))⟩
      · exfalso; omega
      · exfalso; omega
    · have f0 : (cFd mi 0) 148 0 = mi 148 0 := rfl
      have f2 : (cFd mi 0) 148 2 = mi 148 2 := rfl
      have f6 : (cFd mi 0) 148 6 = mi 148 6 := rfl
      have f22 : (cFd mi 0) 148 22 = mi 148 22 := rfl
      refine ⟨_, rfl, (rB _ (by decide) (by decide)), _, _, rfl, _, pM_feed hsz (n := 399) (by decide) (cFd mi 0) ml x n_ r_x r_n_ (SV.cFd hI ht (by decide)) (by show 0 ≤ mi 148 22 ∧ mi 148 22 ≤ 120; omega), ?_⟩
      rintro r2 M2 (⟨c2, rfl, rfl⟩ | ⟨c2, rfl, rfl⟩ | ⟨c2, rfl, rfl⟩ | ⟨c2, rfl, rfl⟩ | ⟨c2, rfl, rfl⟩ | ⟨c2, rfl, rfl⟩)
      · exfalso; omega
      · exfalso; omega
      · exfalso; omega
      · exfalso; omega
      · exact ⟨congrArg (fun z => some (gi z)) (rfl), _, _, rfl, hI.find ht (by decide)⟩
      · exfalso; omega
    · have f0 : (cFd mi 1) 148 0 = mi 148 0 := rfl
      have f2 : (cFd mi 1) 148 2 = mi 148 2 := rfl
      have f6 : (cFd mi 1) 148 6 = mi 148 6 := rfl
      have f22 : (cFd mi 1) 148 22 = mi 148 22 := rfl
      refine ⟨_, rfl, (rB _ (by decide) (by decide)), _, _, rfl, _, pM_feed hsz (n := 399) (by decide) (cFd mi 1) ml x n_ r_x r_n_ (SV.cFd hI ht (by decide)) (by show 0 ≤ mi 148 22 ∧ mi 148 22 ≤ 120; omega), ?_⟩
      rintro r2 M2 (⟨c2, rfl, rfl⟩ | ⟨c2, rfl, rfl⟩ | ⟨c2, rfl, rfl⟩ | ⟨c2, rfl, rfl⟩ | ⟨c2, rfl, rfl⟩ | ⟨c2, rfl, rfl⟩)
      · exfalso; omega
      · exfalso; omega
      · exfalso; omega
      · exfalso; omega
      · exfalso; omega
      · exact ⟨congrArg (fun z => some (gi z)) (rfl), _, _, rfl, hI.find ht (by decide)⟩
set_option maxHeartbeats 4000000 in
theorem op_sheet {G : gG} (hsz : G.2.2.2.2.2.2 = true) : gOp G Inv 139 238 3 := by
  intro t mi ml xs hlen hr ht hI
  match xs, hlen, hr with
  | [s, b, n_], _, hr =>
    have r_s := hr s (by simp)
    have r_b := hr b (by simp)
    have r_n_ := hr n_ (by simp)
    have hR := hI.1
    have hrep := hI.2.1
    have e0 : mi 1 0 = mi 148 0 := hrep.1.1
    have e2 : mi 1 2 = mi 148 2 := hrep.1.2.2.1
    have e3 : mi 1 3 = mi 148 6 := hrep.1.2.2.2.1
    refine ⟨_, pC_sheet hsz (n := 399) (by decide) mi ml s b n_ r_s r_b r_n_ hI.CV , ?_⟩
    rintro r M1 (⟨c, rfl, rfl⟩ | ⟨c, rfl, rfl⟩ | ⟨c, rfl, rfl⟩ | ⟨c, rfl, rfl⟩ | ⟨c, rfl, rfl⟩)
    · have f0 : (cBeg mi s b 0) 148 0 = mi 148 0 := cBeg_off (by omega) (by omega)
      have f2 : (cBeg mi s b 0) 148 2 = mi 148 2 := cBeg_off (by omega) (by omega)
      have f6 : (cBeg mi s b 0) 148 6 = mi 148 6 := cBeg_off (by omega) (by omega)
      refine ⟨_, rfl, (cBeg_R hR r_b ⟨by omega, by omega⟩ _ _), _, _, rfl, _, pM_sheet hsz (n := 399) (by decide) (cBeg mi s b 0) ml s b n_ r_s r_b r_n_ (hI.SV.low (cBeg_R hR r_b ⟨by omega, by omega⟩) (fun c k h => cBeg_off (by omega) (by omega))) , ?_⟩
      rintro r2 M2 (⟨c2, rfl, rfl⟩ | ⟨c2, rfl, rfl⟩ | ⟨c2, rfl, rfl⟩ | ⟨c2, rfl, rfl⟩ | ⟨c2, rfl, rfl⟩)
      · exact ⟨congrArg (fun z => some (gi z)) ((by unfold mBeg mBg0 cBeg cBg0; rw [gfl_off (by omega), gfl_off (by omega), gu_self, gu_self])), _, _, rfl, inv_sheet hI (by omega) (by omega) (by omega) (by omega)⟩
      · exfalso; omega
      · exfalso; omega
      · exfalso; omega
      · exfalso; omega
    · have f0 : (cBeg mi s b n_) 148 0 = mi 148 0 := cBeg_off (by omega) (by omega)
      have f2 : (cBeg mi s b n_) 148 2 = mi 148 2 := cBeg_off (by omega) (by omega)
      have f6 : (cBeg mi s b n_) 148 6 = mi 148 6 := cBeg_off (by omega) (by omega)
      refine ⟨_, rfl, (cBeg_R hR r_b ⟨by omega, by omega⟩ _ _), _, _, rfl, _, pM_sheet hsz (n := 399) (by decide) (cBeg mi s b n_) ml s b n_ r_s r_b r_n_ (hI.SV.low (cBeg_R hR r_b ⟨by omega, by omega⟩) (fun c k h => cBeg_off (by omega) (by omega))) , ?_⟩
      rintro r2 M2 (⟨c2, rfl, rfl⟩ | ⟨c2, rfl, rfl⟩ | ⟨c2, rfl, rfl⟩ | ⟨c2, rfl, rfl⟩ | ⟨c2, rfl, rfl⟩)
      · exfalso; omega
      · exact ⟨congrArg (fun z => some (gi z)) ((by unfold mBeg mBg0 cBeg cBg0; rw [gfl_off (by omega), gfl_off (by omega), gu_self, gu_self])), _, _, rfl, inv_sheet hI (by omega) (by omega) (by omega) (by omega)⟩
      · exfalso; omega
      · exfalso; omega
      · exfalso; omega
    · have f0 : (cFd mi 0) 148 0 = mi 148 0 := rfl
      have f2 : (cFd mi 0) 148 2 = mi 148 2 := rfl
      have f6 : (cFd mi 0) 148 6 = mi 148 6 := rfl
      refine ⟨_, rfl, (rB _ (by decide) (by decide)), _, _, rfl, _, pM_sheet hsz (n := 399) (by decide) (cFd mi 0) ml s b n_ r_s r_b r_n_ (SV.cFd hI ht (by decide)) , ?_⟩
      rintro r2 M2 (⟨c2, rfl, rfl⟩ | ⟨c2, rfl, rfl⟩ | ⟨c2, rfl, rfl⟩ | ⟨c2, rfl, rfl⟩ | ⟨c2, rfl, rfl⟩)
      · exfalso; omega
      · exfalso; omega
      · exact ⟨congrArg (fun z => some (gi z)) (rfl), _, _, rfl, hI.find ht (by decide)⟩
      · exfalso; omega
      · exfalso; omega
    · have f0 : (cFd mi 6) 148 0 = mi 148 0 := rfl
      have f2 : (cFd mi 6) 148 2 = mi 148 2 := rfl
      have f6 : (cFd mi 6) 148 6 = mi 148 6 := rfl
      refine ⟨_, rfl, (rB _ (by decide) (by decide)), _, _, rfl, _, pM_sheet hsz (n := 399) (by decide) (cFd mi 6) ml s b n_ r_s r_b r_n_ (SV.cFd hI ht (by decide)) , ?_⟩
      rintro r2 M2 (⟨c2, rfl, rfl⟩ | ⟨c2, rfl, rfl⟩ | ⟨c2, rfl, rfl⟩ | ⟨c2, rfl, rfl⟩ | ⟨c2, rfl, rfl⟩)
      · exfalso; omega
      · exfalso; omega
      · exfalso; omega
      · exact ⟨congrArg (fun z => some (gi z)) (rfl), _, _, rfl, hI.find ht (by decide)⟩
      · exfalso; omega
    · have f0 : (cFd mi 0) 148 0 = mi 148 0 := rfl
      have f2 : (cFd mi 0) 148 2 = mi 148 2 := rfl
      have f6 : (cFd mi 0) 148 6 = mi 148 6 := rfl
      refine ⟨_, rfl, (rB _ (by decide) (by decide)), _, _, rfl, _, pM_sheet hsz (n := 399) (by decide) (cFd mi 0) ml s b n_ r_s r_b r_n_ (SV.cFd hI ht (by decide)) , ?_⟩
      rintro r2 M2 (⟨c2, rfl, rfl⟩ | ⟨c2, rfl, rfl⟩ | ⟨c2, rfl, rfl⟩ | ⟨c2, rfl, rfl⟩ | ⟨c2, rfl, rfl⟩)
      · exfalso; omega
      · exfalso; omega
      · exfalso; omega
      · exfalso; omega
      · exact ⟨congrArg (fun z => some (gi z)) (rfl), _, _, rfl, hI.find ht (by decide)⟩
set_option maxHeartbeats 4000000 in
theorem op_write {G : gG} (hsz : G.2.2.2.2.2.2 = true) : gOp G Inv 140 239 3 := by
  intro t mi ml xs hlen hr ht hI
  match xs, hlen, hr with
  | [s, i, v], _, hr =>
    have r_s := hr s (by simp)
    have r_i := hr i (by simp)
    have r_v := hr v (by simp)
    have hR := hI.1
    have hrep := hI.2.1
    have e0 : mi 1 0 = mi 148 0 := hrep.1.1
    have e2 : mi 1 2 = mi 148 2 := hrep.1.2.2.1
    have e3 : mi 1 3 = mi 148 6 := hrep.1.2.2.2.1
    have hzs : (0 ≤ s ∧ s ≤ 3) → mi (139 + 2 * s.toNat) 0 = mi 172 s.toNat ∧ mi (139 + 2 * s.toNat) 1 = mi 173 s.toNat ∧ 0 ≤ mi 173 s.toNat ∧ mi 173 s.toNat ≤ 60 := fun h => (by obtain ⟨h1, h2, h3, h4, -⟩ := hI.2.2.2.2.1 s.toNat (by omega); exact ⟨h1, h2, h4⟩)
    refine ⟨_, pC_write hsz (n := 399) (by decide) mi ml s i v r_s r_i r_v hI.CV hI.hzC, ?_⟩
    rintro r M1 (⟨c, rfl, rfl⟩ | ⟨c, rfl, rfl⟩ | ⟨c, rfl, rfl⟩ | ⟨c, rfl, rfl⟩)
    · have f0 : (cFd mi 0) 148 0 = mi 148 0 := rfl
      have f2 : (cFd mi 0) 148 2 = mi 148 2 := rfl
      have f6 : (cFd mi 0) 148 6 = mi 148 6 := rfl
      have gs1 : (cFd mi 0) 172 s.toNat = mi 172 s.toNat := rfl
      have gs2 : (cFd mi 0) 173 s.toNat = mi 173 s.toNat := rfl
      refine ⟨_, rfl, (rB _ (by decide) (by decide)), _, _, rfl, _, pM_write hsz (n := 399) (by decide) (cFd mi 0) ml s i v r_s r_i r_v (SV.cFd hI ht (by decide)) (fun q q0 q1 => by rw [show (cFd mi 0) 173 q.toNat = mi 173 q.toNat from rfl, show (cFd mi 0) 172 q.toNat = mi 172 q.toNat from rfl]; exact hI.hzM q q0 q1), ?_⟩
      rintro r2 M2 (⟨c2, rfl, rfl⟩ | ⟨c2, rfl, rfl⟩ | ⟨c2, rfl, rfl⟩ | ⟨c2, rfl, rfl⟩)
      · exact ⟨congrArg (fun z => some (gi z)) (rfl), _, _, rfl, hI.find ht (by decide)⟩
      · exfalso; omega
      · exfalso; omega
      · exfalso; omega
    · have f0 : (cFd mi 5) 148 0 = mi 148 0 := rfl
      have f2 : (cFd mi 5) 148 2 = mi 148 2 := rfl
      have f6 : (cFd mi 5) 148 6 = mi 148 6 := rfl
      have gs1 : (cFd mi 5) 172 s.toNat = mi 172 s.toNat := rfl
      have gs2 : (cFd mi 5) 173 s.toNat = mi 173 s.toNat := rfl
      refine ⟨_, rfl, (rB _ (by decide) (by decide)), _, _, rfl, _, pM_write hsz (n := 399) (by decide) (cFd mi 5) ml s i v r_s r_i r_v (SV.cFd hI ht (by decide)) (fun q q0 q1 => by rw [show (cFd mi 5) 173 q.toNat = mi 173 q.toNat from rfl, show (cFd mi 5) 172 q.toNat = mi 172 q.toNat from rfl]; exact hI.hzM q q0 q1), ?_⟩
      rintro r2 M2 (⟨c2, rfl, rfl⟩ | ⟨c2, rfl, rfl⟩ | ⟨c2, rfl, rfl⟩ | ⟨c2, rfl, rfl⟩)
      · exfalso; omega
      · exact ⟨congrArg (fun z => some (gi z)) (rfl), _, _, rfl, hI.find ht (by decide)⟩
      · exfalso; omega
      · exfalso; omega
    · have f0 : (cFd mi 0) 148 0 = mi 148 0 := rfl
      have f2 : (cFd mi 0) 148 2 = mi 148 2 := rfl
      have f6 : (cFd mi 0) 148 6 = mi 148 6 := rfl
      have gs1 : (cFd mi 0) 172 s.toNat = mi 172 s.toNat := rfl
      have gs2 : (cFd mi 0) 173 s.toNat = mi 173 s.toNat := rfl
      refine ⟨_, rfl, (rB _ (by decide) (by decide)), _, _, rfl, _, pM_write hsz (n := 399) (by decide) (cFd mi 0) ml s i v r_s r_i r_v (SV.cFd hI ht (by decide)) (fun q q0 q1 => by rw [show (cFd mi 0) 173 q.toNat = mi 173 q.toNat from rfl, show (cFd mi 0) 172 q.toNat = mi 172 q.toNat from rfl]; exact hI.hzM q q0 q1), ?_⟩
      rintro r2 M2 (⟨c2, rfl, rfl⟩ | ⟨c2, rfl, rfl⟩ | ⟨c2, rfl, rfl⟩ | ⟨c2, rfl, rfl⟩)
      · exfalso; omega
      · exfalso; omega
      · exact ⟨congrArg (fun z => some (gi z)) (rfl), _, _, rfl, hI.find ht (by decide)⟩
      · exfalso; omega
    · have f0 : (cChg mi s i v) 148 0 = mi 148 0 := gu_other (by omega)
      have f2 : (cChg mi s i v) 148 2 = mi 148 2 := gu_other (by omega)
      have f6 : (cChg mi s i v) 148 6 = mi 148 6 := gu_other (by omega)
      have gs1 : (cChg mi s i v) 172 s.toNat = mi 172 s.toNat := gu_other (by omega)
      have gs2 : (cChg mi s i v) 173 s.toNat = mi 173 s.toNat := gu_other (by omega)
      refine ⟨_, rfl, (rB _ (by decide) (by decide)), _, _, rfl, _, pM_write hsz (n := 399) (by decide) (cChg mi s i v) ml s i v r_s r_i r_v (hI.SV.low (gR32_gu hR (by split <;> first | exact r_v | exact rng_toInt _)) (fun c k h => gu_other (by omega))) (fun q q0 q1 => by rw [show (cChg mi s i v) 173 q.toNat = mi 173 q.toNat from gu_other (by omega), show (cChg mi s i v) 172 q.toNat = mi 172 q.toNat from gu_other (by omega)]; exact hI.hzM q q0 q1), ?_⟩
      rintro r2 M2 (⟨c2, rfl, rfl⟩ | ⟨c2, rfl, rfl⟩ | ⟨c2, rfl, rfl⟩ | ⟨c2, rfl, rfl⟩)
      · exfalso; omega
      · exfalso; omega
      · exfalso; omega
      · exact ⟨congrArg (fun z => some (gi z)) (rfl), _, _, rfl, inv_write hI (by omega) (by omega) r_v (by omega)⟩
set_option maxHeartbeats 4000000 in
theorem op_copy {G : gG} (hsz : G.2.2.2.2.2.2 = true) : gOp G Inv 141 240 5 := by
  intro t mi ml xs hlen hr ht hI
  match xs, hlen, hr with
  | [s, u, r, v, n_], _, hr =>
    have r_s := hr s (by simp)
    have r_u := hr u (by simp)
    have r_r := hr r (by simp)
    have r_v := hr v (by simp)
    have r_n_ := hr n_ (by simp)
    have hR := hI.1
    have hrep := hI.2.1
    have e0 : mi 1 0 = mi 148 0 := hrep.1.1
    have e2 : mi 1 2 = mi 148 2 := hrep.1.2.2.1
    have e3 : mi 1 3 = mi 148 6 := hrep.1.2.2.2.1
    have hzs : (0 ≤ s ∧ s ≤ 3) → mi (139 + 2 * s.toNat) 0 = mi 172 s.toNat ∧ mi (139 + 2 * s.toNat) 1 = mi 173 s.toNat ∧ 0 ≤ mi 173 s.toNat ∧ mi 173 s.toNat ≤ 60 := fun h => (by obtain ⟨h1, h2, h3, h4, -⟩ := hI.2.2.2.2.1 s.toNat (by omega); exact ⟨h1, h2, h4⟩)
    have hzt : (0 ≤ r ∧ r ≤ 3) → mi (139 + 2 * r.toNat) 0 = mi 172 r.toNat ∧ mi (139 + 2 * r.toNat) 1 = mi 173 r.toNat ∧ 0 ≤ mi 173 r.toNat ∧ mi 173 r.toNat ≤ 60 := fun h => (by obtain ⟨h1, h2, h3, h4, -⟩ := hI.2.2.2.2.1 r.toNat (by omega); exact ⟨h1, h2, h4⟩)
    refine ⟨_, pC_copy hsz (n := 399) (by decide) mi ml s u r v n_ r_s r_u r_r r_v r_n_ hI.CV hI.hzC, ?_⟩
    rintro r M1 (⟨c, rfl, rfl⟩ | ⟨c, rfl, rfl⟩ | ⟨c, rfl, rfl⟩ | ⟨c, rfl, rfl⟩ | ⟨c, rfl, rfl⟩)
    · have f0 : (cFd mi 0) 148 0 = mi 148 0 := rfl
      have f2 : (cFd mi 0) 148 2 = mi 148 2 := rfl
      have f6 : (cFd mi 0) 148 6 = mi 148 6 := rfl
      have gs1 : (cFd mi 0) 172 s.toNat = mi 172 s.toNat := rfl
      have gr1 : (cFd mi 0) 172 r.toNat = mi 172 r.toNat := rfl
      have gs2 : (cFd mi 0) 173 s.toNat = mi 173 s.toNat := rfl
      have gr2 : (cFd mi 0) 173 r.toNat = mi 173 r.toNat := rfl
      refine ⟨_, rfl, (rB _ (by decide) (by decide)), _, _, rfl, _, pM_copy hsz (n := 399) (by decide) (cFd mi 0) ml s u r v n_ r_s r_u r_r r_v r_n_ (SV.cFd hI ht (by decide)) (fun q q0 q1 => by rw [show (cFd mi 0) 173 q.toNat = mi 173 q.toNat from rfl, show (cFd mi 0) 172 q.toNat = mi 172 q.toNat from rfl]; exact hI.hzM q q0 q1), ?_⟩
      rintro r2 M2 (⟨c2, rfl, rfl⟩ | ⟨c2, rfl, rfl⟩ | ⟨c2, rfl, rfl⟩ | ⟨c2, rfl, rfl⟩ | ⟨c2, rfl, rfl⟩)
      · exact ⟨congrArg (fun z => some (gi z)) (rfl), _, _, rfl, hI.find ht (by decide)⟩
      · exfalso; omega
      · exfalso; omega
      · exfalso; omega
      · exfalso; omega
    · have f0 : (cFd mi 5) 148 0 = mi 148 0 := rfl
      have f2 : (cFd mi 5) 148 2 = mi 148 2 := rfl
      have f6 : (cFd mi 5) 148 6 = mi 148 6 := rfl
      have gs1 : (cFd mi 5) 172 s.toNat = mi 172 s.toNat := rfl
      have gr1 : (cFd mi 5) 172 r.toNat = mi 172 r.toNat := rfl
      have gs2 : (cFd mi 5) 173 s.toNat = mi 173 s.toNat := rfl
      have gr2 : (cFd mi 5) 173 r.toNat = mi 173 r.toNat := rfl
      refine ⟨_, rfl, (rB _ (by decide) (by decide)), _, _, rfl, _, pM_copy hsz (n := 399) (by decide) (cFd mi 5) ml s u r v n_ r_s r_u r_r r_v r_n_ (SV.cFd hI ht (by decide)) (fun q q0 q1 => by rw [show (cFd mi 5) 173 q.toNat = mi 173 q.toNat from rfl, show (cFd mi 5) 172 q.toNat = mi 172 q.toNat from rfl]; exact hI.hzM q q0 q1), ?_⟩
      rintro r2 M2 (⟨c2, rfl, rfl⟩ | ⟨c2, rfl, rfl⟩ | ⟨c2, rfl, rfl⟩ | ⟨c2, rfl, rfl⟩ | ⟨c2, rfl, rfl⟩)
      · exfalso; omega
      · exact ⟨congrArg (fun z => some (gi z)) (rfl), _, _, rfl, hI.find ht (by decide)⟩
      · exfalso; omega
      · exfalso; omega
      · exfalso; omega
    · have f0 : (cFd mi 2) 148 0 = mi 148 0 := rfl
      have f2 : (cFd mi 2) 148 2 = mi 148 2 := rfl
      have f6 : (cFd mi 2) 148 6 = mi 148 6 := rfl
      have gs1 : (cFd mi 2) 172 s.toNat = mi 172 s.toNat := rfl
      have gr1 : (cFd mi 2) 172 r.toNat = mi 172 r.toNat := rfl
      have gs2 : (cFd mi 2) 173 s.toNat = mi 173 s.toNat := rfl
      have gr2 : (cFd mi 2) 173 r.toNat = mi 173 r.toNat := rfl
      refine ⟨_, rfl, (rB _ (by decide) (by decide)), _, _, rfl, _, pM_copy hsz (n := 399) (by decide) (cFd mi 2) ml s u r v n_ r_s r_u r_r r_v r_n_ (SV.cFd hI ht (by decide)) (fun q q0 q1 => by rw [show (cFd mi 2) 173 q.toNat = mi 173 q.toNat from rfl, show (cFd mi 2) 172 q.toNat = mi 172 q.toNat from rfl]; exact hI.hzM q q0 q1), ?_⟩
      rintro r2 M2 (⟨c2, rfl, rfl⟩ | ⟨c2, rfl, rfl⟩ | ⟨c2, rfl, rfl⟩ | ⟨c2, rfl, rfl⟩ | ⟨c2, rfl, rfl⟩)
      · exfalso; omega
      · exfalso; omega
      · exact ⟨congrArg (fun z => some (gi z)) (rfl), _, _, rfl, hI.find ht (by decide)⟩
      · exfalso; omega
      · exfalso; omega
    · have f0 : (cFd mi 0) 148 0 = mi 148 0 := rfl
      have f2 : (cFd mi 0) 148 2 = mi 148 2 := rfl
      have f6 : (cFd mi 0) 148 6 = mi 148 6 := rfl
      have gs1 : (cFd mi 0) 172 s.toNat = mi 172 s.toNat := rfl
      have gr1 : (cFd mi 0) 172 r.toNat = mi 172 r.toNat := rfl
      have gs2 : (cFd mi 0) 173 s.toNat = mi 173 s.toNat := rfl
      have gr2 : (cFd mi 0) 173 r.toNat = mi 173 r.toNat := rfl
      refine ⟨_, rfl, (rB _ (by decide) (by decide)), _, _, rfl, _, pM_copy hsz (n := 399) (by decide) (cFd mi 0) ml s u r v n_ r_s r_u r_r r_v r_n_ (SV.cFd hI ht (by decide)) (fun q q0 q1 => by rw [show (cFd mi 0) 173 q.toNat = mi 173 q.toNat from rfl, show (cFd mi 0) 172 q.toNat = mi 172 q.toNat from rfl]; exact hI.hzM q q0 q1), ?_⟩
      rintro r2 M2 (⟨c2, rfl, rfl⟩ | ⟨c2, rfl, rfl⟩ | ⟨c2, rfl, rfl⟩ | ⟨c2, rfl, rfl⟩ | ⟨c2, rfl, rfl⟩)
      · exfalso; omega
      · exfalso; omega
      · exfalso; omega
      · exact ⟨congrArg (fun z => some (gi z)) (rfl), _, _, rfl, hI.find ht (by decide)⟩
      · exfalso; omega
    · have f0 : (gcpy mi (140 + 2 * s.toNat) u.toNat (140 + 2 * r.toNat) v.toNat n_.toNat) 148 0 = mi 148 0 := gcpy_off (by omega)
      have f2 : (gcpy mi (140 + 2 * s.toNat) u.toNat (140 + 2 * r.toNat) v.toNat n_.toNat) 148 2 = mi 148 2 := gcpy_off (by omega)
      have f6 : (gcpy mi (140 + 2 * s.toNat) u.toNat (140 + 2 * r.toNat) v.toNat n_.toNat) 148 6 = mi 148 6 := gcpy_off (by omega)
      have gs1 : (gcpy mi (140 + 2 * s.toNat) u.toNat (140 + 2 * r.toNat) v.toNat n_.toNat) 172 s.toNat = mi 172 s.toNat := gcpy_off (by omega)
      have gr1 : (gcpy mi (140 + 2 * s.toNat) u.toNat (140 + 2 * r.toNat) v.toNat n_.toNat) 172 r.toNat = mi 172 r.toNat := gcpy_off (by omega)
      have gs2 : (gcpy mi (140 + 2 * s.toNat) u.toNat (140 + 2 * r.toNat) v.toNat n_.toNat) 173 s.toNat = mi 173 s.toNat := gcpy_off (by omega)
      have gr2 : (gcpy mi (140 + 2 * s.toNat) u.toNat (140 + 2 * r.toNat) v.toNat n_.toNat) 173 r.toNat = mi 173 r.toNat := gcpy_off (by omega)
      refine ⟨_, rfl, r_n_, _, _, rfl, _, pM_copy hsz (n := 399) (by decide) (gcpy mi (140 + 2 * s.toNat) u.toNat (140 + 2 * r.toNat) v.toNat n_.toNat) ml s u r v n_ r_s r_u r_r r_v r_n_ (hI.SV.low (gcpy_R hR) (fun c k h => gcpy_off (by omega))) (fun q q0 q1 => by rw [show (gcpy mi (140 + 2 * s.toNat) u.toNat (140 + 2 * r.toNat) v.toNat n_.toNat) 173 q.toNat = mi 173 q.toNat from gcpy_off (by omega), show (gcpy mi (140 + 2 * s.toNat) u.toNat (140 + 2 * r.toNat) v.toNat n_.toNat) 172 q.toNat = mi 172 q.toNat from gcpy_off (by omega)]; exact hI.hzM q q0 q1), ?_⟩
      rintro r2 M2 (⟨c2, rfl, rfl⟩ | ⟨c2, rfl, rfl⟩ | ⟨c2, rfl, rfl⟩ | ⟨c2, rfl, rfl⟩ | ⟨c2, rfl, rfl⟩)
      · exfalso; omega
      · exfalso; omega
      · exfalso; omega
      · exfalso; omega
      · exact ⟨congrArg (fun z => some (gi z)) (rfl), _, _, rfl, inv_copy hI (by omega) (by omega) (by omega) (by omega)⟩

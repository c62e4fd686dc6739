def rC (can : Nat → Nat → Bool) (k : Nat) (s : Int) (p : Nat) : Prop := can k p = true ∧ ib s p = false
/-- the best of one place in the table, behind the pitches below q -/
def rBe (can : Nat → Nat → Bool) (m : Nat → Nat → Int) (k s q b : Int) : Prop := m 168 (4096 * k + 4096 + s).toNat ≤ b ∧ (∀ p : Nat, (p : Int) < q → rC can k.toNat s p → 1 + m 168 (4096 * k + 4096 + orI s (shlI 1 (p : Nat))).toNat ≤ b) ∧ (b = m 168 (4096 * k + 4096 + s).toNat ∨ ∃ p : Nat, (p : Int) < q ∧ rC can k.toNat s p ∧ b = 1 + m 168 (4096 * k + 4096 + orI s (shlI 1 (p : Nat))).toNat)
theorem rBe_skip {can : Nat → Nat → Bool} {m : Nat → Nat → Int} {k s q b : Int} (h : rBe can m k s q b) (q0 : 0 ≤ q) (hn : ¬ rC can k.toNat s q.toNat) : rBe can m k s (q + 1) b := by
  obtain ⟨h1, h2, h3⟩ := h
  refine ⟨h1, fun p hp hc => ?_, ?_⟩
  · by_cases e : (p : Int) = q
    · rw [show p = q.toNat by omega] at hc; exact absurd hc hn
    · exact h2 p (by omega) hc
  · rcases h3 with h | ⟨p, p1, p2⟩
    · exact Or.inl h
    · exact Or.inr ⟨p, by omega, p2⟩
theorem rBe_take {can : Nat → Nat → Bool} {m : Nat → Nat → Int} {k s q b b' : Int} (h : rBe can m k s q b) (q0 : 0 ≤ q) (hc : rC can k.toNat s q.toNat) (hb : (b < 1 + m 168 (4096 * k + 4096 + orI s (shlI 1 q)).toNat ∧ b' = 1 + m 168 (4096 * k + 4096 + orI s (shlI 1 q)).toNat) ∨ (1 + m 168 (4096 * k + 4096 + orI s (shlI 1 q)).toNat ≤ b ∧ b' = b)) : rBe can m k s (q + 1) b' := by
  obtain ⟨h1, h2, h3⟩ := h
  have eq : ((q.toNat : Nat) : Int) = q := by omega
  refine ⟨?_, fun p hp hc' => ?_, ?_⟩
  · clear h3; omega
  · clear h3
    by_cases e : (p : Int) = q
    · rw [e]; omega
    · have := h2 p (by omega) hc'; omega
  · rcases hb with ⟨x1, x2⟩ | ⟨x1, x2⟩
    · exact Or.inr ⟨q.toNat, by omega, hc, by rw [eq]; exact x2⟩
    · rcases h3 with h | ⟨p, p1, p2, p3⟩
      · exact Or.inl (by omega)
      · exact Or.inr ⟨p, by omega, p2, by omega⟩
theorem mCn_iff {mi : Nat → Nat → Int} {D : Int} {wt : Nat → Int} {k q : Int} (k0 : 0 ≤ k) (q0 : 0 ≤ q) (q1 : q < mi 148 2) (hP : mi 148 2 ≤ 12) : mCn mi D wt k.toNat q.toNat = true ↔ (andI (shrI D q) 1 = 1 ∧ mWhy mi (wt k.toNat) q = 0) := by
  have e : q = ((q.toNat : Nat) : Int) := by omega
  have hb := bit_ib D (p := q.toNat) (by omega)
  rw [← e] at hb
  unfold mCn
  rw [decide_eq_true (show ((q.toNat : Nat) : Int) < mi 148 2 by omega), Bool.and_true, Bool.and_eq_true, decide_eq_true_eq, ← e, hb]
  cases ib D q.toNat <;> simp
theorem ibs_iff {s q : Int} (q0 : 0 ≤ q) (q1 : q < 12) : ib s q.toNat = false ↔ andI (shrI s q) 1 = 0 := by
  have e : q = ((q.toNat : Nat) : Int) := by omega
  have hb := bit_ib s (p := q.toNat) (by omega)
  rw [← e] at hb
  rw [hb]
  cases ib s q.toNat <;> simp
set_option maxRecDepth 100000 in
set_option maxHeartbeats 4000000 in
theorem lM_rp {G : gG} (hsz : G.2.2.2.2.2.2 = true) {n : Nat} (hn : 5 ≤ n) (mi : Nat → Nat → Int) (ml : Nat → Nat → Int64) (x a w D : Int) (r_x : rng x) (r_a : rng a) (wt : Nat → Int) (hw : 0 ≤ w ∧ w ≤ 12) (hwt : ∀ i : Nat, (i : Int) < w → 0 ≤ wt i ∧ wt i < mi 148 6) (hv : SV mi) (k s : Int) (k0 : 0 ≤ k) (k1 : k < w) (s0 : 0 ≤ s) (s1 : s < ((2 ^ (mi 148 2).toNat : Nat) : Int)) (m : Nat → Nat → Int) (hm : rMo m mi) (hmR : gR32 m) (h69 : ∀ i : Nat, (i : Int) < w → m 169 i = wt i) (htb : ∀ s1 : Int, 0 ≤ s1 → s1 < ((2 ^ (mi 148 2).toNat : Nat) : Int) → rTb (mCn mi D wt) w.toNat m (k + 1) s1) (P : Option gV → gMe → Prop) (kk : ∀ b : Int, rBe (mCn mi D wt) m k s (mi 148 2) b → (0 ≤ b ∧ b ≤ 13) → Go G mX12_rescue n 0 0 283 [some (gr 148), some (gi x), some (gi a), some (gi w), some (gi D), some (gi k), some (gi s), some (gi b), none, none, none] [] (gw m ml) P) : ∀ (f : Nat) (q : Int) (b : Int) (hb : rBe (mCn mi D wt) m k s q b), 0 ≤ q → q ≤ mi 148 2 → mi 148 2 - q < f → (0 ≤ b ∧ b ≤ 13) → Go G mX12_rescue n 0 0 166 [some (gr 148), some (gi x), some (gi a), some (gi w), some (gi D), some (gi k), some (gi s), some (gi b), some (gi q), none, none] [] (gw m ml) (P) := by
  have hn1 : 1 ≤ n := by omega
  obtain ⟨hR, ht, hp, hq, hP, hQ⟩ := id hv
  intro f
  induction f with
  | zero => intros; omega
  | succ f ih =>
    intro q b hb q0 q1 q2 hb3
    have e2 : m 148 2 = mi 148 2 := hm 148 2 (by decide) (by decide)
    have hvm := hv.oR hmR hm
    have hk6 := h69 k.toNat (by omega)
    have hwk := hwt k.toNat (by omega)
    have hpl := pow_le12 (mi 148 2).toNat (by omega)
    refine Go.run hsz hn1 3 (pc' := 172) (lv' := [some (gr 148), some (gi x), some (gi a), some (gi w), some (gi D), some (gi k), some (gi s), some (gi b), some (gi q), none, none]) (st' := [gi (m 148 2), gi q]) (M' := gw m ml) rfl ?_
    refine Go.icmp_ge (by rfl) ⟨by omega, by omega⟩ (hmR _ _) (fun kq1 => ?_) (fun kq1 => ?_)
    · refine Go.dropl 8 ?_
      refine Go.run hsz hn1 0 (pc' := 283) (lv' := [some (gr 148), some (gi x), some (gi a), some (gi w), some (gi D), some (gi k), some (gi s), some (gi b), none, none, none]) (st' := []) (M' := gw m ml) rfl ?_
      first | (have hq : q = mi 148 2 := (by omega); rw [hq] at hb; exact kk b hb (by omega)) | (exfalso; omega)
    · refine Go.run hsz hn1 2 (pc' := 178) (lv' := [some (gr 148), some (gi x), some (gi a), some (gi w), some (gi D), some (gi k), some (gi s), some (gi b), some (gi q), none, none]) (st' := [gi w, gi k]) (M' := gw m ml) rfl ?_
      refine Go.icmp_ge (by rfl) ⟨by omega, by omega⟩ ⟨by omega, by omega⟩ (fun kq2 => ?_) (fun kq2 => ?_)
      · refine Go.dropl 8 ?_
        refine Go.run hsz hn1 0 (pc' := 283) (lv' := [some (gr 148), some (gi x), some (gi a), some (gi w), some (gi D), some (gi k), some (gi s), some (gi b), none, none, none]) (st' := []) (M' := gw m ml) rfl ?_
        first | (have hq : q = mi 148 2 := (by omega); rw [hq] at hb; exact kk b hb (by omega)) | (exfalso; omega)
      · refine Go.run hsz hn1 5 (pc' := 188) (lv' := [some (gr 148), some (gi x), some (gi a), some (gi w), some (gi D), some (gi k), some (gi s), some (gi b), some (gi q), none, none]) (st' := [gi (andI (shrI s q) 1)]) (M' := gw m ml) rfl ?_
        refine Go.if_ne (by rfl) (rng_of _) (fun kq3 => ?_) (fun kq3 => ?_)
        · refine Go.run hsz hn1 3 (pc' := 227) (lv' := [some (gr 148), some (gi x), some (gi a), some (gi w), some (gi D), some (gi k), some (gi s), some (gi b), some (gi q), some (gi 0), none]) (st' := [gi 0]) (M' := gw m ml) rfl ?_
          refine Go.if_eq (by rfl) ⟨by decide, by decide⟩ (fun kq4 => ?_) (fun kq4 => ?_)
          · refine Go.run hsz hn1 4 (pc' := 265) (lv' := [some (gr 148), some (gi x), some (gi a), some (gi w), some (gi D), some (gi k), some (gi s), some (gi b), some (gi q), some (gi 0), some (gi 0)]) (st' := [gi b, gi 0]) (M' := gw m ml) rfl ?_
            refine Go.icmp_le (by rfl) ⟨by decide, by decide⟩ ⟨by omega, by omega⟩ (fun kq5 => ?_) (fun kq5 => ?_)
            · refine Go.run hsz hn1 4 (pc' := 166) (lv' := [some (gr 148), some (gi x), some (gi a), some (gi w), some (gi D), some (gi k), some (gi s), some (gi b), some (gi (q + 1)), some (gi 0), some (gi 0)]) (st' := []) (M' := gw m ml) rfl ?_
              refine Go.dropl 9 ?_
              refine Go.dropl 10 ?_
              refine Go.run hsz hn1 0 (pc' := 166) (lv' := [some (gr 148), some (gi x), some (gi a), some (gi w), some (gi D), some (gi k), some (gi s), some (gi b), some (gi (q + 1)), none, none]) (st' := []) (M' := gw m ml) rfl ?_
              first | exact ih (q + 1) b (rBe_skip hb (by omega) (fun z => (by have z1 := (mCn_iff k0 (by omega) (by omega) hp.2).mp z.1; have z2 := (ibs_iff (by omega) (by omega)).mp z.2; omega))) (by omega) (by omega) (by omega) (by omega) | (exfalso; omega)
            · refine Go.run hsz hn1 5 (pc' := 166) (lv' := [some (gr 148), some (gi x), some (gi a), some (gi w), some (gi D), some (gi k), some (gi s), some (gi 0), some (gi (q + 1)), some (gi 0), some (gi 0)]) (st' := []) (M' := gw m ml) rfl ?_
              refine Go.dropl 9 ?_
              refine Go.dropl 10 ?_
              refine Go.run hsz hn1 0 (pc' := 166) (lv' := [some (gr 148), some (gi x), some (gi a), some (gi w), some (gi D), some (gi k), some (gi s), some (gi 0), some (gi (q + 1)), none, none]) (st' := []) (M' := gw m ml) rfl ?_
              first | exact ih (q + 1) b (rBe_skip hb (by omega) (fun z => (by have z1 := (mCn_iff k0 (by omega) (by omega) hp.2).mp z.1; have z2 := (ibs_iff (by omega) (by omega)).mp z.2; omega))) (by omega) (by omega) (by omega) (by omega) | (exfalso; omega)
          · exact absurd kq4 (by decide)
        · refine Go.run hsz hn1 6 (pc' := 199) (lv' := [some (gr 148), some (gi x), some (gi a), some (gi w), some (gi D), some (gi k), some (gi s), some (gi b), some (gi q), none, none]) (st' := [gi 1, gi (andI (shrI D q) 1)]) (M' := gw m ml) rfl ?_
          refine Go.icmp_ne (by rfl) (rng_of _) ⟨by decide, by decide⟩ (fun kq6 => ?_) (fun kq6 => ?_)
          · refine Go.run hsz hn1 3 (pc' := 227) (lv' := [some (gr 148), some (gi x), some (gi a), some (gi w), some (gi D), some (gi k), some (gi s), some (gi b), some (gi q), some (gi 0), none]) (st' := [gi 0]) (M' := gw m ml) rfl ?_
            refine Go.if_eq (by rfl) ⟨by decide, by decide⟩ (fun kq7 => ?_) (fun kq7 => ?_)
            · refine Go.run hsz hn1 4 (pc' := 265) (lv' := [some (gr 148), some (gi x), some (gi a), some (gi w), some (gi D), some (gi k), some (gi s), some (gi b), some (gi q), some (gi 0), some (gi 0)]) (st' := [gi b, gi 0]) (M' := gw m ml) rfl ?_
              refine Go.icmp_le (by rfl) ⟨by decide, by decide⟩ ⟨by omega, by omega⟩ (fun kq8 => ?_) (fun kq8 => ?_)
              · refine Go.run hsz hn1 4 (pc' := 166) (lv' := [some (gr 148), some (gi x), some (gi a), some (gi w), some (gi D), some (gi k), some (gi s), some (gi b), some (gi (q + 1)), some (gi 0), some (gi 0)]) (st' := []) (M' := gw m ml) rfl ?_
                refine Go.dropl 9 ?_
                refine Go.dropl 10 ?_
                refine Go.run hsz hn1 0 (pc' := 166) (lv' := [some (gr 148), some (gi x), some (gi a), some (gi w), some (gi D), some (gi k), some (gi s), some (gi b), some (gi (q + 1)), none, none]) (st' := []) (M' := gw m ml) rfl ?_
                first | exact ih (q + 1) b (rBe_skip hb (by omega) (fun z => (by have z1 := (mCn_iff k0 (by omega) (by omega) hp.2).mp z.1; have z2 := (ibs_iff (by omega) (by omega)).mp z.2; omega))) (by omega) (by omega) (by omega) (by omega) | (exfalso; omega)
              · refine Go.run hsz hn1 5 (pc' := 166) (lv' := [some (gr 148), some (gi x), some (gi a), some (gi w), some (gi D), some (gi k), some (gi s), some (gi 0), some (gi (q + 1)), some (gi 0), some (gi 0)]) (st' := []) (M' := gw m ml) rfl ?_
                refine Go.dropl 9 ?_
                refine Go.dropl 10 ?_
                refine Go.run hsz hn1 0 (pc' := 166) (lv' := [some (gr 148), some (gi x), some (gi a), some (gi w), some (gi D), some (gi k), some (gi s), some (gi 0), some (gi (q + 1)), none, none]) (st' := []) (M' := gw m ml) rfl ?_
                first | exact ih (q + 1) b (rBe_skip hb (by omega) (fun z => (by have z1 := (mCn_iff k0 (by omega) (by omega) hp.2).mp z.1; have z2 := (ibs_iff (by omega) (by omega)).mp z.2; omega))) (by omega) (by omega) (by omega) (by omega) | (exfalso; omega)
            · exact absurd kq7 (by decide)
          · refine Go.run hsz hn1 4 (pc' := 209) (lv' := [some (gr 148), some (gi x), some (gi a), some (gi w), some (gi D), some (gi k), some (gi s), some (gi b), some (gi q), none, none]) (st' := [gi k, gr 169, gr 148]) (M' := gw m ml) rfl ?_
            refine Go.iald (by rfl) (N := 12) (by rfl) (by omega) (by omega) (by decide) ?_
            refine Go.run hsz hn1 1 (pc' := 212) (lv' := [some (gr 148), some (gi x), some (gi a), some (gi w), some (gi D), some (gi k), some (gi s), some (gi b), some (gi q), none, none]) (st' := [gi q, gi (m 169 k.toNat), gr 148]) (M' := gw m ml) rfl ?_
            rw [hk6]
            refine Go.callV (As := [gi (wt k.toNat), gi q]) (b := 148) (st := []) (mc1 := 0) (mc := 0) (ms1 := 0) (ms := 0) (by rfl) rfl (c := 11) (N := 46) (by rfl) (by decide) (by rfl) (gcn 169 (by decide)).1 (gcn 169 (by decide)).2 rfl (Nat.le_of_ble_eq_true rfl) (by omega) (cM_whyNot hsz (n := n - 1) (by omega) m ml (wt k.toNat) q (by omega) (by omega) (by omega) (by omega) hmR (hvm.2.2.2.2.1 _ (by omega) (by rw [hm 148 6 (by decide) (by decide)]; omega))) ?_
            rintro _ _ ⟨rfl, rfl⟩
            rw [mWhy_c hm]
            have hwb := mWhy_b mi (wt k.toNat) q
            refine Go.run hsz hn1 0 (pc' := 215) (lv' := [some (gr 148), some (gi x), some (gi a), some (gi w), some (gi D), some (gi k), some (gi s), some (gi b), some (gi q), none, none]) (st' := [gi (mWhy mi (wt k.toNat) q)]) (M' := gw m ml) rfl ?_
            refine Go.if_ne (by rfl) ⟨by omega, by omega⟩ (fun kq9 => ?_) (fun kq9 => ?_)
            · refine Go.run hsz hn1 3 (pc' := 227) (lv' := [some (gr 148), some (gi x), some (gi a), some (gi w), some (gi D), some (gi k), some (gi s), some (gi b), some (gi q), some (gi 0), none]) (st' := [gi 0]) (M' := gw m ml) rfl ?_
              refine Go.if_eq (by rfl) ⟨by decide, by decide⟩ (fun kq10 => ?_) (fun kq10 => ?_)
              · refine Go.run hsz hn1 4 (pc' := 265) (lv' := [some (gr 148), some (gi x), some (gi a), some (gi w), some (gi D), some (gi k), some (gi s), some (gi b), some (gi q), some (gi 0), some (gi 0)]) (st' := [gi b, gi 0]) (M' := gw m ml) rfl ?_
                refine Go.icmp_le (by rfl) ⟨by decide, by decide⟩ ⟨by omega, by omega⟩ (fun kq11 => ?_) (fun kq11 => ?_)
                · refine Go.run hsz hn1 4 (pc' := 166) (lv' := [some (gr 148), some (gi x), some (gi a), some (gi w), some (gi D), some (gi k), some (gi s), some (gi b), some (gi (q + 1)), some (gi 0), some (gi 0)]) (st' := []) (M' := gw m ml) rfl ?_
                  refine Go.dropl 9 ?_
                  refine Go.dropl 10 ?_
                  refine Go.run hsz hn1 0 (pc' := 166) (lv' := [some (gr 148), some (gi x), some (gi a), some (gi w), some (gi D), some (gi k), some (gi s), some (gi b), some (gi (q + 1)), none, none]) (st' := []) (M' := gw m ml) rfl ?_
                  first | exact ih (q + 1) b (rBe_skip hb (by omega) (fun z => (by have z1 := (mCn_iff k0 (by omega) (by omega) hp.2).mp z.1; have z2 := (ibs_iff (by omega) (by omega)).mp z.2; omega))) (by omega) (by omega) (by omega) (by omega) | (exfalso; omega)
                · refine Go.run hsz hn1 5 (pc' := 166) (lv' := [some (gr 148), some (gi x), some (gi a), some (gi w), some (gi D), some (gi k), some (gi s), some (gi 0), some (gi (q + 1)), some (gi 0), some (gi 0)]) (st' := []) (M' := gw m ml) rfl ?_
                  refine Go.dropl 9 ?_
                  refine Go.dropl 10 ?_
                  refine Go.run hsz hn1 0 (pc' := 166) (lv' := [some (gr 148), some (gi x), some (gi a), some (gi w), some (gi D), some (gi k), some (gi s), some (gi 0), some (gi (q + 1)), none, none]) (st' := []) (M' := gw m ml) rfl ?_
                  first | exact ih (q + 1) b (rBe_skip hb (by omega) (fun z => (by have z1 := (mCn_iff k0 (by omega) (by omega) hp.2).mp z.1; have z2 := (ibs_iff (by omega) (by omega)).mp z.2; omega))) (by omega) (by omega) (by omega) (by omega) | (exfalso; omega)
              · exact absurd kq10 (by decide)
            · refine Go.run hsz hn1 4 (pc' := 227) (lv' := [some (gr 148), some (gi x), some (gi a), some (gi w), some (gi D), some (gi k), some (gi s), some (gi b), some (gi q), some (gi 1), none]) (st' := [gi 1]) (M' := gw m ml) rfl ?_
              refine Go.if_eq (by rfl) ⟨by decide, by decide⟩ (fun kq12 => ?_) (fun kq12 => ?_)
              · exact absurd kq12 (by decide)
              · refine Go.run hsz hn1 0 (pc' := 230) (lv' := [some (gr 148), some (gi x), some (gi a), some (gi w), some (gi D), some (gi k), some (gi s), some (gi b), some (gi q), some (gi 1), none]) (st' := []) (M' := gw m ml) rfl ?_
                have hC : rC (mCn mi D wt) k.toNat s q.toNat := ⟨(mCn_iff k0 (by omega) (by omega) hp.2).mpr ⟨by omega, by omega⟩, (ibs_iff (by omega) (by omega)).mpr (by omega)⟩
                have hor := or_set (n := (mi 148 2).toNat) (p := q.toNat) s0 s1 (by omega) (by omega)
                rw [show ((q.toNat : Nat) : Int) = q by omega] at hor
                have hpl := pow_le12 (mi 148 2).toNat (by omega)
                obtain ⟨d9, hd9, hx9⟩ := htb (orI s (shlI 1 q)) hor.1 hor.2
                rw [show 4096 * (k + 1) + orI s (shlI 1 q) = 4096 * k + 4096 + orI s (shlI 1 q) by omega] at hd9
                have hd8 : (d9 : Int) ≤ 12 := (by obtain ⟨⟨f9, -, e9⟩, -⟩ := hx9; have := cntB_le (fun p => decide (0 ≤ f9 p)) 12; unfold mCnt at e9; omega)
                refine Go.run hsz hn1 14 (pc' := 253) (lv' := [some (gr 148), some (gi x), some (gi a), some (gi w), some (gi D), some (gi k), some (gi s), some (gi b), some (gi q), some (gi 1), none]) (st' := [gi (((4096 * k) + 4096) + (orI s (shlI 1 q))), gr 168, gi 1]) (M' := gw m ml) rfl ?_
                refine Go.iald (by rfl) (N := 53248) (by rfl) (by omega) (by omega) (by decide) ?_
                refine Go.run hsz hn1 5 (pc' := 265) (lv' := [some (gr 148), some (gi x), some (gi a), some (gi w), some (gi D), some (gi k), some (gi s), some (gi b), some (gi q), some (gi 1), some (gi (1 + (m 168 ((((4096 * k) + 4096) + (orI s (shlI 1 q))).toNat))))]) (st' := [gi b, gi (1 + (m 168 ((((4096 * k) + 4096) + (orI s (shlI 1 q))).toNat)))]) (M' := gw m ml) rfl ?_
                refine Go.icmp_le (by rfl) ⟨by omega, by omega⟩ ⟨by omega, by omega⟩ (fun kq13 => ?_) (fun kq13 => ?_)
                · refine Go.run hsz hn1 4 (pc' := 166) (lv' := [some (gr 148), some (gi x), some (gi a), some (gi w), some (gi D), some (gi k), some (gi s), some (gi b), some (gi (q + 1)), some (gi 1), some (gi (1 + (m 168 ((((4096 * k) + 4096) + (orI s (shlI 1 q))).toNat))))]) (st' := []) (M' := gw m ml) rfl ?_
                  refine Go.dropl 9 ?_
                  refine Go.dropl 10 ?_
                  refine Go.run hsz hn1 0 (pc' := 166) (lv' := [some (gr 148), some (gi x), some (gi a), some (gi w), some (gi D), some (gi k), some (gi s), some (gi b), some (gi (q + 1)), none, none]) (st' := []) (M' := gw m ml) rfl ?_
                  exact ih (q + 1) b (rBe_take hb (by omega) hC (by omega)) (by omega) (by omega) (by omega) (by omega)
                · refine Go.run hsz hn1 5 (pc' := 166) (lv' := [some (gr 148), some (gi x), some (gi a), some (gi w), some (gi D), some (gi k), some (gi s), some (gi (1 + (m 168 ((((4096 * k) + 4096) + (orI s (shlI 1 q))).toNat)))), some (gi (q + 1)), some (gi 1), some (gi (1 + (m 168 ((((4096 * k) + 4096) + (orI s (shlI 1 q))).toNat))))]) (st' := []) (M' := gw m ml) rfl ?_
                  refine Go.dropl 9 ?_
                  refine Go.dropl 10 ?_
                  refine Go.run hsz hn1 0 (pc' := 166) (lv' := [some (gr 148), some (gi x), some (gi a), some (gi w), some (gi D), some (gi k), some (gi s), some (gi (1 + (m 168 ((((4096 * k) + 4096) + (orI s (shlI 1 q))).toNat)))), some (gi (q + 1)), none, none]) (st' := []) (M' := gw m ml) rfl ?_
                  exact ih (q + 1) (1 + (m 168 ((((4096 * k) + 4096) + (orI s (shlI 1 q))).toNat))) (rBe_take hb (by omega) hC (by omega)) (by omega) (by omega) (by omega) (by omega)
set_option maxRecDepth 100000 in
theorem lM_rp0 {G : gG} (hsz : G.2.2.2.2.2.2 = true) {n : Nat} (hn : 5 ≤ n) (mi : Nat → Nat → Int) (ml : Nat → Nat → Int64) (x a w D : Int) (r_x : rng x) (r_a : rng a) (wt : Nat → Int) (hw : 0 ≤ w ∧ w ≤ 12) (hwt : ∀ i : Nat, (i : Int) < w → 0 ≤ wt i ∧ wt i < mi 148 6) (hv : SV mi) (k s b : Int) (k0 : 0 ≤ k) (k1 : k ≤ 12) (hkw : w ≤ k) (m : Nat → Nat → Int) (hm : rMo m mi) (hmR : gR32 m) (h69 : ∀ i : Nat, (i : Int) < w → m 169 i = wt i) (P : Option gV → gMe → Prop) (kk : Go G mX12_rescue n 0 0 283 [some (gr 148), some (gi x), some (gi a), some (gi w), some (gi D), some (gi k), some (gi s), some (gi b), none, none, none] [] (gw m ml) P) : Go G mX12_rescue n 0 0 166 [some (gr 148), some (gi x), some (gi a), some (gi w), some (gi D), some (gi k), some (gi s), some (gi b), some (gi 0), none, none] [] (gw m ml) P := by
  have hn1 : 1 ≤ n := by omega
  obtain ⟨hR, ht, hp, hq, hP, hQ⟩ := id hv
  have e2 : m 148 2 = mi 148 2 := hm 148 2 (by decide) (by decide)
  refine Go.run hsz hn1 3 (pc' := 172) (lv' := [some (gr 148), some (gi x), some (gi a), some (gi w), some (gi D), some (gi k), some (gi s), some (gi b), some (gi 0), none, none]) (st' := [gi (m 148 2), gi 0]) (M' := gw m ml) rfl ?_
  refine Go.icmp_ge (by rfl) ⟨by decide, by decide⟩ (hmR _ _) (fun kq1 => ?_) (fun kq1 => ?_)
  · refine Go.dropl 8 ?_
    refine Go.run hsz hn1 0 (pc' := 283) (lv' := [some (gr 148), some (gi x), some (gi a), some (gi w), some (gi D), some (gi k), some (gi s), some (gi b), none, none, none]) (st' := []) (M' := gw m ml) rfl ?_
    exact kk
  · refine Go.run hsz hn1 2 (pc' := 178) (lv' := [some (gr 148), some (gi x), some (gi a), some (gi w), some (gi D), some (gi k), some (gi s), some (gi b), some (gi 0), none, none]) (st' := [gi w, gi k]) (M' := gw m ml) rfl ?_
    refine Go.icmp_ge (by rfl) ⟨by omega, by omega⟩ ⟨by omega, by omega⟩ (fun kq2 => ?_) (fun kq2 => ?_)
    · refine Go.dropl 8 ?_
      refine Go.run hsz hn1 0 (pc' := 283) (lv' := [some (gr 148), some (gi x), some (gi a), some (gi w), some (gi D), some (gi k), some (gi s), some (gi b), none, none, none]) (st' := []) (M' := gw m ml) rfl ?_
      exact kk
    · exfalso; omega
theorem rTb_gu {can : Nat → Nat → Bool} {w : Nat} {m : Nat → Nat → Int} {k s k1 s1 v : Int} (h : rTb can w m k1 s1) (hk : 0 ≤ k) (hs : 0 ≤ s ∧ s < 4096) (hk1 : 0 ≤ k1) (hs1 : 0 ≤ s1 ∧ s1 < 4096) (hne : ¬ (k = k1 ∧ s = s1)) : rTb can w (gu m 168 (4096 * k + s).toNat v) k1 s1 := by
  obtain ⟨d, h1, h2⟩ := h
  exact ⟨d, by rw [gu_ne (Or.inr (by omega))]; exact h1, h2⟩
theorem rTb_new {mi m : Nat → Nat → Int} {D w k s b : Int} {wt : Nat → Int} (hP : 0 ≤ mi 148 2 ∧ mi 148 2 ≤ 12) (k0 : 0 ≤ k) (k1 : k < w) (s0 : 0 ≤ s) (s1 : s < ((2 ^ (mi 148 2).toNat : Nat) : Int)) (htb : ∀ s1 : Int, 0 ≤ s1 → s1 < ((2 ^ (mi 148 2).toNat : Nat) : Int) → rTb (mCn mi D wt) w.toNat m (k + 1) s1) (hb : rBe (mCn mi D wt) m k s (mi 148 2) b) (hb0 : 0 ≤ b) : ∃ d : Nat, b = d ∧ mMax (mCn mi D wt) w.toNat k.toNat (ib s) d := by
  obtain ⟨h1, h2, h3⟩ := hb
  have ek : (k + 1).toNat = k.toNat + 1 := by omega
  have hlt : ∀ p : Nat, mCn mi D wt k.toNat p = true → (p : Int) < mi 148 2 := fun p hp => by
    unfold mCn at hp
    rw [Bool.and_eq_true, decide_eq_true_eq] at hp
    exact hp.2
  have ent : ∀ p : Nat, (p : Int) < mi 148 2 → ∃ d : Nat, m 168 (4096 * k + 4096 + orI s (shlI 1 (p : Nat))).toNat = d ∧ mMax (mCn mi D wt) w.toNat (k.toNat + 1) (fun q => ib s q || decide (q = p)) d := fun p hp => by
    have hor := or_set (n := (mi 148 2).toNat) (p := p) s0 s1 (by omega) (by omega)
    obtain ⟨d, d1, d2⟩ := htb _ hor.1 hor.2
    rw [show 4096 * (k + 1) + orI s (shlI 1 (p : Nat)) = 4096 * k + 4096 + orI s (shlI 1 (p : Nat)) by omega] at d1
    rw [ek] at d2
    exact ⟨d, d1, mMax_S (fun q hq => (ib_addf s (by omega) q hq).symm) d2⟩
  obtain ⟨d0, e1, e2⟩ := htb s s0 s1
  rw [show 4096 * (k + 1) + s = 4096 * k + 4096 + s by omega] at e1
  rw [ek] at e2
  refine ⟨b.toNat, by omega, mMax_step (d0 := d0) (by omega) e2 (fun p hp hc hs => ?_) (by omega) ?_⟩
  · obtain ⟨d, d1, d2⟩ := ent p (hlt p hc)
    have := h2 p (hlt p hc) ⟨hc, hs⟩
    exact ⟨d, d2, by omega⟩
  · rcases h3 with h | ⟨p, p1, p2, p3⟩
    · exact Or.inl (by omega)
    · obtain ⟨d, d1, d2⟩ := ent p p1
      exact Or.inr ⟨p, by omega, p2.1, p2.2, d, d2, by omega⟩
set_option maxRecDepth 100000 in
set_option maxHeartbeats 4000000 in
theorem lM_rs {G : gG} (hsz : G.2.2.2.2.2.2 = true) {n : Nat} (hn : 5 ≤ n) (mi : Nat → Nat → Int) (ml : Nat → Nat → Int64) (x a w D : Int) (r_x : rng x) (r_a : rng a) (wt : Nat → Int) (hw : 0 ≤ w ∧ w ≤ 12) (hwt : ∀ i : Nat, (i : Int) < w → 0 ≤ wt i ∧ wt i < mi 148 6) (hv : SV mi) (k : Int) (k0 : 0 ≤ k) (k1 : k ≤ w) (hsh : shlI 1 (mi 148 2) = ((2 ^ (mi 148 2).toNat : Nat) : Int)) (P : Option gV → gMe → Prop) (kk : ∀ m : Nat → Nat → Int, rMo m mi → gR32 m → (∀ i : Nat, (i : Int) < w → m 169 i = wt i) → (∀ k1 s1 : Int, k - 1 < k1 → k1 ≤ w → 0 ≤ s1 → s1 < ((2 ^ (mi 148 2).toNat : Nat) : Int) → rTb (mCn mi D wt) w.toNat m k1 s1) → Go G mX12_rescue n 0 0 114 [some (gr 148), some (gi x), some (gi a), some (gi w), some (gi D), some (gi (k - 1)), none, none, none, none, none] [] (gw m ml) P) : ∀ (f : Nat) (q : Int) (m : Nat → Nat → Int) (hm : rMo m mi) (hmR : gR32 m) (h69 : ∀ i : Nat, (i : Int) < w → m 169 i = wt i) (hup : ∀ k1 s1 : Int, k < k1 → k1 ≤ w → 0 ≤ s1 → s1 < ((2 ^ (mi 148 2).toNat : Nat) : Int) → rTb (mCn mi D wt) w.toNat m k1 s1) (hdn : ∀ s1 : Int, 0 ≤ s1 → s1 < q → rTb (mCn mi D wt) w.toNat m k s1), 0 ≤ q → q ≤ ((2 ^ (mi 148 2).toNat : Nat) : Int) → ((2 ^ (mi 148 2).toNat : Nat) : Int) - q < f → Go G mX12_rescue n 0 0 122 [some (gr 148), some (gi x), some (gi a), some (gi w), some (gi D), some (gi k), some (gi q), none, none, none, none] [] (gw m ml) (P) := by
  have hn1 : 1 ≤ n := by omega
  obtain ⟨hR, ht, hp, hq, hP, hQ⟩ := id hv
  have hpl := pow_le12 (mi 148 2).toNat (by omega)
  intro f
  induction f with
  | zero => intros; omega
  | succ f ih =>
    intro q m hm hmR h69 hup hdn q0 q1 q2
    have e2 : m 148 2 = mi 148 2 := hm 148 2 (by decide) (by decide)
    have hvm := hv.oR hmR hm
    have hsh2 : shlI 1 (m 148 2) = ((2 ^ (mi 148 2).toNat : Nat) : Int) := by rw [e2]; exact hsh
    refine Go.run hsz hn1 5 (pc' := 130) (lv' := [some (gr 148), some (gi x), some (gi a), some (gi w), some (gi D), some (gi k), some (gi q), none, none, none, none]) (st' := [gi (shlI 1 (m 148 2)), gi q]) (M' := gw m ml) rfl ?_
    refine Go.icmp_ge (by rfl) ⟨by omega, by omega⟩ (rng_of _) (fun kq1 => ?_) (fun kq1 => ?_)
    · refine Go.run hsz hn1 2 (pc' := 114) (lv' := [some (gr 148), some (gi x), some (gi a), some (gi w), some (gi D), some (gi (k + (-1))), some (gi q), none, none, none, none]) (st' := []) (M' := gw m ml) rfl ?_
      refine Go.dropl 6 ?_
      refine Go.run hsz hn1 0 (pc' := 114) (lv' := [some (gr 148), some (gi x), some (gi a), some (gi w), some (gi D), some (gi (k + (-1))), none, none, none, none, none]) (st' := []) (M' := gw m ml) rfl ?_
      rw [show k + (-1) = k - 1 by omega]
      refine kk m hm hmR h69 (fun k1 s1 a1 a2 a3 a4 => ?_)
      by_cases e : k1 = k
      · rw [e]; exact hdn s1 a3 (by omega)
      · exact hup k1 s1 (by omega) a2 a3 a4
    · refine Go.run hsz hn1 2 (pc' := 136) (lv' := [some (gr 148), some (gi x), some (gi a), some (gi w), some (gi D), some (gi k), some (gi q), none, none, none, none]) (st' := [gi w, gi k]) (M' := gw m ml) rfl ?_
      refine Go.icmp_ne (by rfl) ⟨by omega, by omega⟩ ⟨by omega, by omega⟩ (fun kq2 => ?_) (fun kq2 => ?_)
      · refine Go.run hsz hn1 9 (pc' := 160) (lv' := [some (gr 148), some (gi x), some (gi a), some (gi w), some (gi D), some (gi k), some (gi q), none, none, none, none]) (st' := [gi (((4096 * k) + 4096) + q), gr 168]) (M' := gw m ml) rfl ?_
        refine Go.iald (by rfl) (N := 53248) (by rfl) (by omega) (by omega) (by decide) ?_
        refine Go.run hsz hn1 3 (pc' := 166) (lv' := [some (gr 148), some (gi x), some (gi a), some (gi w), some (gi D), some (gi k), some (gi q), some (gi (m 168 ((((4096 * k) + 4096) + q).toNat))), some (gi 0), none, none]) (st' := []) (M' := gw m ml) rfl ?_
        have hkw : k < w := by omega
        have htb : ∀ s1 : Int, 0 ≤ s1 → s1 < ((2 ^ (mi 148 2).toNat : Nat) : Int) → rTb (mCn mi D wt) w.toNat m (k + 1) s1 := fun s1 a1 a2 => hup (k + 1) s1 (by omega) (by omega) a1 a2
        have hb0 : 0 ≤ m 168 (4096 * k + 4096 + q).toNat ∧ m 168 (4096 * k + 4096 + q).toNat ≤ 12 := (by obtain ⟨d9, hd9, ⟨⟨f9, -, e9⟩, -⟩⟩ := htb q (by omega) (by omega); have := cntB_le (fun p => decide (0 ≤ f9 p)) 12; unfold mCnt at e9; rw [show 4096 * (k + 1) + q = 4096 * k + 4096 + q by omega] at hd9; omega)
        refine lM_rp hsz (n := n) (by omega) mi ml x a w D r_x r_a wt hw hwt hv k q k0 hkw q0 (by omega) m hm hmR h69 htb _ (fun b9 hb9 hb8 => ?_) ((mi 148 2).toNat + 1) 0 _ ⟨Int.le_refl _, fun p hp => by omega, Or.inl rfl⟩ (by omega) (by omega) (by omega) (by omega)
        refine Go.run hsz hn1 8 (pc' := 298) (lv' := [some (gr 148), some (gi x), some (gi a), some (gi w), some (gi D), some (gi k), some (gi q), some (gi b9), none, none, none]) (st' := [gi b9, gi ((4096 * k) + q), gr 168]) (M' := gw m ml) rfl ?_
        refine Go.iast (by rfl) (N := 53248) (by rfl) (by omega) (by omega) (by decide) ?_
        refine Go.run hsz hn1 2 (pc' := 122) (lv' := [some (gr 148), some (gi x), some (gi a), some (gi w), some (gi D), some (gi k), some (gi (q + 1)), some (gi b9), none, none, none]) (st' := []) (M' := gw (gu m 168 (((4096 * k) + q).toNat) b9) ml) rfl ?_
        refine Go.dropl 7 ?_
        refine Go.run hsz hn1 0 (pc' := 122) (lv' := [some (gr 148), some (gi x), some (gi a), some (gi w), some (gi D), some (gi k), some (gi (q + 1)), none, none, none, none]) (st' := []) (M' := gw (gu m 168 (((4096 * k) + q).toNat) b9) ml) rfl ?_
        refine ih (q + 1) _ (fun c j h1 h2 => (gu_other h1).trans (hm c j h1 h2)) (gR32_gu hmR ⟨by omega, by omega⟩) (fun i hi => (gu_other (by decide)).trans (h69 i hi)) (fun k1 s1 a1 a2 a3 a4 => rTb_gu (hup k1 s1 a1 a2 a3 a4) (by omega) (by omega) (by omega) (by omega) (by omega)) (fun s1 a1 a2 => ?_) (by omega) (by omega) (by omega)
        by_cases e : s1 = q
        · rw [e]
          obtain ⟨d8, hd8, hx8⟩ := rTb_new hp k0 hkw q0 (by omega) htb hb9 hb8.1
          exact ⟨d8, by rw [gu_self]; exact hd8, hx8⟩
        · exact rTb_gu (hdn s1 a1 (by omega)) (by omega) (by omega) (by omega) (by omega) (by omega)
      · refine Go.run hsz hn1 5 (pc' := 166) (lv' := [some (gr 148), some (gi x), some (gi a), some (gi w), some (gi D), some (gi k), some (gi q), some (gi 0), some (gi 0), none, none]) (st' := []) (M' := gw m ml) rfl ?_
        have hkw : k = w := by omega
        refine lM_rp0 hsz (n := n) (by omega) mi ml x a w D r_x r_a wt hw hwt hv k q 0 (by omega) (by omega) (by omega) m hm hmR h69 _ ?_
        refine Go.run hsz hn1 8 (pc' := 298) (lv' := [some (gr 148), some (gi x), some (gi a), some (gi w), some (gi D), some (gi k), some (gi q), some (gi 0), none, none, none]) (st' := [gi 0, gi ((4096 * k) + q), gr 168]) (M' := gw m ml) rfl ?_
        refine Go.iast (by rfl) (N := 53248) (by rfl) (by omega) (by omega) (by decide) ?_
        refine Go.run hsz hn1 2 (pc' := 122) (lv' := [some (gr 148), some (gi x), some (gi a), some (gi w), some (gi D), some (gi k), some (gi (q + 1)), some (gi 0), none, none, none]) (st' := []) (M' := gw (gu m 168 (((4096 * k) + q).toNat) 0) ml) rfl ?_
        refine Go.dropl 7 ?_
        refine Go.run hsz hn1 0 (pc' := 122) (lv' := [some (gr 148), some (gi x), some (gi a), some (gi w), some (gi D), some (gi k), some (gi (q + 1)), none, none, none, none]) (st' := []) (M' := gw (gu m 168 (((4096 * k) + q).toNat) 0) ml) rfl ?_
        refine ih (q + 1) _ (fun c j h1 h2 => (gu_other h1).trans (hm c j h1 h2)) (gR32_gu hmR ⟨by omega, by omega⟩) (fun i hi => (gu_other (by decide)).trans (h69 i hi)) (fun k1 s1 a1 a2 a3 a4 => rTb_gu (hup k1 s1 a1 a2 a3 a4) (by omega) (by omega) (by omega) (by omega) (by omega)) (fun s1 a1 a2 => ?_) (by omega) (by omega) (by omega)
        by_cases e : s1 = q
        · rw [e]; exact ⟨0, gu_self _ _ _ _, mMax_end (by omega)⟩
        · exact rTb_gu (hdn s1 a1 (by omega)) (by omega) (by omega) (by omega) (by omega) (by omega)
/-- the least goal from behind -/
def rGb (C : Nat → Prop) (q g : Int) : Prop := (g = -1 ∧ ∀ p : Nat, q < p → p < 12 → ¬ C p) ∨ ((q < g ∧ 0 ≤ g ∧ g < 12) ∧ C g.toNat ∧ ∀ p : Nat, q < p → (p : Int) < g → ¬ C p)
theorem rGb_skip {C : Nat → Prop} {q g : Int} (h : rGb C q g) (q0 : 0 ≤ q) (hn : ¬ C q.toNat) : rGb C (q - 1) g := by
  rcases h with ⟨h1, h2⟩ | ⟨h1, h2, h3⟩
  · refine Or.inl ⟨h1, fun p a b => ?_⟩
    by_cases e : (p : Int) = q
    · rw [show p = q.toNat by omega]; exact hn
    · exact h2 p (by omega) b
  · refine Or.inr ⟨by omega, h2, fun p a b => ?_⟩
    by_cases e : (p : Int) = q
    · rw [show p = q.toNat by omega]; exact hn
    · exact h3 p (by omega) b
theorem rGb_take {C : Nat → Prop} {q g : Int} (h : rGb C q g) (q0 : 0 ≤ q) (q1 : q < 12) (hc : C q.toNat) : rGb C (q - 1) q := Or.inr ⟨by omega, hc, fun p a b => by omega⟩
theorem rGb_end {can : Nat → Nat → Bool} {w i : Nat} {S L g : Int} (h : rGb (rCh can w i S L) (-1) g) : rGoal can w i S L g := by
  rcases h with ⟨h1, h2⟩ | ⟨h1, h2, h3⟩
  · exact Or.inl ⟨h1, fun p hp => h2 p (by omega) hp⟩
  · exact Or.inr ⟨by omega, h2, fun p hp => h3 p (by omega) hp⟩
set_option maxRecDepth 100000 in
set_option maxHeartbeats 4000000 in
theorem lM_rg {G : gG} (hsz : G.2.2.2.2.2.2 = true) {n : Nat} (hn : 5 ≤ n) (mi : Nat → Nat → Int) (ml : Nat → Nat → Int64) (x a w D : Int) (r_x : rng x) (r_a : rng a) (wt : Nat → Int) (hw : 0 ≤ w ∧ w ≤ 12) (hwt : ∀ i : Nat, (i : Int) < w → 0 ≤ wt i ∧ wt i < mi 148 6) (hv : SV mi) (k s : Int) (k0 : 0 ≤ k) (k1 : k < w) (s0 : 0 ≤ s) (s1 : s < ((2 ^ (mi 148 2).toNat : Nat) : Int)) (m : Nat → Nat → Int) (hm : rMo m mi) (hmR : gR32 m) (h69 : ∀ i : Nat, (i : Int) < w → m 169 i = wt i) (hall : ∀ k1 s1 : Int, 0 ≤ k1 → k1 ≤ w → 0 ≤ s1 → s1 < ((2 ^ (mi 148 2).toNat : Nat) : Int) → rTb (mCn mi D wt) w.toNat m k1 s1) (P : Option gV → gMe → Prop) (kk : ∀ g : Int, rGb (rCh (mCn mi D wt) w.toNat k.toNat s (m 168 (4096 * k + s).toNat)) (-1) g → Go G mX12_rescue n 0 0 457 [some (gr 148), some (gi x), some (gi a), some (gi w), some (gi D), some (gi s), some (gi k), some (gi g), none, none, none] [] (gw m ml) P) : ∀ (f : Nat) (q : Int) (g : Int) (hg : rGb (rCh (mCn mi D wt) w.toNat k.toNat s (m 168 (4096 * k + s).toNat)) q g), -1 ≤ q → q ≤ mi 148 2 - 1 → q + 1 < f → Go G mX12_rescue n 0 0 346 [some (gr 148), some (gi x), some (gi a), some (gi w), some (gi D), some (gi s), some (gi k), some (gi g), some (gi q), none, none] [] (gw m ml) (P) := by
  have hn1 : 1 ≤ n := by omega
  obtain ⟨hR, ht, hp, hq, hP, hQ⟩ := id hv
  have hpl := pow_le12 (mi 148 2).toNat (by omega)
  intro f
  induction f with
  | zero => intros; omega
  | succ f ih =>
    intro q g hg q0 q1 q2
    have e2 : m 148 2 = mi 148 2 := hm 148 2 (by decide) (by decide)
    have hvm := hv.oR hmR hm
    have hk6 := h69 k.toNat (by omega)
    have hwk := hwt k.toNat (by omega)
    refine Go.run hsz hn1 1 (pc' := 348) (lv' := [some (gr 148), some (gi x), some (gi a), some (gi w), some (gi D), some (gi s), some (gi k), some (gi g), some (gi q), none, none]) (st' := [gi q]) (M' := gw m ml) rfl ?_
    refine Go.if_lt (by rfl) ⟨by omega, by omega⟩ (fun kq1 => ?_) (fun kq1 => ?_)
    · refine Go.dropl 8 ?_
      refine Go.run hsz hn1 0 (pc' := 457) (lv' := [some (gr 148), some (gi x), some (gi a), some (gi w), some (gi D), some (gi s), some (gi k), some (gi g), none, none, none]) (st' := []) (M' := gw m ml) rfl ?_
      obtain rfl : q = -1 := by omega
      exact kk g hg
    · refine Go.run hsz hn1 5 (pc' := 358) (lv' := [some (gr 148), some (gi x), some (gi a), some (gi w), some (gi D), some (gi s), some (gi k), some (gi g), some (gi q), none, none]) (st' := [gi (andI (shrI s q) 1)]) (M' := gw m ml) rfl ?_
      refine Go.if_ne (by rfl) (rng_of _) (fun kq2 => ?_) (fun kq2 => ?_)
      · refine Go.run hsz hn1 3 (pc' := 397) (lv' := [some (gr 148), some (gi x), some (gi a), some (gi w), some (gi D), some (gi s), some (gi k), some (gi g), some (gi q), some (gi 0), none]) (st' := [gi 0]) (M' := gw m ml) rfl ?_
        refine Go.if_eq (by rfl) ⟨by decide, by decide⟩ (fun kq3 => ?_) (fun kq3 => ?_)
        · refine Go.run hsz hn1 4 (pc' := 346) (lv' := [some (gr 148), some (gi x), some (gi a), some (gi w), some (gi D), some (gi s), some (gi k), some (gi g), some (gi (q + (-1))), some (gi 0), none]) (st' := []) (M' := gw m ml) rfl ?_
          refine Go.dropl 9 ?_
          refine Go.run hsz hn1 0 (pc' := 346) (lv' := [some (gr 148), some (gi x), some (gi a), some (gi w), some (gi D), some (gi s), some (gi k), some (gi g), some (gi (q + (-1))), none, none]) (st' := []) (M' := gw m ml) rfl ?_
          first | exact ih (q - 1) g (rGb_skip hg (by omega) (fun ⟨z1, z2, _⟩ => (by have z3 := (mCn_iff k0 (by omega) (by omega) hp.2).mp z1; have z4 := (ibs_iff (by omega) (by omega)).mp z2; omega))) (by omega) (by omega) (by omega) | (exfalso; omega)
        · exact absurd kq3 (by decide)
      · refine Go.run hsz hn1 6 (pc' := 369) (lv' := [some (gr 148), some (gi x), some (gi a), some (gi w), some (gi D), some (gi s), some (gi k), some (gi g), some (gi q), none, none]) (st' := [gi 1, gi (andI (shrI D q) 1)]) (M' := gw m ml) rfl ?_
        refine Go.icmp_ne (by rfl) (rng_of _) ⟨by decide, by decide⟩ (fun kq4 => ?_) (fun kq4 => ?_)
        · refine Go.run hsz hn1 3 (pc' := 397) (lv' := [some (gr 148), some (gi x), some (gi a), some (gi w), some (gi D), some (gi s), some (gi k), some (gi g), some (gi q), some (gi 0), none]) (st' := [gi 0]) (M' := gw m ml) rfl ?_
          refine Go.if_eq (by rfl) ⟨by decide, by decide⟩ (fun kq5 => ?_) (fun kq5 => ?_)
          · refine Go.run hsz hn1 4 (pc' := 346) (lv' := [some (gr 148), some (gi x), some (gi a), some (gi w), some (gi D), some (gi s), some (gi k), some (gi g), some (gi (q + (-1))), some (gi 0), none]) (st' := []) (M' := gw m ml) rfl ?_
            refine Go.dropl 9 ?_
            refine Go.run hsz hn1 0 (pc' := 346) (lv' := [some (gr 148), some (gi x), some (gi a), some (gi w), some (gi D), some (gi s), some (gi k), some (gi g), some (gi (q + (-1))), none, none]) (st' := []) (M' := gw m ml) rfl ?_
            first | exact ih (q - 1) g (rGb_skip hg (by omega) (fun ⟨z1, z2, _⟩ => (by have z3 := (mCn_iff k0 (by omega) (by omega) hp.2).mp z1; have z4 := (ibs_iff (by omega) (by omega)).mp z2; omega))) (by omega) (by omega) (by omega) | (exfalso; omega)
          · exact absurd kq5 (by decide)
        · refine Go.run hsz hn1 4 (pc' := 379) (lv' := [some (gr 148), some (gi x), some (gi a), some (gi w), some (gi D), some (gi s), some (gi k), some (gi g), some (gi q), none, none]) (st' := [gi k, gr 169, gr 148]) (M' := gw m ml) rfl ?_
          refine Go.iald (by rfl) (N := 12) (by rfl) (by omega) (by omega) (by decide) ?_
          refine Go.run hsz hn1 1 (pc' := 382) (lv' := [some (gr 148), some (gi x), some (gi a), some (gi w), some (gi D), some (gi s), some (gi k), some (gi g), some (gi q), none, none]) (st' := [gi q, gi (m 169 k.toNat), gr 148]) (M' := gw m ml) rfl ?_
          rw [hk6]
          refine Go.callV (As := [gi (wt k.toNat), gi q]) (b := 148) (st := []) (mc1 := 0) (mc := 0) (ms1 := 0) (ms := 0) (by rfl) rfl (c := 11) (N := 46) (by rfl) (by decide) (by rfl) (gcn 169 (by decide)).1 (gcn 169 (by decide)).2 rfl (Nat.le_of_ble_eq_true rfl) (by omega) (cM_whyNot hsz (n := n - 1) (by omega) m ml (wt k.toNat) q (by omega) (by omega) (by omega) (by omega) hmR (hvm.2.2.2.2.1 _ (by omega) (by rw [hm 148 6 (by decide) (by decide)]; omega))) ?_
          rintro _ _ ⟨rfl, rfl⟩
          rw [mWhy_c hm]
          have hwb := mWhy_b mi (wt k.toNat) q
          refine Go.run hsz hn1 0 (pc' := 385) (lv' := [some (gr 148), some (gi x), some (gi a), some (gi w), some (gi D), some (gi s), some (gi k), some (gi g), some (gi q), none, none]) (st' := [gi (mWhy mi (wt k.toNat) q)]) (M' := gw m ml) rfl ?_
          refine Go.if_ne (by rfl) ⟨by omega, by omega⟩ (fun kq6 => ?_) (fun kq6 => ?_)
          · refine Go.run hsz hn1 3 (pc' := 397) (lv' := [some (gr 148), some (gi x), some (gi a), some (gi w), some (gi D), some (gi s), some (gi k), some (gi g), some (gi q), some (gi 0), none]) (st' := [gi 0]) (M' := gw m ml) rfl ?_
            refine Go.if_eq (by rfl) ⟨by decide, by decide⟩ (fun kq7 => ?_) (fun kq7 => ?_)
            · refine Go.run hsz hn1 4 (pc' := 346) (lv' := [some (gr 148), some (gi x), some (gi a), some (gi w), some (gi D), some (gi s), some (gi k), some (gi g), some (gi (q + (-1))), some (gi 0), none]) (st' := []) (M' := gw m ml) rfl ?_
              refine Go.dropl 9 ?_
              refine Go.run hsz hn1 0 (pc' := 346) (lv' := [some (gr 148), some (gi x), some (gi a), some (gi w), some (gi D), some (gi s), some (gi k), some (gi g), some (gi (q + (-1))), none, none]) (st' := []) (M' := gw m ml) rfl ?_
              first | exact ih (q - 1) g (rGb_skip hg (by omega) (fun ⟨z1, z2, _⟩ => (by have z3 := (mCn_iff k0 (by omega) (by omega) hp.2).mp z1; have z4 := (ibs_iff (by omega) (by omega)).mp z2; omega))) (by omega) (by omega) (by omega) | (exfalso; omega)
            · exact absurd kq7 (by decide)
          · refine Go.run hsz hn1 4 (pc' := 397) (lv' := [some (gr 148), some (gi x), some (gi a), some (gi w), some (gi D), some (gi s), some (gi k), some (gi g), some (gi q), some (gi 1), none]) (st' := [gi 1]) (M' := gw m ml) rfl ?_
            refine Go.if_eq (by rfl) ⟨by decide, by decide⟩ (fun kq8 => ?_) (fun kq8 => ?_)
            · exact absurd kq8 (by decide)
            · refine Go.run hsz hn1 0 (pc' := 400) (lv' := [some (gr 148), some (gi x), some (gi a), some (gi w), some (gi D), some (gi s), some (gi k), some (gi g), some (gi q), some (gi 1), none]) (st' := []) (M' := gw m ml) rfl ?_
              have hC1 : mCn mi D wt k.toNat q.toNat = true := (mCn_iff k0 (by omega) (by omega) hp.2).mpr ⟨by omega, by omega⟩
              have hC2 : ib s q.toNat = false := (ibs_iff (by omega) (by omega)).mpr (by omega)
              have hor := or_set (n := (mi 148 2).toNat) (p := q.toNat) s0 s1 (by omega) (by omega)
              rw [show ((q.toNat : Nat) : Int) = q by omega] at hor
              obtain ⟨d9, hd9, hx9⟩ := hall (k + 1) (orI s (shlI 1 q)) (by omega) (by omega) hor.1 hor.2
              rw [show 4096 * (k + 1) + orI s (shlI 1 q) = 4096 * k + 4096 + orI s (shlI 1 q) by omega] at hd9
              rw [show (k + 1).toNat = k.toNat + 1 by omega] at hx9
              have hd8 : (d9 : Int) ≤ 12 := (by obtain ⟨⟨f9, -, e9⟩, -⟩ := hx9; have := cntB_le (fun p => decide (0 ≤ f9 p)) 12; unfold mCnt at e9; omega)
              refine Go.run hsz hn1 14 (pc' := 423) (lv' := [some (gr 148), some (gi x), some (gi a), some (gi w), some (gi D), some (gi s), some (gi k), some (gi g), some (gi q), some (gi 1), none]) (st' := [gi (((4096 * k) + 4096) + (orI s (shlI 1 q))), gr 168, gi 1]) (M' := gw m ml) rfl ?_
              refine Go.iald (by rfl) (N := 53248) (by rfl) (by omega) (by omega) (by decide) ?_
              refine Go.run hsz hn1 8 (pc' := 438) (lv' := [some (gr 148), some (gi x), some (gi a), some (gi w), some (gi D), some (gi s), some (gi k), some (gi g), some (gi q), some (gi 1), none]) (st' := [gi ((4096 * k) + s), gr 168, gi (1 + (m 168 ((((4096 * k) + 4096) + (orI s (shlI 1 q))).toNat)))]) (M' := gw m ml) rfl ?_
              refine Go.iald (by rfl) (N := 53248) (by rfl) (by omega) (by omega) (by decide) ?_
              refine Go.run hsz hn1 0 (pc' := 439) (lv' := [some (gr 148), some (gi x), some (gi a), some (gi w), some (gi D), some (gi s), some (gi k), some (gi g), some (gi q), some (gi 1), none]) (st' := [gi (m 168 (((4096 * k) + s).toNat)), gi (1 + (m 168 ((((4096 * k) + 4096) + (orI s (shlI 1 q))).toNat)))]) (M' := gw m ml) rfl ?_
              refine Go.icmp_ne (by rfl) ⟨by omega, by omega⟩ (hmR _ _) (fun kq9 => ?_) (fun kq9 => ?_)
              · refine Go.run hsz hn1 4 (pc' := 346) (lv' := [some (gr 148), some (gi x), some (gi a), some (gi w), some (gi D), some (gi s), some (gi k), some (gi g), some (gi (q + (-1))), some (gi 1), none]) (st' := []) (M' := gw m ml) rfl ?_
                refine Go.dropl 9 ?_
                refine Go.run hsz hn1 0 (pc' := 346) (lv' := [some (gr 148), some (gi x), some (gi a), some (gi w), some (gi D), some (gi s), some (gi k), some (gi g), some (gi (q + (-1))), none, none]) (st' := []) (M' := gw m ml) rfl ?_
                exact ih (q - 1) g (rGb_skip hg (by omega) (fun ⟨_, _, d7, x7, e7⟩ => (by rw [show ((q.toNat : Nat) : Int) = q by omega] at x7; have := mMax_u x7 hx9; omega))) (by omega) (by omega) (by omega)
              · refine Go.run hsz hn1 5 (pc' := 346) (lv' := [some (gr 148), some (gi x), some (gi a), some (gi w), some (gi D), some (gi s), some (gi k), some (gi q), some (gi (q + (-1))), some (gi 1), none]) (st' := []) (M' := gw m ml) rfl ?_
                refine Go.dropl 9 ?_
                refine Go.run hsz hn1 0 (pc' := 346) (lv' := [some (gr 148), some (gi x), some (gi a), some (gi w), some (gi D), some (gi s), some (gi k), some (gi q), some (gi (q + (-1))), none, none]) (st' := []) (M' := gw m ml) rfl ?_
                exact ih (q - 1) q (rGb_take hg (by omega) (by omega) ⟨hC1, hC2, d9, (by rw [show ((q.toNat : Nat) : Int) = q by omega]; exact hx9), by omega⟩) (by omega) (by omega) (by omega)
/-- what the reference answers in the end -/
def rAns (mi : Nat → Nat → Int) (ml : Nat → Nat → Int64) (w a : Int) (wt zs : Nat → Int) (r : Option gV) (M : gMe) : Prop := ∃ m, rMo m mi ∧ gR32 m ∧ ((∃ i : Nat, (i : Int) < w ∧ wt i = a ∧ (∀ j : Nat, j < i → ¬ wt j = a) ∧ ((zs i < 0 ∧ r = some (gi (-1000004)) ∧ M = gw (mFd m 3) ml) ∨ (0 ≤ zs i ∧ r = some (gi (zs i)) ∧ M = gw m ml))) ∨ ((∀ j : Nat, (j : Int) < w → ¬ wt j = a) ∧ r = some (gi (-1000004)) ∧ M = gw (mFd m 3) ml))

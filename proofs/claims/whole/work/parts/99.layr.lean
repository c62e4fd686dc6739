/-! ===== plan: the reference lays a way by its number ===== -/
def cdg (B c z k : Nat) : Int := if c / B ^ (z - 1 - k) % B = B - 1 then -1 else ((c / B ^ (z - 1 - k) % B : Nat) : Int)
theorem cdg_in (P c z : Nat) : inr P (cdg (P + 1) c z) z := fun k _ => by
  unfold cdg
  have := Nat.mod_lt (c / (P + 1) ^ (z - 1 - k)) (show P + 1 > 0 by omega)
  split <;> omega
theorem cdg_dig (P c z k : Nat) : dig P (cdg (P + 1) c z k) = c / (P + 1) ^ (z - 1 - k) % (P + 1) := by
  have := Nat.mod_lt (c / (P + 1) ^ (z - 1 - k)) (show P + 1 > 0 by omega)
  unfold cdg dig
  split <;> split <;> omega
theorem cdg_cdd (P c z : Nat) (hc : c < (P + 1) ^ z) : ∀ i, i ≤ z → cdd P (cdg (P + 1) c z) i = c / (P + 1) ^ (z - i)
  | 0, _ => by
    show 0 = c / (P + 1) ^ (z - 0)
    rw [Nat.sub_zero, Nat.div_eq_of_lt hc]
  | i + 1, hi => by
    have ih := cdg_cdd P c z hc i (by omega)
    show cdd P (cdg (P + 1) c z) i * (P + 1) + dig P (cdg (P + 1) c z i) = _
    rw [ih, cdg_dig, show z - i = z - (i + 1) + 1 by omega, show z - 1 - i = z - (i + 1) by omega, Nat.pow_succ, ← Nat.div_div_eq_div_mul]
    have := Nat.div_add_mod (c / (P + 1) ^ (z - (i + 1))) (P + 1)
    rw [Nat.mul_comm] at this
    exact this
def lyM (mi : Nat → Nat → Int) (mem : Nat → Nat) (z : Nat) (d : Nat → Int) (m : Nat → Nat → Int) (q : Int) : Prop := gR32 m ∧ (∀ c j : Nat, c ≠ 152 → c ≠ 160 → m c j = mi c j) ∧ (∀ j : Nat, (∀ i, i < z → j ≠ 12 * mem i + 6) → m 152 j = mi 152 j) ∧ ∀ i : Nat, i < z → q < i → m 152 (12 * mem i + 6) = d i
theorem lyM_start {mi m : Nat → Nat → Int} {mem : Nat → Nat} {z : Nat} {d d0 : Nat → Int} (h : pMo mi mem z d0 m) : lyM mi mem z d m ((z : Int) - 1) := ⟨h.1, h.2.1, h.2.2.1, fun i _ _ => by omega⟩
theorem lyM_end {mi m : Nat → Nat → Int} {mem : Nat → Nat} {z : Nat} {d : Nat → Int} {q : Int} (h : lyM mi mem z d m q) (hq : q < 0) : pMo mi mem z d m := ⟨h.1, h.2.1, h.2.2.1, fun i hi => h.2.2.2 i hi (by omega)⟩
theorem lyM_step {mi m : Nat → Nat → Int} {mem : Nat → Nat} {z : Nat} {d : Nat → Int} {q v : Int} (hb : pBs mi mem z) (h : lyM mi mem z d m q) (q0 : 0 ≤ q) (q1 : q < z) (hv : v = d q.toNat) (hr : rng v) : lyM mi mem z d (gu m 152 (12 * mem q.toNat + 6) v) (q - 1) := by
  obtain ⟨h1, h2, h3, h4⟩ := h
  refine ⟨gR32_gu h1 hr, fun c j hc hc' => by rw [gu_other hc]; exact h2 c j hc hc', fun j hj => ?_, fun i hi hq => ?_⟩
  · rw [gu_ne (Or.inr (hj q.toNat (by omega)))]
    exact h3 j hj
  · by_cases e : i = q.toNat
    · subst e
      rw [gu_self]
      exact hv
    · rw [gu_ne (Or.inr (fun w => e (hb.2.2.2.2 i q.toNat hi (by omega) (by omega))))]
      exact h4 i hi (by omega)
set_option maxRecDepth 100000 in
set_option maxHeartbeats 4000000 in
theorem lM_ly1 {G : gG} (hsz : G.2.2.2.2.2.2 = true) {n : Nat} (hn : 3 ≤ n) (mi : Nat → Nat → Int) (ml : Nat → Nat → Int64) (mem : Nat → Nat) (z : Nat) (hb : pBs mi mem z) (c : Nat) (hc : c < 2147483648) (P : Option gV → gMe → Prop) (kk : ∀ m, pMo mi mem z (cdg ((mi 148 2).toNat + 1) c z) m → Go G mX12_lays n 0 0 70 [some (gr 148), some (gi ((c : Nat) : Int)), none, none, none, none] [] (gw m ml) P) : ∀ (f : Nat) (q : Int) (l : Nat) (m : Nat → Nat → Int) (hl : l < 2147483648 ∧ (0 ≤ q → l = c / ((mi 148 2).toNat + 1) ^ (z - 1 - q.toNat))) (hm : lyM mi mem z (cdg ((mi 148 2).toNat + 1) c z) m q), -1 ≤ q → q < z → q + 1 < f → Go G mX12_lays n 0 0 9 [some (gr 148), some (gi ((c : Nat) : Int)), some (gi ((l : Nat) : Int)), some (gi q), none, none] [] (gw m ml) (P) := by
  have hn1 : 1 ≤ n := by omega
  obtain ⟨hv, hz4, hz, hmem, hinj⟩ := id hb
  obtain ⟨hR, ht, hp, hq, hP, hQ⟩ := id hv
  intro f
  induction f with
  | zero => intros; omega
  | succ f ih =>
    intro q l m hl hm q0 q1 q2
    obtain ⟨u, hu⟩ : ∃ u, u = l % ((mi 148 2).toNat + 1) := ⟨_, rfl⟩
    obtain ⟨v, hv9⟩ : ∃ v, v = l / ((mi 148 2).toNat + 1) := ⟨_, rfl⟩
    have hu1 : u < ((mi 148 2).toNat + 1) := by rw [hu]; exact Nat.mod_lt _ (by omega)
    have hv1 : v ≤ l := by rw [hv9]; exact Nat.div_le_self _ _
    have em : ((l : Nat) : Int).tmod (m 148 2 + 1) = ((u : Nat) : Int) := by rw [hm.2.1 148 2 (by decide) (by decide), show mi 148 2 + 1 = ((((mi 148 2).toNat + 1) : Nat) : Int) by omega, hu]; rfl
    have ed : ((l : Nat) : Int).tdiv (m 148 2 + 1) = ((v : Nat) : Int) := by rw [hm.2.1 148 2 (by decide) (by decide), show mi 148 2 + 1 = ((((mi 148 2).toNat + 1) : Nat) : Int) by omega, hv9]; rfl
    have e2 : m 148 2 = mi 148 2 := hm.2.1 148 2 (by decide) (by decide)
    have e20 : m 148 20 = mi 148 20 := hm.2.1 148 20 (by decide) (by decide)
    have e61 : 0 ≤ q → m 161 q.toNat = ((mem q.toNat : Nat) : Int) ∧ ((mem q.toNat : Nat) : Int) < mi 148 6 := fun w0 => ⟨(hm.2.1 161 _ (by decide) (by decide)).trans (hmem q.toNat (by omega)).1, (hmem q.toNat (by omega)).2.1⟩
    have ei : 0 ≤ q → (12 * m 161 q.toNat + 6).toNat = 12 * mem q.toNat + 6 := fun w0 => by have := e61 w0; omega
    refine Go.run hsz hn1 1 (pc' := 10) (lv' := [some (gr 148), some (gi ((c : Nat) : Int)), some (gi ((l : Nat) : Int)), some (gi q), none, none]) (st' := [gi q]) (M' := gw m ml) rfl ?_
    refine Go.if_lt (by rfl) ⟨by omega, by omega⟩ (fun kq1 => ?_) (fun kq1 => ?_)
    · refine Go.dropl 2 ?_
      refine Go.dropl 3 ?_
      refine Go.run hsz hn1 0 (pc' := 70) (lv' := [some (gr 148), some (gi ((c : Nat) : Int)), none, none, none, none]) (st' := []) (M' := gw m ml) rfl ?_
      exact kk m (lyM_end hm (by omega))
    · refine Go.run hsz hn1 5 (pc' := 20) (lv' := [some (gr 148), some (gi ((c : Nat) : Int)), some (gi ((l : Nat) : Int)), some (gi q), none, none]) (st' := [gi ((m 148 2) + 1), gi ((l : Nat) : Int)]) (M' := gw m ml) rfl ?_
      refine Go.irem (by rfl) ⟨by omega, by omega⟩ ⟨by omega, by omega⟩ (by omega) (by rw [ed]; exact ⟨by omega, by omega⟩) ?_
      refine Go.run hsz hn1 1 (pc' := 23) (lv' := [some (gr 148), some (gi ((c : Nat) : Int)), some (gi ((l : Nat) : Int)), some (gi q), some (gi (((l : Nat) : Int).tmod ((m 148 2) + 1))), none]) (st' := []) (M' := gw m ml) rfl ?_
      have q00 : 0 ≤ q := by omega
      have hl2 := hl.2 q00
      have e6q := e61 q00
      have eiq := ei q00
      rw [em]
      refine Go.run hsz hn1 6 (pc' := 34) (lv' := [some (gr 148), some (gi ((c : Nat) : Int)), some (gi ((l : Nat) : Int)), some (gi q), some (gi ((u : Nat) : Int)), none]) (st' := [gi q, gr 161, gi 12, gr 152]) (M' := gw m ml) rfl ?_
      refine Go.iald (by rfl) (N := 4) (by rfl) (by omega) (by omega) (by decide) ?_
      refine Go.run hsz hn1 6 (pc' := 45) (lv' := [some (gr 148), some (gi ((c : Nat) : Int)), some (gi ((l : Nat) : Int)), some (gi q), some (gi ((u : Nat) : Int)), none]) (st' := [gi (m 148 2), gi ((u : Nat) : Int), gi ((12 * (m 161 q.toNat)) + 6), gr 152]) (M' := gw m ml) rfl ?_
      refine Go.icmp_ne (by rfl) ⟨by omega, by omega⟩ (hm.1 _ _) (fun kq2 => ?_) (fun kq2 => ?_)
      · refine Go.run hsz hn1 1 (pc' := 54) (lv' := [some (gr 148), some (gi ((c : Nat) : Int)), some (gi ((l : Nat) : Int)), some (gi q), some (gi ((u : Nat) : Int)), none]) (st' := [gi ((u : Nat) : Int), gi ((12 * (m 161 q.toNat)) + 6), gr 152]) (M' := gw m ml) rfl ?_
        refine Go.iast (by rfl) (N := 288) (by rfl) (by omega) (by omega) (by decide) ?_
        refine Go.run hsz hn1 3 (pc' := 60) (lv' := [some (gr 148), some (gi ((c : Nat) : Int)), some (gi ((l : Nat) : Int)), some (gi q), some (gi ((u : Nat) : Int)), none]) (st' := [gi ((gu m 152 (((12 * (m 161 q.toNat)) + 6).toNat) ((u : Nat) : Int)) 148 2), gi ((l : Nat) : Int)]) (M' := gw (gu m 152 (((12 * (m 161 q.toNat)) + 6).toNat) ((u : Nat) : Int)) ml) rfl ?_
        refine Go.run hsz hn1 0 (pc' := 60) (lv' := [some (gr 148), some (gi ((c : Nat) : Int)), some (gi ((l : Nat) : Int)), some (gi q), some (gi ((u : Nat) : Int)), none]) (st' := [gi ((gu m 152 (((12 * (m 161 q.toNat)) + 6).toNat) ((u : Nat) : Int)) 148 2), gi ((l : Nat) : Int)]) (M' := gw (gu m 152 (((12 * (m 161 q.toNat)) + 6).toNat) ((u : Nat) : Int)) ml) rfl ?_
        rw [show (gu m 152 (((12 * (m 161 q.toNat)) + 6).toNat) ((u : Nat) : Int)) 148 2 = m 148 2 from gu_ne (Or.inl (by decide))]
        refine Go.run hsz hn1 2 (pc' := 62) (lv' := [some (gr 148), some (gi ((c : Nat) : Int)), some (gi ((l : Nat) : Int)), some (gi q), some (gi ((u : Nat) : Int)), none]) (st' := [gi ((m 148 2) + 1), gi ((l : Nat) : Int)]) (M' := gw (gu m 152 (((12 * (m 161 q.toNat)) + 6).toNat) ((u : Nat) : Int)) ml) rfl ?_
        refine Go.idiv (by rfl) ⟨by omega, by omega⟩ ⟨by omega, by omega⟩ (by omega) (by rw [ed]; exact ⟨by omega, by omega⟩) ?_
        refine Go.run hsz hn1 3 (pc' := 9) (lv' := [some (gr 148), some (gi ((c : Nat) : Int)), some (gi (((l : Nat) : Int).tdiv ((m 148 2) + 1))), some (gi (q + (-1))), some (gi ((u : Nat) : Int)), none]) (st' := []) (M' := gw (gu m 152 (((12 * (m 161 q.toNat)) + 6).toNat) ((u : Nat) : Int)) ml) rfl ?_
        refine Go.dropl 4 ?_
        refine Go.run hsz hn1 0 (pc' := 9) (lv' := [some (gr 148), some (gi ((c : Nat) : Int)), some (gi (((l : Nat) : Int).tdiv ((m 148 2) + 1))), some (gi (q + (-1))), none, none]) (st' := []) (M' := gw (gu m 152 (((12 * (m 161 q.toNat)) + 6).toNat) ((u : Nat) : Int)) ml) rfl ?_
        rw [eiq]
        rw [show ((l : Nat) : Int).tdiv ((m 148 2) + 1) = ((v : Nat) : Int) from ed]
        refine ih (q - 1) v _ ⟨by omega, fun z0 => ?_⟩ (lyM_step hb hm q00 (by omega) ?_ ⟨by omega, by omega⟩) (by omega) (by omega) (by omega)
        · rw [hv9, hl2, show z - 1 - (q - 1).toNat = z - 1 - q.toNat + 1 by omega, Nat.pow_succ, Nat.div_div_eq_div_mul]
        · unfold cdg; rw [← hl2, ← hu]; clear hl2 hl; split <;> omega
      · refine Go.run hsz hn1 2 (pc' := 54) (lv' := [some (gr 148), some (gi ((c : Nat) : Int)), some (gi ((l : Nat) : Int)), some (gi q), some (gi ((u : Nat) : Int)), none]) (st' := [gi (-1), gi ((12 * (m 161 q.toNat)) + 6), gr 152]) (M' := gw m ml) rfl ?_
        refine Go.iast (by rfl) (N := 288) (by rfl) (by omega) (by omega) (by decide) ?_
        refine Go.run hsz hn1 3 (pc' := 60) (lv' := [some (gr 148), some (gi ((c : Nat) : Int)), some (gi ((l : Nat) : Int)), some (gi q), some (gi ((u : Nat) : Int)), none]) (st' := [gi ((gu m 152 (((12 * (m 161 q.toNat)) + 6).toNat) (-1)) 148 2), gi ((l : Nat) : Int)]) (M' := gw (gu m 152 (((12 * (m 161 q.toNat)) + 6).toNat) (-1)) ml) rfl ?_
        refine Go.run hsz hn1 0 (pc' := 60) (lv' := [some (gr 148), some (gi ((c : Nat) : Int)), some (gi ((l : Nat) : Int)), some (gi q), some (gi ((u : Nat) : Int)), none]) (st' := [gi ((gu m 152 (((12 * (m 161 q.toNat)) + 6).toNat) (-1)) 148 2), gi ((l : Nat) : Int)]) (M' := gw (gu m 152 (((12 * (m 161 q.toNat)) + 6).toNat) (-1)) ml) rfl ?_
        rw [show (gu m 152 (((12 * (m 161 q.toNat)) + 6).toNat) (-1)) 148 2 = m 148 2 from gu_ne (Or.inl (by decide))]
        refine Go.run hsz hn1 2 (pc' := 62) (lv' := [some (gr 148), some (gi ((c : Nat) : Int)), some (gi ((l : Nat) : Int)), some (gi q), some (gi ((u : Nat) : Int)), none]) (st' := [gi ((m 148 2) + 1), gi ((l : Nat) : Int)]) (M' := gw (gu m 152 (((12 * (m 161 q.toNat)) + 6).toNat) (-1)) ml) rfl ?_
        refine Go.idiv (by rfl) ⟨by omega, by omega⟩ ⟨by omega, by omega⟩ (by omega) (by rw [ed]; exact ⟨by omega, by omega⟩) ?_
        refine Go.run hsz hn1 3 (pc' := 9) (lv' := [some (gr 148), some (gi ((c : Nat) : Int)), some (gi (((l : Nat) : Int).tdiv ((m 148 2) + 1))), some (gi (q + (-1))), some (gi ((u : Nat) : Int)), none]) (st' := []) (M' := gw (gu m 152 (((12 * (m 161 q.toNat)) + 6).toNat) (-1)) ml) rfl ?_
        refine Go.dropl 4 ?_
        refine Go.run hsz hn1 0 (pc' := 9) (lv' := [some (gr 148), some (gi ((c : Nat) : Int)), some (gi (((l : Nat) : Int).tdiv ((m 148 2) + 1))), some (gi (q + (-1))), none, none]) (st' := []) (M' := gw (gu m 152 (((12 * (m 161 q.toNat)) + 6).toNat) (-1)) ml) rfl ?_
        rw [eiq]
        rw [show ((l : Nat) : Int).tdiv ((m 148 2) + 1) = ((v : Nat) : Int) from ed]
        refine ih (q - 1) v _ ⟨by omega, fun z0 => ?_⟩ (lyM_step hb hm q00 (by omega) ?_ ⟨by omega, by omega⟩) (by omega) (by omega) (by omega)
        · rw [hv9, hl2, show z - 1 - (q - 1).toNat = z - 1 - q.toNat + 1 by omega, Nat.pow_succ, Nat.div_div_eq_div_mul]
        · unfold cdg; rw [← hl2, ← hu]; clear hl2 hl; split <;> omega

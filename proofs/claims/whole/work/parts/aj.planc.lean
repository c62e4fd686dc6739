/-! ===== plan: the class: small methods of the planner ===== -/
def cBt (b : Int) (P : Prop) : Prop := (b = 1 ∧ P) ∨ (b = 0 ∧ ¬ P)
theorem cBt.b01 {b : Int} {P : Prop} (h : cBt b P) : b = 0 ∨ b = 1 := by
  rcases h with ⟨h, _⟩ | ⟨h, _⟩
  · exact Or.inr h
  · exact Or.inl h
theorem cBt.yes {b : Int} {P : Prop} (h : cBt b P) (hb : ¬ b = 0) : P := by
  rcases h with ⟨_, h⟩ | ⟨h, _⟩
  · exact h
  · exact absurd h hb
theorem cBt.no {b : Int} {P : Prop} (h : cBt b P) (hb : b = 0) : ¬ P := by
  rcases h with ⟨h, _⟩ | ⟨_, h⟩
  · omega
  · exact h
def rmM (m m' : Nat → Nat → Int) (on g f : Int) (q : Nat) : Prop := gR32 m' ∧ (∀ a k : Nat, a ≠ 126 → (a ≠ 110 ∨ k < 11) → m' a k = m a k) ∧ (m' 110 11 = on ∧ m' 110 12 = g ∧ m' 110 13 = f) ∧ ∀ k, k < q → m' 126 k = m 125 k
theorem rmM_s {m m' : Nat → Nat → Int} {on g f : Int} {q : Nat} (h : rmM m m' on g f q) (hR : gR32 m) {j : Nat} (hj : j = q) {v : Int} (hv : v = m 125 q) : rmM m (gu m' 126 j v) on g f (q + 1) := by
  subst hj
  subst hv
  refine ⟨gR32_gu h.1 (hR _ _), fun a k h1 h2 => by rw [gu_other h1]; exact h.2.1 a k h1 h2, by rw [gu_other (by decide), gu_other (by decide), gu_other (by decide)]; exact h.2.2.1, fun k hk => ?_⟩
  by_cases e : k = j
  · rw [e, gu_self]
  · rw [gu_ne (Or.inr e)]
    exact h.2.2.2 k (by omega)
set_option maxRecDepth 100000 in
set_option maxHeartbeats 4000000 in
theorem cP_canBeat {G : gG} (hsz : G.2.2.2.2.2.2 = true) {n : Nat} (hn : 1 ≤ n) (ml : Nat → Nat → Int64) (u mp : Nat → Nat → Int) (mlb : Nat → Nat → Int64) (mem : Nat → Nat) (z : Nat) (hp : cPr u mp mlb mem z) (m : Nat → Nat → Int) (hm : tM mp m) (x : Int) (i : Nat) (hx : x = i) (hi : i ≤ z) (on g f : Int) (hon : -10 ≤ on ∧ on ≤ 10) (hg : -2000 ≤ g ∧ g ≤ 2000) (hf : rng f) : gM G 39 n 0 0 [gr 110, gi x, gi on, gi g, gi f] (gw m ml) (fun r M => M = gw m ml ∧ ∃ b : Int, r = some (gi b) ∧ cBt b (bet (on + mp 113 i) (g - mp 114 i) f (m 110 11) (m 110 12) (m 110 13))) := by
  have hz4 : z ≤ 4 := hp.1.2.2.1
  have e2 : m 110 2 = z := (hm.2 110 2 (by decide) (by decide) (by decide)).trans hp.2.1.1
  have hxn : x.toNat = i := (by omega)
  have e113 : m 113 x.toNat = mp 113 i := (by rw [hxn]; exact hm.2 113 i (by decide) (by decide) (Or.inl (by decide)))
  have e114 : m 114 x.toNat = mp 114 i := (by rw [hxn]; exact hm.2 114 i (by decide) (by decide) (Or.inl (by decide)))
  have hb4 := hp.2.2.2.2.1.2 i hi
  refine gM.of mX5_canBeat okX5_canBeat (gcp 39 (by decide)).1 (gcp 39 (by decide)).2 (Nat.le_of_ble_eq_true rfl) ?_
  refine Go.run hsz hn 4 (pc' := 6) (lv' := [some (gr 110), some (gi x), some (gi on), some (gi g), some (gi f), none, none]) (st' := [gi x, gr 113, gi on]) (M' := gw m ml) rfl ?_
  refine Go.iald (by rfl) (N := 5) (by rfl) (by omega) (by omega) (by decide) ?_
  refine Go.run hsz hn 5 (pc' := 16) (lv' := [some (gr 110), some (gi x), some (gi on), some (gi g), some (gi f), some (gi (on + (m 113 x.toNat))), none]) (st' := [gi (m 110 11), gi (on + (m 113 x.toNat))]) (M' := gw m ml) rfl ?_
  refine Go.icmp_eq (by rfl) ⟨by omega, by omega⟩ (hm.1 _ _) (fun kq1 => ?_) (fun kq1 => ?_)
  · refine Go.run hsz hn 4 (pc' := 40) (lv' := [some (gr 110), some (gi x), some (gi on), some (gi g), some (gi f), some (gi (on + (m 113 x.toNat))), none]) (st' := [gi x, gr 114, gi g]) (M' := gw m ml) rfl ?_
    refine Go.iald (by rfl) (N := 5) (by rfl) (by omega) (by omega) (by decide) ?_
    refine Go.run hsz hn 5 (pc' := 50) (lv' := [some (gr 110), some (gi x), some (gi on), some (gi g), some (gi f), some (gi (on + (m 113 x.toNat))), some (gi (g - (m 114 x.toNat)))]) (st' := [gi (m 110 12), gi (g - (m 114 x.toNat))]) (M' := gw m ml) rfl ?_
    refine Go.icmp_eq (by rfl) ⟨by omega, by omega⟩ (hm.1 _ _) (fun kq2 => ?_) (fun kq2 => ?_)
    · refine Go.run hsz hn 3 (pc' := 74) (lv' := [some (gr 110), some (gi x), some (gi on), some (gi g), some (gi f), some (gi (on + (m 113 x.toNat))), some (gi (g - (m 114 x.toNat)))]) (st' := [gi (m 110 13), gi f]) (M' := gw m ml) rfl ?_
      refine Go.icmp_ge (by rfl) hf (hm.1 _ _) (fun kq3 => ?_) (fun kq3 => ?_)
      · refine Go.run hsz hn 1 (pc' := 82) (lv' := [some (gr 110), some (gi x), some (gi on), some (gi g), some (gi f), some (gi (on + (m 113 x.toNat))), some (gi (g - (m 114 x.toNat)))]) (st' := [gi 0]) (M' := gw m ml) rfl ?_
        exact Go.zret (by rfl) (Or.inl rfl) ⟨rfl, _, rfl, Or.inr ⟨rfl, by unfold bet; omega⟩⟩
      · refine Go.run hsz hn 2 (pc' := 82) (lv' := [some (gr 110), some (gi x), some (gi on), some (gi g), some (gi f), some (gi (on + (m 113 x.toNat))), some (gi (g - (m 114 x.toNat)))]) (st' := [gi 1]) (M' := gw m ml) rfl ?_
        exact Go.zret (by rfl) (Or.inr rfl) ⟨rfl, _, rfl, Or.inl ⟨rfl, by unfold bet; omega⟩⟩
    · refine Go.run hsz hn 3 (pc' := 59) (lv' := [some (gr 110), some (gi x), some (gi on), some (gi g), some (gi f), some (gi (on + (m 113 x.toNat))), some (gi (g - (m 114 x.toNat)))]) (st' := [gi (m 110 12), gi (g - (m 114 x.toNat))]) (M' := gw m ml) rfl ?_
      refine Go.icmp_ge (by rfl) ⟨by omega, by omega⟩ (hm.1 _ _) (fun kq4 => ?_) (fun kq4 => ?_)
      · refine Go.run hsz hn 1 (pc' := 67) (lv' := [some (gr 110), some (gi x), some (gi on), some (gi g), some (gi f), some (gi (on + (m 113 x.toNat))), some (gi (g - (m 114 x.toNat)))]) (st' := [gi 0]) (M' := gw m ml) rfl ?_
        exact Go.zret (by rfl) (Or.inl rfl) ⟨rfl, _, rfl, Or.inr ⟨rfl, by unfold bet; omega⟩⟩
      · refine Go.run hsz hn 2 (pc' := 67) (lv' := [some (gr 110), some (gi x), some (gi on), some (gi g), some (gi f), some (gi (on + (m 113 x.toNat))), some (gi (g - (m 114 x.toNat)))]) (st' := [gi 1]) (M' := gw m ml) rfl ?_
        exact Go.zret (by rfl) (Or.inr rfl) ⟨rfl, _, rfl, Or.inl ⟨rfl, by unfold bet; omega⟩⟩
  · refine Go.run hsz hn 3 (pc' := 25) (lv' := [some (gr 110), some (gi x), some (gi on), some (gi g), some (gi f), some (gi (on + (m 113 x.toNat))), none]) (st' := [gi (m 110 11), gi (on + (m 113 x.toNat))]) (M' := gw m ml) rfl ?_
    refine Go.icmp_le (by rfl) ⟨by omega, by omega⟩ (hm.1 _ _) (fun kq5 => ?_) (fun kq5 => ?_)
    · refine Go.run hsz hn 1 (pc' := 33) (lv' := [some (gr 110), some (gi x), some (gi on), some (gi g), some (gi f), some (gi (on + (m 113 x.toNat))), none]) (st' := [gi 0]) (M' := gw m ml) rfl ?_
      exact Go.zret (by rfl) (Or.inl rfl) ⟨rfl, _, rfl, Or.inr ⟨rfl, by unfold bet; omega⟩⟩
    · refine Go.run hsz hn 2 (pc' := 33) (lv' := [some (gr 110), some (gi x), some (gi on), some (gi g), some (gi f), some (gi (on + (m 113 x.toNat))), none]) (st' := [gi 1]) (M' := gw m ml) rfl ?_
      exact Go.zret (by rfl) (Or.inr rfl) ⟨rfl, _, rfl, Or.inl ⟨rfl, by unfold bet; omega⟩⟩
set_option maxRecDepth 100000 in
set_option maxHeartbeats 4000000 in
theorem lP_rem {G : gG} (hsz : G.2.2.2.2.2.2 = true) {n : Nat} (hn : 1 ≤ n) (ml : Nat → Nat → Int64) (u mp : Nat → Nat → Int) (mlb : Nat → Nat → Int64) (mem : Nat → Nat) (z : Nat) (hp : cPr u mp mlb mem z) (m : Nat → Nat → Int) (hm : tM mp m) (on g f : Int) : ∀ (f0 : Nat) (q : Int) (m1 : Nat → Nat → Int) (hr : rmM m m1 on g f q.toNat), 0 ≤ q → q ≤ z → z - q < f0 → Go G mX5_remember n 0 0 18 [some (gr 110), some (gi on), some (gi g), some (gi f), some (gi q)] [] (gw m1 ml) (fun r M => r = none ∧ ∃ m1 : Nat → Nat → Int, M = gw m1 ml ∧ rmM m m1 on g f z) := by
  have hn1 : 1 ≤ n := by omega
  have hz4 : z ≤ 4 := hp.1.2.2.1
  intro f0
  induction f0 with
  | zero => intros; omega
  | succ f0 ih =>
    intro q m1 hr q0 q1 q2
    have e2 : m1 110 2 = z := (hr.2.1 110 2 (by decide) (by decide)).trans ((hm.2 110 2 (by decide) (by decide) (by decide)).trans hp.2.1.1)
    refine Go.run hsz hn1 3 (pc' := 24) (lv' := [some (gr 110), some (gi on), some (gi g), some (gi f), some (gi q)]) (st' := [gi (m1 110 2), gi q]) (M' := gw m1 ml) rfl ?_
    refine Go.icmp_ge (by rfl) ⟨by omega, by omega⟩ (hr.1 _ _) (fun kq1 => ?_) (fun kq1 => ?_)
    · have hq9 : q.toNat = z := (by omega)
      rw [hq9] at hr
      exact Go.vret (by rfl) ⟨rfl, m1, rfl, hr⟩
    · refine Go.run hsz hn1 6 (pc' := 39) (lv' := [some (gr 110), some (gi on), some (gi g), some (gi f), some (gi q)]) (st' := [gi q, gr 125, gi q, gr 126]) (M' := gw m1 ml) rfl ?_
      refine Go.iald (by rfl) (N := 4) (by rfl) (by omega) (by omega) (by decide) ?_
      refine Go.run hsz hn1 0 (pc' := 40) (lv' := [some (gr 110), some (gi on), some (gi g), some (gi f), some (gi q)]) (st' := [gi (m1 125 q.toNat), gi q, gr 126]) (M' := gw m1 ml) rfl ?_
      refine Go.iast (by rfl) (N := 4) (by rfl) (by omega) (by omega) (by decide) ?_
      refine Go.run hsz hn1 2 (pc' := 18) (lv' := [some (gr 110), some (gi on), some (gi g), some (gi f), some (gi (q + 1))]) (st' := []) (M' := gw (gu m1 126 q.toNat (m1 125 q.toNat)) ml) rfl ?_
      exact ih (q + 1) _ (by rw [show (q + 1).toNat = q.toNat + 1 by omega]; exact rmM_s hr hm.1 rfl (hr.2.1 125 _ (by decide) (Or.inl (by decide)))) (by omega) (by omega) (by omega)
set_option maxRecDepth 100000 in
set_option maxHeartbeats 4000000 in
theorem cP_rem {G : gG} (hsz : G.2.2.2.2.2.2 = true) {n : Nat} (hn : 2 ≤ n) (ml : Nat → Nat → Int64) (u mp : Nat → Nat → Int) (mlb : Nat → Nat → Int64) (mem : Nat → Nat) (z : Nat) (hp : cPr u mp mlb mem z) (m : Nat → Nat → Int) (hm : tM mp m) (on g f : Int) (ron : rng on) (rg : rng g) (rf : rng f) : gM G 42 n 0 0 [gr 110, gi on, gi g, gi f] (gw m ml) (fun r M => r = none ∧ ∃ m1 : Nat → Nat → Int, M = gw m1 ml ∧ rmM m m1 on g f z) := by
  have hn1 : 1 ≤ n := by omega
  have hz4 : z ≤ 4 := hp.1.2.2.1
  refine gM.of mX5_remember okX5_remember (gcp 42 (by decide)).1 (gcp 42 (by decide)).2 (Nat.le_of_ble_eq_true rfl) ?_
  refine Go.run hsz hn1 11 (pc' := 18) (lv' := [some (gr 110), some (gi on), some (gi g), some (gi f), some (gi 0)]) (st' := []) (M' := gw (gu (gu (gu m 110 11 on) 110 12 g) 110 13 f) ml) rfl ?_
  exact lP_rem hsz (n := n) (by omega) ml u mp mlb mem z hp m hm on g f 5 0 _ ⟨gR32_gu (gR32_gu (gR32_gu hm.1 ron) rg) rf, fun a k h1 h2 => (by rw [gu_ne (by omega), gu_ne (by omega), gu_ne (by omega)]), ⟨rfl, rfl, rfl⟩, fun k hk => absurd hk (by show ¬ k < 0; omega)⟩ (by omega) (by omega) (by omega)
theorem tM_P {mp m : Nat → Nat → Int} (hm : tM mp m) {p : Int} (hp : p < 12) (w : Nat) : cP m p w = cP mp p w := hm.2 _ _ (by omega) (by omega) (Or.inl (by omega))
theorem tM_far {mp m : Nat → Nat → Int} (hm : tM mp m) {p q : Int} (hp : p < 12) (hq : q < 12) : cFar m p q = cFar mp p q := by
  unfold cFar
  rw [tM_P hm hp, tM_P hm hp, tM_P hm hq, tM_P hm hq]
theorem tM_CQ {mp m : Nat → Nat → Int} (hm : tM mp m) {p : Int} (hp : p < 12) (h : CQV mp p) : CQV m p := by
  unfold CQV at h ⊢
  simp only [tM_P hm hp]
  exact h
set_option maxRecDepth 100000 in
set_option maxHeartbeats 4000000 in
theorem lP_way {G : gG} (hsz : G.2.2.2.2.2.2 = true) {n : Nat} (hn : 3 ≤ n) (ml : Nat → Nat → Int64) (u mp : Nat → Nat → Int) (mlb : Nat → Nat → Int64) (mem : Nat → Nat) (z : Nat) (hp : cPr u mp mlb mem z) (m : Nat → Nat → Int) (hm : tM mp m) (x : Int) (i : Nat) (hx : x = i) (hi : i < z) (d : Nat → Int) (hd : ∀ k, k ≤ i → m 125 k = d k) (hdi : 0 ≤ d i ∧ d i < u 148 2) (hdr : inr (u 148 2).toNat d i) : ∀ (f : Nat) (q : Int), 0 ≤ q → q ≤ i → i - q < f → Go G mX5_wayOf n 0 0 16 [some (gr 110), some (gi x), some (gi (oY u (pOn u) (mem i) (d i) (u 148 6).toNat + wYs u mem d (mem i) (d i) q.toNat)), some (gi q)] [] (gw m ml) (gret (oY u (pOn u) (mem i) (d i) (u 148 6).toNat + wYs u mem d (mem i) (d i) i) (gw m ml)) := by
  have hn1 : 1 ≤ n := by omega
  have hz4 : z ≤ 4 := hp.1.2.2.1
  have e2 : m 110 2 = z := (hm.2 110 2 (by decide) (by decide) (by decide)).trans hp.2.1.1
  have hxn : x.toNat = i := (by omega)
  have hP : 0 ≤ u 148 2 ∧ u 148 2 ≤ 12 := hp.1.2.1.2.2.1
  have hN : 0 ≤ u 148 6 ∧ u 148 6 ≤ 24 := hp.1.2.1.2.2.2.1
  have e125 : m 125 x.toNat = d i := (by rw [hxn]; exact hd i (Nat.le_refl _))
  have hyb := oY_le hp.1.2.1 (on := pOn u) (fun b hb => hp.1.2.2.2.2.2 b (by omega)) (a := mem i) hdi.1 hdi.2 (u 148 6).toNat (by omega)
  intro f
  induction f with
  | zero => intros; omega
  | succ f ih =>
    intro q q0 q1 q2
    have e125q : m 125 q.toNat = d q.toNat := hd q.toNat (by omega)
    have e121 : q < i → m (121 + x.toNat) q.toNat = oWi u (mem i) (mem q.toNat) := fun w9 => (by rw [hxn, hm.2 (121 + i) q.toNat (by omega) (by omega) (Or.inl (by omega))]; exact (hp.2.2.2.2.2.1 i hi).2 q.toNat (by omega))
    have hwb := wYs_b hp.1.2.1 (mem := mem) (a := mem i) (d := d) hdi.1 hdi.2 q.toNat (fun j hj => (by have := hdr j (by omega); omega))
    have hdq : q < i → -1 ≤ d q.toNat ∧ d q.toNat < u 148 2 := fun w9 => (by have := hdr q.toNat (by omega); omega)
    have hob := oWi_b (u := u) (mem i) (mem q.toNat)
    refine Go.run hsz hn1 2 (pc' := 18) (lv' := [some (gr 110), some (gi x), some (gi (oY u (pOn u) (mem i) (d i) (u 148 6).toNat + wYs u mem d (mem i) (d i) q.toNat)), some (gi q)]) (st' := [gi x, gi q]) (M' := gw m ml) rfl ?_
    refine Go.icmp_ge (by rfl) ⟨by omega, by omega⟩ ⟨by omega, by omega⟩ (fun kq1 => ?_) (fun kq1 => ?_)
    · refine Go.run hsz hn1 1 (pc' := 80) (lv' := [some (gr 110), some (gi x), some (gi (oY u (pOn u) (mem i) (d i) (u 148 6).toNat + wYs u mem d (mem i) (d i) q.toNat)), some (gi q)]) (st' := [gi (oY u (pOn u) (mem i) (d i) (u 148 6).toNat + wYs u mem d (mem i) (d i) q.toNat)]) (M' := gw m ml) rfl ?_
      have hq9 : q.toNat = i := (by omega)
      rw [hq9]
      exact Go.iret (by rfl) ⟨rfl, rfl⟩
    · refine Go.run hsz hn1 3 (pc' := 26) (lv' := [some (gr 110), some (gi x), some (gi (oY u (pOn u) (mem i) (d i) (u 148 6).toNat + wYs u mem d (mem i) (d i) q.toNat)), some (gi q)]) (st' := [gi x, gr 120]) (M' := gw m ml) rfl ?_
      refine Go.aaldR 7 (by rfl) (N := 4) (by rfl) ⟨by decide, by decide⟩ (by omega) (by omega) (by decide) (gMR_120 (by omega) (by omega)) ?_
      refine Go.run hsz hn1 1 (pc' := 28) (lv' := [some (gr 110), some (gi x), some (gi (oY u (pOn u) (mem i) (d i) (u 148 6).toNat + wYs u mem d (mem i) (d i) q.toNat)), some (gi q)]) (st' := [gi q, gr (121 + x.toNat)]) (M' := gw m ml) rfl ?_
      refine Go.iald (by rfl) (N := 4) (shB (i := x) (by omega)) (by omega) (by omega) (by decide) ?_
      refine Go.run hsz hn1 0 (pc' := 29) (lv' := [some (gr 110), some (gi x), some (gi (oY u (pOn u) (mem i) (d i) (u 148 6).toNat + wYs u mem d (mem i) (d i) q.toNat)), some (gi q)]) (st' := [gi (m (121 + x.toNat) q.toNat)]) (M' := gw m ml) rfl ?_
      refine Go.if_eq (by rfl) (hm.1 _ _) (fun kq2 => ?_) (fun kq2 => ?_)
      · refine Go.run hsz hn1 2 (pc' := 16) (lv' := [some (gr 110), some (gi x), some (gi (oY u (pOn u) (mem i) (d i) (u 148 6).toNat + wYs u mem d (mem i) (d i) q.toNat)), some (gi (q + 1))]) (st' := []) (M' := gw m ml) rfl ?_
        have hst : wYs u mem d (mem i) (d i) (q + 1).toNat = wYs u mem d (mem i) (d i) q.toNat + (if 0 ≤ d q.toNat then oWi u (mem i) (mem q.toNat) * mFar u (d i) (d q.toNat) else 0) := (by rw [show (q + 1).toNat = q.toNat + 1 by omega]; rfl)
        have h9 := ih (q + 1) (by omega) (by omega) (by omega)
        rw [hst] at h9
        rw [show (if 0 ≤ d q.toNat then oWi u (mem i) (mem q.toNat) * mFar u (d i) (d q.toNat) else 0) = 0 from (by first | (rw [if_neg (by omega)]) | (rw [show oWi u (mem i) (mem q.toNat) = 0 by omega, Int.zero_mul]; split <;> rfl)), Int.add_zero] at h9
        exact h9
      · refine Go.run hsz hn1 3 (pc' := 37) (lv' := [some (gr 110), some (gi x), some (gi (oY u (pOn u) (mem i) (d i) (u 148 6).toNat + wYs u mem d (mem i) (d i) q.toNat)), some (gi q)]) (st' := [gi q, gr 125]) (M' := gw m ml) rfl ?_
        refine Go.iald (by rfl) (N := 4) (by rfl) (by omega) (by omega) (by decide) ?_
        refine Go.run hsz hn1 1 (pc' := 39) (lv' := [some (gr 110), some (gi x), some (gi (oY u (pOn u) (mem i) (d i) (u 148 6).toNat + wYs u mem d (mem i) (d i) q.toNat)), some (gi q)]) (st' := [gi (-1), gi (m 125 q.toNat)]) (M' := gw m ml) rfl ?_
        refine Go.icmp_eq (by rfl) (hm.1 _ _) ⟨by decide, by decide⟩ (fun kq3 => ?_) (fun kq3 => ?_)
        · refine Go.run hsz hn1 2 (pc' := 16) (lv' := [some (gr 110), some (gi x), some (gi (oY u (pOn u) (mem i) (d i) (u 148 6).toNat + wYs u mem d (mem i) (d i) q.toNat)), some (gi (q + 1))]) (st' := []) (M' := gw m ml) rfl ?_
          have hst : wYs u mem d (mem i) (d i) (q + 1).toNat = wYs u mem d (mem i) (d i) q.toNat + (if 0 ≤ d q.toNat then oWi u (mem i) (mem q.toNat) * mFar u (d i) (d q.toNat) else 0) := (by rw [show (q + 1).toNat = q.toNat + 1 by omega]; rfl)
          have h9 := ih (q + 1) (by omega) (by omega) (by omega)
          rw [hst] at h9
          rw [show (if 0 ≤ d q.toNat then oWi u (mem i) (mem q.toNat) * mFar u (d i) (d q.toNat) else 0) = 0 from (by first | (rw [if_neg (by omega)]) | (rw [show oWi u (mem i) (mem q.toNat) = 0 by omega, Int.zero_mul]; split <;> rfl)), Int.add_zero] at h9
          exact h9
        · refine Go.run hsz hn1 4 (pc' := 48) (lv' := [some (gr 110), some (gi x), some (gi (oY u (pOn u) (mem i) (d i) (u 148 6).toNat + wYs u mem d (mem i) (d i) q.toNat)), some (gi q)]) (st' := [gi x, gr 120, gi (oY u (pOn u) (mem i) (d i) (u 148 6).toNat + wYs u mem d (mem i) (d i) q.toNat)]) (M' := gw m ml) rfl ?_
          refine Go.aaldR 7 (by rfl) (N := 4) (by rfl) ⟨by decide, by decide⟩ (by omega) (by omega) (by decide) (gMR_120 (by omega) (by omega)) ?_
          refine Go.run hsz hn1 1 (pc' := 50) (lv' := [some (gr 110), some (gi x), some (gi (oY u (pOn u) (mem i) (d i) (u 148 6).toNat + wYs u mem d (mem i) (d i) q.toNat)), some (gi q)]) (st' := [gi q, gr (121 + x.toNat), gi (oY u (pOn u) (mem i) (d i) (u 148 6).toNat + wYs u mem d (mem i) (d i) q.toNat)]) (M' := gw m ml) rfl ?_
          refine Go.iald (by rfl) (N := 4) (shB (i := x) (by omega)) (by omega) (by omega) (by decide) ?_
          refine Go.run hsz hn1 5 (pc' := 60) (lv' := [some (gr 110), some (gi x), some (gi (oY u (pOn u) (mem i) (d i) (u 148 6).toNat + wYs u mem d (mem i) (d i) q.toNat)), some (gi q)]) (st' := [gi x, gr 125, gr 1, gi (m (121 + x.toNat) q.toNat), gi (oY u (pOn u) (mem i) (d i) (u 148 6).toNat + wYs u mem d (mem i) (d i) q.toNat)]) (M' := gw m ml) rfl ?_
          refine Go.iald (by rfl) (N := 4) (by rfl) (by omega) (by omega) (by decide) ?_
          refine Go.run hsz hn1 3 (pc' := 66) (lv' := [some (gr 110), some (gi x), some (gi (oY u (pOn u) (mem i) (d i) (u 148 6).toNat + wYs u mem d (mem i) (d i) q.toNat)), some (gi q)]) (st' := [gi q, gr 125, gi (m 125 x.toNat), gr 1, gi (m (121 + x.toNat) q.toNat), gi (oY u (pOn u) (mem i) (d i) (u 148 6).toNat + wYs u mem d (mem i) (d i) q.toNat)]) (M' := gw m ml) rfl ?_
          refine Go.iald (by rfl) (N := 4) (by rfl) (by omega) (by omega) (by decide) ?_
          refine Go.run hsz hn1 0 (pc' := 67) (lv' := [some (gr 110), some (gi x), some (gi (oY u (pOn u) (mem i) (d i) (u 148 6).toNat + wYs u mem d (mem i) (d i) q.toNat)), some (gi q)]) (st' := [gi (m 125 q.toNat), gi (m 125 x.toNat), gr 1, gi (m (121 + x.toNat) q.toNat), gi (oY u (pOn u) (mem i) (d i) (u 148 6).toNat + wYs u mem d (mem i) (d i) q.toNat)]) (M' := gw m ml) rfl ?_
          have hfd := (hp.2.2.2.2.2.2 (d i) hdi.1 hdi.2).2 (d q.toNat) (by omega) (by omega)
          have hfb := mFar_b (hp.1.2.1.2.2.2.2.2 (d i) hdi.1 hdi.2) (hp.1.2.1.2.2.2.2.2 (d q.toNat) (by omega) (by omega))
          refine Go.callV (As := [gi (m 125 x.toNat), gi (m 125 q.toNat)]) (b := 1) (st := [gi (m (121 + x.toNat) q.toNat), gi (oY u (pOn u) (mem i) (d i) (u 148 6).toNat + wYs u mem d (mem i) (d i) q.toNat)]) (mc1 := 0) (mc := 0) (ms1 := 0) (ms := 0) (by rfl) rfl (c := 7) (N := 11) (by rfl) (by decide) (by rfl) (gcn 69 (by decide)).1 (gcn 69 (by decide)).2 rfl (Nat.le_of_ble_eq_true rfl) (by omega) (cS_dist hsz (n := n - 1) (by omega) m ml (m 125 x.toNat) (m 125 q.toNat) (by omega) (by omega) (by omega) (by omega) (tM_CQ hm (by omega) (by rw [e125]; exact (hp.2.2.2.2.2.2 (d i) hdi.1 hdi.2).1)) (tM_CQ hm (by omega) (by rw [e125q]; exact (hp.2.2.2.2.2.2 (d q.toNat) (by omega) (by omega)).1))) ?_
          rintro _ _ ⟨rfl, rfl⟩
          rw [show cFar m (m 125 x.toNat) (m 125 q.toNat) = mFar u (d i) (d q.toNat) from (by rw [tM_far hm (by omega) (by omega), e125, e125q]; exact hfd)]
          refine Go.run hsz hn1 5 (pc' := 16) (lv' := [some (gr 110), some (gi x), some (gi ((oY u (pOn u) (mem i) (d i) (u 148 6).toNat + wYs u mem d (mem i) (d i) q.toNat) + ((m (121 + x.toNat) q.toNat) * (mFar u (d i) (d q.toNat))))), some (gi (q + 1))]) (st' := []) (M' := gw m ml) rfl ?_
          have hst : wYs u mem d (mem i) (d i) (q + 1).toNat = wYs u mem d (mem i) (d i) q.toNat + (if 0 ≤ d q.toNat then oWi u (mem i) (mem q.toNat) * mFar u (d i) (d q.toNat) else 0) := (by rw [show (q + 1).toNat = q.toNat + 1 by omega]; rfl)
          have h9 := ih (q + 1) (by omega) (by omega) (by omega)
          rw [hst] at h9
          rw [if_pos (by omega)] at h9
          rw [show (oY u (pOn u) (mem i) (d i) (u 148 6).toNat + wYs u mem d (mem i) (d i) q.toNat) + ((m (121 + x.toNat) q.toNat) * (mFar u (d i) (d q.toNat))) = oY u (pOn u) (mem i) (d i) (u 148 6).toNat + (wYs u mem d (mem i) (d i) q.toNat + oWi u (mem i) (mem q.toNat) * mFar u (d i) (d q.toNat)) from (by rw [e121 (by omega), Int.add_assoc])]
          exact h9
set_option maxRecDepth 100000 in
set_option maxHeartbeats 4000000 in
theorem cP_way {G : gG} (hsz : G.2.2.2.2.2.2 = true) {n : Nat} (hn : 4 ≤ n) (ml : Nat → Nat → Int64) (u mp : Nat → Nat → Int) (mlb : Nat → Nat → Int64) (mem : Nat → Nat) (z : Nat) (hp : cPr u mp mlb mem z) (m : Nat → Nat → Int) (hm : tM mp m) (x : Int) (i : Nat) (hx : x = i) (hi : i < z) (d : Nat → Int) (hd : ∀ k, k ≤ i → m 125 k = d k) (hdi : 0 ≤ d i ∧ d i < u 148 2) (hdr : inr (u 148 2).toNat d i) : gM G 41 n 0 0 [gr 110, gi x] (gw m ml) (gret (oY u (pOn u) (mem i) (d i) (u 148 6).toNat + wYs u mem d (mem i) (d i) i) (gw m ml)) := by
  have hn1 : 1 ≤ n := by omega
  have hz4 : z ≤ 4 := hp.1.2.2.1
  have e2 : m 110 2 = z := (hm.2 110 2 (by decide) (by decide) (by decide)).trans hp.2.1.1
  have hxn : x.toNat = i := (by omega)
  have hP : 0 ≤ u 148 2 ∧ u 148 2 ≤ 12 := hp.1.2.1.2.2.1
  have e125 : m 125 x.toNat = d i := (by rw [hxn]; exact hd i (Nat.le_refl _))
  have e116 : m (116 + x.toNat) (m 125 x.toNat).toNat = oY u (pOn u) (mem i) (d i) (u 148 6).toNat := (by rw [e125, hxn, hm.2 (116 + i) _ (by omega) (by omega) (Or.inl (by omega)), (hp.2.2.2.2.2.1 i hi).1 (d i).toNat (by omega), show (((d i).toNat : Nat) : Int) = d i by omega])
  refine gM.of mX5_wayOf okX5_wayOf (gcp 41 (by decide)).1 (gcp 41 (by decide)).2 (Nat.le_of_ble_eq_true rfl) ?_
  refine Go.run hsz hn1 3 (pc' := 5) (lv' := [some (gr 110), some (gi x), none, none]) (st' := [gi x, gr 115]) (M' := gw m ml) rfl ?_
  refine Go.aaldR 7 (by rfl) (N := 4) (by rfl) ⟨by decide, by decide⟩ (by omega) (by omega) (by decide) (gMR_115 (by omega) (by omega)) ?_
  refine Go.run hsz hn1 3 (pc' := 11) (lv' := [some (gr 110), some (gi x), none, none]) (st' := [gi x, gr 125, gr (116 + x.toNat)]) (M' := gw m ml) rfl ?_
  refine Go.iald (by rfl) (N := 4) (by rfl) (by omega) (by omega) (by decide) ?_
  refine Go.run hsz hn1 0 (pc' := 12) (lv' := [some (gr 110), some (gi x), none, none]) (st' := [gi (m 125 x.toNat), gr (116 + x.toNat)]) (M' := gw m ml) rfl ?_
  refine Go.iald (by rfl) (N := 12) (shW (i := x) (by omega)) (by omega) (by omega) (by decide) ?_
  refine Go.run hsz hn1 3 (pc' := 16) (lv' := [some (gr 110), some (gi x), some (gi (m (116 + x.toNat) ((m 125 x.toNat).toNat))), some (gi 0)]) (st' := []) (M' := gw m ml) rfl ?_
  have h9 := lP_way hsz (n := n) (by omega) ml u mp mlb mem z hp m hm x i hx hi d hd hdi hdr (i + 1) 0 (by omega) (by omega) (by omega); rw [show wYs u mem d (mem i) (d i) (0 : Int).toNat = 0 from rfl, Int.add_zero] at h9; rw [e116]; exact h9

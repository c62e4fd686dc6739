/-! ===== plan: the reference's loop over all ways ===== -/
def plN (P z : Nat) : Nat := (P + 1) ^ z
def plLy (mi : Nat → Nat → Int) (mem : Nat → Nat) (z c : Nat) (m : Nat → Nat → Int) (o : Int) : Prop := pMo mi mem z (cdg ((mi 148 2).toNat + 1) c z) m ∧ ((o = -1 ∧ ¬ wV mi mem (pOn mi) z (cdg ((mi 148 2).toNat + 1) c z)) ∨ (o = wO (cdg ((mi 148 2).toNat + 1) c z) z ∧ wV mi mem (pOn mi) z (cdg ((mi 148 2).toNat + 1) c z)))
def plG (mi : Nat → Nat → Int) (mem : Nat → Nat) (z c : Nat) (g : Int) : Prop := g = wGp mi mem (pOn mi) z (cdg ((mi 148 2).toNat + 1) c z)
def plA (mi : Nat → Nat → Int) (mem : Nat → Nat) (z c : Nat) (a : Int) : Prop := a = wFa mi mem (pOn mi) z (cdg ((mi 148 2).toNat + 1) c z)
def plM (mi : Nat → Nat → Int) (mem : Nat → Nat) (z c : Nat) (m : Nat → Nat → Int) : Prop := pMo mi mem z (cdg ((mi 148 2).toNat + 1) c z) m
theorem plLy.b {mi : Nat → Nat → Int} {mem : Nat → Nat} {z c : Nat} {m : Nat → Nat → Int} {o : Int} (h : plLy mi mem z c m o) : plM mi mem z c m ∧ -1 ≤ o ∧ o ≤ z := by
  refine ⟨h.1, ?_⟩
  have := wO_b (cdg ((mi 148 2).toNat + 1) c z) z
  rcases h.2 with ⟨h1, _⟩ | ⟨h1, _⟩ <;> omega
def plP1 (mi : Nat → Nat → Int) (mem : Nat → Nat) (z c : Nat) (ml : Nat → Nat → Int64) (r : Option gV) (M : gMe) : Prop := ∃ m, pMo mi mem z (cdg ((mi 148 2).toNat + 1) c z) m ∧ M = gw m ml ∧ ((r = some (gi (-1)) ∧ ¬ wV mi mem (pOn mi) z (cdg ((mi 148 2).toNat + 1) c z)) ∨ (r = some (gi (wO (cdg ((mi 148 2).toNat + 1) c z) z)) ∧ wV mi mem (pOn mi) z (cdg ((mi 148 2).toNat + 1) c z)))
def plP2 (mi : Nat → Nat → Int) (mem : Nat → Nat) (z c : Nat) (ml : Nat → Nat → Int64) (r : Option gV) (M : gMe) : Prop := ∃ m, pMo mi mem z (cdg ((mi 148 2).toNat + 1) c z) m ∧ M = gw m ml ∧ r = some (gi (wGp mi mem (pOn mi) z (cdg ((mi 148 2).toNat + 1) c z)))
theorem cM_lays2 {G : gG} (hsz : G.2.2.2.2.2.2 = true) {n : Nat} (hn : 5 ≤ n) (mi : Nat → Nat → Int) (ml : Nat → Nat → Int64) (mem : Nat → Nat) (z : Nat) (hb : pBs mi mem z) (q : Int) (q0 : 0 ≤ q) (q1 : q < 2147483648) (d0 : Nat → Int) (m : Nat → Nat → Int) (hm : pMo mi mem z d0 m) : gM G 185 n 0 0 [gr 148, gi q] (gw m ml) (plP1 mi mem z q.toNat ml) := by
  have h9 := cM_lays hsz (n := n) hn mi ml mem z hb q.toNat (by omega) _ m hm
  rw [show ((q.toNat : Nat) : Int) = q by omega] at h9
  exact h9
theorem plP1_o {mi : Nat → Nat → Int} {mem : Nat → Nat} {z c : Nat} {ml : Nat → Nat → Int64} {r : Option gV} {M : gMe} (h : plP1 mi mem z c ml r M) : ∃ (m1 : Nat → Nat → Int) (o : Int), M = gw m1 ml ∧ r = some (gi o) ∧ plLy mi mem z c m1 o := by
  obtain ⟨m1, h1, h2, h3⟩ := h
  rcases h3 with ⟨w1, w2⟩ | ⟨w1, w2⟩
  · exact ⟨m1, _, h2, w1, h1, Or.inl ⟨rfl, w2⟩⟩
  · exact ⟨m1, _, h2, w1, h1, Or.inr ⟨rfl, w2⟩⟩
theorem cM_gaps2 {G : gG} (hsz : G.2.2.2.2.2.2 = true) {n : Nat} (hn : 5 ≤ n) (mi : Nat → Nat → Int) (ml : Nat → Nat → Int64) (mem : Nat → Nat) (z : Nat) (hb : pBs mi mem z) (hgw : pGw mi) (c : Nat) (m : Nat → Nat → Int) (hm : plM mi mem z c m) : gM G 184 n 0 0 [gr 148] (gw m ml) (plP2 mi mem z c ml) := cM_gapsNow hsz (n := n) (by omega) mi ml mem z hb (cdg ((mi 148 2).toNat + 1) c z) (cdg_in _ _ _) hgw m hm
theorem plP2_o {mi : Nat → Nat → Int} {mem : Nat → Nat} {z c : Nat} {ml : Nat → Nat → Int64} {r : Option gV} {M : gMe} (hb : pBs mi mem z) (h : plP2 mi mem z c ml r M) : ∃ (m1 : Nat → Nat → Int) (g : Int), M = gw m1 ml ∧ r = some (gi g) ∧ plM mi mem z c m1 ∧ plG mi mem z c g ∧ (0 ≤ g ∧ g ≤ 1176) := by
  obtain ⟨m1, h1, h2, h3⟩ := h
  refine ⟨m1, _, h2, h3, h1, rfl, ?_⟩
  have := oGs_b mi (wAs mem (pOn mi) (cdg ((mi 148 2).toNat + 1) c z) z) (mi 148 6).toNat (mi 148 2).toNat
  have hP : 0 ≤ mi 148 2 ∧ mi 148 2 ≤ 12 := hb.1.2.2.1
  unfold wGp
  omega
theorem plP3_o {mi : Nat → Nat → Int} {mem : Nat → Nat} {z c : Nat} (hb : pBs mi mem z) {m : Nat → Nat → Int} (hm : plM mi mem z c m) : SV m ∧ ∃ a : Int, mApart m (m 148 6).toNat = a ∧ plA mi mem z c a ∧ (0 ≤ a ∧ a ≤ 4752) := by
  have hS := pMo.SV hb (cdg_in _ _ _) hm
  have hq : 0 ≤ m 148 6 ∧ m 148 6 ≤ 24 := hS.2.2.2.1
  have hab := mApart_b hS (m 148 6).toNat (by omega)
  refine ⟨hS, _, rfl, ?_, by omega⟩
  show mApart m (m 148 6).toNat = _
  rw [pMo.apart hb hm, hm.2.1 148 6 (by decide) (by decide)]
  rfl
section PLI
variable {mi : Nat → Nat → Int} {mem : Nat → Nat} {z c : Nat} {mo fe ne be o g a : Int} {m : Nat → Nat → Int}
theorem plI_p1 (h : pI mi mem z c mo fe ne be) (hL : plLy mi mem z c m o) (hc : c < plN (mi 148 2).toNat z) (h0 : o < 0 ∨ o < mo) : pI mi mem z (c + 1) mo fe ne be := by
  refine pI_pass h hc (fun hV => ?_)
  rcases hL.2 with ⟨_, w⟩ | ⟨w, _⟩
  · exact absurd hV w
  · have := wO_b (cdg ((mi 148 2).toNat + 1) c z) z
    unfold bet
    omega
theorem plI_p2 (h : pI mi mem z c mo fe ne be) (hL : plLy mi mem z c m o) (hc : c < plN (mi 148 2).toNat z) (hg : plG mi mem z c g) (h0 : 0 ≤ o) (h1 : o = mo) (h2 : fe < g) : pI mi mem z (c + 1) mo fe ne be := by
  refine pI_pass h hc (fun hV => ?_)
  unfold plG at hg
  rcases hL.2 with ⟨_, w⟩ | ⟨w, _⟩
  · exact absurd hV w
  · unfold bet
    omega
theorem plI_p3 (h : pI mi mem z c mo fe ne be) (hL : plLy mi mem z c m o) (hc : c < plN (mi 148 2).toNat z) (hg : plG mi mem z c g) (ha : plA mi mem z c a) (h0 : 0 ≤ o) (h1 : o = mo) (h2 : g = fe) (h3 : ¬ a < ne) : pI mi mem z (c + 1) mo fe ne be := by
  refine pI_pass h hc (fun hV => ?_)
  unfold plG at hg
  unfold plA at ha
  rcases hL.2 with ⟨_, w⟩ | ⟨w, _⟩
  · exact absurd hV w
  · unfold bet
    omega
theorem plI_t (h : pI mi mem z c mo fe ne be) (hL : plLy mi mem z c m o) (hc : c < plN (mi 148 2).toNat z) (hg : plG mi mem z c g) (ha : plA mi mem z c a) (h0 : 0 ≤ o) (h1 : mo < o ∨ (o = mo ∧ (g < fe ∨ (g = fe ∧ a < ne)))) : pI mi mem z (c + 1) o g a (c : Int) := by
  rcases hL.2 with ⟨w, _⟩ | ⟨w, hV⟩
  · omega
  · have h9 := pI_take h hc hV (by
      rw [← w, ← show g = _ from hg, ← show a = _ from ha]
      unfold bet
      omega)
    rw [← w, ← show g = _ from hg, ← show a = _ from ha] at h9
    exact h9
def plE (mi : Nat → Nat → Int) (mem : Nat → Nat) (z : Nat) (m : Nat → Nat → Int) (o : Int) : Prop := ∃ d : Nat → Int, pB (mi 148 2).toNat z (wW mi mem (pOn mi) z) (fun _ => True) d ∧ pMo mi mem z d m ∧ o = wO d z
theorem plI_e (h : pI mi mem z (plN (mi 148 2).toNat z) mo fe ne be) : 0 ≤ be ∧ be.toNat < plN (mi 148 2).toNat z ∧ ∀ (m : Nat → Nat → Int) (o : Int), plLy mi mem z be.toNat m o → plE mi mem z m o := by
  obtain ⟨b, h1, h2, h3⟩ := pI_end h
  obtain rfl : be.toNat = b := by omega
  refine ⟨by omega, h2, fun m o hL => ⟨_, h3, hL.1, ?_⟩⟩
  rcases hL.2 with ⟨_, w⟩ | ⟨w, _⟩
  · exact absurd h3.2.2.1 w
  · exact w
end PLI
set_option maxRecDepth 100000 in
set_option maxHeartbeats 4000000 in
theorem lM_pl {G : gG} (hsz : G.2.2.2.2.2.2 = true) {n : Nat} (hn : 7 ≤ n) (ml : Nat → Nat → Int64) (mi : Nat → Nat → Int) (x : Int) (mem : Nat → Nat) (z : Nat) (hb : pBs mi mem z) (hgw : pGw mi) (W : Int) (hW0 : 0 ≤ W ∧ W < 2147483647) (hW : plN (mi 148 2).toNat z = W.toNat) : ∀ (f : Nat) (q : Int) (mo fe ne be : Int) (d0 : Nat → Int) (m : Nat → Nat → Int) (hI : pI mi mem z q.toNat mo fe ne be) (hm : pMo mi mem z d0 m), 0 ≤ q → q ≤ W → W - q < f → (-1 ≤ mo ∧ mo ≤ 4) → (0 ≤ fe ∧ fe ≤ 1176) → (0 ≤ ne ∧ ne ≤ 4752) → Go G mX12_plan n 0 0 190 [some (gr 148), some (gi x), some (gi W), some (gi mo), some (gi fe), some (gi ne), some (gi be), some (gi q), none, none, none] [] (gw m ml) (fun r M => ∃ (m1 : Nat → Nat → Int) (o : Int), M = gw m1 ml ∧ r = some (gi o) ∧ plE mi mem z m1 o) := by
  have hn1 : 1 ≤ n := by omega
  have hz4 : z ≤ 4 := hb.2.1
  intro f
  induction f with
  | zero => intros; omega
  | succ f ih =>
    intro q mo fe ne be d0 m hI hm q0 q1 q2 hmo hfe hne
    refine Go.run hsz hn1 2 (pc' := 193) (lv' := [some (gr 148), some (gi x), some (gi W), some (gi mo), some (gi fe), some (gi ne), some (gi be), some (gi q), none, none, none]) (st' := [gi W, gi q]) (M' := gw m ml) rfl ?_
    refine Go.icmp_ge (by rfl) ⟨by omega, by omega⟩ ⟨by omega, by omega⟩ (fun kq1 => ?_) (fun kq1 => ?_)
    · refine Go.dropl 7 ?_
      refine Go.run hsz hn1 0 (pc' := 295) (lv' := [some (gr 148), some (gi x), some (gi W), some (gi mo), some (gi fe), some (gi ne), some (gi be), none, none, none, none]) (st' := []) (M' := gw m ml) rfl ?_
      have hq9 : q.toNat = plN (mi 148 2).toNat z := (by omega)
      rw [hq9] at hI
      have hE := plI_e hI
      have hE1 := hE.1
      have hE2 := hE.2.1
      refine Go.run hsz hn1 2 (pc' := 298) (lv' := [some (gr 148), some (gi x), some (gi W), some (gi mo), some (gi fe), some (gi ne), some (gi be), none, none, none, none]) (st' := [gi be, gr 148]) (M' := gw m ml) rfl ?_
      refine Go.callV (As := [gi be]) (b := 148) (st := []) (mc1 := 0) (mc := 0) (ms1 := 0) (ms := 0) (by rfl) rfl (c := 11) (N := 46) (by rfl) (by decide) (by rfl) (gcn 185 (by decide)).1 (gcn 185 (by decide)).2 rfl (Nat.le_of_ble_eq_true rfl) (by omega) (cM_lays2 hsz (n := n - 1) (by omega) mi ml mem z hb be (by omega) (by omega) d0 m hm) ?_
      rintro _ _ hP1
      obtain ⟨m1, o, rfl, rfl, hL⟩ := plP1_o hP1
      refine Go.run hsz hn1 0 (pc' := 301) (lv' := [some (gr 148), some (gi x), some (gi W), some (gi mo), some (gi fe), some (gi ne), some (gi be), none, none, none, none]) (st' := [gi o]) (M' := gw m1 ml) rfl ?_
      exact Go.iret (by rfl) ⟨m1, o, rfl, rfl, hE.2.2 m1 o hL⟩
    · refine Go.run hsz hn1 2 (pc' := 199) (lv' := [some (gr 148), some (gi x), some (gi W), some (gi mo), some (gi fe), some (gi ne), some (gi be), some (gi q), none, none, none]) (st' := [gi q, gr 148]) (M' := gw m ml) rfl ?_
      refine Go.callV (As := [gi q]) (b := 148) (st := []) (mc1 := 0) (mc := 0) (ms1 := 0) (ms := 0) (by rfl) rfl (c := 11) (N := 46) (by rfl) (by decide) (by rfl) (gcn 185 (by decide)).1 (gcn 185 (by decide)).2 rfl (Nat.le_of_ble_eq_true rfl) (by omega) (cM_lays2 hsz (n := n - 1) (by omega) mi ml mem z hb q (by omega) (by omega) d0 m hm) ?_
      rintro _ _ hP1
      obtain ⟨m1, o, rfl, rfl, hL⟩ := plP1_o hP1
      have hob := hL.b.2
      have hm1 := hL.b.1
      refine Go.run hsz hn1 2 (pc' := 206) (lv' := [some (gr 148), some (gi x), some (gi W), some (gi mo), some (gi fe), some (gi ne), some (gi be), some (gi q), some (gi o), none, none]) (st' := [gi o]) (M' := gw m1 ml) rfl ?_
      refine Go.if_lt (by rfl) ⟨by omega, by omega⟩ (fun kq2 => ?_) (fun kq2 => ?_)
      · refine Go.run hsz hn1 2 (pc' := 190) (lv' := [some (gr 148), some (gi x), some (gi W), some (gi mo), some (gi fe), some (gi ne), some (gi be), some (gi (q + 1)), some (gi o), none, none]) (st' := []) (M' := gw m1 ml) rfl ?_
        refine Go.dropl 8 ?_
        refine Go.run hsz hn1 0 (pc' := 190) (lv' := [some (gr 148), some (gi x), some (gi W), some (gi mo), some (gi fe), some (gi ne), some (gi be), some (gi (q + 1)), none, none, none]) (st' := []) (M' := gw m1 ml) rfl ?_
        have hlt : q.toNat < plN (mi 148 2).toNat z := (by omega)
        refine ih (q + 1) mo fe ne be _ m1 ?_ hm1 (by omega) (by omega) (by omega) (by omega) (by omega) (by omega)
        rw [show (q + 1).toNat = q.toNat + 1 by omega]
        exact plI_p1 hI hL hlt (by omega)
      · refine Go.run hsz hn1 2 (pc' := 212) (lv' := [some (gr 148), some (gi x), some (gi W), some (gi mo), some (gi fe), some (gi ne), some (gi be), some (gi q), some (gi o), none, none]) (st' := [gi mo, gi o]) (M' := gw m1 ml) rfl ?_
        refine Go.icmp_ge (by rfl) ⟨by omega, by omega⟩ ⟨by omega, by omega⟩ (fun kq3 => ?_) (fun kq3 => ?_)
        · refine Go.run hsz hn1 1 (pc' := 219) (lv' := [some (gr 148), some (gi x), some (gi W), some (gi mo), some (gi fe), some (gi ne), some (gi be), some (gi q), some (gi o), none, none]) (st' := [gr 148]) (M' := gw m1 ml) rfl ?_
          refine Go.callV (As := []) (b := 148) (st := []) (mc1 := 0) (mc := 0) (ms1 := 0) (ms := 0) (by rfl) rfl (c := 11) (N := 46) (by rfl) (by decide) (by rfl) (gcn 184 (by decide)).1 (gcn 184 (by decide)).2 rfl (Nat.le_of_ble_eq_true rfl) (by omega) (cM_gaps2 hsz (n := n - 1) (by omega) mi ml mem z hb hgw q.toNat m1 hm1) ?_
          rintro _ _ hP2
          obtain ⟨m2, g, rfl, rfl, hm2, hg, hgb⟩ := plP2_o hb hP2
          refine Go.run hsz hn1 3 (pc' := 227) (lv' := [some (gr 148), some (gi x), some (gi W), some (gi mo), some (gi fe), some (gi ne), some (gi be), some (gi q), some (gi o), some (gi g), none]) (st' := [gi mo, gi o]) (M' := gw m2 ml) rfl ?_
          refine Go.icmp_gt (by rfl) ⟨by omega, by omega⟩ ⟨by omega, by omega⟩ (fun kq4 => ?_) (fun kq4 => ?_)
          · refine Go.run hsz hn1 1 (pc' := 238) (lv' := [some (gr 148), some (gi x), some (gi W), some (gi mo), some (gi fe), some (gi ne), some (gi be), some (gi q), some (gi o), some (gi g), none]) (st' := [gr 148]) (M' := gw m2 ml) rfl ?_
            obtain ⟨hS2, a, ha0, ha, hab⟩ := plP3_o hb hm2
            refine Go.callV (As := []) (b := 148) (st := []) (mc1 := 0) (mc := 0) (ms1 := 0) (ms := 0) (by rfl) rfl (c := 11) (N := 46) (by rfl) (by decide) (by rfl) (gcn 181 (by decide)).1 (gcn 181 (by decide)).2 rfl (Nat.le_of_ble_eq_true rfl) (by omega) (cM_apartNow hsz (n := n - 1) (by omega) m2 ml hS2) ?_
            rintro _ _ ⟨rfl, rfl⟩
            rw [ha0]
            refine Go.run hsz hn1 4 (pc' := 250) (lv' := [some (gr 148), some (gi x), some (gi W), some (gi mo), some (gi fe), some (gi ne), some (gi be), some (gi q), some (gi o), some (gi g), some (gi a)]) (st' := [gi mo, gi o]) (M' := gw m2 ml) rfl ?_
            refine Go.icmp_gt (by rfl) ⟨by omega, by omega⟩ ⟨by omega, by omega⟩ (fun kq5 => ?_) (fun kq5 => ?_)
            · refine Go.run hsz hn1 10 (pc' := 190) (lv' := [some (gr 148), some (gi x), some (gi W), some (gi o), some (gi g), some (gi a), some (gi q), some (gi (q + 1)), some (gi o), some (gi g), some (gi a)]) (st' := []) (M' := gw m2 ml) rfl ?_
              refine Go.dropl 8 ?_
              refine Go.dropl 9 ?_
              refine Go.dropl 10 ?_
              refine Go.run hsz hn1 0 (pc' := 190) (lv' := [some (gr 148), some (gi x), some (gi W), some (gi o), some (gi g), some (gi a), some (gi q), some (gi (q + 1)), none, none, none]) (st' := []) (M' := gw m2 ml) rfl ?_
              have hlt : q.toNat < plN (mi 148 2).toNat z := (by omega)
              have h9 := plI_t hI hL hlt hg ha (by omega) (by omega)
              rw [show ((q.toNat : Nat) : Int) = q by omega] at h9
              exact ih (q + 1) o g a q _ m2 (by rw [show (q + 1).toNat = q.toNat + 1 by omega]; exact h9) hm2 (by omega) (by omega) (by omega) (by omega) (by omega) (by omega)
            · refine Go.run hsz hn1 2 (pc' := 257) (lv' := [some (gr 148), some (gi x), some (gi W), some (gi mo), some (gi fe), some (gi ne), some (gi be), some (gi q), some (gi o), some (gi g), some (gi a)]) (st' := [gi fe, gi g]) (M' := gw m2 ml) rfl ?_
              refine Go.icmp_lt (by rfl) ⟨by omega, by omega⟩ ⟨by omega, by omega⟩ (fun kq6 => ?_) (fun kq6 => ?_)
              · refine Go.run hsz hn1 10 (pc' := 190) (lv' := [some (gr 148), some (gi x), some (gi W), some (gi o), some (gi g), some (gi a), some (gi q), some (gi (q + 1)), some (gi o), some (gi g), some (gi a)]) (st' := []) (M' := gw m2 ml) rfl ?_
                refine Go.dropl 8 ?_
                refine Go.dropl 9 ?_
                refine Go.dropl 10 ?_
                refine Go.run hsz hn1 0 (pc' := 190) (lv' := [some (gr 148), some (gi x), some (gi W), some (gi o), some (gi g), some (gi a), some (gi q), some (gi (q + 1)), none, none, none]) (st' := []) (M' := gw m2 ml) rfl ?_
                have hlt : q.toNat < plN (mi 148 2).toNat z := (by omega)
                have h9 := plI_t hI hL hlt hg ha (by omega) (by omega)
                rw [show ((q.toNat : Nat) : Int) = q by omega] at h9
                exact ih (q + 1) o g a q _ m2 (by rw [show (q + 1).toNat = q.toNat + 1 by omega]; exact h9) hm2 (by omega) (by omega) (by omega) (by omega) (by omega) (by omega)
              · refine Go.run hsz hn1 2 (pc' := 264) (lv' := [some (gr 148), some (gi x), some (gi W), some (gi mo), some (gi fe), some (gi ne), some (gi be), some (gi q), some (gi o), some (gi g), some (gi a)]) (st' := [gi fe, gi g]) (M' := gw m2 ml) rfl ?_
                refine Go.icmp_ne (by rfl) ⟨by omega, by omega⟩ ⟨by omega, by omega⟩ (fun kq7 => ?_) (fun kq7 => ?_)
                · refine Go.run hsz hn1 2 (pc' := 190) (lv' := [some (gr 148), some (gi x), some (gi W), some (gi mo), some (gi fe), some (gi ne), some (gi be), some (gi (q + 1)), some (gi o), some (gi g), some (gi a)]) (st' := []) (M' := gw m2 ml) rfl ?_
                  refine Go.dropl 8 ?_
                  refine Go.dropl 9 ?_
                  refine Go.dropl 10 ?_
                  refine Go.run hsz hn1 0 (pc' := 190) (lv' := [some (gr 148), some (gi x), some (gi W), some (gi mo), some (gi fe), some (gi ne), some (gi be), some (gi (q + 1)), none, none, none]) (st' := []) (M' := gw m2 ml) rfl ?_
                  have hlt : q.toNat < plN (mi 148 2).toNat z := (by omega)
                  refine ih (q + 1) mo fe ne be _ m2 ?_ hm2 (by omega) (by omega) (by omega) (by omega) (by omega) (by omega)
                  rw [show (q + 1).toNat = q.toNat + 1 by omega]
                  first | exact plI_p3 hI hL hlt hg ha (by omega) (by omega) (by omega) (by omega) | exact plI_p2 hI hL hlt hg (by omega) (by omega) (by omega)
                · refine Go.run hsz hn1 2 (pc' := 271) (lv' := [some (gr 148), some (gi x), some (gi W), some (gi mo), some (gi fe), some (gi ne), some (gi be), some (gi q), some (gi o), some (gi g), some (gi a)]) (st' := [gi ne, gi a]) (M' := gw m2 ml) rfl ?_
                  refine Go.icmp_ge (by rfl) ⟨by omega, by omega⟩ ⟨by omega, by omega⟩ (fun kq8 => ?_) (fun kq8 => ?_)
                  · refine Go.run hsz hn1 2 (pc' := 190) (lv' := [some (gr 148), some (gi x), some (gi W), some (gi mo), some (gi fe), some (gi ne), some (gi be), some (gi (q + 1)), some (gi o), some (gi g), some (gi a)]) (st' := []) (M' := gw m2 ml) rfl ?_
                    refine Go.dropl 8 ?_
                    refine Go.dropl 9 ?_
                    refine Go.dropl 10 ?_
                    refine Go.run hsz hn1 0 (pc' := 190) (lv' := [some (gr 148), some (gi x), some (gi W), some (gi mo), some (gi fe), some (gi ne), some (gi be), some (gi (q + 1)), none, none, none]) (st' := []) (M' := gw m2 ml) rfl ?_
                    have hlt : q.toNat < plN (mi 148 2).toNat z := (by omega)
                    refine ih (q + 1) mo fe ne be _ m2 ?_ hm2 (by omega) (by omega) (by omega) (by omega) (by omega) (by omega)
                    rw [show (q + 1).toNat = q.toNat + 1 by omega]
                    first | exact plI_p3 hI hL hlt hg ha (by omega) (by omega) (by omega) (by omega) | exact plI_p2 hI hL hlt hg (by omega) (by omega) (by omega)
                  · refine Go.run hsz hn1 10 (pc' := 190) (lv' := [some (gr 148), some (gi x), some (gi W), some (gi o), some (gi g), some (gi a), some (gi q), some (gi (q + 1)), some (gi o), some (gi g), some (gi a)]) (st' := []) (M' := gw m2 ml) rfl ?_
                    refine Go.dropl 8 ?_
                    refine Go.dropl 9 ?_
                    refine Go.dropl 10 ?_
                    refine Go.run hsz hn1 0 (pc' := 190) (lv' := [some (gr 148), some (gi x), some (gi W), some (gi o), some (gi g), some (gi a), some (gi q), some (gi (q + 1)), none, none, none]) (st' := []) (M' := gw m2 ml) rfl ?_
                    have hlt : q.toNat < plN (mi 148 2).toNat z := (by omega)
                    have h9 := plI_t hI hL hlt hg ha (by omega) (by omega)
                    rw [show ((q.toNat : Nat) : Int) = q by omega] at h9
                    exact ih (q + 1) o g a q _ m2 (by rw [show (q + 1).toNat = q.toNat + 1 by omega]; exact h9) hm2 (by omega) (by omega) (by omega) (by omega) (by omega) (by omega)
          · refine Go.run hsz hn1 2 (pc' := 234) (lv' := [some (gr 148), some (gi x), some (gi W), some (gi mo), some (gi fe), some (gi ne), some (gi be), some (gi q), some (gi o), some (gi g), none]) (st' := [gi fe, gi g]) (M' := gw m2 ml) rfl ?_
            refine Go.icmp_gt (by rfl) ⟨by omega, by omega⟩ ⟨by omega, by omega⟩ (fun kq9 => ?_) (fun kq9 => ?_)
            · refine Go.run hsz hn1 4 (pc' := 250) (lv' := [some (gr 148), some (gi x), some (gi W), some (gi mo), some (gi fe), some (gi ne), some (gi be), some (gi q), some (gi o), some (gi g), some (gi 0)]) (st' := [gi mo, gi o]) (M' := gw m2 ml) rfl ?_
              refine Go.icmp_gt (by rfl) ⟨by omega, by omega⟩ ⟨by omega, by omega⟩ (fun kq10 => ?_) (fun kq10 => ?_)
              · refine Go.run hsz hn1 10 (pc' := 190) (lv' := [some (gr 148), some (gi x), some (gi W), some (gi o), some (gi g), some (gi 0), some (gi q), some (gi (q + 1)), some (gi o), some (gi g), some (gi 0)]) (st' := []) (M' := gw m2 ml) rfl ?_
                refine Go.dropl 8 ?_
                refine Go.dropl 9 ?_
                refine Go.dropl 10 ?_
                refine Go.run hsz hn1 0 (pc' := 190) (lv' := [some (gr 148), some (gi x), some (gi W), some (gi o), some (gi g), some (gi 0), some (gi q), some (gi (q + 1)), none, none, none]) (st' := []) (M' := gw m2 ml) rfl ?_
                have hlt : q.toNat < plN (mi 148 2).toNat z := (by omega)
                exfalso; omega
              · refine Go.run hsz hn1 2 (pc' := 257) (lv' := [some (gr 148), some (gi x), some (gi W), some (gi mo), some (gi fe), some (gi ne), some (gi be), some (gi q), some (gi o), some (gi g), some (gi 0)]) (st' := [gi fe, gi g]) (M' := gw m2 ml) rfl ?_
                refine Go.icmp_lt (by rfl) ⟨by omega, by omega⟩ ⟨by omega, by omega⟩ (fun kq11 => ?_) (fun kq11 => ?_)
                · refine Go.run hsz hn1 10 (pc' := 190) (lv' := [some (gr 148), some (gi x), some (gi W), some (gi o), some (gi g), some (gi 0), some (gi q), some (gi (q + 1)), some (gi o), some (gi g), some (gi 0)]) (st' := []) (M' := gw m2 ml) rfl ?_
                  refine Go.dropl 8 ?_
                  refine Go.dropl 9 ?_
                  refine Go.dropl 10 ?_
                  refine Go.run hsz hn1 0 (pc' := 190) (lv' := [some (gr 148), some (gi x), some (gi W), some (gi o), some (gi g), some (gi 0), some (gi q), some (gi (q + 1)), none, none, none]) (st' := []) (M' := gw m2 ml) rfl ?_
                  have hlt : q.toNat < plN (mi 148 2).toNat z := (by omega)
                  exfalso; omega
                · refine Go.run hsz hn1 2 (pc' := 264) (lv' := [some (gr 148), some (gi x), some (gi W), some (gi mo), some (gi fe), some (gi ne), some (gi be), some (gi q), some (gi o), some (gi g), some (gi 0)]) (st' := [gi fe, gi g]) (M' := gw m2 ml) rfl ?_
                  refine Go.icmp_ne (by rfl) ⟨by omega, by omega⟩ ⟨by omega, by omega⟩ (fun kq12 => ?_) (fun kq12 => ?_)
                  · refine Go.run hsz hn1 2 (pc' := 190) (lv' := [some (gr 148), some (gi x), some (gi W), some (gi mo), some (gi fe), some (gi ne), some (gi be), some (gi (q + 1)), some (gi o), some (gi g), some (gi 0)]) (st' := []) (M' := gw m2 ml) rfl ?_
                    refine Go.dropl 8 ?_
                    refine Go.dropl 9 ?_
                    refine Go.dropl 10 ?_
                    refine Go.run hsz hn1 0 (pc' := 190) (lv' := [some (gr 148), some (gi x), some (gi W), some (gi mo), some (gi fe), some (gi ne), some (gi be), some (gi (q + 1)), none, none, none]) (st' := []) (M' := gw m2 ml) rfl ?_
                    have hlt : q.toNat < plN (mi 148 2).toNat z := (by omega)
                    refine ih (q + 1) mo fe ne be _ m2 ?_ hm2 (by omega) (by omega) (by omega) (by omega) (by omega) (by omega)
                    rw [show (q + 1).toNat = q.toNat + 1 by omega]
                    exact plI_p2 hI hL hlt hg (by omega) (by omega) (by omega)
                  · refine Go.run hsz hn1 2 (pc' := 271) (lv' := [some (gr 148), some (gi x), some (gi W), some (gi mo), some (gi fe), some (gi ne), some (gi be), some (gi q), some (gi o), some (gi g), some (gi 0)]) (st' := [gi ne, gi 0]) (M' := gw m2 ml) rfl ?_
                    refine Go.icmp_ge (by rfl) ⟨by decide, by decide⟩ ⟨by omega, by omega⟩ (fun kq13 => ?_) (fun kq13 => ?_)
                    · refine Go.run hsz hn1 2 (pc' := 190) (lv' := [some (gr 148), some (gi x), some (gi W), some (gi mo), some (gi fe), some (gi ne), some (gi be), some (gi (q + 1)), some (gi o), some (gi g), some (gi 0)]) (st' := []) (M' := gw m2 ml) rfl ?_
                      refine Go.dropl 8 ?_
                      refine Go.dropl 9 ?_
                      refine Go.dropl 10 ?_
                      refine Go.run hsz hn1 0 (pc' := 190) (lv' := [some (gr 148), some (gi x), some (gi W), some (gi mo), some (gi fe), some (gi ne), some (gi be), some (gi (q + 1)), none, none, none]) (st' := []) (M' := gw m2 ml) rfl ?_
                      have hlt : q.toNat < plN (mi 148 2).toNat z := (by omega)
                      refine ih (q + 1) mo fe ne be _ m2 ?_ hm2 (by omega) (by omega) (by omega) (by omega) (by omega) (by omega)
                      rw [show (q + 1).toNat = q.toNat + 1 by omega]
                      exact plI_p2 hI hL hlt hg (by omega) (by omega) (by omega)
                    · refine Go.run hsz hn1 10 (pc' := 190) (lv' := [some (gr 148), some (gi x), some (gi W), some (gi o), some (gi g), some (gi 0), some (gi q), some (gi (q + 1)), some (gi o), some (gi g), some (gi 0)]) (st' := []) (M' := gw m2 ml) rfl ?_
                      refine Go.dropl 8 ?_
                      refine Go.dropl 9 ?_
                      refine Go.dropl 10 ?_
                      refine Go.run hsz hn1 0 (pc' := 190) (lv' := [some (gr 148), some (gi x), some (gi W), some (gi o), some (gi g), some (gi 0), some (gi q), some (gi (q + 1)), none, none, none]) (st' := []) (M' := gw m2 ml) rfl ?_
                      have hlt : q.toNat < plN (mi 148 2).toNat z := (by omega)
                      exfalso; omega
            · refine Go.run hsz hn1 1 (pc' := 238) (lv' := [some (gr 148), some (gi x), some (gi W), some (gi mo), some (gi fe), some (gi ne), some (gi be), some (gi q), some (gi o), some (gi g), none]) (st' := [gr 148]) (M' := gw m2 ml) rfl ?_
              obtain ⟨hS2, a, ha0, ha, hab⟩ := plP3_o hb hm2
              refine Go.callV (As := []) (b := 148) (st := []) (mc1 := 0) (mc := 0) (ms1 := 0) (ms := 0) (by rfl) rfl (c := 11) (N := 46) (by rfl) (by decide) (by rfl) (gcn 181 (by decide)).1 (gcn 181 (by decide)).2 rfl (Nat.le_of_ble_eq_true rfl) (by omega) (cM_apartNow hsz (n := n - 1) (by omega) m2 ml hS2) ?_
              rintro _ _ ⟨rfl, rfl⟩
              rw [ha0]
              refine Go.run hsz hn1 4 (pc' := 250) (lv' := [some (gr 148), some (gi x), some (gi W), some (gi mo), some (gi fe), some (gi ne), some (gi be), some (gi q), some (gi o), some (gi g), some (gi a)]) (st' := [gi mo, gi o]) (M' := gw m2 ml) rfl ?_
              refine Go.icmp_gt (by rfl) ⟨by omega, by omega⟩ ⟨by omega, by omega⟩ (fun kq14 => ?_) (fun kq14 => ?_)
              · refine Go.run hsz hn1 10 (pc' := 190) (lv' := [some (gr 148), some (gi x), some (gi W), some (gi o), some (gi g), some (gi a), some (gi q), some (gi (q + 1)), some (gi o), some (gi g), some (gi a)]) (st' := []) (M' := gw m2 ml) rfl ?_
                refine Go.dropl 8 ?_
                refine Go.dropl 9 ?_
                refine Go.dropl 10 ?_
                refine Go.run hsz hn1 0 (pc' := 190) (lv' := [some (gr 148), some (gi x), some (gi W), some (gi o), some (gi g), some (gi a), some (gi q), some (gi (q + 1)), none, none, none]) (st' := []) (M' := gw m2 ml) rfl ?_
                have hlt : q.toNat < plN (mi 148 2).toNat z := (by omega)
                have h9 := plI_t hI hL hlt hg ha (by omega) (by omega)
                rw [show ((q.toNat : Nat) : Int) = q by omega] at h9
                exact ih (q + 1) o g a q _ m2 (by rw [show (q + 1).toNat = q.toNat + 1 by omega]; exact h9) hm2 (by omega) (by omega) (by omega) (by omega) (by omega) (by omega)
              · refine Go.run hsz hn1 2 (pc' := 257) (lv' := [some (gr 148), some (gi x), some (gi W), some (gi mo), some (gi fe), some (gi ne), some (gi be), some (gi q), some (gi o), some (gi g), some (gi a)]) (st' := [gi fe, gi g]) (M' := gw m2 ml) rfl ?_
                refine Go.icmp_lt (by rfl) ⟨by omega, by omega⟩ ⟨by omega, by omega⟩ (fun kq15 => ?_) (fun kq15 => ?_)
                · refine Go.run hsz hn1 10 (pc' := 190) (lv' := [some (gr 148), some (gi x), some (gi W), some (gi o), some (gi g), some (gi a), some (gi q), some (gi (q + 1)), some (gi o), some (gi g), some (gi a)]) (st' := []) (M' := gw m2 ml) rfl ?_
                  refine Go.dropl 8 ?_
                  refine Go.dropl 9 ?_
                  refine Go.dropl 10 ?_
                  refine Go.run hsz hn1 0 (pc' := 190) (lv' := [some (gr 148), some (gi x), some (gi W), some (gi o), some (gi g), some (gi a), some (gi q), some (gi (q + 1)), none, none, none]) (st' := []) (M' := gw m2 ml) rfl ?_
                  have hlt : q.toNat < plN (mi 148 2).toNat z := (by omega)
                  have h9 := plI_t hI hL hlt hg ha (by omega) (by omega)
                  rw [show ((q.toNat : Nat) : Int) = q by omega] at h9
                  exact ih (q + 1) o g a q _ m2 (by rw [show (q + 1).toNat = q.toNat + 1 by omega]; exact h9) hm2 (by omega) (by omega) (by omega) (by omega) (by omega) (by omega)
                · refine Go.run hsz hn1 2 (pc' := 264) (lv' := [some (gr 148), some (gi x), some (gi W), some (gi mo), some (gi fe), some (gi ne), some (gi be), some (gi q), some (gi o), some (gi g), some (gi a)]) (st' := [gi fe, gi g]) (M' := gw m2 ml) rfl ?_
                  refine Go.icmp_ne (by rfl) ⟨by omega, by omega⟩ ⟨by omega, by omega⟩ (fun kq16 => ?_) (fun kq16 => ?_)
                  · refine Go.run hsz hn1 2 (pc' := 190) (lv' := [some (gr 148), some (gi x), some (gi W), some (gi mo), some (gi fe), some (gi ne), some (gi be), some (gi (q + 1)), some (gi o), some (gi g), some (gi a)]) (st' := []) (M' := gw m2 ml) rfl ?_
                    refine Go.dropl 8 ?_
                    refine Go.dropl 9 ?_
                    refine Go.dropl 10 ?_
                    refine Go.run hsz hn1 0 (pc' := 190) (lv' := [some (gr 148), some (gi x), some (gi W), some (gi mo), some (gi fe), some (gi ne), some (gi be), some (gi (q + 1)), none, none, none]) (st' := []) (M' := gw m2 ml) rfl ?_
                    have hlt : q.toNat < plN (mi 148 2).toNat z := (by omega)
                    refine ih (q + 1) mo fe ne be _ m2 ?_ hm2 (by omega) (by omega) (by omega) (by omega) (by omega) (by omega)
                    rw [show (q + 1).toNat = q.toNat + 1 by omega]
                    first | exact plI_p3 hI hL hlt hg ha (by omega) (by omega) (by omega) (by omega) | exact plI_p2 hI hL hlt hg (by omega) (by omega) (by omega)
                  · refine Go.run hsz hn1 2 (pc' := 271) (lv' := [some (gr 148), some (gi x), some (gi W), some (gi mo), some (gi fe), some (gi ne), some (gi be), some (gi q), some (gi o), some (gi g), some (gi a)]) (st' := [gi ne, gi a]) (M' := gw m2 ml) rfl ?_
                    refine Go.icmp_ge (by rfl) ⟨by omega, by omega⟩ ⟨by omega, by omega⟩ (fun kq17 => ?_) (fun kq17 => ?_)
                    · refine Go.run hsz hn1 2 (pc' := 190) (lv' := [some (gr 148), some (gi x), some (gi W), some (gi mo), some (gi fe), some (gi ne), some (gi be), some (gi (q + 1)), some (gi o), some (gi g), some (gi a)]) (st' := []) (M' := gw m2 ml) rfl ?_
                      refine Go.dropl 8 ?_
                      refine Go.dropl 9 ?_
                      refine Go.dropl 10 ?_
                      refine Go.run hsz hn1 0 (pc' := 190) (lv' := [some (gr 148), some (gi x), some (gi W), some (gi mo), some (gi fe), some (gi ne), some (gi be), some (gi (q + 1)), none, none, none]) (st' := []) (M' := gw m2 ml) rfl ?_
                      have hlt : q.toNat < plN (mi 148 2).toNat z := (by omega)
                      refine ih (q + 1) mo fe ne be _ m2 ?_ hm2 (by omega) (by omega) (by omega) (by omega) (by omega) (by omega)
                      rw [show (q + 1).toNat = q.toNat + 1 by omega]
                      first | exact plI_p3 hI hL hlt hg ha (by omega) (by omega) (by omega) (by omega) | exact plI_p2 hI hL hlt hg (by omega) (by omega) (by omega)
                    · refine Go.run hsz hn1 10 (pc' := 190) (lv' := [some (gr 148), some (gi x), some (gi W), some (gi o), some (gi g), some (gi a), some (gi q), some (gi (q + 1)), some (gi o), some (gi g), some (gi a)]) (st' := []) (M' := gw m2 ml) rfl ?_
                      refine Go.dropl 8 ?_
                      refine Go.dropl 9 ?_
                      refine Go.dropl 10 ?_
                      refine Go.run hsz hn1 0 (pc' := 190) (lv' := [some (gr 148), some (gi x), some (gi W), some (gi o), some (gi g), some (gi a), some (gi q), some (gi (q + 1)), none, none, none]) (st' := []) (M' := gw m2 ml) rfl ?_
                      have hlt : q.toNat < plN (mi 148 2).toNat z := (by omega)
                      have h9 := plI_t hI hL hlt hg ha (by omega) (by omega)
                      rw [show ((q.toNat : Nat) : Int) = q by omega] at h9
                      exact ih (q + 1) o g a q _ m2 (by rw [show (q + 1).toNat = q.toNat + 1 by omega]; exact h9) hm2 (by omega) (by omega) (by omega) (by omega) (by omega) (by omega)
        · refine Go.run hsz hn1 3 (pc' := 190) (lv' := [some (gr 148), some (gi x), some (gi W), some (gi mo), some (gi fe), some (gi ne), some (gi be), some (gi (q + 1)), some (gi o), none, none]) (st' := []) (M' := gw m1 ml) rfl ?_
          refine Go.dropl 8 ?_
          refine Go.run hsz hn1 0 (pc' := 190) (lv' := [some (gr 148), some (gi x), some (gi W), some (gi mo), some (gi fe), some (gi ne), some (gi be), some (gi (q + 1)), none, none, none]) (st' := []) (M' := gw m1 ml) rfl ?_
          have hlt : q.toNat < plN (mi 148 2).toNat z := (by omega)
          refine ih (q + 1) mo fe ne be _ m1 ?_ hm1 (by omega) (by omega) (by omega) (by omega) (by omega) (by omega)
          rw [show (q + 1).toNat = q.toNat + 1 by omega]
          exact plI_p1 hI hL hlt (by omega)

set_option maxRecDepth 100000 in
set_option maxHeartbeats 4000000 in
theorem cM_gapsNow {G : gG} (hsz : G.2.2.2.2.2.2 = true) {n : Nat} (hn : 4 ≤ n) (mi : Nat → Nat → Int) (ml : Nat → Nat → Int64) (mem : Nat → Nat) (z : Nat) (hb : pBs mi mem z) (d : Nat → Int) (hd : inr (mi 148 2).toNat d z) (hgw : pGw mi) (m : Nat → Nat → Int) (hm : pMo mi mem z d m) : gM G 184 n 0 0 [gr 148] (gw m ml) (fun r M => ∃ m, pMo mi mem z d m ∧ M = gw m ml ∧ r = some (gi (wGp mi mem (pOn mi) z d))) := by
  have hn1 : 1 ≤ n := by omega
  have hP2 := hb.1.2.2.1
  refine gM.of mX12_gapsNow okX12_gapsNow (gcp 184 (by decide)).1 (gcp 184 (by decide)).2 (Nat.le_of_ble_eq_true rfl) ?_
  refine Go.run hsz hn1 4 (pc' := 4) (lv' := [some (gr 148), some (gi 0), some (gi 0), none, none]) (st' := []) (M' := gw m ml) rfl ?_
  exact lM_gn1 hsz (n := n) (by omega) mi ml mem z hb d hd hgw ((mi 148 2).toNat + 1) 0 m hm (by omega) (by omega) (by omega)
/-! ===== plan: the reference's best way ===== -/
def pS (P z c : Nat) (d : Nat → Int) : Prop := cdd P d z < c
def pI (mi : Nat → Nat → Int) (mem : Nat → Nat) (z c : Nat) (mo fe ne be : Int) : Prop := (mo = -1 ∧ fe = 0 ∧ ne = 0 ∧ be = 0 ∧ ∀ d, inr (mi 148 2).toNat d z → pS (mi 148 2).toNat z c d → ¬ wV mi mem (pOn mi) z d) ∨ ∃ b : Nat, be = b ∧ b < c ∧ pB (mi 148 2).toNat z (wW mi mem (pOn mi) z) (pS (mi 148 2).toNat z c) (cdg ((mi 148 2).toNat + 1) b z) ∧ mo = wO (cdg ((mi 148 2).toNat + 1) b z) z ∧ fe = wGp mi mem (pOn mi) z (cdg ((mi 148 2).toNat + 1) b z) ∧ ne = wFa mi mem (pOn mi) z (cdg ((mi 148 2).toNat + 1) b z)
theorem cdg_full {P c z : Nat} (hc : c < (P + 1) ^ z) : cdd P (cdg (P + 1) c z) z = c := by
  rw [cdg_cdd P c z hc z (Nat.le_refl _), Nat.sub_self, Nat.pow_zero, Nat.div_one]
theorem pS_dc (P z c : Nat) : pDC P z (pS P z c) := fun d d' _ _ h hs => by unfold pS at *; omega
section PI
variable {mi : Nat → Nat → Int} {mem : Nat → Nat} {z c : Nat} {mo fe ne be : Int}
theorem pS_s {P z c : Nat} (hc : c < (P + 1) ^ z) (d : Nat → Int) : pS P z (c + 1) d ↔ pS P z c d ∨ cdd P d z = cdd P (cdg (P + 1) c z) z := by
  rw [cdg_full hc]
  unfold pS
  omega
theorem pI_pass (h : pI mi mem z c mo fe ne be) (hc : c < ((mi 148 2).toNat + 1) ^ z) (h0 : wV mi mem (pOn mi) z (cdg ((mi 148 2).toNat + 1) c z) → 0 ≤ mo ∧ ¬ bet (wO (cdg ((mi 148 2).toNat + 1) c z) z) (wGp mi mem (pOn mi) z (cdg ((mi 148 2).toNat + 1) c z)) (wFa mi mem (pOn mi) z (cdg ((mi 148 2).toNat + 1) c z)) mo fe ne) : pI mi mem z (c + 1) mo fe ne be := by
  rcases h with ⟨h1, h2, h3, h4, h5⟩ | ⟨b, h1, h2, h3, h4, h5, h6⟩
  · refine Or.inl ⟨h1, h2, h3, h4, fun d hd hs hV => ?_⟩
    rcases (pS_s hc d).mp hs with q | q
    · exact h5 d hd q hV
    · have := h0 (wV_congr (cdd_inj hd (cdg_in _ _ _) (Nat.le_refl _) q) hV)
      omega
  · refine Or.inr ⟨b, h1, by omega, pB_pass wExt h3 (pS_dc _ _ _) (cdg_in _ c _) (fun hV => ?_) (fun d _ => pS_s hc d), h4, h5, h6⟩
    have := (h0 hV).2
    rw [h4, h5, h6] at this
    exact this
theorem pI_take (h : pI mi mem z c mo fe ne be) (hc : c < ((mi 148 2).toNat + 1) ^ z) (hV : wV mi mem (pOn mi) z (cdg ((mi 148 2).toNat + 1) c z)) (h0 : bet (wO (cdg ((mi 148 2).toNat + 1) c z) z) (wGp mi mem (pOn mi) z (cdg ((mi 148 2).toNat + 1) c z)) (wFa mi mem (pOn mi) z (cdg ((mi 148 2).toNat + 1) c z)) mo fe ne) : pI mi mem z (c + 1) (wO (cdg ((mi 148 2).toNat + 1) c z) z) (wGp mi mem (pOn mi) z (cdg ((mi 148 2).toNat + 1) c z)) (wFa mi mem (pOn mi) z (cdg ((mi 148 2).toNat + 1) c z)) (c : Int) := by
  refine Or.inr ⟨c, rfl, by omega, ?_, rfl, rfl, rfl⟩
  have hS : pS (mi 148 2).toNat z (c + 1) (cdg ((mi 148 2).toNat + 1) c z) := (pS_s hc _).mpr (Or.inr rfl)
  rcases h with ⟨h1, h2, h3, h4, h5⟩ | ⟨b, h1, h2, h3, h4, h5, h6⟩
  · exact pB_first wExt h5 (cdg_in _ _ _) hV hS (fun d _ hs => (pS_s hc d).mp hs)
  · refine pB_take wExt h3 (cdg_in _ _ _) hV ?_ hS (fun d _ hs => (pS_s hc d).mp hs)
    rw [h4, h5, h6] at h0
    exact h0
theorem cdd_pow {P : Nat} {d : Nat → Int} {z : Nat} (h : inr P d z) : ∀ i, i ≤ z → cdd P d i < (P + 1) ^ i
  | 0, _ => by show 0 < 1; omega
  | i + 1, hi => by
    have ih := cdd_pow h i (by omega)
    have h1 := dig_le (h i (by omega)).2
    show cdd P d i * (P + 1) + dig P (d i) < (P + 1) ^ i * (P + 1)
    have h2 : (cdd P d i + 1) * (P + 1) ≤ (P + 1) ^ i * (P + 1) := Nat.mul_le_mul_right _ (by omega)
    rw [Nat.add_mul, Nat.one_mul] at h2
    omega
theorem pI_end (h : pI mi mem z (((mi 148 2).toNat + 1) ^ z) mo fe ne be) : ∃ b : Nat, be = b ∧ b < ((mi 148 2).toNat + 1) ^ z ∧ pB (mi 148 2).toNat z (wW mi mem (pOn mi) z) (fun _ => True) (cdg ((mi 148 2).toNat + 1) b z) := by
  rcases h with ⟨h1, h2, h3, h4, h5⟩ | ⟨b, h1, h2, h3, h4, h5, h6⟩
  · exfalso
    have hi : inr (mi 148 2).toNat (fun _ => -1) z := fun k _ => by show (-1 : Int) ≤ -1 ∧ (-1 : Int) < _; omega
    exact h5 (fun _ => -1) hi (cdd_pow hi z (Nat.le_refl _)) (fun k _ q => absurd q (by show ¬ (0 : Int) ≤ -1; omega))
  · exact ⟨b, h1, h2, pB_iff h3 (fun d hd => ⟨fun _ => trivial, fun _ => cdd_pow hd z (Nat.le_refl _)⟩)⟩
end PI

/-! ===== the constructors, run by the kernel ===== -/
def gmt (j : Nat) : gMt := match j with
  | 0 => mX0_init
  | 14 => mX2_init
  | 20 => mX3_init
  | 27 => mX4_init
  | 32 => mX5_init
  | 43 => mX6_init
  | 52 => mX7_init
  | 57 => mX8_init
  | 77 => mX9_init
  | 97 => mX10_init
  | 102 => mX11_init
  | 152 => mX12_init
  | _ => (j, [], [])
def gcts : List Nat := [0, 14, 20, 27, 32, 43, 52, 57, 77, 97, 102, 152]
theorem gcts_ok : ∀ j ∈ gcts, gOK (gmt j) = true := (List.forall_mem_cons.mpr ⟨okX0_init, (List.forall_mem_cons.mpr ⟨okX2_init, (List.forall_mem_cons.mpr ⟨okX3_init, (List.forall_mem_cons.mpr ⟨okX4_init, (List.forall_mem_cons.mpr ⟨okX5_init, (List.forall_mem_cons.mpr ⟨okX6_init, (List.forall_mem_cons.mpr ⟨okX7_init, (List.forall_mem_cons.mpr ⟨okX8_init, (List.forall_mem_cons.mpr ⟨okX9_init, (List.forall_mem_cons.mpr ⟨okX10_init, (List.forall_mem_cons.mpr ⟨okX11_init, (List.forall_mem_cons.mpr ⟨okX12_init, (fun _ h => absurd h List.not_mem_nil)⟩)⟩)⟩)⟩)⟩)⟩)⟩)⟩)⟩)⟩)⟩)⟩)
set_option maxRecDepth 100000 in
theorem gcts_ok2 : ∀ j ∈ gcts, (gmt j).1 = j ∧ plainName (gH j).1.cls = true ∧ gown (gH j).2.2.2.2 = (gH j).1.cls ∧ (gH j).2.2.1 ≤ 40 ∧ (gH j).1.cls ≠ "java/lang/invoke/MethodHandle" ∧ (gH j).1.cls ≠ "java/lang/invoke/VarHandle" := by decide +kernel
abbrev gRs : Type := Option (Option gV × gMe × Nat × Nat × Nat)
/-- takes the arguments and the receiver off the stack -/
def gpop : Nat → List gV → List gV → Option (List gV × Nat × List gV)
  | 0, acc, .inr (.inr (.inl (some b))) :: st => some (acc, b, st)
  | k + 1, acc, v :: st => gpop k (v :: acc) st
  | _, _, _ => none
theorem gpop_ok : ∀ (k : Nat) (acc st : List gV) {As : List gV} {b : Nat} {rest : List gV}, gpop k acc st = some (As, b, rest) → ∃ front, As = front ++ acc ∧ front.length = k ∧ st = front.reverse ++ gr b :: rest
  | 0, acc, st, As, b, rest, h => by
    unfold gpop at h
    split at h <;> simp_all
  | k + 1, acc, [], As, b, rest, h => by simp [gpop] at h
  | k + 1, acc, v :: st, As, b, rest, h => by
    simp only [gpop] at h
    obtain ⟨front, h1, h2, h3⟩ := gpop_ok k (v :: acc) st h
    exact ⟨front ++ [v], by simp [h1], by simp [h2], by simp [h3]⟩
def gstep (ih : Nat → Nat → List (Option gV) → List gV → gMe → gRs) (j pc : Nat) (lv : List (Option gV)) (st : List gV) (M : gMe) : gRs := match gat (gmt j) pc with
  | none => none
  | some (op, z, x, y, nx) => if op = 72 then (match st with | [] => some (none, M, 0, 0, 1) | _ => none)
    else if op = 82 ∨ op = 83 then (match gpop y [] st with
      | none => none
      | some (As, b, rest) => if gcats rest ≤ 8 ∧ x ∈ gcts ∧ (garg (gr b :: As)).length ≤ (gH x).2.2.1 then (match ih x 0 (gpad (gH x).2.2.1 (garg (gr b :: As))) [] M with
        | some (none, M1, a1, b1, d1) => (match ih j nx lv rest M1 with
          | some (r, M2, a2, b2, d2) => some (r, M2, a1 + a2, b1 + b2, max (d1 + 1) d2)
          | none => none)
        | _ => none) else none)
    else (match gs1 (gmt j) true pc lv st M with
      | none => none
      | some (pc', lv', st', M', da, db) => (match ih j pc' lv' st' M' with
        | some (r, M2, a2, b2, d2) => some (r, M2, da + a2, db + b2, max 1 d2)
        | none => none))
def gex (f : Nat) : Nat → Nat → List (Option gV) → List gV → gMe → gRs := Nat.rec (fun _ _ _ _ _ => none) (fun _ ih => gstep ih) f
theorem Go.mono {G : gG} {mt : gMt} {n n' mc ms pc : Nat} {lv : List (Option gV)} {st : List gV} {M : gMe} {P : Option gV → gMe → Prop} (hn : n ≤ n') (k : Go G mt n mc ms pc lv st M P) : Go G mt n' mc ms pc lv st M P := by
  intro p l e R s m args below meth cd H locs cells slots ls cx hS hW hL hc hs
  obtain ⟨a1, a2, a3, a4, a5, a6, a7, a8, a9, a10, a11, ⟨a12, a13⟩, a14⟩ := cx
  exact k p l e R s m args below meth cd H locs cells slots ls ⟨a1, a2, a3, a4, a5, a6, a7, a8, a9, a10, a11, ⟨by omega, by omega⟩, a14⟩ hS hW hL hc hs
theorem Go.imp {G : gG} {mt : gMt} {n mc ms pc : Nat} {lv : List (Option gV)} {st : List gV} {M : gMe} {P P' : Option gV → gMe → Prop} (h : ∀ r M, P r M → P' r M) (k : Go G mt n mc ms pc lv st M P) : Go G mt n mc ms pc lv st M P' := by
  intro p l e R s m args below meth cd H locs cells slots ls cx hS hW hL hc hs T hT X
  obtain ⟨t, a, o, b1, b2, ⟨⟨r, M1, c1, c2, c3⟩, c4⟩, b4⟩ := k p l e R s m args below meth cd H locs cells slots ls cx hS hW hL hc hs T hT X
  exact ⟨t, a, o, b1, b2, ⟨⟨r, M1, h r M1 c1, c2, c3⟩, c4⟩, b4⟩
theorem gex_ok {G : gG} (hsz : G.2.2.2.2.2.2 = true) : ∀ (f j pc : Nat) (lv : List (Option gV)) (st : List gV) (M : gMe) {r : Option gV} {M' : gMe} {mc ms d : Nat}, gex f j pc lv st M = some (r, M', mc, ms, d) → 1 ≤ d ∧ ∀ n, d ≤ n → Go G (gmt j) n mc ms pc lv st M (fun r' M1 => r' = r ∧ M1 = M')
  | 0, j, pc, lv, st, M, r, M', mc, ms, d, h => by cases h
  | f + 1, j, pc, lv, st, M, r, M', mc, ms, d, h => by
    have ih := gex_ok hsz f
    have h : gstep (gex f) j pc lv st M = some (r, M', mc, ms, d) := h
    unfold gstep at h
    split at h
    · cases h
    · rename_i op z x y nx hg
      split at h
      · rename_i ho
        subst ho
        split at h
        · cases h
          exact ⟨Nat.le_refl 1, fun n hn => Go.vret hg ⟨rfl, rfl⟩⟩
        · cases h
      · split at h
        · rename_i ho
          split at h
          · cases h
          · rename_i As b rest hp
            split at h
            · rename_i hcs
              obtain ⟨q1, q2, q3⟩ := hcs
              obtain ⟨c1, c2, c3, c4, c5⟩ := gcts_ok2 x q2
              split at h
              · rename_i M1 a1 b1 d1 h1
                split at h
                · rename_i r2 M2 a2 b2 d2 h2
                  cases h
                  obtain ⟨e1, g1⟩ := ih _ _ _ _ _ h1
                  obtain ⟨e2, g2⟩ := ih _ _ _ _ _ h2
                  obtain ⟨front, w1, w2, w3⟩ := gpop_ok y [] st hp
                  rw [List.append_nil] at w1
                  subst w1
                  subst w3
                  have hM : gM G x d1 a1 b1 (gr b :: As) M (fun r' M9 => r' = none ∧ M9 = M1) := by
                    have := gM.of (G := G) (gmt x) (n := d1) (mc := a1) (ms := b1) (av := gr b :: As) (M := M) (P := fun r' M9 => r' = none ∧ M9 = M1) (gcts_ok x q2) (by rw [c1]; exact c2) (by rw [c1]; exact c3) (by rw [c1]; exact q3) (by rw [c1]; exact g1 d1 (Nat.le_refl _))
                    rw [c1] at this
                    exact this
                  refine ⟨by omega, fun n hn => ?_⟩
                  have kk : ∀ (r' : Option gV) (M9 : gMe), (r' = none ∧ M9 = M1) → Go G (gmt j) n a2 b2 nx lv (r'.toList ++ rest) M9 (fun r' M1 => r' = r ∧ M1 = M') := by
                    rintro r' M9 ⟨rfl, rfl⟩
                    exact g2 n (by omega)
                  rcases ho with rfl | rfl
                  · exact Go.callI hg w2 c5 c4 q1 (by omega) hM kk
                  · exact Go.callN hg w2 c5 c4 q1 (by omega) hM kk
                · cases h
              · cases h
            · cases h
        · split at h
          · cases h
          · rename_i pc' lv' st' M1 da db h1
            split at h
            · rename_i r2 M2 a2 b2 d2 h2
              cases h
              obtain ⟨e2, g2⟩ := ih _ _ _ _ _ h2
              exact ⟨by omega, fun n hn => gs1_ok hsz (by omega) h1 (g2 n (by omega))⟩
            · cases h

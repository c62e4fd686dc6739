/-! ===== law: how the reference reads, over tokens ===== -/
abbrev SYc := Bool × List Int × Int × List Int × Int
def bnd (s : Int) : Int := if s = 20042 ∨ s = 20047 then 3 else if s = 20043 ∨ s = 20045 then 2 else if s = 20060 ∨ s = 20061 then 1 else 0
def bt : List Int → Int
  | [] => 0
  | s :: _ => bnd s
def stl (b : Int) : List Int → List Int → List Int × List Int
  | [], out => ([], out)
  | s :: S, out => if b ≤ bnd s then stl b S (out ++ [s]) else (s :: S, out)
def edd : List Int → Int → List Int → List Int × Int × List Int
  | [], o, out => ([], o, out)
  | s :: S, o, out => if s = 30000 then edd S (o - 1) (out ++ [30000]) else (s :: S, o, out)
def ltr (v : Int) : Int := if v = 0 then 108 else if v = 1 then 97 else if v = 2 then 110 else if v = 3 then 107 else if v = 4 then 100 else 111
abbrev isSg (t : Int) : Prop := t = 40 ∨ t = 41 ∨ t = 42 ∨ t = 43 ∨ t = 45 ∨ t = 47 ∨ t = 60 ∨ t = 61
def syB (t v : Int) (S : List Int) (o : Int) (out : List Int) (sd : Int) : Option SYc :=
  if t = 1 ∨ t = 2 then some (false, (edd S o (out ++ [if t = 1 then v else 10000 + ltr v])).1, (edd S o (out ++ [if t = 1 then v else 10000 + ltr v])).2.1, (edd S o (out ++ [if t = 1 then v else 10000 + ltr v])).2.2, sd + 1)
  else if (t = 40 ∨ t = 45) ∧ ¬ o = 8 then some (true, (if t = 40 then 20040 else 30000) :: S, o + 1, out, sd)
  else none
def syC (S : List Int) (o : Int) (out : List Int) (sd : Int) : Option SYc :=
  match (stl 1 S out).1 with
  | [] => none
  | _ :: S' => some (false, (edd S' (o - 1) (stl 1 S out).2).1, (edd S' (o - 1) (stl 1 S out).2).2.1, (edd S' (o - 1) (stl 1 S out).2).2.2, sd)
def sLe (t : Int) : Int := if bnd (20000 + t) = 1 then 2 else bnd (20000 + t)
def syO (t : Int) (S : List Int) (o : Int) (out : List Int) (sd : Int) : Option SYc :=
  if bnd (20000 + t) = 1 ∧ bt (stl (sLe t) S out).1 = 1 then none else some (true, (20000 + t) :: (stl (sLe t) S out).1, o, (stl (sLe t) S out).2, sd)
def syG (t : Int) (S : List Int) (o : Int) (out : List Int) (sd : Int) : Option SYc :=
  if isSg t ∧ ¬ t = 40 then if t = 41 then syC S o out sd else syO t S o out sd else none
def syStep (t v : Int) (c : SYc) : Option SYc := if c.1 = true then syB t v c.2.1 c.2.2.1 c.2.2.2.1 c.2.2.2.2 else syG t c.2.1 c.2.2.1 c.2.2.2.1 c.2.2.2.2
def syE (k : Nat) (c : SYc) : Nat ⊕ (List Int × Int) := if c.1 = true ∨ ¬ (stl 1 c.2.1 c.2.2.2.1).1 = [] then Sum.inl k else Sum.inr ((stl 1 c.2.1 c.2.2.2.1).2, c.2.2.2.2)
def sy (tk va : Nat → Int) : Nat → Nat → SYc → Nat ⊕ (List Int × Int)
  | 0, k, _ => Sum.inl k
  | f + 1, k, c => if tk k = 0 then syE k c else match syStep (tk k) (va k) c with
    | none => Sum.inl k
    | some c' => sy tk va f (k + 1) c'
def dropT : List Int → List Int
  | [] => []
  | s :: S => if s = 30000 then dropT S else s :: S
def cntT : List Int → Nat
  | [] => 0
  | s :: S => if s = 30000 then cntT S + 1 else 0
theorem edd_eq : ∀ (S : List Int) (o : Int) (out : List Int), edd S o out = (dropT S, o - cntT S, out ++ List.replicate (cntT S) 30000)
  | [], o, out => by simp [edd, dropT, cntT]
  | s :: S, o, out => by
    unfold edd dropT cntT
    by_cases h : s = 30000
    · rw [if_pos h, if_pos h, if_pos h, edd_eq S (o - 1) (out ++ [30000]), List.replicate_succ, List.append_assoc]
      refine Prod.ext rfl (Prod.ext ?_ rfl)
      show o - 1 - (cntT S : Int) = o - ((cntT S + 1 : Nat) : Int)
      omega
    · rw [if_neg h, if_neg h, if_neg h]
      simp
theorem stl_app {b : Int} {S : List Int} (hS : bt S < b) (hb : 0 < b) : ∀ (L : List Int) (out : List Int), (∀ s, s ∈ L → b ≤ bnd s) → stl b (L ++ S) out = (S, out ++ L)
  | [], out, _ => by
    cases S with
    | nil => simp [stl]
    | cons s S =>
      have : ¬ b ≤ bnd s := by have : bt (s :: S) = bnd s := rfl; omega
      simp [stl, this]
  | s :: L, out, h => by
    show stl b (s :: (L ++ S)) out = _
    unfold stl
    rw [if_pos (h s List.mem_cons_self), stl_app hS hb L _ (fun x hx => h x (List.mem_cons_of_mem _ hx)), List.append_assoc]
    rfl
section LAWP
variable {tk va : Nat → Int} {T : Nat}
def tOK (tk va : Nat → Int) (T : Nat) : Prop := tk T = 0 ∧ ∀ k, k < T → (tk k = 1 ∧ 0 ≤ va k ∧ va k ≤ 9999) ∨ (tk k = 2 ∧ 0 ≤ va k ∧ va k ≤ 5) ∨ tk k = 3 ∨ isSg (tk k)
def syR (tk va : Nat → Int) (T k : Nat) (c : SYc) : Nat ⊕ (List Int × Int) := sy tk va (T + 1 - k) k c
theorem tOK.ne (h : tOK tk va T) {k : Nat} (hk : k < T) : ¬ tk k = 0 := by
  have := h.2 k hk
  unfold isSg at this
  omega
theorem syR_step (h : tOK tk va T) {k : Nat} {c c' : SYc} (hk : k < T) (hs : syStep (tk k) (va k) c = some c') : syR tk va T k c = syR tk va T (k + 1) c' := by
  unfold syR
  rw [show T + 1 - k = (T + 1 - (k + 1)) + 1 by omega]
  show (if tk k = 0 then _ else _) = _
  rw [if_neg (h.ne hk), hs]
theorem syR_bad (h : tOK tk va T) {k : Nat} {c : SYc} (hk : k < T) (hs : syStep (tk k) (va k) c = none) : syR tk va T k c = Sum.inl k := by
  unfold syR
  rw [show T + 1 - k = (T + 1 - (k + 1)) + 1 by omega]
  show (if tk k = 0 then _ else _) = _
  rw [if_neg (h.ne hk), hs]
theorem syR_end (h : tOK tk va T) {c : SYc} : syR tk va T T c = syE T c := by
  unfold syR
  rw [show T + 1 - T = 0 + 1 by omega]
  show (if tk T = 0 then _ else _) = _
  rw [if_pos h.1]
def tr (c : Int) : Int := if c = 20000 then 30000 else if 10000 ≤ c ∧ c < 20000 then 10000 + ltr (c - 10000) else c
def dp : Int → List Int → Option Int
  | d, [] => some d
  | d, c :: l => if c = 20000 then (if 1 ≤ d then dp d l else none) else if 20000 < c then (if 2 ≤ d then dp (d - 1) l else none) else dp (d + 1) l
theorem dp_c (d c : Int) (l : List Int) : dp d (c :: l) = if c = 20000 then (if 1 ≤ d then dp d l else none) else if 20000 < c then (if 2 ≤ d then dp (d - 1) l else none) else dp (d + 1) l := rfl
theorem dp_app : ∀ (a b : List Int) (d e : Int), dp d a = some e → dp d (a ++ b) = dp e b
  | [], b, d, e, h => by
    have : d = e := Option.some.inj h
    rw [this]; rfl
  | c :: a, b, d, e, h => by
    show dp d (c :: (a ++ b)) = _
    rw [dp_c] at h ⊢
    by_cases h1 : c = 20000
    · rw [if_pos h1] at h ⊢
      by_cases h2 : 1 ≤ d
      · rw [if_pos h2] at h ⊢; exact dp_app a b d e h
      · rw [if_neg h2] at h; exact absurd h (by simp)
    · rw [if_neg h1] at h ⊢
      by_cases h2 : 20000 < c
      · rw [if_pos h2] at h ⊢
        by_cases h3 : 2 ≤ d
        · rw [if_pos h3] at h ⊢; exact dp_app a b _ e h
        · rw [if_neg h3] at h; exact absurd h (by simp)
      · rw [if_neg h2] at h ⊢; exact dp_app a b _ e h
def cOK (c : Int) : Prop := (0 ≤ c ∧ c ≤ 9999) ∨ (10000 ≤ c ∧ c ≤ 10005) ∨ c = 20000 ∨ c = 20042 ∨ c = 20043 ∨ c = 20045 ∨ c = 20047 ∨ c = 20060 ∨ c = 20061
def pcs (p : List Int) : Prop := (∀ d, 0 ≤ d → dp d p = some (d + 1)) ∧ ∀ c, c ∈ p → cOK c
theorem pcs_one {c : Int} (h : cOK c) (h1 : c < 20000) : pcs [c] := ⟨fun d _ => by
  unfold dp
  rw [if_neg (by omega), if_neg (by omega)]; rfl, fun x hx => by rw [List.mem_singleton.mp hx]; exact h⟩
theorem pcs_neg {p : List Int} (h : pcs p) : pcs (p ++ [20000]) := ⟨fun d hd => by
  rw [dp_app _ _ _ _ (h.1 d hd)]
  unfold dp
  rw [if_pos rfl, if_pos (by omega)]; rfl, fun x hx => by
    rcases List.mem_append.mp hx with q | q
    · exact h.2 x q
    · rw [List.mem_singleton.mp q]; unfold cOK; omega⟩
theorem pcs_op {p q : List Int} {c : Int} (h : pcs p) (h' : pcs q) (hc : cOK c) (h1 : 20000 < c) : pcs (p ++ q ++ [c]) := ⟨fun d hd => by
  rw [List.append_assoc, dp_app _ _ _ _ (h.1 d hd), dp_app _ _ _ _ (h'.1 (d + 1) (by omega))]
  unfold dp
  rw [if_neg (by omega), if_pos h1, if_pos (by omega), show d + 1 + 1 - 1 = d + 1 by omega]; rfl, fun x hx => by
    rcases List.mem_append.mp hx with w | w
    · rcases List.mem_append.mp w with w | w
      · exact h.2 x w
      · exact h'.2 x w
    · rw [List.mem_singleton.mp w]; exact hc⟩
def qP (k k' : Nat) (cc cc' : List Int) : Prop := ∃ p, cc' = cc ++ p ∧ p.length ≤ k' - k ∧ pcs p
def qOne (tk va : Nat → Int) (T k : Nat) (cc S : List Int) (o sd : Int) (k' : Nat) (cc' : List Int) (sd' : Int) : Prop := (k < k' ∧ k' ≤ T) ∧ qP k k' cc cc' ∧ syR tk va T k (true, S, o, cc.map tr, sd) = syR tk va T k' (false, dropT S, o - cntT S, cc'.map tr ++ List.replicate (cntT S) 30000, sd')
def qL (tk va : Nat → Int) (T : Nat) (b : Int) (k : Nat) (cc S : List Int) (o sd : Int) (k' : Nat) (cc' : List Int) (sd' : Int) : Prop := (k < k' ∧ k' ≤ T) ∧ qP k k' cc cc' ∧ ∃ L out' : List Int, (∀ s, s ∈ L → b ≤ bnd s) ∧ cc'.map tr = out' ++ L ∧ syR tk va T k (true, S, o, cc.map tr, sd) = syR tk va T k' (false, L ++ S, o, out', sd')
def qCmp (tk va : Nat → Int) (T : Nat) (k : Nat) (cc S : List Int) (o sd : Int) (k' : Nat) (cc' : List Int) (sd' : Int) : Prop := (k < k' ∧ k' ≤ T) ∧ qP k k' cc cc' ∧ ∃ L out' : List Int, (∀ s, s ∈ L → 1 ≤ bnd s) ∧ cc'.map tr = out' ++ L ∧ syR tk va T k (true, S, o, cc.map tr, sd) = syR tk va T k' (false, L ++ S, o, out', sd') ∧ (¬ tk k' = 0 → ¬ tk k' = 41 → syStep (tk k') (va k') (false, L ++ S, o, out', sd') = none)
variable {k k1 k2 : Nat} {cc cc1 cc2 S : List Int} {o sd sd1 sd2 : Int}
theorem one_code (h : tOK tk va T) (hk : tk k = 1 ∨ tk k = 2) (hT : k ≤ T) : (k < T) ∧ cOK (if tk k = 1 then va k else 10000 + va k) ∧ (if tk k = 1 then va k else 10000 + va k) < 20000 ∧ tr (if tk k = 1 then va k else 10000 + va k) = (if tk k = 1 then va k else 10000 + ltr (va k)) := by
  have hk2 : k < T := by
    rcases Nat.lt_or_ge k T with q | q
    · exact q
    · have : k = T := by omega
      rw [this, h.1] at hk
      omega
  have := h.2 k hk2
  unfold isSg at this
  refine ⟨hk2, ?_, ?_, ?_⟩
  · unfold cOK; split <;> omega
  · split <;> omega
  · unfold tr
    by_cases h1 : tk k = 1
    · rw [if_pos h1, if_pos h1, if_neg (by omega), if_neg (by omega)]
    · rw [if_neg h1, if_neg h1, if_neg (by omega), if_pos (by omega), show 10000 + va k - 10000 = va k by omega]
theorem one_num (h : tOK tk va T) (hk : tk k = 1 ∨ tk k = 2) (hT : k ≤ T) : qOne tk va T k cc S o sd (k + 1) (cc ++ [if tk k = 1 then va k else 10000 + va k]) (sd + 1) := by
  have h1 := one_code h hk hT
  refine ⟨⟨by omega, by omega⟩, ⟨_, rfl, by rw [List.length_singleton]; omega, pcs_one h1.2.1 h1.2.2.1⟩, ?_⟩
  refine (syR_step h h1.1 (c' := (false, (edd S o (cc.map tr ++ [if tk k = 1 then va k else 10000 + ltr (va k)])).1, (edd S o (cc.map tr ++ [if tk k = 1 then va k else 10000 + ltr (va k)])).2.1, (edd S o (cc.map tr ++ [if tk k = 1 then va k else 10000 + ltr (va k)])).2.2, sd + 1)) (by unfold syStep; rw [if_pos rfl]; unfold syB; rw [if_pos hk])).trans ?_
  rw [edd_eq, List.map_append, List.map_cons, List.map_nil, h1.2.2.2]
theorem one_bad (h : tOK tk va T) (hT : k ≤ T) (h1 : ¬ (tk k = 1 ∨ tk k = 2)) (h2 : ¬ (tk k = 40 ∨ tk k = 45) ∨ o = 8) {out : List Int} : syR tk va T k (true, S, o, out, sd) = Sum.inl k := by
  by_cases hk : k = T
  · rw [hk, syR_end h]
    unfold syE
    rw [if_pos (Or.inl rfl)]
  · refine syR_bad h (by omega) ?_
    unfold syStep
    rw [if_pos rfl]
    unfold syB
    dsimp only
    rw [if_neg h1, if_neg (by omega)]
theorem one_open (h : tOK tk va T) (hT : k ≤ T) (h1 : tk k = 40 ∨ tk k = 45) (h2 : ¬ o = 8) {out : List Int} : k < T ∧ syR tk va T k (true, S, o, out, sd) = syR tk va T (k + 1) (true, (if tk k = 40 then 20040 else 30000) :: S, o + 1, out, sd) := by
  have hk : k < T := by
    rcases Nat.lt_or_ge k T with q | q
    · exact q
    · have : k = T := by omega
      rw [this, h.1] at h1
      omega
  refine ⟨hk, syR_step h hk ?_⟩
  unfold syStep
  rw [if_pos rfl]
  unfold syB
  rw [if_neg (by omega), if_pos ⟨h1, h2⟩]
theorem qP_neg (hq : qP (k + 1) k1 cc cc1) (hk : k + 1 < k1) : qP k k1 cc (cc1 ++ [20000]) := by
  obtain ⟨p, h1, h2, h3⟩ := hq
  exact ⟨p ++ [20000], by rw [h1, List.append_assoc], by simp; omega, pcs_neg h3⟩
theorem qP_op {c : Int} (hq : qP k k1 cc cc1) (hk : k < k1) (hq2 : qP (k1 + 1) k2 cc1 cc2) (hk2 : k1 + 1 < k2) (hc : cOK c) (h1 : 20000 < c) : qP k k2 cc (cc2 ++ [c]) := by
  obtain ⟨p, a1, a2, a3⟩ := hq
  obtain ⟨q, b1, b2, b3⟩ := hq2
  exact ⟨p ++ q ++ [c], by rw [b1, a1]; simp [List.append_assoc], by simp; omega, pcs_op a3 b3 hc h1⟩
theorem one_neg (h : tOK tk va T) (hT : k ≤ T) (h1 : tk k = 45) (h2 : ¬ o = 8) (hq : qOne tk va T (k + 1) cc (30000 :: S) (o + 1) sd k1 cc1 sd1) : qOne tk va T k cc S o sd k1 (cc1 ++ [20000]) sd1 := by
  obtain ⟨⟨a1, a2⟩, a3, a4⟩ := hq
  have h3 := (one_open h (S := S) (sd := sd) (out := cc.map tr) hT (Or.inr h1) h2).2
  rw [if_neg (by omega)] at h3
  refine ⟨⟨by omega, a2⟩, qP_neg a3 a1, ?_⟩
  rw [h3, a4]
  have e1 : dropT (30000 :: S) = dropT S := by show (if (30000 : Int) = 30000 then _ else _) = _; rw [if_pos rfl]
  have e2 : cntT (30000 :: S) = cntT S + 1 := by show (if (30000 : Int) = 30000 then _ else _) = _; rw [if_pos rfl]
  rw [e1, e2, List.replicate_succ, List.map_append, List.append_assoc, show o + 1 - ((cntT S + 1 : Nat) : Int) = o - cntT S by omega]
  rfl
theorem cmp_in (h : tOK tk va T) (hS : bt S < 1) (hq : qCmp tk va T k cc S o sd k1 cc1 sd1) : (tk k1 = 0 → S = [] → syR tk va T k (true, S, o, cc.map tr, sd) = Sum.inr (cc1.map tr, sd1)) ∧ (tk k1 = 0 → ¬ S = [] → syR tk va T k (true, S, o, cc.map tr, sd) = Sum.inl k1) ∧ (¬ tk k1 = 0 → ¬ tk k1 = 41 → syR tk va T k (true, S, o, cc.map tr, sd) = Sum.inl k1) ∧ (tk k1 = 41 → S = [] → syR tk va T k (true, S, o, cc.map tr, sd) = Sum.inl k1) ∧ (∀ s S', tk k1 = 41 → S = s :: S' → k1 < T ∧ syR tk va T k (true, S, o, cc.map tr, sd) = syR tk va T (k1 + 1) (false, dropT S', o - 1 - cntT S', cc1.map tr ++ List.replicate (cntT S') 30000, sd1)) := by
  obtain ⟨⟨a1, a2⟩, a3, L, out', a4, a5, a6, a7⟩ := hq
  have hst := stl_app hS (by omega) L out' a4
  have hlt : ¬ tk k1 = 0 → k1 < T := fun q => by
    rcases Nat.lt_or_ge k1 T with w | w
    · exact w
    · have : k1 = T := by omega
      rw [this, h.1] at q
      omega
  have heq : tk k1 = 0 → k1 = T := fun q => by
    rcases Nat.lt_or_ge k1 T with w | w
    · exact absurd q (h.ne w)
    · omega
  refine ⟨fun q hs => ?_, fun q hs => ?_, fun q q2 => ?_, fun q hs => ?_, fun s S' q hs => ?_⟩
  · rw [a6, heq q, syR_end h]
    unfold syE
    dsimp only
    rw [hst]
    dsimp only
    rw [if_neg (by rw [hs]; simp), a5]
  · rw [a6, heq q, syR_end h]
    unfold syE
    dsimp only
    rw [hst]
    dsimp only
    rw [if_pos (Or.inr hs)]
  · rw [a6]
    exact syR_bad h (hlt q) (a7 q q2)
  · rw [a6]
    refine syR_bad h (hlt (by omega)) ?_
    unfold syStep
    dsimp only
    rw [if_neg (by decide), q]
    unfold syG
    rw [if_pos (by decide), if_pos rfl]
    unfold syC
    rw [hst, hs]
  · refine ⟨hlt (by omega), ?_⟩
    rw [a6]
    refine (syR_step h (hlt (by omega)) (c' := (false, (edd S' (o - 1) (cc1.map tr)).1, (edd S' (o - 1) (cc1.map tr)).2.1, (edd S' (o - 1) (cc1.map tr)).2.2, sd1)) ?_).trans ?_
    · unfold syStep
      dsimp only
      rw [if_neg (by decide), q]
      unfold syG
      rw [if_pos (by decide), if_pos rfl]
      unfold syC
      rw [hst, hs, a5]
    · rw [edd_eq]
theorem one_par (h : tOK tk va T) (hT : k ≤ T) (h1 : tk k = 40) (h2 : ¬ o = 8) (hq : qCmp tk va T (k + 1) cc (20040 :: S) (o + 1) sd k1 cc1 sd1) : (tk k1 = 41 → k1 < T ∧ qOne tk va T k cc S o sd (k1 + 1) cc1 sd1) ∧ (¬ tk k1 = 41 → syR tk va T k (true, S, o, cc.map tr, sd) = Sum.inl k1) := by
  have h3 := (one_open h (S := S) (sd := sd) (out := cc.map tr) hT (Or.inl h1) h2).2
  rw [if_pos h1] at h3
  have h4 := cmp_in h (S := 20040 :: S) (by show bnd 20040 < 1; decide) hq
  obtain ⟨⟨a1, a2⟩, ⟨p, b1, b2, b3⟩, _⟩ := hq
  refine ⟨fun q => ?_, fun q => ?_⟩
  · have h5 := h4.2.2.2.2 _ _ q rfl
    refine ⟨h5.1, ⟨by omega, by omega⟩, ⟨p, b1, by omega, b3⟩, ?_⟩
    rw [h3, h5.2, show o + 1 - 1 - (cntT S : Int) = o - cntT S by omega]
  · rw [h3]
    by_cases q0 : tk k1 = 0
    · exact h4.2.1 q0 (by simp)
    · exact h4.2.2.1 q0 q
theorem qL_of (hS : cntT S = 0) (hd : dropT S = S) (hq : qOne tk va T k cc S o sd k1 cc1 sd1) {b : Int} : qL tk va T b k cc S o sd k1 cc1 sd1 := by
  obtain ⟨a1, a2, a3⟩ := hq
  refine ⟨a1, a2, [], cc1.map tr, fun s hs => absurd hs (by simp), by simp, ?_⟩
  rw [a3, hS, hd]
  simp
theorem qL_w (hq : qL tk va T 3 k cc S o sd k1 cc1 sd1) : qL tk va T 2 k cc S o sd k1 cc1 sd1 := by
  obtain ⟨a1, a2, L, out', a3, a4, a5⟩ := hq
  exact ⟨a1, a2, L, out', fun s hs => by have := a3 s hs; omega, a4, a5⟩
theorem op_in (h : tOK tk va T) {t : Int} {b : Int} (hb : b = sLe t) (ht : isSg t) (h40 : ¬ t = 40) (h41 : ¬ t = 41) (hS : bt S < b) (hS1 : bnd (20000 + t) = 1 → ¬ bt S = 1) (hb0 : 0 < b) (hk : tk k1 = t) (hq : qL tk va T b k cc S o sd k1 cc1 sd1) : k1 < T ∧ syR tk va T k (true, S, o, cc.map tr, sd) = syR tk va T (k1 + 1) (true, (20000 + t) :: S, o, cc1.map tr, sd1) := by
  obtain ⟨⟨a1, a2⟩, a3, L, out', a4, a5, a6⟩ := hq
  have hst := stl_app hS hb0 L out' a4
  have hlt : k1 < T := by
    rcases Nat.lt_or_ge k1 T with w | w
    · exact w
    · have : k1 = T := by omega
      rw [this, h.1] at hk
      unfold isSg at ht
      omega
  refine ⟨hlt, ?_⟩
  rw [a6]
  refine syR_step h hlt ?_
  unfold syStep
  dsimp only
  rw [if_neg (by decide), hk]
  unfold syG
  rw [if_pos ⟨ht, h40⟩, if_neg h41]
  unfold syO
  rw [← hb, hst]
  dsimp only
  rw [if_neg (fun q => hS1 q.1 q.2), a5]
theorem qL_op (h : tOK tk va T) {t : Int} {b : Int} (hb : b = sLe t) (ht : isSg t) (h40 : ¬ t = 40) (h41 : ¬ t = 41) (hS : bt S < b) (hb1 : bnd (20000 + t) = b) (hb2 : 2 ≤ b) (hb3 : b ≤ 3) (hk : tk k1 = t) (hq : qL tk va T b k cc S o sd k1 cc1 sd1) (hq2 : qL tk va T 3 (k1 + 1) cc1 ((20000 + t) :: S) o sd1 k2 cc2 sd2) : qL tk va T b k cc S o sd k2 (cc2 ++ [20000 + t]) sd2 := by
  have h1 := op_in h hb ht h40 h41 hS (fun q => by omega) (by omega) hk hq
  have hc : cOK (20000 + t) := by unfold cOK; unfold isSg at ht; omega
  obtain ⟨⟨a1, a2⟩, a3, _⟩ := hq
  obtain ⟨⟨b1, b2⟩, b3, L, out', b4, b5, b6⟩ := hq2
  refine ⟨⟨by omega, by omega⟩, qP_op a3 a1 b3 b1 hc (by unfold isSg at ht; omega), L ++ [20000 + t], out', fun s hs => ?_, ?_, ?_⟩
  · rcases List.mem_append.mp hs with q | q
    · have := b4 s q; omega
    · rw [List.mem_singleton.mp q]; omega
  · rw [List.map_append, b5, List.append_assoc, List.map_cons, List.map_nil]
    congr 3
    unfold tr isSg at *
    rw [if_neg (by omega), if_neg (by omega)]
  · rw [h1.2, b6]
    simp
theorem cmp_no (hk : ¬ (tk k1 = 42 ∨ tk k1 = 47) ∧ ¬ (tk k1 = 43 ∨ tk k1 = 45) ∧ ¬ (tk k1 = 60 ∨ tk k1 = 61)) (hq : qL tk va T 2 k cc S o sd k1 cc1 sd1) : qCmp tk va T k cc S o sd k1 cc1 sd1 := by
  obtain ⟨a1, a2, L, out', a3, a4, a5⟩ := hq
  refine ⟨a1, a2, L, out', fun s hs => by have := a3 s hs; omega, a4, a5, fun q0 q1 => ?_⟩
  unfold syStep
  dsimp only
  rw [if_neg (by decide)]
  unfold syG
  rw [if_neg (by unfold isSg; omega)]
theorem cmp_op (h : tOK tk va T) {t : Int} (ht : t = 60 ∨ t = 61) (hS : bt S < 1) (hk : tk k1 = t) (hq : qL tk va T 2 k cc S o sd k1 cc1 sd1) (hk2 : ¬ (tk k2 = 42 ∨ tk k2 = 47) ∧ ¬ (tk k2 = 43 ∨ tk k2 = 45)) (hq2 : qL tk va T 2 (k1 + 1) cc1 ((20000 + t) :: S) o sd1 k2 cc2 sd2) : qCmp tk va T k cc S o sd k2 (cc2 ++ [20000 + t]) sd2 := by
  have hbn : bnd (20000 + t) = 1 := by rcases ht with rfl | rfl <;> rfl
  have h1 := op_in h (b := 2) (by unfold sLe; rw [if_pos hbn]) (by unfold isSg; omega) (by omega) (by omega) (by omega) (fun _ => by omega) (by omega) hk hq
  have hc : cOK (20000 + t) := by unfold cOK; omega
  obtain ⟨⟨a1, a2⟩, a3, _⟩ := hq
  obtain ⟨⟨b1, b2⟩, b3, L, out', b4, b5, b6⟩ := hq2
  refine ⟨⟨by omega, by omega⟩, qP_op a3 a1 b3 b1 hc (by omega), L ++ [20000 + t], out', fun s hs => ?_, ?_, ?_, fun q0 q1 => ?_⟩
  · rcases List.mem_append.mp hs with q | q
    · have := b4 s q; omega
    · rw [List.mem_singleton.mp q]; omega
  · rw [List.map_append, b5, List.append_assoc, List.map_cons, List.map_nil]
    congr 3
    unfold tr
    rw [if_neg (by omega), if_neg (by omega)]
  · rw [h1.2, b6]
    simp
  · unfold syStep
    dsimp only
    rw [if_neg (by decide)]
    unfold syG
    by_cases q2 : isSg (tk k2) ∧ ¬ tk k2 = 40
    · have q3 : tk k2 = 60 ∨ tk k2 = 61 := by unfold isSg at q2; omega
      rw [if_pos q2, if_neg q1]
      unfold syO
      have hbn2 : bnd (20000 + tk k2) = 1 := by rcases q3 with q | q <;> rw [q] <;> rfl
      have hst := stl_app (b := 2) (S := (20000 + t) :: S) (by show bnd _ < 2; omega) (by omega) L out' b4
      rw [show sLe (tk k2) = 2 by unfold sLe; rw [if_pos hbn2], show L ++ [20000 + t] ++ S = L ++ (20000 + t) :: S by simp, hst]
      dsimp only
      rw [if_pos ⟨hbn2, hbn⟩]
    · rw [if_neg q2]
end LAWP

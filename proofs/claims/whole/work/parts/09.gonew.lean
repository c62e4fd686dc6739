/-! ===== constructors, new cells ===== -/
def gzz {α : Type} (f : Nat → Nat → α) (a : Nat) (v : α) : Nat → Nat → α := fun b j => if b < a then f b j else v
theorem gzz_lt {α : Type} {f : Nat → Nat → α} {a b j : Nat} {v : α} (h : b < a) : gzz f a v b j = f b j := if_pos h
theorem gzz_ge {α : Type} {f : Nat → Nat → α} {a b j : Nat} {v : α} (h : ¬ b < a) : gzz f a v b j = v := if_neg h
/-- the world with cells more, all that they hold being nothing -/
def mN (M : gMe) (q : List (Nat × Nat)) : gMe := (M.1 ++ q, gzz M.2.1 M.1.length 0, gzz M.2.2.1 M.1.length 0, gzz M.2.2.2 M.1.length none)
theorem gWd_new {G : gG} {M M' : gMe} {H H1 : Heap} {q : List (Nat × Nat)} (hW : gWd G M H) (h1 : M'.1 = M.1 ++ q) (ho : ∀ b : Nat, b < M.1.length → (∀ j, M'.2.1 b j = M.2.1 b j) ∧ (∀ j, M'.2.2.1 b j = M.2.2.1 b j) ∧ ∀ j, M'.2.2.2 b j = M.2.2.2 b j) (hz : H1.size = gb G + M.1.length + q.length) (oq : ∀ x : Nat, x < gb G + M.1.length → H1[x]? = H[x]?) (hn : ∀ (i : Nat) (r : Nat × Nat), q[i]? = some r → va_at G.1 vwCl (gb G + (M.1.length + i), gent G M' (M.1.length + i) r) H1) : gWd G M' H1 := by
  refine ⟨by rw [h1, hz, List.length_append]; omega, fun _ => by rw [h1, hz, List.length_append]; omega, fun a r ha => ?_⟩
  rw [h1] at ha
  by_cases hlt : a < M.1.length
  · rw [List.getElem?_append_left hlt] at ha
    obtain ⟨o1, o2, o3⟩ := ho a hlt
    rw [gent_cong o1 o2 o3]
    exact (hW.2.2 a r ha).kept (oq _ (by show gb G + a < _; omega))
  · rw [List.getElem?_append_right (by omega)] at ha
    have := hn (a - M.1.length) r ha
    rw [show M.1.length + (a - M.1.length) = a by omega] at this
    exact this
theorem mN_old (M : gMe) (q : List (Nat × Nat)) (b : Nat) (h : b < M.1.length) : (∀ j, (mN M q).2.1 b j = M.2.1 b j) ∧ (∀ j, (mN M q).2.2.1 b j = M.2.2.1 b j) ∧ ∀ j, (mN M q).2.2.2 b j = M.2.2.2 b j := ⟨fun j => gzz_lt h, fun j => gzz_lt h, fun j => gzz_lt h⟩
def gplain : FieldType → Bool
  | .int => true
  | .boolean => true
  | .long => true
  | .object _ => true
  | .array _ => true
  | _ => false
set_option maxRecDepth 100000 in
theorem gplain_all : ∀ c, c < 12 → ∀ k, k < gN c → gplain (gty c k) = true := by decide +kernel
theorem gdef {G : gG} {M : gMe} {a c k : Nat} (hc : c < 12) (hk : k < gN c) (h1 : M.2.1 a k = 0) (h2 : M.2.2.1 a k = 0) (h3 : M.2.2.2 a k = none) : defaultValue (gty c k) = gfv G M a c k := by
  have := gplain_all c hc k hk
  unfold gfv
  rw [h1, h2, h3]
  cases h : gty c k <;> rw [h] at this <;> first | rfl | (cases this)
section GON
variable {G : gG} {mt : gMt} {n n1 mc ms mc1 ms1 pc nx x y b c N : Nat} {z w : Int} {lv : List (Option gV)} {st As : List gV} {M : gMe} {P P1 : Option gV → gMe → Prop}
theorem Go.new (hi : gat mt pc = some (90, z, x, y, nx)) (hsz : G.2.2.2.2.2.2 = true) (kk : Go G mt n mc ms nx lv (gr M.1.length :: st) (mN M [(x, gN x)]) P) : Go G mt n (1 + mc) (gN x + ms) pc lv st M P := by
  intro p l e R s m args below meth cd H locs cells slots ls cx hS hW hL hc hs
  have hk := fun H1 hS1 hW1 => kk p l e R s m args below meth cd H1 locs (cells + 1) (slots + gN x) ls cx hS1 hW1 hL (by omega) (by omega)
  obtain ⟨hx, hb, -, hmx, hown, hts, -, -, hK, hSt, hNs, -, hok⟩ := cx
  have ho := gat_ok hok hi
  simp only [gok, Bool.and_eq_true, decide_eq_true_eq, List.any_eq_true] at ho
  obtain ⟨rfl, q, hq, ⟨⟨e1, e2⟩, e3⟩, hd⟩ := ho
  have hw := gCL_ok q hq
  rw [e1, e2] at hw
  have hKn := hK.1 x _ (gcl e3)
  refine W.newcK hx hb hown (hts _ (gTB_in hw.1 rfl)) (hts _ (gTB_in hw.2.1 rfl)) (hts _ (gTB_in hw.2.2 rfl)) rfl hd (by omega) (by omega) hKn.2.1 (hW.2.1 hsz) fun H1 kC hkC e4 z1 o1 => ?_
  have hh := hk H1 ⟨by have := hS.1; have := hW.2.1 hsz; omega, fun q h1 h2 => (o1 q (by have := hS.1; have := hW.2.1 hsz; omega)).trans (hS.2.1 q h1 h2), hS.2.2⟩ (gWd_new hW rfl (mN_old M _) (by rw [z1]; rfl) (fun q hq => o1 q hq) (fun i r hr => ?_))
  · rw [Nat.add_assoc, Nat.add_assoc] at hh
    exact hh
  · have hi0 : i < 1 := (List.getElem?_eq_some_iff.mp hr).1
    rw [show i = 0 by omega] at hr ⊢
    cases hr
    rw [gent_o e3]
    refine ⟨_, gcl e3, t_OB.to (u_born (gty x) hts (ginA e3) hKn hkC e4 (gtyok e3)) (fun j hj => ?_)⟩
    have hj' : j < gN x := hj
    show defaultValue (gty x j) = vp_V ((List.range (gN x)).map (gfv G (mN M [(x, gN x)]) M.1.length x)) j
    rw [gvpV hj']
    exact gdef e3 hj' (gzz_ge (Nat.lt_irrefl _)) (gzz_ge (Nat.lt_irrefl _)) (gzz_ge (Nat.lt_irrefl _))
theorem Go.newa (hi : gat mt pc = some (91, z, x, y, nx)) (hsz : G.2.2.2.2.2.2 = true) (h0 : 0 ≤ w) (h1 : w ≤ 60000) (kk : Go G mt n mc ms nx lv (gr M.1.length :: st) (mN M [(100 + x, w.toNat)]) P) : Go G mt n (1 + mc) (w.toNat + ms) pc lv (gi w :: st) M P := by
  intro p l e R s m args below meth cd H locs cells slots ls cx hS hW hL hc hs
  have hk := fun H1 hS1 hW1 => kk p l e R s m args below meth cd H1 locs (cells + 1) (slots + w.toNat) ls cx hS1 hW1 hL (by omega) (by omega)
  obtain ⟨hx, hb, -, hmx, hown, hts, -, -, hK, hSt, hNs, -, hok⟩ := cx
  have ho := gat_ok hok hi
  have hr : rng w := ⟨by omega, by omega⟩
  have hn0 : ¬ iI w < 0 := by rw [show (0 : Int32) = iI 0 from rfl, iI_lt hr ⟨by omega, by omega⟩]; omega
  simp only [gok, Bool.and_eq_true, Bool.or_eq_true, decide_eq_true_eq] at ho
  obtain ⟨rfl, ((⟨hd, rfl⟩ | ⟨hd, rfl⟩) | ⟨hd, rfl⟩)⟩ := ho
  · refine va_newaK (atype := .int) (N := w.toNat) hx hb (hts _ (gTB_in gac_int rfl)) rfl hd rfl hn0 (iI_clamp hr) (by show w.toNat * 4 ≤ _; omega) (by omega) (by omega) (hW.2.1 hsz) fun H1 cA e4 z1 o1 hAr hNm => ?_
    have hcA : cA = G.2.1 0 := Option.some.inj (hNm.symm.trans (hK.2 0 _ rfl).2)
    subst hcA
    have hh := hk H1 ⟨by have := hS.1; have := hW.2.1 hsz; omega, fun q h1 h2 => (o1 q (by have := hS.1; have := hW.2.1 hsz; omega)).trans (hS.2.1 q h1 h2), hS.2.2⟩ (gWd_new hW rfl (mN_old M _) (by rw [z1]; rfl) (fun q hq => o1 q hq) (fun i r hr => ?_))
    · rw [Nat.add_assoc, Nat.add_assoc] at hh
      exact hh
    · have hi0 : i < 1 := (List.getElem?_eq_some_iff.mp hr).1
      rw [show i = 0 by omega] at hr ⊢
      cases hr
      show H1[gb G + M.1.length]? = some (vp_cell (G.2.1 0) (w.toNat, .inl (fun j => iI (gzz M.2.1 M.1.length 0 M.1.length j))))
      rw [e4, vp_cell_i]
      congr 2
      funext j
      rw [gzz_ge (Nat.lt_irrefl _)]
      rfl
  · refine va_newaK (atype := .boolean) (N := w.toNat) hx hb (hts _ (gTB_in gac_boolean rfl)) rfl hd rfl hn0 (iI_clamp hr) (by show w.toNat * 1 ≤ _; omega) (by omega) (by omega) (hW.2.1 hsz) fun H1 cA e4 z1 o1 hAr hNm => ?_
    have hcA : cA = G.2.1 1 := Option.some.inj (hNm.symm.trans (hK.2 1 _ rfl).2)
    subst hcA
    have hh := hk H1 ⟨by have := hS.1; have := hW.2.1 hsz; omega, fun q h1 h2 => (o1 q (by have := hS.1; have := hW.2.1 hsz; omega)).trans (hS.2.1 q h1 h2), hS.2.2⟩ (gWd_new hW rfl (mN_old M _) (by rw [z1]; rfl) (fun q hq => o1 q hq) (fun i r hr => ?_))
    · rw [Nat.add_assoc, Nat.add_assoc] at hh
      exact hh
    · have hi0 : i < 1 := (List.getElem?_eq_some_iff.mp hr).1
      rw [show i = 0 by omega] at hr ⊢
      cases hr
      show H1[gb G + M.1.length]? = some (vp_cell (G.2.1 1) (w.toNat, .inl (fun j => iI (gzz M.2.1 M.1.length 0 M.1.length j))))
      rw [e4, vp_cell_i]
      congr 2
      funext j
      rw [gzz_ge (Nat.lt_irrefl _)]
      rfl
  · refine va_newaK (atype := .long) (N := w.toNat) hx hb (hts _ (gTB_in gac_long rfl)) rfl hd rfl hn0 (iI_clamp hr) (by show w.toNat * 8 ≤ _; omega) (by omega) (by omega) (hW.2.1 hsz) fun H1 cA e4 z1 o1 hAr hNm => ?_
    have hcA : cA = G.2.1 2 := Option.some.inj (hNm.symm.trans (hK.2 2 _ rfl).2)
    subst hcA
    have hh := hk H1 ⟨by have := hS.1; have := hW.2.1 hsz; omega, fun q h1 h2 => (o1 q (by have := hS.1; have := hW.2.1 hsz; omega)).trans (hS.2.1 q h1 h2), hS.2.2⟩ (gWd_new hW rfl (mN_old M _) (by rw [z1]; rfl) (fun q hq => o1 q hq) (fun i r hr => ?_))
    · rw [Nat.add_assoc, Nat.add_assoc] at hh
      exact hh
    · have hi0 : i < 1 := (List.getElem?_eq_some_iff.mp hr).1
      rw [show i = 0 by omega] at hr ⊢
      cases hr
      show H1[gb G + M.1.length]? = some (vp_cell (G.2.1 2) (w.toNat, .inr (.inl (gzz M.2.2.1 M.1.length 0 M.1.length))))
      rw [e4, vp_cell_l]
      congr 2
      funext j
      rw [gzz_ge (Nat.lt_irrefl _)]
      rfl
theorem Go.newq (hi : gat mt pc = some (92, z, x, y, nx)) (hsz : G.2.2.2.2.2.2 = true) (h0 : 0 ≤ w) (h1 : w ≤ 60000) (kk : Go G mt n mc ms nx lv (gr M.1.length :: st) (mN M [(100 + x, w.toNat)]) P) : Go G mt n (1 + mc) (w.toNat + ms) pc lv (gi w :: st) M P := by
  intro p l e R s m args below meth cd H locs cells slots ls cx hS hW hL hc hs
  have hk := fun H1 hS1 hW1 => kk p l e R s m args below meth cd H1 locs (cells + 1) (slots + w.toNat) ls cx hS1 hW1 hL (by omega) (by omega)
  obtain ⟨hx, hb, -, hmx, hown, hts, -, -, hK, hSt, hNs, -, hok⟩ := cx
  have ho := gat_ok hok hi
  have hr : rng w := ⟨by omega, by omega⟩
  have hn0 : ¬ iI w < 0 := by rw [show (0 : Int32) = iI 0 from rfl, iI_lt hr ⟨by omega, by omega⟩]; omega
  simp only [gok, Bool.and_eq_true, decide_eq_true_eq, List.any_eq_true] at ho
  obtain ⟨rfl, q, hq, ⟨e1, e2⟩, hd⟩ := ho
  have hw := gQL_ok q hq
  rw [e1, e2] at hw
  obtain ⟨w1, w2, w3⟩ := hw
  have hover : (Cond.arrayOver (.object (gaC x))).before args s = true := by
    rcases (show x = 3 ∨ x = 4 ∨ x = 5 ∨ x = 6 by omega) with rfl | rfl | rfl | rfl
    · exact va_AO.use hNs.2.1
    · exact va_AO.use hNs.2.2.1
    · exact va_AO.use hNs.2.2.2.1
    · exact va_AO.use hNs.2.2.2.2.1
  have hta : (gtys G)[x]? = some (G.2.1 x, .object (gaC x)) := by
    rcases (show x = 3 ∨ x = 4 ∨ x = 5 ∨ x = 6 by omega) with rfl | rfl | rfl | rfl <;> rfl
  refine W.anew hx hb hown (hts _ (gTB_in w1 rfl)) hover rfl hd rfl hn0 (by rw [iI_clamp hr]; omega) (by omega) (by rw [iI_clamp hr]; omega) fun cA kA comp f1 f2 f3 f4 => ?_
  rw [iI_clamp hr]
  obtain ⟨-, -, -, -, -, hnm⟩ := (hK.2 x _ hta).2
  have hcA : cA = G.2.1 x := Option.some.inj (f1.symm.trans hnm)
  subst hcA
  have hHs := hW.2.1 hsz
  have hh := hk (H.push { cls := G.2.1 x, slots := Array.replicate w.toNat .null, vm := .none }) ⟨by rw [Array.size_push]; have := hS.1; omega, fun q h1 h2 => (by rw [Array.getElem?_push, if_neg (by have := hS.1; omega)]; exact hS.2.1 q h1 h2), hS.2.2⟩ (gWd_new hW rfl (mN_old M _) (by rw [Array.size_push, hHs]; rfl) (fun q hq => by rw [Array.getElem?_push, if_neg (by omega)]) (fun i r hr => ?_))
  · rw [Nat.add_assoc, Nat.add_assoc] at hh
    rw [hHs]
    exact hh
  · have hi0 : i < 1 := (List.getElem?_eq_some_iff.mp hr).1
    rw [show i = 0 by omega] at hr ⊢
    cases hr
    have goal : (H.push { cls := G.2.1 x, slots := Array.replicate w.toNat .null, vm := .none })[gb G + M.1.length]? = some (vp_cell (G.2.1 x) (w.toNat, .inr (.inr (.inr (.inr (fun j => (gzz M.2.2.2 M.1.length none M.1.length j).map (fun x => gb G + x))))))) := by
      have hf : (fun j => va_rf ((gzz M.2.2.2 M.1.length none M.1.length j).map (fun x => gb G + x))) = fun _ => Value.null := by
        funext j
        rw [gzz_ge (Nat.lt_irrefl _)]
        rfl
      rw [vp_cell_q, hf, ← arrV_new, ← hHs, Array.getElem?_push_size]
    rcases (show x = 3 ∨ x = 4 ∨ x = 5 ∨ x = 6 by omega) with rfl | rfl | rfl | rfl <;> exact goal
/-- Object's constructor -/
theorem Go.obj (hi : gat mt pc = some (84, z, x, y, nx)) (hn : 1 ≤ n) (hcat : gcats st ≤ 8) (kk : Go G mt n mc ms nx lv st M P) : Go G mt n mc ms pc lv (gr b :: st) M P := by
  intro p l e R s m args below meth cd H locs cells slots ls cx hS hW hL hc hs
  have hk := kk p l e R s m args below meth cd H locs cells slots ls cx hS hW hL hc hs
  obtain ⟨hx, hb, -, hmx, hown, hts, -, -, hK, hSt, hNs, ⟨hR1, hR2⟩, hok⟩ := cx
  have ho := gat_ok hok hi
  simp only [gok, Bool.and_eq_true, decide_eq_true_eq, List.any_eq_true] at ho
  obtain ⟨rfl, q, hq, e1, hd⟩ := ho
  have hw := gOL_ok q hq
  rw [e1] at hw
  exact W.objInit hx hb hown (hts _ (gTB_in hw rfl)) (hts _ (gTB_in gO_inst rfl)) (hts _ (gTB_in gO_code rfl)) rfl (hL.1.trans hmx.symm) (a := gb G + b) (rest := st.map (gup G)) rfl hd (by omega) (by show 2 * 0 + _ + 12 ≤ _; rw [gcats_sum]; omega) hk
theorem Go.callI (hi : gat mt pc = some (82, z, x, y, nx)) (hn : As.length = y) (hd0 : (gH x).1.cls ≠ "java/lang/invoke/MethodHandle" ∧ (gH x).1.cls ≠ "java/lang/invoke/VarHandle") (hml : (gH x).2.2.1 ≤ 40) (hcat : gcats st ≤ 8) (hfr : n1 + 1 ≤ n) (hM : gM G x n1 mc1 ms1 (gr b :: As) M P1)
    (kk : ∀ (r : Option gV) (M1 : gMe), P1 r M1 → Go G mt n mc ms nx lv (r.toList ++ st) M1 P) : Go G mt n (mc1 + mc) (ms1 + ms) pc lv (As.reverse ++ gr b :: st) M P := by
  intro p l e R s m args below meth cd H locs cells slots ls cx hS hW hL hc hs
  have hk := fun r M1 hP1 H1 locs1 hS1 hW1 => kk r M1 hP1 p l e R s m args below meth cd H1 locs1 (cells + mc1) (slots + ms1) ls cx hS1 hW1 hL (by omega) (by omega)
  obtain ⟨hx, hb, -, hmx, hown, hts, -, -, hK, hSt, hNs, ⟨hR1, hR2⟩, hok⟩ := cx
  have ho := gat_ok hok hi
  simp only [gok, Bool.and_eq_true, decide_eq_true_eq, List.any_eq_true] at ho
  obtain ⟨⟨⟨⟨⟨rfl, q, hq, ⟨e1, e2⟩, hd⟩, hxl⟩, hdesc⟩, hini⟩, hret⟩ := ho
  have hw := gIL_ok q hq
  rw [e1, e2] at hw
  obtain ⟨w1, w2, w3⟩ := hw
  have hPre := gPre (av := gr b :: As) hK hSt hNs hS hW
  have hrun := va_runI (b := gb G + b) (As := As.map (gup G)) (rest := st.map (gup G)) (g := F0 m pc ls ((As.reverse ++ gr b :: st).map (gup G))) (H := H) (locs := locs) (cells := cells) (slots := slots) (below := below) (meth := meth) (e := e) (nL := (gH mt.1).2.2.1)
    ⟨hx, hb, hmx, hown, hts⟩ (hM l) (cwI (R := R) y hts (gTB_good _ (gH_in hxl)) (by unfold gcw; rw [hret]) rfl rfl (hts _ (gTB_in w3 rfl)) (hts _ (gTB_in w1 rfl)) (hts _ (gTB_in w2 rfl)) hini ⟨hd0.1, hd0.2, hdesc⟩ ⟨by show n1 + 1 ≤ _; omega, by show 8 + ((gH x).2.2.1 + 11) + 60 * n1 ≤ _; omega⟩)
    ⟨hPre.1, fun U hU hWm => hPre.2 U hU hWm⟩ rfl (by rw [List.length_map]; exact hn) hL.1 (by simp [gup, va_rf]) (lv_room (by rw [gcats_sum]; exact hcat)) hd ⟨by omega, by omega⟩
  intro T hT X
  obtain ⟨v, st₀, t, T', L, h0, X', hL', e3, e4, ⟨⟨r, M1, hP1, hv, hW1⟩, hF⟩, step⟩ := hrun T hT X
  cases hv
  obtain ⟨t2, a1, b1⟩ := hk r M1 hP1 t.heap (locs ++ L) (gS_call hS h0 hF hL') hW1 T' e3 X'
  refine ⟨t2, step t2 ?_, ?_⟩
  · have : (r.map (gup G)).toList ++ st.map (gup G) = (r.toList ++ st).map (gup G) := by cases r <;> simp
    rw [this]
    exact a1
  · rw [Nat.add_assoc, Nat.add_assoc] at b1
    exact b1
theorem Go.callN (hi : gat mt pc = some (83, z, x, y, nx)) (hn : As.length = y) (hd0 : (gH x).1.cls ≠ "java/lang/invoke/MethodHandle" ∧ (gH x).1.cls ≠ "java/lang/invoke/VarHandle") (hml : (gH x).2.2.1 ≤ 40) (hcat : gcats st ≤ 8) (hfr : n1 + 1 ≤ n) (hM : gM G x n1 mc1 ms1 (gr b :: As) M P1)
    (kk : ∀ (r : Option gV) (M1 : gMe), P1 r M1 → Go G mt n mc ms nx lv (r.toList ++ st) M1 P) : Go G mt n (mc1 + mc) (ms1 + ms) pc lv (As.reverse ++ gr b :: st) M P := by
  intro p l e R s m args below meth cd H locs cells slots ls cx hS hW hL hc hs
  have hk := fun r M1 hP1 H1 locs1 hS1 hW1 => kk r M1 hP1 p l e R s m args below meth cd H1 locs1 (cells + mc1) (slots + ms1) ls cx hS1 hW1 hL (by omega) (by omega)
  obtain ⟨hx, hb, -, hmx, hown, hts, -, -, hK, hSt, hNs, ⟨hR1, hR2⟩, hok⟩ := cx
  have ho := gat_ok hok hi
  simp only [gok, Bool.and_eq_true, decide_eq_true_eq, List.any_eq_true] at ho
  obtain ⟨⟨⟨⟨⟨rfl, q, hq, ⟨e1, e2⟩, hd⟩, hxl⟩, hdesc⟩, hini⟩, hret⟩ := ho
  have hw := gNL_ok q hq
  have hnl := hNs.1 q hq
  rw [e1, e2] at hw hnl
  obtain ⟨w1, w2, w3⟩ := hw
  have hPre := gPre (av := gr b :: As) hK hSt hNs hS hW
  have hrun := va_runIN (b := gb G + b) (As := As.map (gup G)) (rest := st.map (gup G)) (g := F0 m pc ls ((As.reverse ++ gr b :: st).map (gup G))) (H := H) (locs := locs) (cells := cells) (slots := slots) (below := below) (meth := meth) (e := e) (nL := (gH mt.1).2.2.1)
    ⟨hx, hb, hmx, hown, hts⟩ (hM l) ⟨va_cnB (R := R) (ret := none) y hts (gTB_good _ (gH_in hxl)) (by unfold gcw; rw [hret]) rfl rfl hnl (hts _ (gTB_in w3 rfl)) ⟨hd0.1, hd0.2, hdesc⟩ ⟨by show n1 + 1 ≤ _; omega, by show 8 + ((gH x).2.2.1 + 11) + 60 * n1 ≤ _; omega⟩, hini, hts _ (gTB_in w2 rfl)⟩
    ⟨hPre.1, fun U hU hWm => hPre.2 U hU hWm⟩ rfl (by rw [List.length_map]; exact hn) hL.1 (by simp [gup, va_rf]) (lv_room (by rw [gcats_sum]; exact hcat)) hd ⟨by omega, by omega⟩
  intro T hT X
  obtain ⟨v, st₀, t, T', L, h0, X', hL', e3, e4, ⟨⟨r, M1, hP1, hv, hW1⟩, hF⟩, step⟩ := hrun T hT X
  cases hv
  obtain ⟨t2, a1, b1⟩ := hk r M1 hP1 t.heap (locs ++ L) (gS_call hS h0 hF hL') hW1 T' e3 X'
  refine ⟨t2, step t2 ?_, ?_⟩
  · have : (r.map (gup G)).toList ++ st.map (gup G) = (r.toList ++ st).map (gup G) := by cases r <;> simp
    rw [this]
    exact a1
  · rw [Nat.add_assoc, Nat.add_assoc] at b1
    exact b1
end GON

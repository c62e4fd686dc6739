/-! ===== Math.abs, max, min (rows of the kit), Integer's and Long's bitCount are methods like others ===== -/
theorem ja_abs : Lib.Math.abs.name = (gH 250).1 := by decide +kernel
theorem ja_max : Lib.Math.max.name = (gH 251).1 := by decide +kernel
theorem ja_min : Lib.Math.min.name = (gH 252).1 := by decide +kernel
theorem jc_abs : Cond.code Lib.Math.abs.name Lib.Math.abs.code 1 (some .int) ∈ lw_tbl := gH_in (j := 250) (by decide +kernel)
theorem jc_max : Cond.code Lib.Math.max.name Lib.Math.max.code 2 (some .int) ∈ lw_tbl := gH_in (j := 251) (by decide +kernel)
theorem jc_min : Cond.code Lib.Math.min.name Lib.Math.min.code 2 (some .int) ∈ lw_tbl := gH_in (j := 252) (by decide +kernel)
section GJ
variable {G : gG} {mt : gMt} {n mc ms pc nx y : Nat} {z w v : Int} {lv : List (Option gV)} {st : List gV} {M : gMe} {P : Option gV → gMe → Prop}
theorem Go.mabs (hi : gat mt pc = some (81, z, 250, y, nx)) (hn : 1 ≤ n) (hcat : gcats st ≤ 8) (hw : rng w) (kk : Go G mt n mc ms nx lv (gi (absI w) :: st) M P) : Go G mt n mc ms pc lv (gi w :: st) M P := by
  intro p l e R s m args below meth cd H locs cells slots ls cx hS hW hL hc hs
  have hk := kk p l e R s m args below meth cd H locs cells slots ls cx hS hW hL hc hs
  obtain ⟨hx, hb, -, hmx, hown, hts, -, -, hK, hSt, hNs, ⟨hR1, hR2⟩, hok⟩ := cx
  have ho := gat_ok hok hi
  simp only [gok, Bool.and_eq_true, decide_eq_true_eq, List.any_eq_true] at ho
  obtain ⟨⟨⟨rfl, q, hq, ⟨e1, e2⟩, hd⟩, hxl⟩, hdesc⟩ := ho
  have hw3 := gSL_ok q hq
  rw [e1, e2, ← ja_abs] at hw3
  obtain ⟨w1, w2, w3⟩ := hw3
  refine va_mabs hx hb (hmx.trans hL.1.symm) hown (hts _ (gTB_in w1 rfl)) (hts _ (gTB_in w2 rfl)) (hts _ (gTB_in w3 rfl)) (hts _ (gTB_in jc_abs rfl)) (by omega) (by rw [gcats_sum]; omega) (by omega) (by omega) hd ?_
  have e9 : (if (0 : Int32) ≤ iI w then iI w else 0 - iI w) = iI (absI w) := by
    unfold absI
    have r0 : rng 0 := ⟨by omega, by omega⟩
    by_cases h : w < 0
    · rw [if_pos h, if_neg (by rw [show (0 : Int32) = iI 0 from rfl, iI_le r0 hw]; omega), show (0 : Int32) = iI 0 from rfl, iI_sub]
      congr 1
      omega
    · rw [if_neg h, if_pos (by rw [show (0 : Int32) = iI 0 from rfl, iI_le r0 hw]; omega)]
  rw [e9]
  exact hk
theorem Go.mmax (hi : gat mt pc = some (81, z, 251, y, nx)) (hn : 1 ≤ n) (hcat : gcats st ≤ 8) (hw : rng w) (hv : rng v) (kk : Go G mt n mc ms nx lv (gi (if w < v then v else w) :: st) M P) : Go G mt n mc ms pc lv (gi v :: gi w :: st) M P := by
  intro p l e R s m args below meth cd H locs cells slots ls cx hS hW hL hc hs
  have hk := kk p l e R s m args below meth cd H locs cells slots ls cx hS hW hL hc hs
  obtain ⟨hx, hb, -, hmx, hown, hts, -, -, hK, hSt, hNs, ⟨hR1, hR2⟩, hok⟩ := cx
  have ho := gat_ok hok hi
  simp only [gok, Bool.and_eq_true, decide_eq_true_eq, List.any_eq_true] at ho
  obtain ⟨⟨⟨rfl, q, hq, ⟨e1, e2⟩, hd⟩, hxl⟩, hdesc⟩ := ho
  have hw3 := gSL_ok q hq
  rw [e1, e2, ← ja_max] at hw3
  obtain ⟨w1, w2, w3⟩ := hw3
  refine va_mmax hx hb (hmx.trans hL.1.symm) hown (hts _ (gTB_in w1 rfl)) (hts _ (gTB_in w2 rfl)) (hts _ (gTB_in w3 rfl)) (hts _ (gTB_in jc_max rfl)) (by omega) (by rw [gcats_sum]; omega) (by omega) (by omega) hd ?_
  have e9 : (if iI w < iI v then iI v else iI w) = iI (if w < v then v else w) := by
    by_cases h : w < v
    · rw [if_pos h, if_pos ((iI_lt hw hv).mpr h)]
    · rw [if_neg h, if_neg (fun q => h ((iI_lt hw hv).mp q))]
  rw [e9]
  exact hk
theorem Go.mmin (hi : gat mt pc = some (81, z, 252, y, nx)) (hn : 1 ≤ n) (hcat : gcats st ≤ 8) (hw : rng w) (hv : rng v) (kk : Go G mt n mc ms nx lv (gi (if v < w then v else w) :: st) M P) : Go G mt n mc ms pc lv (gi v :: gi w :: st) M P := by
  intro p l e R s m args below meth cd H locs cells slots ls cx hS hW hL hc hs
  have hk := kk p l e R s m args below meth cd H locs cells slots ls cx hS hW hL hc hs
  obtain ⟨hx, hb, -, hmx, hown, hts, -, -, hK, hSt, hNs, ⟨hR1, hR2⟩, hok⟩ := cx
  have ho := gat_ok hok hi
  simp only [gok, Bool.and_eq_true, decide_eq_true_eq, List.any_eq_true] at ho
  obtain ⟨⟨⟨rfl, q, hq, ⟨e1, e2⟩, hd⟩, hxl⟩, hdesc⟩ := ho
  have hw3 := gSL_ok q hq
  rw [e1, e2, ← ja_min] at hw3
  obtain ⟨w1, w2, w3⟩ := hw3
  refine va_mmin hx hb (hmx.trans hL.1.symm) hown (hts _ (gTB_in w1 rfl)) (hts _ (gTB_in w2 rfl)) (hts _ (gTB_in w3 rfl)) (hts _ (gTB_in jc_min rfl)) (by omega) (by rw [gcats_sum]; omega) (by omega) (by omega) hd ?_
  have e9 : (if iI v < iI w then iI v else iI w) = iI (if v < w then v else w) := by
    by_cases h : v < w
    · rw [if_pos h, if_pos ((iI_lt hv hw).mpr h)]
    · rw [if_neg h, if_neg (fun q => h ((iI_lt hv hw).mp q))]
  rw [e9]
  exact hk
end GJ

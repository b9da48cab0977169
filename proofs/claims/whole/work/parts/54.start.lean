theorem ovr_arr {args : Array Value} {s : State} {t : FieldType} (h : (Cond.arrayOver (.array t)).before args s = true) : ∃ comp c k, s.vm.findClass (FieldType.array t).toString = some comp ∧ s.vm.classes[c]? = some k ∧ k.kind = .array comp (.array t) ∧ s.vm.findClass ("[" ++ (FieldType.array t).toString) = some c := by
  obtain ⟨comp, c, k, h1, _, h3, h4, h5⟩ := arrayOver_specB (args := args) (first := s) (s := s) (o := none) (idx := []) (t := t) h
  exact ⟨comp, c, k, h1, h3, h4, h5⟩
theorem inT {w : Cond} (h : w ∈ BIG) : w ∈ lw_tbl := (List.mem_filter.mp h).1
/-- the numbers of the classes, at the law's start -/
theorem st_K {args : Array Value} {s : State} (hts : ∀ w ∈ lw_tbl, w.before args s = true) : ∃ (D : va_G) (cI : ClassId) (cT : Nat → ClassId), ∀ E : Ev, eD E = D → eI E = cI → eT E = cT → va_K D vwCl (tyL E) s := by
  obtain ⟨c0, i0, k0⟩ := u_known (C := RX0) (T := TX0) (N := 3) (n := 3) hts (fun w h => inT (inU_X0 w h)) (hts (.instantiable RX0 3) (inT (inBi 219 (by decide +kernel))))
  obtain ⟨c1, i1, k1⟩ := u_known (C := RX1) (T := TX1) (N := 6) (n := 6) hts (fun w h => inT (inU_X1 w h)) (hts (.instantiable RX1 6) (inT (inBi 159 (by decide +kernel))))
  obtain ⟨c2, i2, k2⟩ := u_known (C := RX2) (T := TX2) (N := 6) (n := 6) hts (fun w h => inT (inU_X2 w h)) (hts (.instantiable RX2 6) (inT (inBi 305 (by decide +kernel))))
  obtain ⟨c3, i3, k3⟩ := u_known (C := RX3) (T := TX3) (N := 2) (n := 2) hts (fun w h => inT (inU_X3 w h)) (hts (.instantiable RX3 2) (inT (inBi 363 (by decide +kernel))))
  obtain ⟨c4, i4, k4⟩ := u_known (C := RX4) (T := TX4) (N := 3) (n := 3) hts (fun w h => inT (inU_X4 w h)) (hts (.instantiable RX4 3) (inT (inBi 199 (by decide +kernel))))
  obtain ⟨c5, i5, k5⟩ := u_known (C := RX5) (T := TX5) (N := 5) (n := 5) hts (fun w h => inT (inU_X5 w h)) (hts (.instantiable RX5 5) (inT (inBi 236 (by decide +kernel))))
  obtain ⟨c6, i6, k6⟩ := u_known (C := RX6) (T := TX6) (N := 8) (n := 8) hts (fun w h => inT (inU_X6 w h)) (hts (.instantiable RX6 8) (inT (inBi 382 (by decide +kernel))))
  obtain ⟨c7, i7, k7⟩ := u_known (C := RX7) (T := TX7) (N := 2) (n := 2) hts (fun w h => inT (inU_X7 w h)) (hts (.instantiable RX7 2) (inT (inBi 345 (by decide +kernel))))
  obtain ⟨c8, i8, k8⟩ := u_known (C := RX8) (T := TX8) (N := 6) (n := 6) hts (fun w h => inT (inU_X8 w h)) (hts (.instantiable RX8 6) (inT (inBi 130 (by decide +kernel))))
  obtain ⟨c9, i9, k9⟩ := u_known (C := RX9) (T := TX9) (N := 4) (n := 4) hts (fun w h => inT (inU_X9 w h)) (hts (.instantiable RX9 4) (inT (inBi 419 (by decide +kernel))))
  obtain ⟨c10, i10, k10⟩ := u_known (C := RX10) (T := TX10) (N := 12) (n := 12) hts (fun w h => inT (inU_X10 w h)) (hts (.instantiable RX10 12) (inT (inBi 259 (by decide +kernel))))
  obtain ⟨c11, i11, k11⟩ := u_known (C := RX11) (T := TX11) (N := 18) (n := 18) hts (fun w h => inT (inU_X11 w h)) (hts (.instantiable RX11 18) (inT (inBi 122 (by decide +kernel))))
  obtain ⟨c12, i12, k12⟩ := u_known (C := RX12) (T := TX12) (N := 50) (n := 50) hts (fun w h => inT (inU_X12 w h)) (hts (.instantiable RX12 50) (inT (inBi 1340 (by decide +kernel))))
  obtain ⟨cI, kI, pI, aI1, aI2, aI3⟩ := Cond.arrayClass_spec (args := args) (first := s) (o := none) (s := s) (idx := []) (type := .int) (hts (.arrayClass .int) (inT (inBi 157 (by decide +kernel))))
  obtain ⟨cJ, kJ, pJ, aJ1, aJ2, aJ3⟩ := Cond.arrayClass_spec (args := args) (first := s) (o := none) (s := s) (idx := []) (type := .long) (hts (.arrayClass .long) (inT (inBi 1998 (by decide +kernel))))
  obtain ⟨p0, a0, q0, b01, _, b03, b04, b05⟩ := Cond.arrayOver_spec (args := args) (first := s) (o := none) (s := s) (idx := []) (n := RX2) (hts (.arrayOver (.object RX2)) (List.mem_filter.mp (inNi 351 (by decide +kernel))).1)
  obtain ⟨p1, a1, q1, b11, _, b13, b14, b15⟩ := Cond.arrayOver_spec (args := args) (first := s) (o := none) (s := s) (idx := []) (n := RX3) (hts (.arrayOver (.object RX3)) (List.mem_filter.mp (inNi 362 (by decide +kernel))).1)
  obtain ⟨p2, a2, q2, b21, b23, b24, b25⟩ := ovr_arr (t := .int) (hts (.arrayOver (.array .int)) (List.mem_filter.mp (inNi 390 (by decide +kernel))).1)
  refine ⟨(fun k => [c0, c1, c2, c3, c4, c5, c6, c7, c8, c9, c10, c11, c12].getD k c0, fun k => [i0, i1, i2, i3, i4, i5, i6, i7, i8, i9, i10, i11, i12].getD k i0), cI, fun t => [a0, a1, a2, cJ].getD t cJ, fun E hD hI hT => ⟨fun k q hq => ?_, fun k q hq => ?_⟩⟩
  · match k, hq with
    | 0, hq => cases hq; exact k0
    | 1, hq => cases hq; exact k1
    | 2, hq => cases hq; exact k2
    | 3, hq => cases hq; exact k3
    | 4, hq => cases hq; exact k4
    | 5, hq => cases hq; exact k5
    | 6, hq => cases hq; exact k6
    | 7, hq => cases hq; exact k7
    | 8, hq => cases hq; exact k8
    | 9, hq => cases hq; exact k9
    | 10, hq => cases hq; exact k10
    | 11, hq => cases hq; exact k11
    | 12, hq => cases hq; exact k12
    | k + 13, hq => exact absurd (List.getElem?_eq_some_iff.mp hq).1 (by simp [vwCl])
  · unfold tyL at hq
    rw [hI, hT] at hq
    match k, hq with
    | 0, hq => cases hq; exact ⟨fun n z => ⟨fun k h => (by cases h), kI, aI2, pI, aI3⟩, aI1⟩
    | 1, hq => cases hq; exact ⟨fun n z => ⟨fun k h => (by cases h), q0, b03, p0, b04⟩, q0, p0, b03, b04, b01, b05⟩
    | 2, hq => cases hq; exact ⟨fun n z => ⟨fun k h => (by cases h), q1, b13, p1, b14⟩, q1, p1, b13, b14, b11, b15⟩
    | 3, hq => cases hq; exact ⟨fun n z => ⟨fun k h => (by cases h), q2, b23, p2, b24⟩, b25⟩
    | 4, hq => cases hq; exact ⟨fun n z => ⟨fun k h => (by cases h), kJ, aJ2, pJ, aJ3⟩, aJ1⟩
    | k + 5, hq => exact absurd (List.getElem?_eq_some_iff.mp hq).1 (by simp)
/-- what the Statement gives of the start, as a list -/
def gvn : List Cond := flatC (Jvm.Cond.and given_1 narrow_1)
def sTm (i : Nat) : Term := .string (sOwn i) (sIdx i)
def gBk (i : Nat) : List Cond := ([Cond.exactly (sTm i) "java/lang/String", Cond.eq (.field (sTm i) "java/lang/String" "coder" "B") (.int 0), Cond.arrayOf (.field (sTm i) "java/lang/String" "value" "[B") .byte, Cond.eq (.length (.field (sTm i) "java/lang/String" "value" "[B")) (.int (Int32.ofNat (sLens.getD i 0)))] ++ (List.range (sLens.getD i 0)).map (fun j => Cond.eq (.elem (.field (sTm i) "java/lang/String" "value" "[B") (.int (Int32.ofNat j))) (.int ((sBytes.getD i []).getD j 0)))) ++ (List.range i).map (fun j => Cond.not (Cond.eq (sTm j) (sTm i)))
theorem gvk_0 : (gvn.drop 81).take 20 = gBk 0 := by decide +kernel
theorem gvk_1 : (gvn.drop 101).take 23 = gBk 1 := by decide +kernel
theorem gvk_2 : (gvn.drop 124).take 59 = gBk 2 := by decide +kernel
theorem gvk_3 : (gvn.drop 183).take 42 = gBk 3 := by decide +kernel
theorem gvk_4 : (gvn.drop 225).take 22 = gBk 4 := by decide +kernel
theorem gvk_5 : (gvn.drop 247).take 22 = gBk 5 := by decide +kernel
theorem gvk_6 : (gvn.drop 269).take 16 = gBk 6 := by decide +kernel
theorem gvk_7 : (gvn.drop 285).take 16 = gBk 7 := by decide +kernel
theorem gvk_8 : (gvn.drop 301).take 16 = gBk 8 := by decide +kernel
theorem gvk_9 : (gvn.drop 317).take 18 = gBk 9 := by decide +kernel
theorem gvk_10 : (gvn.drop 335).take 18 = gBk 10 := by decide +kernel
theorem gvk_11 : (gvn.drop 353).take 19 = gBk 11 := by decide +kernel
theorem gvk_12 : (gvn.drop 372).take 20 = gBk 12 := by decide +kernel
theorem gvk_13 : (gvn.drop 392).take 21 = gBk 13 := by decide +kernel
theorem gvk_14 : (gvn.drop 413).take 21 = gBk 14 := by decide +kernel
theorem gvk_15 : (gvn.drop 434).take 24 = gBk 15 := by decide +kernel
theorem gvk_16 : (gvn.drop 458).take 25 = gBk 16 := by decide +kernel
theorem gvk_17 : (gvn.drop 483).take 24 = gBk 17 := by decide +kernel
theorem gvk_18 : (gvn.drop 507).take 26 = gBk 18 := by decide +kernel
theorem gvk_19 : (gvn.drop 533).take 27 = gBk 19 := by decide +kernel
theorem gvk_20 : (gvn.drop 560).take 28 = gBk 20 := by decide +kernel
theorem gvk_21 : (gvn.drop 588).take 29 = gBk 21 := by decide +kernel
theorem gvk_22 : (gvn.drop 617).take 31 = gBk 22 := by decide +kernel
theorem gv_sub {n m : Nat} {l : List Cond} (h : (gvn.drop n).take m = l) {w : Cond} (hw : w ∈ l) : w ∈ gvn := by
  rw [← h] at hw
  exact List.mem_of_mem_drop (List.mem_of_mem_take hw)
theorem gv_mem (i : Nat) (hi : i < sN) {w : Cond} (hw : w ∈ gBk i) : w ∈ gvn := by
  match i, hi, hw with
  | 0, _, hw => exact gv_sub gvk_0 hw
  | 1, _, hw => exact gv_sub gvk_1 hw
  | 2, _, hw => exact gv_sub gvk_2 hw
  | 3, _, hw => exact gv_sub gvk_3 hw
  | 4, _, hw => exact gv_sub gvk_4 hw
  | 5, _, hw => exact gv_sub gvk_5 hw
  | 6, _, hw => exact gv_sub gvk_6 hw
  | 7, _, hw => exact gv_sub gvk_7 hw
  | 8, _, hw => exact gv_sub gvk_8 hw
  | 9, _, hw => exact gv_sub gvk_9 hw
  | 10, _, hw => exact gv_sub gvk_10 hw
  | 11, _, hw => exact gv_sub gvk_11 hw
  | 12, _, hw => exact gv_sub gvk_12 hw
  | 13, _, hw => exact gv_sub gvk_13 hw
  | 14, _, hw => exact gv_sub gvk_14 hw
  | 15, _, hw => exact gv_sub gvk_15 hw
  | 16, _, hw => exact gv_sub gvk_16 hw
  | 17, _, hw => exact gv_sub gvk_17 hw
  | 18, _, hw => exact gv_sub gvk_18 hw
  | 19, _, hw => exact gv_sub gvk_19 hw
  | 20, _, hw => exact gv_sub gvk_20 hw
  | 21, _, hw => exact gv_sub gvk_21 hw
  | 22, _, hw => exact gv_sub gvk_22 hw
  | n + 23, hi, _ => exact absurd hi (by unfold sN; omega)
theorem gv_ex (i : Nat) (hi : i < sN) : Cond.exactly (sTm i) "java/lang/String" ∈ gvn := gv_mem i hi (List.mem_append_left _ (List.mem_append_left _ (.head _)))
theorem gv_co (i : Nat) (hi : i < sN) : Cond.eq (.field (sTm i) "java/lang/String" "coder" "B") (.int 0) ∈ gvn := gv_mem i hi (List.mem_append_left _ (List.mem_append_left _ (.tail _ (.head _))))
theorem gv_ar (i : Nat) (hi : i < sN) : Cond.arrayOf (.field (sTm i) "java/lang/String" "value" "[B") .byte ∈ gvn := gv_mem i hi (List.mem_append_left _ (List.mem_append_left _ (.tail _ (.tail _ (.head _)))))
theorem gv_le (i : Nat) (hi : i < sN) : Cond.eq (.length (.field (sTm i) "java/lang/String" "value" "[B")) (.int (Int32.ofNat (sLens.getD i 0))) ∈ gvn := gv_mem i hi (List.mem_append_left _ (List.mem_append_left _ (.tail _ (.tail _ (.tail _ (.head _))))))
theorem gv_el (i : Nat) (hi : i < sN) (j : Nat) (hj : j < sLens.getD i 0) : Cond.eq (.elem (.field (sTm i) "java/lang/String" "value" "[B") (.int (Int32.ofNat j))) (.int ((sBytes.getD i []).getD j 0)) ∈ gvn := gv_mem i hi (List.mem_append_left _ (List.mem_append_right _ (List.mem_map.mpr ⟨j, List.mem_range.mpr hj, rfl⟩)))
theorem gv_ne (i j : Nat) (hj : j < sN) (h : i < j) : Cond.not (Cond.eq (sTm i) (sTm j)) ∈ gvn := gv_mem j hj (List.mem_append_right _ (List.mem_map.mpr ⟨i, List.mem_range.mpr h, rfl⟩))
theorem gv_sr : (List.range sN).all (fun i => decide (Cond.stringRef (sOwn i) (sIdx i) (sTxt i) ∈ lw_tbl)) = true := by decide +kernel

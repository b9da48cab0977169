def fL_cases (sh : Shp) (L : Nat) (xs : Nat → Int32) (x1 x2 x3 : Nat) (x4 : Int32) (mm : Mem) (t : Int32) : Option (Mem ⊕ Int32) :=
  if t = 0 then fLc_0 sh L xs x1 x2 x3 x4 mm
  else if t = 1 then fLc_1 sh L xs x1 x2 x3 x4 mm
  else if t = 2 then fLc_2 sh L xs x1 x2 x3 x4 mm
  else if t = 3 then fLc_3 sh L xs x1 x2 x3 x4 mm
  else if t = 4 then fLc_4 sh L xs x1 x2 x3 x4 mm
  else if t = 5 then fLc_5 sh L xs x1 x2 x3 x4 mm
  else if t = 6 then fLc_6 sh L xs x1 x2 x3 x4 mm
  else if t = 7 then fLc_7 sh L xs x1 x2 x3 x4 mm
  else if t = 8 then fLc_8 sh L xs x1 x2 x3 x4 mm
  else if t = 9 then fLc_9 sh L xs x1 x2 x3 x4 mm
  else if t = 10 then fLc_10 sh L xs x1 x2 x3 x4 mm
  else if t = 11 then fLc_11 sh L xs x1 x2 x3 x4 mm
  else if t = 12 then fLc_12 sh L xs x1 x2 x3 x4 mm
  else if t = 13 then fLc_13 sh L xs x1 x2 x3 x4 mm
  else if t = 14 then fLc_14 sh L xs x1 x2 x3 x4 mm
  else if t = 15 then fLc_15 sh L xs x1 x2 x3 x4 mm
  else if t = 16 then fLc_16 sh L xs x1 x2 x3 x4 mm
  else if t = 17 then fLc_17 sh L xs x1 x2 x3 x4 mm
  else if t = 18 then fLc_18 sh L xs x1 x2 x3 x4 mm
  else if t = 19 then fLc_19 sh L xs x1 x2 x3 x4 mm
  else if t = 20 then fLc_20 sh L xs x1 x2 x3 x4 mm
  else if t = 21 then fLc_21 sh L xs x1 x2 x3 x4 mm
  else if t = 22 then fLc_22 sh L xs x1 x2 x3 x4 mm
  else if t = 23 then fLc_23 sh L xs x1 x2 x3 x4 mm
  else if t = 24 then fLc_24 sh L xs x1 x2 x3 x4 mm
  else if t = 25 then fLc_25 sh L xs x1 x2 x3 x4 mm
  else if t = 26 then fLc_26 sh L xs x1 x2 x3 x4 mm
  else if t = 27 then fLc_27 sh L xs x1 x2 x3 x4 mm
  else if t = 28 then fLc_28 sh L xs x1 x2 x3 x4 mm
  else if t = 29 then fLc_29 sh L xs x1 x2 x3 x4 mm
  else if t = 30 then fLc_30 sh L xs x1 x2 x3 x4 mm
  else if t = 31 then fLc_31 sh L xs x1 x2 x3 x4 mm
  else if t = 32 then fLc_32 sh L xs x1 x2 x3 x4 mm
  else if t = 33 then fLc_33 sh L xs x1 x2 x3 x4 mm
  else if t = 34 then fLc_34 sh L xs x1 x2 x3 x4 mm
  else if t = 35 then fLc_35 sh L xs x1 x2 x3 x4 mm
  else if t = 36 then fLc_36 sh L xs x1 x2 x3 x4 mm
  else if t = 37 then fLc_37 sh L xs x1 x2 x3 x4 mm
  else if t = 38 then fLc_38 sh L xs x1 x2 x3 x4 mm
  else if t = 39 then fLc_39 sh L xs x1 x2 x3 x4 mm
  else if t = 40 then fLc_40 sh L xs x1 x2 x3 x4 mm
  else some (.inl mm)
def fL_step (sh : Shp) (L : Nat) (xs : Nat → Int32) (x1 x2 x3 : Nat) (st : Int32 × Mem) : Option ((Int32 × Mem) ⊕ Int32) :=
  if Int32.ofNat L - 9 < st.1 then some (.inr 1)
  else (scL L xs st.1).bind fun v => lt1 (v &&& 63) fun t =>
  (fL_cases sh L xs x1 x2 x3 st.1 st.2 t).bind fun y => match y with
  | .inl m1 => some (.inl (st.1 + 9, m1))
  | .inr v => some (.inr v)
set_option maxHeartbeats 8000000 in
set_option maxRecDepth 100000 in
theorem wL_sw {p : Program} {l : Launch} {e : Env} {R : Room} {s : State} {m : MethodId} {args : Array Value} {below : List Frame} {meth : Method} {c : Code} {Q : State → Prop} {E : Ev} {b L : Nat} {xs : Nat → Int32} (hl0 : l.stackTraces = false) (X : Cx p s m args c cL_law_ RL E) (hX : Scr E s b L xs) (hml : c.maxLocals = 8) (hR : 400 ≤ R.frames ∧ 20000 ≤ R.locals) {x1 x2 x3 : Nat} {x4 t : Int32} {mm : Mem} {y : Mem ⊕ Int32} {kc ks : Nat} (hkc : kc + 1 ≤ R.cells) (hks : ks + 6 ≤ R.slots) (hf : fL_cases (eS E) L xs x1 x2 x3 x4 mm t = some y) (kN : ∀ mm1, y = .inl mm1 → ∀ (H : Heap) (locs : List Loc) (ls : Array Slot) (cells slots : Nat), cells ≤ kc + 1 → slots ≤ ks + 6 → wS E s mm1 H locs → lv_has ls 8 [(0, .ref b), (1, .ref x1), (2, .ref x2), (3, .ref x3), (4, .int x4)] → W p l e R s m args below meth c H locs cells slots Q (F0 m 2743 ls [])) (kR : ∀ v, y = .inr v → ∀ (pc : Nat) (H : Heap) (locs : List Loc) (ls : Array Slot) (cells slots : Nat), cells ≤ kc + 1 → slots ≤ ks + 6 → decode cL_law_ pc = .ok (.ireturn, 1) → ∀ {mm1 : Mem}, wS E s mm1 H locs → W p l e R s m args below meth c H locs cells slots Q (F0 m pc ls [.int v])) : ∀ (H : Heap) (locs : List Loc) (ls : Array Slot) (cells slots : Nat), cells ≤ kc → slots ≤ ks → wS E s mm H locs → lv_has ls 8 [(0, .ref b), (1, .ref x1), (2, .ref x2), (3, .ref x3), (4, .int x4)] → W p l e R s m args below meth c H locs cells slots Q (F0 m 40 ls [.int t]) := by
  intro H locs ls cells slots hcc hcs hS hl
  have hx := X.1
  have hb := X.2.1
  unfold fL_cases at hf
  by_cases q0 : t = 0
  · have hf := ifp hf q0
    refine lv_tableIn (off := 180) (tgt := 220) hx hb dL_law__40 (by rw [q0]; decide) (by rw [q0]; decide) (by rw [q0]; decide) (by decide) ?_
    exact wLc_0 hl0 X hX hml hR hkc hks hf kN kR H locs ls cells slots hcc hcs hS hl
  have hf := ifn hf q0
  by_cases q1 : t = 1
  · have hf := ifp hf q1
    refine lv_tableIn (off := 253) (tgt := 293) hx hb dL_law__40 (by rw [q1]; decide) (by rw [q1]; decide) (by rw [q1]; decide) (by decide) ?_
    exact wLc_1 hl0 X hX hml hR hkc hks hf kN kR H locs ls cells slots hcc hcs hS hl
  have hf := ifn hf q1
  by_cases q2 : t = 2
  · have hf := ifp hf q2
    refine lv_tableIn (off := 309) (tgt := 349) hx hb dL_law__40 (by rw [q2]; decide) (by rw [q2]; decide) (by rw [q2]; decide) (by decide) ?_
    exact wLc_2 hl0 X hX hml hR hkc hks hf kN kR H locs ls cells slots hcc hcs hS hl
  have hf := ifn hf q2
  by_cases q3 : t = 3
  · have hf := ifp hf q3
    refine lv_tableIn (off := 365) (tgt := 405) hx hb dL_law__40 (by rw [q3]; decide) (by rw [q3]; decide) (by rw [q3]; decide) (by decide) ?_
    exact wLc_3 hl0 X hX hml hR hkc hks hf kN kR H locs ls cells slots hcc hcs hS hl
  have hf := ifn hf q3
  by_cases q4 : t = 4
  · have hf := ifp hf q4
    refine lv_tableIn (off := 421) (tgt := 461) hx hb dL_law__40 (by rw [q4]; decide) (by rw [q4]; decide) (by rw [q4]; decide) (by decide) ?_
    exact wLc_4 hl0 X hX hml hR hkc hks hf kN kR H locs ls cells slots hcc hcs hS hl
  have hf := ifn hf q4
  by_cases q5 : t = 5
  · have hf := ifp hf q5
    refine lv_tableIn (off := 477) (tgt := 517) hx hb dL_law__40 (by rw [q5]; decide) (by rw [q5]; decide) (by rw [q5]; decide) (by decide) ?_
    exact wLc_5 hl0 X hX hml hR hkc hks hf kN kR H locs ls cells slots hcc hcs hS hl
  have hf := ifn hf q5
  by_cases q6 : t = 6
  · have hf := ifp hf q6
    refine lv_tableIn (off := 490) (tgt := 530) hx hb dL_law__40 (by rw [q6]; decide) (by rw [q6]; decide) (by rw [q6]; decide) (by decide) ?_
    exact wLc_6 hl0 X hX hml hR hkc hks hf kN kR H locs ls cells slots hcc hcs hS hl
  have hf := ifn hf q6
  by_cases q7 : t = 7
  · have hf := ifp hf q7
    refine lv_tableIn (off := 503) (tgt := 543) hx hb dL_law__40 (by rw [q7]; decide) (by rw [q7]; decide) (by rw [q7]; decide) (by decide) ?_
    exact wLc_7 hl0 X hX hml hR hkc hks hf kN kR H locs ls cells slots hcc hcs hS hl
  have hf := ifn hf q7
  by_cases q8 : t = 8
  · have hf := ifp hf q8
    refine lv_tableIn (off := 559) (tgt := 599) hx hb dL_law__40 (by rw [q8]; decide) (by rw [q8]; decide) (by rw [q8]; decide) (by decide) ?_
    exact wLc_8 hl0 X hX hml hR hkc hks hf kN kR H locs ls cells slots hcc hcs hS hl
  have hf := ifn hf q8
  by_cases q9 : t = 9
  · have hf := ifp hf q9
    refine lv_tableIn (off := 627) (tgt := 667) hx hb dL_law__40 (by rw [q9]; decide) (by rw [q9]; decide) (by rw [q9]; decide) (by decide) ?_
    exact wLc_9 hl0 X hX hml hR hkc hks hf kN kR H locs ls cells slots hcc hcs hS hl
  have hf := ifn hf q9
  by_cases q10 : t = 10
  · have hf := ifp hf q10
    refine lv_tableIn (off := 707) (tgt := 747) hx hb dL_law__40 (by rw [q10]; decide) (by rw [q10]; decide) (by rw [q10]; decide) (by decide) ?_
    exact wLc_10 hl0 X hX hml hR hkc hks hf kN kR H locs ls cells slots hcc hcs hS hl
  have hf := ifn hf q10
  by_cases q11 : t = 11
  · have hf := ifp hf q11
    refine lv_tableIn (off := 775) (tgt := 815) hx hb dL_law__40 (by rw [q11]; decide) (by rw [q11]; decide) (by rw [q11]; decide) (by decide) ?_
    exact wLc_11 hl0 X hX hml hR hkc hks hf kN kR H locs ls cells slots hcc hcs hS hl
  have hf := ifn hf q11
  by_cases q12 : t = 12
  · have hf := ifp hf q12
    refine lv_tableIn (off := 831) (tgt := 871) hx hb dL_law__40 (by rw [q12]; decide) (by rw [q12]; decide) (by rw [q12]; decide) (by decide) ?_
    exact wLc_12 hl0 X hX hml hR hkc hks hf kN kR H locs ls cells slots hcc hcs hS hl
  have hf := ifn hf q12
  by_cases q13 : t = 13
  · have hf := ifp hf q13
    refine lv_tableIn (off := 911) (tgt := 951) hx hb dL_law__40 (by rw [q13]; decide) (by rw [q13]; decide) (by rw [q13]; decide) (by decide) ?_
    exact wLc_13 hl0 X hX hml hR hkc hks hf kN kR H locs ls cells slots hcc hcs hS hl
  have hf := ifn hf q13
  by_cases q14 : t = 14
  · have hf := ifp hf q14
    refine lv_tableIn (off := 1057) (tgt := 1097) hx hb dL_law__40 (by rw [q14]; decide) (by rw [q14]; decide) (by rw [q14]; decide) (by decide) ?_
    exact wLc_14 hl0 X hX hml hR hkc hks hf kN kR H locs ls cells slots hcc hcs hS hl
  have hf := ifn hf q14
  by_cases q15 : t = 15
  · have hf := ifp hf q15
    refine lv_tableIn (off := 1125) (tgt := 1165) hx hb dL_law__40 (by rw [q15]; decide) (by rw [q15]; decide) (by rw [q15]; decide) (by decide) ?_
    exact wLc_15 hl0 X hX hml hR hkc hks hf kN kR H locs ls cells slots hcc hcs hS hl
  have hf := ifn hf q15
  by_cases q16 : t = 16
  · have hf := ifp hf q16
    refine lv_tableIn (off := 1181) (tgt := 1221) hx hb dL_law__40 (by rw [q16]; decide) (by rw [q16]; decide) (by rw [q16]; decide) (by decide) ?_
    exact wLc_16 hl0 X hX hml hR hkc hks hf kN kR H locs ls cells slots hcc hcs hS hl
  have hf := ifn hf q16
  by_cases q17 : t = 17
  · have hf := ifp hf q17
    refine lv_tableIn (off := 1237) (tgt := 1277) hx hb dL_law__40 (by rw [q17]; decide) (by rw [q17]; decide) (by rw [q17]; decide) (by decide) ?_
    exact wLc_17 hl0 X hX hml hR hkc hks hf kN kR H locs ls cells slots hcc hcs hS hl
  have hf := ifn hf q17
  by_cases q18 : t = 18
  · have hf := ifp hf q18
    refine lv_tableIn (off := 1317) (tgt := 1357) hx hb dL_law__40 (by rw [q18]; decide) (by rw [q18]; decide) (by rw [q18]; decide) (by decide) ?_
    exact wLc_18 hl0 X hX hml hR hkc hks hf kN kR H locs ls cells slots hcc hcs hS hl
  have hf := ifn hf q18
  by_cases q19 : t = 19
  · have hf := ifp hf q19
    refine lv_tableIn (off := 1385) (tgt := 1425) hx hb dL_law__40 (by rw [q19]; decide) (by rw [q19]; decide) (by rw [q19]; decide) (by decide) ?_
    exact wLc_19 hl0 X hX hml hR hkc hks hf kN kR H locs ls cells slots hcc hcs hS hl
  have hf := ifn hf q19
  by_cases q20 : t = 20
  · have hf := ifp hf q20
    refine lv_tableIn (off := 1441) (tgt := 1481) hx hb dL_law__40 (by rw [q20]; decide) (by rw [q20]; decide) (by rw [q20]; decide) (by decide) ?_
    exact wLc_20 hl0 X hX hml hR hkc hks hf kN kR H locs ls cells slots hcc hcs hS hl
  have hf := ifn hf q20
  by_cases q21 : t = 21
  · have hf := ifp hf q21
    refine lv_tableIn (off := 1497) (tgt := 1537) hx hb dL_law__40 (by rw [q21]; decide) (by rw [q21]; decide) (by rw [q21]; decide) (by decide) ?_
    exact wLc_21 hl0 X hX hml hR hkc hks hf kN kR H locs ls cells slots hcc hcs hS hl
  have hf := ifn hf q21
  by_cases q22 : t = 22
  · have hf := ifp hf q22
    refine lv_tableIn (off := 1577) (tgt := 1617) hx hb dL_law__40 (by rw [q22]; decide) (by rw [q22]; decide) (by rw [q22]; decide) (by decide) ?_
    exact wLc_22 hl0 X hX hml hR hkc hks hf kN kR H locs ls cells slots hcc hcs hS hl
  have hf := ifn hf q22
  by_cases q23 : t = 23
  · have hf := ifp hf q23
    refine lv_tableIn (off := 1669) (tgt := 1709) hx hb dL_law__40 (by rw [q23]; decide) (by rw [q23]; decide) (by rw [q23]; decide) (by decide) ?_
    exact wLc_23 hl0 X hX hml hR hkc hks hf kN kR H locs ls cells slots hcc hcs hS hl
  have hf := ifn hf q23
  by_cases q24 : t = 24
  · have hf := ifp hf q24
    refine lv_tableIn (off := 1748) (tgt := 1788) hx hb dL_law__40 (by rw [q24]; decide) (by rw [q24]; decide) (by rw [q24]; decide) (by decide) ?_
    exact wLc_24 hl0 X hX hml hR hkc hks hf kN kR H locs ls cells slots hcc hcs hS hl
  have hf := ifn hf q24
  by_cases q25 : t = 25
  · have hf := ifp hf q25
    refine lv_tableIn (off := 1828) (tgt := 1868) hx hb dL_law__40 (by rw [q25]; decide) (by rw [q25]; decide) (by rw [q25]; decide) (by decide) ?_
    exact wLc_25 hl0 X hX hml hR hkc hks hf kN kR H locs ls cells slots hcc hcs hS hl
  have hf := ifn hf q25
  by_cases q26 : t = 26
  · have hf := ifp hf q26
    refine lv_tableIn (off := 1908) (tgt := 1948) hx hb dL_law__40 (by rw [q26]; decide) (by rw [q26]; decide) (by rw [q26]; decide) (by decide) ?_
    exact wLc_26 hl0 X hX hml hR hkc hks hf kN kR H locs ls cells slots hcc hcs hS hl
  have hf := ifn hf q26
  by_cases q27 : t = 27
  · have hf := ifp hf q27
    refine lv_tableIn (off := 1964) (tgt := 2004) hx hb dL_law__40 (by rw [q27]; decide) (by rw [q27]; decide) (by rw [q27]; decide) (by decide) ?_
    exact wLc_27 hl0 X hX hml hR hkc hks hf kN kR H locs ls cells slots hcc hcs hS hl
  have hf := ifn hf q27
  by_cases q28 : t = 28
  · have hf := ifp hf q28
    refine lv_tableIn (off := 2032) (tgt := 2072) hx hb dL_law__40 (by rw [q28]; decide) (by rw [q28]; decide) (by rw [q28]; decide) (by decide) ?_
    exact wLc_28 hl0 X hX hml hR hkc hks hf kN kR H locs ls cells slots hcc hcs hS hl
  have hf := ifn hf q28
  by_cases q29 : t = 29
  · have hf := ifp hf q29
    refine lv_tableIn (off := 2100) (tgt := 2140) hx hb dL_law__40 (by rw [q29]; decide) (by rw [q29]; decide) (by rw [q29]; decide) (by decide) ?_
    exact wLc_29 hl0 X hX hml hR hkc hks hf kN kR H locs ls cells slots hcc hcs hS hl
  have hf := ifn hf q29
  by_cases q30 : t = 30
  · have hf := ifp hf q30
    refine lv_tableIn (off := 2156) (tgt := 2196) hx hb dL_law__40 (by rw [q30]; decide) (by rw [q30]; decide) (by rw [q30]; decide) (by decide) ?_
    exact wLc_30 hl0 X hX hml hR hkc hks hf kN kR H locs ls cells slots hcc hcs hS hl
  have hf := ifn hf q30
  by_cases q31 : t = 31
  · have hf := ifp hf q31
    refine lv_tableIn (off := 2169) (tgt := 2209) hx hb dL_law__40 (by rw [q31]; decide) (by rw [q31]; decide) (by rw [q31]; decide) (by decide) ?_
    exact wLc_31 hl0 X hX hml hR hkc hks hf kN kR H locs ls cells slots hcc hcs hS hl
  have hf := ifn hf q31
  by_cases q32 : t = 32
  · have hf := ifp hf q32
    refine lv_tableIn (off := 2237) (tgt := 2277) hx hb dL_law__40 (by rw [q32]; decide) (by rw [q32]; decide) (by rw [q32]; decide) (by decide) ?_
    exact wLc_32 hl0 X hX hml hR hkc hks hf kN kR H locs ls cells slots hcc hcs hS hl
  have hf := ifn hf q32
  by_cases q33 : t = 33
  · have hf := ifp hf q33
    refine lv_tableIn (off := 2293) (tgt := 2333) hx hb dL_law__40 (by rw [q33]; decide) (by rw [q33]; decide) (by rw [q33]; decide) (by decide) ?_
    exact wLc_33 hl0 X hX hml hR hkc hks hf kN kR H locs ls cells slots hcc hcs hS hl
  have hf := ifn hf q33
  by_cases q34 : t = 34
  · have hf := ifp hf q34
    refine lv_tableIn (off := 2349) (tgt := 2389) hx hb dL_law__40 (by rw [q34]; decide) (by rw [q34]; decide) (by rw [q34]; decide) (by decide) ?_
    exact wLc_34 hl0 X hX hml hR hkc hks hf kN kR H locs ls cells slots hcc hcs hS hl
  have hf := ifn hf q34
  by_cases q35 : t = 35
  · have hf := ifp hf q35
    refine lv_tableIn (off := 2417) (tgt := 2457) hx hb dL_law__40 (by rw [q35]; decide) (by rw [q35]; decide) (by rw [q35]; decide) (by decide) ?_
    exact wLc_35 hl0 X hX hml hR hkc hks hf kN kR H locs ls cells slots hcc hcs hS hl
  have hf := ifn hf q35
  by_cases q36 : t = 36
  · have hf := ifp hf q36
    refine lv_tableIn (off := 2509) (tgt := 2549) hx hb dL_law__40 (by rw [q36]; decide) (by rw [q36]; decide) (by rw [q36]; decide) (by decide) ?_
    exact wLc_36 hl0 X hX hml hR hkc hks hf kN kR H locs ls cells slots hcc hcs hS hl
  have hf := ifn hf q36
  by_cases q37 : t = 37
  · have hf := ifp hf q37
    refine lv_tableIn (off := 2627) (tgt := 2667) hx hb dL_law__40 (by rw [q37]; decide) (by rw [q37]; decide) (by rw [q37]; decide) (by decide) ?_
    exact wLc_37 hl0 X hX hml hR hkc hks hf kN kR H locs ls cells slots hcc hcs hS hl
  have hf := ifn hf q37
  by_cases q38 : t = 38
  · have hf := ifp hf q38
    refine lv_tableIn (off := 2640) (tgt := 2680) hx hb dL_law__40 (by rw [q38]; decide) (by rw [q38]; decide) (by rw [q38]; decide) (by decide) ?_
    exact wLc_38 hl0 X hX hml hR hkc hks hf kN kR H locs ls cells slots hcc hcs hS hl
  have hf := ifn hf q38
  by_cases q39 : t = 39
  · have hf := ifp hf q39
    refine lv_tableIn (off := 2653) (tgt := 2693) hx hb dL_law__40 (by rw [q39]; decide) (by rw [q39]; decide) (by rw [q39]; decide) (by decide) ?_
    exact wLc_39 hl0 X hX hml hR hkc hks hf kN kR H locs ls cells slots hcc hcs hS hl
  have hf := ifn hf q39
  by_cases q40 : t = 40
  · have hf := ifp hf q40
    refine lv_tableIn (off := 2678) (tgt := 2718) hx hb dL_law__40 (by rw [q40]; decide) (by rw [q40]; decide) (by rw [q40]; decide) (by decide) ?_
    exact wLc_40 hl0 X hX hml hR hkc hks hf kN kR H locs ls cells slots hcc hcs hS hl
  have hf := ifn hf q40
  refine lv_tableOut (tgt := 2743) hx hb dL_law__40 (ts_out (x := t) (lo := 0) (n := 41) (by decide) (by decide) (fun j hj => match j, hj with | 0, _ => fun h => q0 (h.trans (by decide)) | 1, _ => fun h => q1 (h.trans (by decide)) | 2, _ => fun h => q2 (h.trans (by decide)) | 3, _ => fun h => q3 (h.trans (by decide)) | 4, _ => fun h => q4 (h.trans (by decide)) | 5, _ => fun h => q5 (h.trans (by decide)) | 6, _ => fun h => q6 (h.trans (by decide)) | 7, _ => fun h => q7 (h.trans (by decide)) | 8, _ => fun h => q8 (h.trans (by decide)) | 9, _ => fun h => q9 (h.trans (by decide)) | 10, _ => fun h => q10 (h.trans (by decide)) | 11, _ => fun h => q11 (h.trans (by decide)) | 12, _ => fun h => q12 (h.trans (by decide)) | 13, _ => fun h => q13 (h.trans (by decide)) | 14, _ => fun h => q14 (h.trans (by decide)) | 15, _ => fun h => q15 (h.trans (by decide)) | 16, _ => fun h => q16 (h.trans (by decide)) | 17, _ => fun h => q17 (h.trans (by decide)) | 18, _ => fun h => q18 (h.trans (by decide)) | 19, _ => fun h => q19 (h.trans (by decide)) | 20, _ => fun h => q20 (h.trans (by decide)) | 21, _ => fun h => q21 (h.trans (by decide)) | 22, _ => fun h => q22 (h.trans (by decide)) | 23, _ => fun h => q23 (h.trans (by decide)) | 24, _ => fun h => q24 (h.trans (by decide)) | 25, _ => fun h => q25 (h.trans (by decide)) | 26, _ => fun h => q26 (h.trans (by decide)) | 27, _ => fun h => q27 (h.trans (by decide)) | 28, _ => fun h => q28 (h.trans (by decide)) | 29, _ => fun h => q29 (h.trans (by decide)) | 30, _ => fun h => q30 (h.trans (by decide)) | 31, _ => fun h => q31 (h.trans (by decide)) | 32, _ => fun h => q32 (h.trans (by decide)) | 33, _ => fun h => q33 (h.trans (by decide)) | 34, _ => fun h => q34 (h.trans (by decide)) | 35, _ => fun h => q35 (h.trans (by decide)) | 36, _ => fun h => q36 (h.trans (by decide)) | 37, _ => fun h => q37 (h.trans (by decide)) | 38, _ => fun h => q38 (h.trans (by decide)) | 39, _ => fun h => q39 (h.trans (by decide)) | 40, _ => fun h => q40 (h.trans (by decide)) | j + 41, hj => absurd hj (by omega))) (by decide) ?_
  exact kN _ (Option.some.inj hf).symm H locs ls cells slots (by omega) (by omega) hS hl
theorem nI_gap {L j : Nat} (hL : L ≤ 4608) (hj : 9 * j ≤ L + 9) (h : ¬ Int32.ofNat L - 9 < nI (9 * j)) : 9 * j + 9 ≤ L := by
  rw [Int32.lt_iff_toInt_lt] at h
  have h1 : (Int32.ofNat L - 9).toInt = (L : Int) - 9 := pk_sub_toInt (a := L) (b := 9) (by omega) (by omega)
  have h2 : (nI (9 * j)).toInt = ((9 * j : Nat) : Int) := nI_toInt (by omega)
  rw [h1, h2] at h
  omega
set_option maxHeartbeats 4000000 in
set_option maxRecDepth 100000 in
theorem law_loop {p : Program} {l : Launch} {e : Env} {R : Room} {s : State} {m : MethodId} {args : Array Value} {below : List Frame} {meth : Method} {c : Code} {Q : State → Prop} {E : Ev} {b L : Nat} {xs : Nat → Int32} (hl0 : l.stackTraces = false) (X : Cx p s m args c cL_law_ RL E) (hX : Scr E s b L xs) (hml : c.maxLocals = 8) (hR : 400 ≤ R.frames ∧ 20000 ≤ R.locals) {x1 x2 x3 : Nat} (hL : L ≤ 4608) {kc0 ks0 : Nat} (hkc : kc0 + 520 ≤ R.cells) (hks : ks0 + 6 * 520 ≤ R.slots) (kR : ∀ (pc : Nat) (H : Heap) (locs : List Loc) (ls : Array Slot) (cells slots : Nat), cells ≤ kc0 + 520 → slots ≤ ks0 + 6 * 520 → decode cL_law_ pc = .ok (.ireturn, 1) → ∀ {mm1 : Mem}, wS E s mm1 H locs → W p l e R s m args below meth c H locs cells slots Q (F0 m pc ls [.int 1])) : ∀ (n j : Nat) (x4 : Int32) (mm : Mem), x4 = nI (9 * j) → 9 * j ≤ L + 9 → loopN (fL_step (eS E) L xs x1 x2 x3) n (x4, mm) = some 1 → ∀ (H : Heap) (locs : List Loc) (ls : Array Slot) (cells slots : Nat), cells ≤ kc0 + j → slots ≤ ks0 + 6 * j → wS E s mm H locs → lv_has ls 8 [(0, .ref b), (1, .ref x1), (2, .ref x2), (3, .ref x3), (4, .int x4)] → W p l e R s m args below meth c H locs cells slots Q (F0 m 23 ls []) := by
  intro n
  induction n with
  | zero => intro j x4 mm _ _ h; cases h
  | succ n ih =>
    intro j x4 mm ex hj hf H locs ls cells slots hcc hcs hS hl
    have hx := X.1
    have hb := X.2.1
    unfold loopN at hf
    obtain ⟨y, hs, hf⟩ := bs hf
    unfold fL_step at hs
    refine lv_iload hx hb dL_law__23 (lv_at hl 4 rfl) ?_
    refine lv_aload_n hx hb dL_law__25 rfl (lv_at hl 0 rfl) ?_
    refine am_scn X hX hS dL_law__26 ?_
    refine lv_bipush (v := 9) hx hb dL_law__27 (by decide) ?_
    refine lv_isub hx hb dL_law__29 ?_
    refine lv_icmp_gt (tgt := 2749) hx hb dL_law__30 (by decide) (fun q => ?_) (fun q => ?_)
    · refine lv_iconst (v := 1) hx hb dL_law__2749 (by decide) ?_
      exact kR _ H locs ls cells slots (by omega) (by omega) dL_law__2750 hS
    · have hs := ifn hs q
      have hgap : 9 * j + 9 ≤ L := nI_gap hL hj (by rw [← ex]; exact q)
      obtain ⟨v, h1, hs⟩ := bs hs
      refine lv_aload_n hx hb dL_law__33 rfl (lv_at hl 0 rfl) ?_
      refine lv_iload hx hb dL_law__34 (lv_at hl 4 rfl) ?_
      refine am_scr X hX hS h1 dL_law__36 ?_
      refine lv_bipush (v := 63) hx hb dL_law__37 (by decide) ?_
      refine lv_iand hx hb dL_law__39 ?_
      refine lv_topi (fun t e1 => ?_)
      have hs := lt1_n e1 hs
      obtain ⟨y1, h2, hs⟩ := bs hs
      refine wL_sw hl0 X hX hml hR (kc := kc0 + j) (ks := ks0 + 6 * j) (by omega) (by omega) h2 (fun m1 hy H locs ls cells slots hcc hcs hS hl => ?_) (fun v hy pc H locs ls cells slots hcc hcs hd mm1 hS => ?_) H locs ls cells slots hcc hcs hS hl
      · subst hy
        cases hs
        obtain ⟨x5, e5⟩ : ∃ z : Int32, z = x4 + 9 := ⟨_, rfl⟩
        refine lv_iinc (v := x5) (lv' := [(4, .int x5), (0, .ref b), (1, .ref x1), (2, .ref x2), (3, .ref x3)]) hx hb dL_law__2743 hl (k := 4) rfl (by rw [e5]; rfl) (by decide) rfl (fun ls hl => ?_)
        refine lv_goto (tgt := 23) hx hb dL_law__2746 (by decide) ?_
        have hf : loopN (fL_step (eS E) L xs x1 x2 x3) n (x4 + 9, m1) = some 1 := hf
        rw [← e5] at hf
        exact ih (j + 1) x5 m1 (by rw [e5, ex]; exact (nI_add (9 * j) 9).trans (by congr 1)) (by omega) hf H locs ls cells slots (by omega) (by omega) hS (lv_sub hl [1, 2, 3, 4, 0] rfl)
      · subst hy
        cases hs
        have hf : some v = some 1 := hf
        cases hf
        exact kR pc H locs ls cells slots (by omega) (by omega) hd hS

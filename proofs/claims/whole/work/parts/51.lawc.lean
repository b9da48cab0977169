/-! the law's own body, case by case -/
def scL (L : Nat) (xs : Nat → Int32) (i : Int32) : Option Int32 := if i < 0 ∨ L ≤ i.toNatClampNeg then none else some (xs i.toNatClampNeg)
section AML
variable {p : Program} {l : Launch} {e : Env} {R : Room} {s : State} {m : MethodId} {args : Array Value} {below : List Frame} {meth : Method} {c : Code} {H : Heap} {locs : List Loc} {cells slots : Nat} {Q : State → Prop}
variable {cc : ByteArray} {pc : Nat} {ls : Array Slot} {rest st0 As : List Value} {E : Ev} {own : String} {mm mm' : Mem}
/-- the script, from the law's start on -/
def Scr (E : Ev) (s : State) (b L : Nat) (xs : Nat → Int32) : Prop := va_X b L xs s s.heap ∧ b < s.heap.size ∧ ¬ eA E b
theorem am_scr {b L : Nat} {xs : Nat → Int32} {i v : Int32} (X : Cx p s m args c cc own E) (hX : Scr E s b L xs) (hS : wS E s mm H locs) (hv : scL L xs i = some v) (hdg : decode cc pc = .ok (.iaload, 1)) (kk : W p l e R s m args below meth c H locs cells slots Q (F0 m (pc + 1) ls (.int v :: rest))) : W p l e R s m args below meth c H locs cells slots Q (F0 m pc ls (.int i :: .ref b :: rest)) := by
  unfold scL at hv
  split at hv
  · cases hv
  · rename_i hc
    cases hv
    exact va_sld X.1 X.2.1 hX.1 hX.2.1 hX.2.2 hS.2 hc hdg kk
theorem am_scn {b L : Nat} {xs : Nat → Int32} (X : Cx p s m args c cc own E) (hX : Scr E s b L xs) (hS : wS E s mm H locs) (hdg : decode cc pc = .ok (.arraylength, 1)) (kk : W p l e R s m args below meth c H locs cells slots Q (F0 m (pc + 1) ls (.int (Int32.ofNat L) :: rest))) : W p l e R s m args below meth c H locs cells slots Q (F0 m pc ls (.ref b :: rest)) :=
  va_slen X.1 X.2.1 hX.1 hX.2.1 hX.2.2 hS.2 hdg kk
/-- the words of a call of one of the law's own methods -/
def MH (own : String) (idx : Nat) (y : MethodName) (bytes : ByteArray) (nL : Nat) (hh : List (Nat × Nat × Nat × Nat)) (n : Nat) : Prop := Cond.methodLink own idx y ∈ BIG ∧ Cond.static y ∈ BIG ∧ Cond.initialized y.cls ∈ BIG ∧ Cond.codeWith y bytes nL (some .int) hh ∈ BIG ∧ y.cls ≠ "java/lang/invoke/MethodHandle" ∧ y.cls ≠ "java/lang/invoke/VarHandle" ∧ (parseMethodDescriptor y.desc).map (fun d => d.parameters.length) = some n
theorem am_cH {y : MethodName} {bytes : ByteArray} {nLc fr lo n idx : Nat} {hh : List (Nat × Nat × Nat × Nat)} {r : Int32} (X : Cx p s m args c cc own E) (hml : c.maxLocals = ls.size) (hS : wS E s mm H locs) (hM : CtH l y bytes nLc (some .int) hh fr lo E As mm r mm') (hL : MH own idx y bytes nLc hh n) (hR : fr + 1 ≤ R.frames ∧ 8 + (nLc + 11) + lo ≤ R.locals) (hcs : cells + 1 ≤ R.cells ∧ slots + 6 ≤ R.slots) (hn : As.length = n) (hst : st0 = As.reverse ++ rest) (hW : (rest.map fun v => v.category).sum ≤ 8) (hdg : decode cc pc = .ok (.invokestatic idx, 3)) (kk : ∀ (H : Heap) (locs : List Loc), wS E s mm' H locs → W p l e R s m args below meth c H locs (cells + 1) (slots + 6) Q (F0 m (pc + 3) ls (.int r :: rest))) : W p l e R s m args below meth c H locs cells slots Q (F0 m pc ls st0) := by
  have hpre := am_pre X hS As
  obtain ⟨hx, hbb, hts, hown, hV, hO⟩ := X
  obtain ⟨h1, h2, h4, h5, h6, h7, h8⟩ := hL
  refine vx_calli (vx_runSX (Ts := BIG) (hh := hh) ⟨hx, hbb, hml, hown, hts⟩ hM ⟨⟨rfl, rfl, hR.1, hR.2, pay_in hts (goodC h5), List.mem_cons_self⟩, hts _ h5, hts _ h4, ⟨h6, h7⟩, fun sig h => ?_, hts _ h1, hts _ h2⟩ ⟨blindB E mm _, hpre⟩ rfl hn rfl hst (lv_room hW) hdg hcs) hS.2 (fun _ _ h => h) (fun _ h => h) (fun _ _ h => h) (fun C ce q9 u t H1 locs1 ht hvm hp _ _ _ _ _ _ _ => hp.elim) (fun r' u t H1 locs1 ht hvm hp hB hz hk hS1 => ?_)
  · rw [h] at h8
    exact (Option.some.inj h8).symm
  · subst hp
    subst ht
    exact kk _ locs1 ⟨hB.1, hS1⟩
end AML
set_option maxRecDepth 20000 in
theorem cw_X11_feed : Cond.code yX11_feed cX11_feed 6 (some .int) ∈ BIG := inB (List.mem_of_getElem? (i := 498) rfl) rfl
theorem mv_L_123 : MV RL 123 yX11_feed cX11_feed 6 (some .int) 5 := ⟨inBi 495 (by decide +kernel), inBi 496 (by decide +kernel), inBi 497 (by decide +kernel), inBi 95 (by decide +kernel), cw_X11_feed, by decide +kernel, by decide +kernel, by decide +kernel⟩
set_option maxRecDepth 20000 in
theorem cw_X12_feed : Cond.code yX12_feed cX12_feed 8 (some .int) ∈ BIG := inB (List.mem_of_getElem? (i := 1511) rfl) rfl
theorem mv_L_127 : MV RL 127 yX12_feed cX12_feed 8 (some .int) 5 := ⟨inBi 1508 (by decide +kernel), inBi 1509 (by decide +kernel), inBi 1510 (by decide +kernel), inBi 107 (by decide +kernel), cw_X12_feed, by decide +kernel, by decide +kernel, by decide +kernel⟩
set_option maxRecDepth 20000 in
theorem mh_128 : MH RL 128 yL_college cL_college 4 [(0, 9, 12, 13)] 3 := ⟨(inBi 554 (by decide +kernel)), (inBi 555 (by decide +kernel)), (inBi 94 (by decide +kernel)), inB (List.mem_of_getElem? (i := 556) rfl) rfl, by decide +kernel, by decide +kernel, by decide +kernel⟩
set_option maxRecDepth 20000 in
theorem cw_X12_college : Cond.code yX12_college cX12_college 4 (some .int) ∈ BIG := inB (List.mem_of_getElem? (i := 1519) rfl) rfl
theorem mv_L_133 : MV RL 133 yX12_college cX12_college 4 (some .int) 1 := ⟨inBi 1516 (by decide +kernel), inBi 1517 (by decide +kernel), inBi 1518 (by decide +kernel), inBi 107 (by decide +kernel), cw_X12_college, by decide +kernel, by decide +kernel, by decide +kernel⟩
set_option maxRecDepth 20000 in
theorem cw_X12_thrown : Cond.code yX12_thrown cX12_thrown 1 (some .int) ∈ BIG := inB (List.mem_of_getElem? (i := 1338) rfl) rfl
theorem mv_L_134 : MV RL 134 yX12_thrown cX12_thrown 1 (some .int) 0 := ⟨inBi 1335 (by decide +kernel), inBi 1336 (by decide +kernel), inBi 1337 (by decide +kernel), inBi 107 (by decide +kernel), cw_X12_thrown, by decide +kernel, by decide +kernel, by decide +kernel⟩
set_option maxRecDepth 20000 in
theorem mh_138 : MH RL 138 yL_law cL_law 4 [(0, 9, 12, 13)] 3 := ⟨(inBi 761 (by decide +kernel)), (inBi 762 (by decide +kernel)), (inBi 94 (by decide +kernel)), inB (List.mem_of_getElem? (i := 763) rfl) rfl, by decide +kernel, by decide +kernel, by decide +kernel⟩
set_option maxRecDepth 20000 in
theorem cw_X12_law : Cond.code yX12_law cX12_law 3 (some .int) ∈ BIG := inB (List.mem_of_getElem? (i := 1592) rfl) rfl
theorem mv_L_140 : MV RL 140 yX12_law cX12_law 3 (some .int) 1 := ⟨inBi 1589 (by decide +kernel), inBi 1590 (by decide +kernel), inBi 1591 (by decide +kernel), inBi 107 (by decide +kernel), cw_X12_law, by decide +kernel, by decide +kernel, by decide +kernel⟩
set_option maxRecDepth 20000 in
theorem mh_141 : MH RL 141 yL_work cL_work 4 [(0, 9, 12, 13)] 3 := ⟨(inBi 805 (by decide +kernel)), (inBi 806 (by decide +kernel)), (inBi 94 (by decide +kernel)), inB (List.mem_of_getElem? (i := 807) rfl) rfl, by decide +kernel, by decide +kernel, by decide +kernel⟩
set_option maxRecDepth 20000 in
theorem cw_X12_work : Cond.code yX12_work cX12_work 4 (some .int) ∈ BIG := inB (List.mem_of_getElem? (i := 1633) rfl) rfl
theorem mv_L_143 : MV RL 143 yX12_work cX12_work 4 (some .int) 1 := ⟨inBi 1630 (by decide +kernel), inBi 1631 (by decide +kernel), inBi 1632 (by decide +kernel), inBi 107 (by decide +kernel), cw_X12_work, by decide +kernel, by decide +kernel, by decide +kernel⟩
set_option maxRecDepth 20000 in
theorem mh_144 : MH RL 144 yL_book cL_book 4 [(0, 9, 12, 13)] 3 := ⟨(inBi 910 (by decide +kernel)), (inBi 911 (by decide +kernel)), (inBi 94 (by decide +kernel)), inB (List.mem_of_getElem? (i := 912) rfl) rfl, by decide +kernel, by decide +kernel, by decide +kernel⟩
set_option maxRecDepth 20000 in
theorem cw_X12_book : Cond.code yX12_book cX12_book 6 (some .int) ∈ BIG := inB (List.mem_of_getElem? (i := 1731) rfl) rfl
theorem mv_L_146 : MV RL 146 yX12_book cX12_book 6 (some .int) 1 := ⟨inBi 1728 (by decide +kernel), inBi 1729 (by decide +kernel), inBi 1730 (by decide +kernel), inBi 107 (by decide +kernel), cw_X12_book, by decide +kernel, by decide +kernel, by decide +kernel⟩
set_option maxRecDepth 20000 in
theorem cw_X11_fault : Cond.code yX11_fault cX11_fault 1 (some .int) ∈ BIG := inB (List.mem_of_getElem? (i := 506) rfl) rfl
theorem mv_L_147 : MV RL 147 yX11_fault cX11_fault 1 (some .int) 0 := ⟨inBi 503 (by decide +kernel), inBi 504 (by decide +kernel), inBi 505 (by decide +kernel), inBi 95 (by decide +kernel), cw_X11_fault, by decide +kernel, by decide +kernel, by decide +kernel⟩
set_option maxRecDepth 20000 in
theorem cw_X12_fault : Cond.code yX12_fault cX12_fault 1 (some .int) ∈ BIG := inB (List.mem_of_getElem? (i := 1515) rfl) rfl
theorem mv_L_150 : MV RL 150 yX12_fault cX12_fault 1 (some .int) 0 := ⟨inBi 1512 (by decide +kernel), inBi 1513 (by decide +kernel), inBi 1514 (by decide +kernel), inBi 107 (by decide +kernel), cw_X12_fault, by decide +kernel, by decide +kernel, by decide +kernel⟩
set_option maxRecDepth 20000 in
theorem cw_X11_undo : Cond.code yX11_undo cX11_undo 1 (some .int) ∈ BIG := inB (List.mem_of_getElem? (i := 510) rfl) rfl
theorem mv_L_151 : MV RL 151 yX11_undo cX11_undo 1 (some .int) 0 := ⟨inBi 507 (by decide +kernel), inBi 508 (by decide +kernel), inBi 509 (by decide +kernel), inBi 95 (by decide +kernel), cw_X11_undo, by decide +kernel, by decide +kernel, by decide +kernel⟩
set_option maxRecDepth 20000 in
theorem cw_X12_undo : Cond.code yX12_undo cX12_undo 2 (some .int) ∈ BIG := inB (List.mem_of_getElem? (i := 1735) rfl) rfl
theorem mv_L_154 : MV RL 154 yX12_undo cX12_undo 2 (some .int) 0 := ⟨inBi 1732 (by decide +kernel), inBi 1733 (by decide +kernel), inBi 1734 (by decide +kernel), inBi 107 (by decide +kernel), cw_X12_undo, by decide +kernel, by decide +kernel, by decide +kernel⟩
set_option maxRecDepth 20000 in
theorem mh_155 : MH RL 155 yL_told cL_told 4 [(0, 9, 12, 13)] 3 := ⟨(inBi 936 (by decide +kernel)), (inBi 937 (by decide +kernel)), (inBi 94 (by decide +kernel)), inB (List.mem_of_getElem? (i := 938) rfl) rfl, by decide +kernel, by decide +kernel, by decide +kernel⟩
set_option maxRecDepth 20000 in
theorem cw_X12_told : Cond.code yX12_told cX12_told 2 (some .int) ∈ BIG := inB (List.mem_of_getElem? (i := 1739) rfl) rfl
theorem mv_L_157 : MV RL 157 yX12_told cX12_told 2 (some .int) 1 := ⟨inBi 1736 (by decide +kernel), inBi 1737 (by decide +kernel), inBi 1738 (by decide +kernel), inBi 107 (by decide +kernel), cw_X12_told, by decide +kernel, by decide +kernel, by decide +kernel⟩
set_option maxRecDepth 20000 in
theorem mh_158 : MH RL 158 yL_fellow cL_fellow 5 [(0, 10, 13, 31), (0, 10, 17, 13)] 4 := ⟨(inBi 971 (by decide +kernel)), (inBi 972 (by decide +kernel)), (inBi 94 (by decide +kernel)), inB (List.mem_of_getElem? (i := 973) rfl) rfl, by decide +kernel, by decide +kernel, by decide +kernel⟩
set_option maxRecDepth 20000 in
theorem cw_X12_fellow : Cond.code yX12_fellow cX12_fellow 3 (some .int) ∈ BIG := inB (List.mem_of_getElem? (i := 1762) rfl) rfl
theorem mv_L_161 : MV RL 161 yX12_fellow cX12_fellow 3 (some .int) 2 := ⟨inBi 1759 (by decide +kernel), inBi 1760 (by decide +kernel), inBi 1761 (by decide +kernel), inBi 107 (by decide +kernel), cw_X12_fellow, by decide +kernel, by decide +kernel, by decide +kernel⟩
set_option maxRecDepth 20000 in
theorem mh_162 : MH RL 162 yL_part cL_part 6 [(0, 12, 15, 31), (0, 12, 19, 13)] 5 := ⟨(inBi 1017 (by decide +kernel)), (inBi 1018 (by decide +kernel)), (inBi 94 (by decide +kernel)), inB (List.mem_of_getElem? (i := 1019) rfl) rfl, by decide +kernel, by decide +kernel, by decide +kernel⟩
set_option maxRecDepth 20000 in
theorem cw_X12_part : Cond.code yX12_part cX12_part 4 (some .int) ∈ BIG := inB (List.mem_of_getElem? (i := 1778) rfl) rfl
theorem mv_L_165 : MV RL 165 yX12_part cX12_part 4 (some .int) 3 := ⟨inBi 1775 (by decide +kernel), inBi 1776 (by decide +kernel), inBi 1777 (by decide +kernel), inBi 107 (by decide +kernel), cw_X12_part, by decide +kernel, by decide +kernel, by decide +kernel⟩
set_option maxRecDepth 20000 in
theorem mh_166 : MH RL 166 yL_glass cL_glass 5 [(0, 10, 13, 31), (0, 10, 17, 13)] 4 := ⟨(inBi 1027 (by decide +kernel)), (inBi 1028 (by decide +kernel)), (inBi 94 (by decide +kernel)), inB (List.mem_of_getElem? (i := 1029) rfl) rfl, by decide +kernel, by decide +kernel, by decide +kernel⟩
set_option maxRecDepth 20000 in
theorem cw_X12_glass : Cond.code yX12_glass cX12_glass 3 (some .int) ∈ BIG := inB (List.mem_of_getElem? (i := 1785) rfl) rfl
theorem mv_L_168 : MV RL 168 yX12_glass cX12_glass 3 (some .int) 2 := ⟨inBi 1782 (by decide +kernel), inBi 1783 (by decide +kernel), inBi 1784 (by decide +kernel), inBi 107 (by decide +kernel), cw_X12_glass, by decide +kernel, by decide +kernel, by decide +kernel⟩
set_option maxRecDepth 20000 in
theorem mh_169 : MH RL 169 yL_place cL_place 4 [(0, 9, 12, 13)] 3 := ⟨(inBi 1039 (by decide +kernel)), (inBi 1040 (by decide +kernel)), (inBi 94 (by decide +kernel)), inB (List.mem_of_getElem? (i := 1041) rfl) rfl, by decide +kernel, by decide +kernel, by decide +kernel⟩
set_option maxRecDepth 20000 in
theorem cw_X12_place : Cond.code yX12_place cX12_place 2 (some .int) ∈ BIG := inB (List.mem_of_getElem? (i := 1793) rfl) rfl
theorem mv_L_171 : MV RL 171 yX12_place cX12_place 2 (some .int) 1 := ⟨inBi 1790 (by decide +kernel), inBi 1791 (by decide +kernel), inBi 1792 (by decide +kernel), inBi 107 (by decide +kernel), cw_X12_place, by decide +kernel, by decide +kernel, by decide +kernel⟩
set_option maxRecDepth 20000 in
theorem mh_172 : MH RL 172 yL_turn cL_turn 6 [(0, 12, 15, 31), (0, 12, 19, 13)] 5 := ⟨(inBi 1050 (by decide +kernel)), (inBi 1051 (by decide +kernel)), (inBi 94 (by decide +kernel)), inB (List.mem_of_getElem? (i := 1052) rfl) rfl, by decide +kernel, by decide +kernel, by decide +kernel⟩
set_option maxRecDepth 20000 in
theorem cw_X12_turn : Cond.code yX12_turn cX12_turn 4 (some .int) ∈ BIG := inB (List.mem_of_getElem? (i := 1801) rfl) rfl
theorem mv_L_174 : MV RL 174 yX12_turn cX12_turn 4 (some .int) 3 := ⟨inBi 1798 (by decide +kernel), inBi 1799 (by decide +kernel), inBi 1800 (by decide +kernel), inBi 107 (by decide +kernel), cw_X12_turn, by decide +kernel, by decide +kernel, by decide +kernel⟩
set_option maxRecDepth 20000 in
theorem mh_175 : MH RL 175 yL_would cL_would 11 [(0, 22, 25, 13)] 10 := ⟨(inBi 1058 (by decide +kernel)), (inBi 1059 (by decide +kernel)), (inBi 94 (by decide +kernel)), inB (List.mem_of_getElem? (i := 1060) rfl) rfl, by decide +kernel, by decide +kernel, by decide +kernel⟩
set_option maxRecDepth 20000 in
theorem cw_X12_would : Cond.code yX12_would cX12_would 9 (some .int) ∈ BIG := inB (List.mem_of_getElem? (i := 1805) rfl) rfl
theorem mv_L_178 : MV RL 178 yX12_would cX12_would 9 (some .int) 8 := ⟨inBi 1802 (by decide +kernel), inBi 1803 (by decide +kernel), inBi 1804 (by decide +kernel), inBi 107 (by decide +kernel), cw_X12_would, by decide +kernel, by decide +kernel, by decide +kernel⟩
set_option maxRecDepth 20000 in
theorem mh_179 : MH RL 179 yL_ahead cL_ahead 5 [(0, 10, 13, 13)] 4 := ⟨(inBi 1067 (by decide +kernel)), (inBi 1068 (by decide +kernel)), (inBi 94 (by decide +kernel)), inB (List.mem_of_getElem? (i := 1069) rfl) rfl, by decide +kernel, by decide +kernel, by decide +kernel⟩
set_option maxRecDepth 20000 in
theorem cw_X12_ahead : Cond.code yX12_ahead cX12_ahead 4 (some .int) ∈ BIG := inB (List.mem_of_getElem? (i := 1809) rfl) rfl
theorem mv_L_181 : MV RL 181 yX12_ahead cX12_ahead 4 (some .int) 2 := ⟨inBi 1806 (by decide +kernel), inBi 1807 (by decide +kernel), inBi 1808 (by decide +kernel), inBi 107 (by decide +kernel), cw_X12_ahead, by decide +kernel, by decide +kernel, by decide +kernel⟩
set_option maxRecDepth 20000 in
theorem mh_182 : MH RL 182 yL_spread cL_spread 4 [(0, 9, 12, 13)] 3 := ⟨(inBi 1078 (by decide +kernel)), (inBi 1079 (by decide +kernel)), (inBi 94 (by decide +kernel)), inB (List.mem_of_getElem? (i := 1080) rfl) rfl, by decide +kernel, by decide +kernel, by decide +kernel⟩
set_option maxRecDepth 20000 in
theorem cw_X12_spread : Cond.code yX12_spread cX12_spread 2 (some .int) ∈ BIG := inB (List.mem_of_getElem? (i := 1813) rfl) rfl
theorem mv_L_184 : MV RL 184 yX12_spread cX12_spread 2 (some .int) 1 := ⟨inBi 1810 (by decide +kernel), inBi 1811 (by decide +kernel), inBi 1812 (by decide +kernel), inBi 107 (by decide +kernel), cw_X12_spread, by decide +kernel, by decide +kernel, by decide +kernel⟩
set_option maxRecDepth 20000 in
theorem mh_185 : MH RL 185 yL_bow cL_bow 4 [(0, 9, 12, 13)] 3 := ⟨(inBi 1090 (by decide +kernel)), (inBi 1091 (by decide +kernel)), (inBi 94 (by decide +kernel)), inB (List.mem_of_getElem? (i := 1092) rfl) rfl, by decide +kernel, by decide +kernel, by decide +kernel⟩
set_option maxRecDepth 20000 in
theorem cw_X12_bow : Cond.code yX12_bow cX12_bow 5 (some .int) ∈ BIG := inB (List.mem_of_getElem? (i := 1825) rfl) rfl
theorem mv_L_187 : MV RL 187 yX12_bow cX12_bow 5 (some .int) 1 := ⟨inBi 1822 (by decide +kernel), inBi 1823 (by decide +kernel), inBi 1824 (by decide +kernel), inBi 107 (by decide +kernel), cw_X12_bow, by decide +kernel, by decide +kernel, by decide +kernel⟩
set_option maxRecDepth 20000 in
theorem mh_188 : MH RL 188 yL_through cL_through 6 [(0, 12, 15, 31), (0, 12, 19, 13)] 5 := ⟨(inBi 1104 (by decide +kernel)), (inBi 1105 (by decide +kernel)), (inBi 94 (by decide +kernel)), inB (List.mem_of_getElem? (i := 1106) rfl) rfl, by decide +kernel, by decide +kernel, by decide +kernel⟩
set_option maxRecDepth 20000 in
theorem cw_X12_through : Cond.code yX12_through cX12_through 9 (some .int) ∈ BIG := inB (List.mem_of_getElem? (i := 1833) rfl) rfl
theorem mv_L_190 : MV RL 190 yX12_through cX12_through 9 (some .int) 3 := ⟨inBi 1830 (by decide +kernel), inBi 1831 (by decide +kernel), inBi 1832 (by decide +kernel), inBi 107 (by decide +kernel), cw_X12_through, by decide +kernel, by decide +kernel, by decide +kernel⟩
set_option maxRecDepth 20000 in
theorem mh_191 : MH RL 191 yL_serves cL_serves 5 [(0, 10, 13, 13)] 4 := ⟨(inBi 1119 (by decide +kernel)), (inBi 1120 (by decide +kernel)), (inBi 94 (by decide +kernel)), inB (List.mem_of_getElem? (i := 1121) rfl) rfl, by decide +kernel, by decide +kernel, by decide +kernel⟩
set_option maxRecDepth 20000 in
theorem cw_X12_serves : Cond.code yX12_serves cX12_serves 5 (some .int) ∈ BIG := inB (List.mem_of_getElem? (i := 1840) rfl) rfl
theorem mv_L_193 : MV RL 193 yX12_serves cX12_serves 5 (some .int) 2 := ⟨inBi 1837 (by decide +kernel), inBi 1838 (by decide +kernel), inBi 1839 (by decide +kernel), inBi 107 (by decide +kernel), cw_X12_serves, by decide +kernel, by decide +kernel, by decide +kernel⟩
set_option maxRecDepth 20000 in
theorem mh_194 : MH RL 194 yL_fits cL_fits 4 [(0, 9, 12, 13)] 3 := ⟨(inBi 1127 (by decide +kernel)), (inBi 1128 (by decide +kernel)), (inBi 94 (by decide +kernel)), inB (List.mem_of_getElem? (i := 1129) rfl) rfl, by decide +kernel, by decide +kernel, by decide +kernel⟩
set_option maxRecDepth 20000 in
theorem cw_X12_fits : Cond.code yX12_fits cX12_fits 2 (some .int) ∈ BIG := inB (List.mem_of_getElem? (i := 1847) rfl) rfl
theorem mv_L_196 : MV RL 196 yX12_fits cX12_fits 2 (some .int) 1 := ⟨inBi 1844 (by decide +kernel), inBi 1845 (by decide +kernel), inBi 1846 (by decide +kernel), inBi 107 (by decide +kernel), cw_X12_fits, by decide +kernel, by decide +kernel, by decide +kernel⟩
set_option maxRecDepth 20000 in
theorem mh_197 : MH RL 197 yL_look cL_look 4 [(0, 9, 12, 13)] 3 := ⟨(inBi 1150 (by decide +kernel)), (inBi 1151 (by decide +kernel)), (inBi 94 (by decide +kernel)), inB (List.mem_of_getElem? (i := 1152) rfl) rfl, by decide +kernel, by decide +kernel, by decide +kernel⟩
set_option maxRecDepth 20000 in
theorem cw_X12_look : Cond.code yX12_look cX12_look 6 (some .int) ∈ BIG := inB (List.mem_of_getElem? (i := 1855) rfl) rfl
theorem mv_L_199 : MV RL 199 yX12_look cX12_look 6 (some .int) 1 := ⟨inBi 1852 (by decide +kernel), inBi 1853 (by decide +kernel), inBi 1854 (by decide +kernel), inBi 107 (by decide +kernel), cw_X12_look, by decide +kernel, by decide +kernel, by decide +kernel⟩
set_option maxRecDepth 20000 in
theorem mh_200 : MH RL 200 yL_swings cL_swings 6 [(0, 12, 15, 31), (0, 12, 19, 13)] 5 := ⟨(inBi 1166 (by decide +kernel)), (inBi 1167 (by decide +kernel)), (inBi 94 (by decide +kernel)), inB (List.mem_of_getElem? (i := 1168) rfl) rfl, by decide +kernel, by decide +kernel, by decide +kernel⟩
set_option maxRecDepth 20000 in
theorem cw_X12_swings : Cond.code yX12_swings cX12_swings 6 (some .int) ∈ BIG := inB (List.mem_of_getElem? (i := 1867) rfl) rfl
theorem mv_L_202 : MV RL 202 yX12_swings cX12_swings 6 (some .int) 3 := ⟨inBi 1864 (by decide +kernel), inBi 1865 (by decide +kernel), inBi 1866 (by decide +kernel), inBi 107 (by decide +kernel), cw_X12_swings, by decide +kernel, by decide +kernel, by decide +kernel⟩
set_option maxRecDepth 20000 in
theorem mh_203 : MH RL 203 yL_power cL_power 7 [(0, 14, 17, 31), (0, 14, 21, 13)] 6 := ⟨(inBi 1180 (by decide +kernel)), (inBi 1181 (by decide +kernel)), (inBi 94 (by decide +kernel)), inB (List.mem_of_getElem? (i := 1182) rfl) rfl, by decide +kernel, by decide +kernel, by decide +kernel⟩
set_option maxRecDepth 20000 in
theorem cw_X12_power : Cond.code yX12_power cX12_power 7 (some .int) ∈ BIG := inB (List.mem_of_getElem? (i := 1879) rfl) rfl
theorem mv_L_206 : MV RL 206 yX12_power cX12_power 7 (some .int) 4 := ⟨inBi 1876 (by decide +kernel), inBi 1877 (by decide +kernel), inBi 1878 (by decide +kernel), inBi 107 (by decide +kernel), cw_X12_power, by decide +kernel, by decide +kernel, by decide +kernel⟩
set_option maxRecDepth 20000 in
theorem mh_207 : MH RL 207 yL_green cL_green 6 [(0, 11, 14, 13)] 5 := ⟨(inBi 1196 (by decide +kernel)), (inBi 1197 (by decide +kernel)), (inBi 94 (by decide +kernel)), inB (List.mem_of_getElem? (i := 1198) rfl) rfl, by decide +kernel, by decide +kernel, by decide +kernel⟩
set_option maxRecDepth 20000 in
theorem cw_X12_green : Cond.code yX12_green cX12_green 9 (some .long) ∈ BIG := inB (List.mem_of_getElem? (i := 1889) rfl) rfl
theorem mv_L_209 : MV RL 209 yX12_green cX12_green 9 (some .long) 3 := ⟨inBi 1886 (by decide +kernel), inBi 1887 (by decide +kernel), inBi 1888 (by decide +kernel), inBi 107 (by decide +kernel), cw_X12_green, by decide +kernel, by decide +kernel, by decide +kernel⟩
set_option maxRecDepth 20000 in
theorem mh_210 : MH RL 210 yL_lookers cL_lookers 6 [(0, 12, 15, 13)] 5 := ⟨(inBi 1204 (by decide +kernel)), (inBi 1205 (by decide +kernel)), (inBi 94 (by decide +kernel)), inB (List.mem_of_getElem? (i := 1206) rfl) rfl, by decide +kernel, by decide +kernel, by decide +kernel⟩
set_option maxRecDepth 20000 in
theorem cw_X12_lookers : Cond.code yX12_lookers cX12_lookers 9 (some .int) ∈ BIG := inB (List.mem_of_getElem? (i := 1894) rfl) rfl
theorem mv_L_212 : MV RL 212 yX12_lookers cX12_lookers 9 (some .int) 3 := ⟨inBi 1891 (by decide +kernel), inBi 1892 (by decide +kernel), inBi 1893 (by decide +kernel), inBi 107 (by decide +kernel), cw_X12_lookers, by decide +kernel, by decide +kernel, by decide +kernel⟩
set_option maxRecDepth 20000 in
theorem mh_213 : MH RL 213 yL_light cL_light 6 [(0, 12, 15, 31), (0, 12, 19, 13)] 5 := ⟨(inBi 1217 (by decide +kernel)), (inBi 1218 (by decide +kernel)), (inBi 94 (by decide +kernel)), inB (List.mem_of_getElem? (i := 1219) rfl) rfl, by decide +kernel, by decide +kernel, by decide +kernel⟩
set_option maxRecDepth 20000 in
theorem cw_X12_light : Cond.code yX12_light cX12_light 5 (some .int) ∈ BIG := inB (List.mem_of_getElem? (i := 1901) rfl) rfl
theorem mv_L_215 : MV RL 215 yX12_light cX12_light 5 (some .int) 3 := ⟨inBi 1898 (by decide +kernel), inBi 1899 (by decide +kernel), inBi 1900 (by decide +kernel), inBi 107 (by decide +kernel), cw_X12_light, by decide +kernel, by decide +kernel, by decide +kernel⟩
set_option maxRecDepth 20000 in
theorem mh_216 : MH RL 216 yL_broadest cL_broadest 4 [(0, 9, 12, 13)] 3 := ⟨(inBi 1226 (by decide +kernel)), (inBi 1227 (by decide +kernel)), (inBi 94 (by decide +kernel)), inB (List.mem_of_getElem? (i := 1228) rfl) rfl, by decide +kernel, by decide +kernel, by decide +kernel⟩
set_option maxRecDepth 20000 in
theorem cw_X12_broadest : Cond.code yX12_broadest cX12_broadest 4 (some .int) ∈ BIG := inB (List.mem_of_getElem? (i := 1913) rfl) rfl
theorem mv_L_218 : MV RL 218 yX12_broadest cX12_broadest 4 (some .int) 1 := ⟨inBi 1910 (by decide +kernel), inBi 1911 (by decide +kernel), inBi 1912 (by decide +kernel), inBi 107 (by decide +kernel), cw_X12_broadest, by decide +kernel, by decide +kernel, by decide +kernel⟩
set_option maxRecDepth 20000 in
theorem mh_219 : MH RL 219 yL_strongest cL_strongest 5 [(0, 10, 13, 31), (0, 10, 17, 13)] 4 := ⟨(inBi 1233 (by decide +kernel)), (inBi 1234 (by decide +kernel)), (inBi 94 (by decide +kernel)), inB (List.mem_of_getElem? (i := 1235) rfl) rfl, by decide +kernel, by decide +kernel, by decide +kernel⟩
set_option maxRecDepth 20000 in
theorem cw_X12_strongest : Cond.code yX12_strongest cX12_strongest 5 (some .int) ∈ BIG := inB (List.mem_of_getElem? (i := 1917) rfl) rfl
theorem mv_L_221 : MV RL 221 yX12_strongest cX12_strongest 5 (some .int) 2 := ⟨inBi 1914 (by decide +kernel), inBi 1915 (by decide +kernel), inBi 1916 (by decide +kernel), inBi 107 (by decide +kernel), cw_X12_strongest, by decide +kernel, by decide +kernel, by decide +kernel⟩
set_option maxRecDepth 20000 in
theorem mh_222 : MH RL 222 yL_joins cL_joins 5 [(0, 10, 13, 31)] 4 := ⟨(inBi 1244 (by decide +kernel)), (inBi 1245 (by decide +kernel)), (inBi 94 (by decide +kernel)), inB (List.mem_of_getElem? (i := 1246) rfl) rfl, by decide +kernel, by decide +kernel, by decide +kernel⟩
set_option maxRecDepth 20000 in
theorem cw_X12_joins : Cond.code yX12_joins cX12_joins 3 (some .int) ∈ BIG := inB (List.mem_of_getElem? (i := 1921) rfl) rfl
theorem mv_L_224 : MV RL 224 yX12_joins cX12_joins 3 (some .int) 2 := ⟨inBi 1918 (by decide +kernel), inBi 1919 (by decide +kernel), inBi 1920 (by decide +kernel), inBi 107 (by decide +kernel), cw_X12_joins, by decide +kernel, by decide +kernel, by decide +kernel⟩
set_option maxRecDepth 20000 in
theorem mh_225 : MH RL 225 yL_blurs cL_blurs 4 [(0, 9, 12, 31)] 3 := ⟨(inBi 1252 (by decide +kernel)), (inBi 1253 (by decide +kernel)), (inBi 94 (by decide +kernel)), inB (List.mem_of_getElem? (i := 1254) rfl) rfl, by decide +kernel, by decide +kernel, by decide +kernel⟩
set_option maxRecDepth 20000 in
theorem cw_X12_blurs : Cond.code yX12_blurs cX12_blurs 4 (some .int) ∈ BIG := inB (List.mem_of_getElem? (i := 1925) rfl) rfl
theorem mv_L_227 : MV RL 227 yX12_blurs cX12_blurs 4 (some .int) 1 := ⟨inBi 1922 (by decide +kernel), inBi 1923 (by decide +kernel), inBi 1924 (by decide +kernel), inBi 107 (by decide +kernel), cw_X12_blurs, by decide +kernel, by decide +kernel, by decide +kernel⟩
set_option maxRecDepth 20000 in
theorem cw_X11_lit : Cond.code yX11_lit cX11_lit 3 (some .int) ∈ BIG := inB (List.mem_of_getElem? (i := 525) rfl) rfl
theorem mv_L_228 : MV RL 228 yX11_lit cX11_lit 3 (some .int) 0 := ⟨inBi 522 (by decide +kernel), inBi 523 (by decide +kernel), inBi 524 (by decide +kernel), inBi 95 (by decide +kernel), cw_X11_lit, by decide +kernel, by decide +kernel, by decide +kernel⟩
set_option maxRecDepth 20000 in
theorem cw_X12_lit : Cond.code yX12_lit cX12_lit 3 (some .int) ∈ BIG := inB (List.mem_of_getElem? (i := 1933) rfl) rfl
theorem mv_L_231 : MV RL 231 yX12_lit cX12_lit 3 (some .int) 0 := ⟨inBi 1930 (by decide +kernel), inBi 1931 (by decide +kernel), inBi 1932 (by decide +kernel), inBi 107 (by decide +kernel), cw_X12_lit, by decide +kernel, by decide +kernel, by decide +kernel⟩
set_option maxRecDepth 20000 in
theorem mh_232 : MH RL 232 yL_lacks cL_lacks 5 [(0, 10, 13, 31), (0, 10, 17, 13)] 4 := ⟨(inBi 1267 (by decide +kernel)), (inBi 1268 (by decide +kernel)), (inBi 94 (by decide +kernel)), inB (List.mem_of_getElem? (i := 1269) rfl) rfl, by decide +kernel, by decide +kernel, by decide +kernel⟩
set_option maxRecDepth 20000 in
theorem cw_X12_lacks : Cond.code yX12_lacks cX12_lacks 3 (some .int) ∈ BIG := inB (List.mem_of_getElem? (i := 1937) rfl) rfl
theorem mv_L_234 : MV RL 234 yX12_lacks cX12_lacks 3 (some .int) 2 := ⟨inBi 1934 (by decide +kernel), inBi 1935 (by decide +kernel), inBi 1936 (by decide +kernel), inBi 107 (by decide +kernel), cw_X12_lacks, by decide +kernel, by decide +kernel, by decide +kernel⟩
set_option maxRecDepth 20000 in
theorem mh_235 : MH RL 235 yL_mates cL_mates 4 [(0, 9, 12, 31)] 3 := ⟨(inBi 1274 (by decide +kernel)), (inBi 1275 (by decide +kernel)), (inBi 94 (by decide +kernel)), inB (List.mem_of_getElem? (i := 1276) rfl) rfl, by decide +kernel, by decide +kernel, by decide +kernel⟩
set_option maxRecDepth 20000 in
theorem cw_X12_mates : Cond.code yX12_mates cX12_mates 5 (some .int) ∈ BIG := inB (List.mem_of_getElem? (i := 1945) rfl) rfl
theorem mv_L_237 : MV RL 237 yX12_mates cX12_mates 5 (some .int) 1 := ⟨inBi 1942 (by decide +kernel), inBi 1943 (by decide +kernel), inBi 1944 (by decide +kernel), inBi 107 (by decide +kernel), cw_X12_mates, by decide +kernel, by decide +kernel, by decide +kernel⟩
set_option maxRecDepth 20000 in
theorem mh_238 : MH RL 238 yL_first cL_first 4 [(0, 9, 12, 31)] 3 := ⟨(inBi 1281 (by decide +kernel)), (inBi 1282 (by decide +kernel)), (inBi 94 (by decide +kernel)), inB (List.mem_of_getElem? (i := 1283) rfl) rfl, by decide +kernel, by decide +kernel, by decide +kernel⟩
set_option maxRecDepth 20000 in
theorem cw_X12_first : Cond.code yX12_first cX12_first 4 (some .int) ∈ BIG := inB (List.mem_of_getElem? (i := 1949) rfl) rfl
theorem mv_L_240 : MV RL 240 yX12_first cX12_first 4 (some .int) 1 := ⟨inBi 1946 (by decide +kernel), inBi 1947 (by decide +kernel), inBi 1948 (by decide +kernel), inBi 107 (by decide +kernel), cw_X12_first, by decide +kernel, by decide +kernel, by decide +kernel⟩
set_option maxRecDepth 20000 in
theorem mh_241 : MH RL 241 yL_halo cL_halo 5 [(0, 10, 13, 13)] 4 := ⟨(inBi 1288 (by decide +kernel)), (inBi 1289 (by decide +kernel)), (inBi 94 (by decide +kernel)), inB (List.mem_of_getElem? (i := 1290) rfl) rfl, by decide +kernel, by decide +kernel, by decide +kernel⟩
set_option maxRecDepth 20000 in
theorem cw_X12_halo : Cond.code yX12_halo cX12_halo 5 (some .int) ∈ BIG := inB (List.mem_of_getElem? (i := 1953) rfl) rfl
theorem mv_L_243 : MV RL 243 yX12_halo cX12_halo 5 (some .int) 2 := ⟨inBi 1950 (by decide +kernel), inBi 1951 (by decide +kernel), inBi 1952 (by decide +kernel), inBi 107 (by decide +kernel), cw_X12_halo, by decide +kernel, by decide +kernel, by decide +kernel⟩
set_option maxRecDepth 20000 in
theorem mh_244 : MH RL 244 yL_term cL_term 7 [(0, 14, 17, 13)] 6 := ⟨(inBi 1295 (by decide +kernel)), (inBi 1296 (by decide +kernel)), (inBi 94 (by decide +kernel)), inB (List.mem_of_getElem? (i := 1297) rfl) rfl, by decide +kernel, by decide +kernel, by decide +kernel⟩
set_option maxRecDepth 20000 in
theorem cw_X12_term : Cond.code yX12_term cX12_term 7 (some .int) ∈ BIG := inB (List.mem_of_getElem? (i := 1957) rfl) rfl
theorem mv_L_246 : MV RL 246 yX12_term cX12_term 7 (some .int) 4 := ⟨inBi 1954 (by decide +kernel), inBi 1955 (by decide +kernel), inBi 1956 (by decide +kernel), inBi 107 (by decide +kernel), cw_X12_term, by decide +kernel, by decide +kernel, by decide +kernel⟩
set_option maxRecDepth 20000 in
theorem mh_247 : MH RL 247 yL_span cL_span 9 [(0, 18, 21, 13)] 8 := ⟨(inBi 1327 (by decide +kernel)), (inBi 1328 (by decide +kernel)), (inBi 94 (by decide +kernel)), inB (List.mem_of_getElem? (i := 1329) rfl) rfl, by decide +kernel, by decide +kernel, by decide +kernel⟩
set_option maxRecDepth 20000 in
theorem cw_X12_span : Cond.code yX12_span cX12_span 12 (some .int) ∈ BIG := inB (List.mem_of_getElem? (i := 1973) rfl) rfl
theorem mv_L_250 : MV RL 250 yX12_span cX12_span 12 (some .int) 6 := ⟨inBi 1970 (by decide +kernel), inBi 1971 (by decide +kernel), inBi 1972 (by decide +kernel), inBi 107 (by decide +kernel), cw_X12_span, by decide +kernel, by decide +kernel, by decide +kernel⟩
set_option maxRecDepth 20000 in
theorem cw_X11_image : Cond.code yX11_image cX11_image 1 (some .int) ∈ BIG := inB (List.mem_of_getElem? (i := 536) rfl) rfl
theorem mv_L_251 : MV RL 251 yX11_image cX11_image 1 (some .int) 0 := ⟨inBi 533 (by decide +kernel), inBi 534 (by decide +kernel), inBi 535 (by decide +kernel), inBi 95 (by decide +kernel), cw_X11_image, by decide +kernel, by decide +kernel, by decide +kernel⟩
set_option maxRecDepth 20000 in
theorem cw_X12_image : Cond.code yX12_image cX12_image 1 (some .int) ∈ BIG := inB (List.mem_of_getElem? (i := 1977) rfl) rfl
theorem mv_L_254 : MV RL 254 yX12_image cX12_image 1 (some .int) 0 := ⟨inBi 1974 (by decide +kernel), inBi 1975 (by decide +kernel), inBi 1976 (by decide +kernel), inBi 107 (by decide +kernel), cw_X12_image, by decide +kernel, by decide +kernel, by decide +kernel⟩
set_option maxRecDepth 20000 in
theorem cw_X11_restore : Cond.code yX11_restore cX11_restore 1 (some .int) ∈ BIG := inB (List.mem_of_getElem? (i := 545) rfl) rfl
theorem mv_L_255 : MV RL 255 yX11_restore cX11_restore 1 (some .int) 0 := ⟨inBi 542 (by decide +kernel), inBi 543 (by decide +kernel), inBi 544 (by decide +kernel), inBi 95 (by decide +kernel), cw_X11_restore, by decide +kernel, by decide +kernel, by decide +kernel⟩
set_option maxRecDepth 20000 in
theorem cw_X12_restore : Cond.code yX12_restore cX12_restore 1 (some .int) ∈ BIG := inB (List.mem_of_getElem? (i := 1989) rfl) rfl
theorem mv_L_258 : MV RL 258 yX12_restore cX12_restore 1 (some .int) 0 := ⟨inBi 1986 (by decide +kernel), inBi 1987 (by decide +kernel), inBi 1988 (by decide +kernel), inBi 107 (by decide +kernel), cw_X12_restore, by decide +kernel, by decide +kernel, by decide +kernel⟩
set_option maxRecDepth 20000 in
theorem cw_X11_status : Cond.code yX11_status cX11_status 2 (some .int) ∈ BIG := inB (List.mem_of_getElem? (i := 549) rfl) rfl
theorem mv_L_259 : MV RL 259 yX11_status cX11_status 2 (some .int) 1 := ⟨inBi 546 (by decide +kernel), inBi 547 (by decide +kernel), inBi 548 (by decide +kernel), inBi 95 (by decide +kernel), cw_X11_status, by decide +kernel, by decide +kernel, by decide +kernel⟩
set_option maxRecDepth 20000 in
theorem cw_X12_status : Cond.code yX12_status cX12_status 2 (some .int) ∈ BIG := inB (List.mem_of_getElem? (i := 1993) rfl) rfl
theorem mv_L_262 : MV RL 262 yX12_status cX12_status 2 (some .int) 1 := ⟨inBi 1990 (by decide +kernel), inBi 1991 (by decide +kernel), inBi 1992 (by decide +kernel), inBi 107 (by decide +kernel), cw_X12_status, by decide +kernel, by decide +kernel, by decide +kernel⟩
set_option maxRecDepth 20000 in
theorem cw_X11_count : Cond.code yX11_count cX11_count 2 (some .int) ∈ BIG := inB (List.mem_of_getElem? (i := 553) rfl) rfl
theorem mv_L_263 : MV RL 263 yX11_count cX11_count 2 (some .int) 1 := ⟨inBi 550 (by decide +kernel), inBi 551 (by decide +kernel), inBi 552 (by decide +kernel), inBi 95 (by decide +kernel), cw_X11_count, by decide +kernel, by decide +kernel, by decide +kernel⟩
set_option maxRecDepth 20000 in
theorem cw_X12_count : Cond.code yX12_count cX12_count 2 (some .int) ∈ BIG := inB (List.mem_of_getElem? (i := 1997) rfl) rfl
theorem mv_L_266 : MV RL 266 yX12_count cX12_count 2 (some .int) 1 := ⟨inBi 1994 (by decide +kernel), inBi 1995 (by decide +kernel), inBi 1996 (by decide +kernel), inBi 107 (by decide +kernel), cw_X12_count, by decide +kernel, by decide +kernel, by decide +kernel⟩
def fLc_0 (sh : Shp) (L : Nat) (xs : Nat → Int32) (x1 x2 x3 : Nat) (x4 : Int32) (mm : Mem) : Option (Mem ⊕ Int32) :=
  (scL L xs (x4 + 1)).bind fun v1 =>
  (scL L xs (x4 + 2)).bind fun v2 =>
  (scL L xs (x4 + 3)).bind fun v3 =>
  (scL L xs (x4 + 4)).bind fun v4 =>
  (scL L xs (x4 + 5)).bind fun v5 =>
  (isO sh 11 x1).bind fun _ =>
  bd2 (fX11_feed sh x1 v1 v2 v3 v4 v5 mm) fun v6 m7 =>
  (scL L xs (x4 + 1)).bind fun v8 =>
  (scL L xs (x4 + 2)).bind fun v9 =>
  (scL L xs (x4 + 3)).bind fun v10 =>
  (scL L xs (x4 + 4)).bind fun v11 =>
  (scL L xs (x4 + 5)).bind fun v12 =>
  (isO sh 12 x2).bind fun _ =>
  bd2 (fX12_feed sh x2 v8 v9 v10 v11 v12 m7) fun v13 m14 =>
  if v6 = v13 then (some (.inl m14))
  else (some (.inr 0))
def fLc_1 (sh : Shp) (L : Nat) (xs : Nat → Int32) (x1 x2 x3 : Nat) (x4 : Int32) (mm : Mem) : Option (Mem ⊕ Int32) :=
  (scL L xs (x4 + 1)).bind fun v1 =>
  bd2 (fL_college sh x1 v1 x3 mm) fun v2 m3 =>
  lt1 v2 fun x5_4 =>
  (scL L xs (x4 + 1)).bind fun v5 =>
  (isO sh 12 x2).bind fun _ =>
  bd2 (fX12_college sh x2 v5 m3) fun v6 m7 =>
  lt1 v6 fun x6_8 =>
  (isO sh 12 x2).bind fun _ =>
  (fX12_thrown sh x2 m7).bind fun v9 =>
  if v9 = x5_4 then (if x5_4 = 0 then ((lL sh m7 x3 0).bind fun v12 =>
  if (lg_cmp v12 ((x6_8).toInt64)) = 0 then (some (.inl m7))
  else (some (.inr 0)))
  else (some (.inl m7)))
  else (some (.inr 0))
def fLc_2 (sh : Shp) (L : Nat) (xs : Nat → Int32) (x1 x2 x3 : Nat) (x4 : Int32) (mm : Mem) : Option (Mem ⊕ Int32) :=
  (scL L xs (x4 + 1)).bind fun v1 =>
  bd2 (fL_law sh x1 v1 x3 mm) fun v2 m3 =>
  lt1 v2 fun x5_4 =>
  (scL L xs (x4 + 1)).bind fun v5 =>
  (isO sh 12 x2).bind fun _ =>
  bd2 (fX12_law sh x2 v5 m3) fun v6 m7 =>
  lt1 v6 fun x6_8 =>
  (isO sh 12 x2).bind fun _ =>
  (fX12_thrown sh x2 m7).bind fun v9 =>
  if v9 = x5_4 then (if x5_4 = 0 then ((lL sh m7 x3 0).bind fun v12 =>
  if (lg_cmp v12 ((x6_8).toInt64)) = 0 then (some (.inl m7))
  else (some (.inr 0)))
  else (some (.inl m7)))
  else (some (.inr 0))
def fLc_3 (sh : Shp) (L : Nat) (xs : Nat → Int32) (x1 x2 x3 : Nat) (x4 : Int32) (mm : Mem) : Option (Mem ⊕ Int32) :=
  (scL L xs (x4 + 1)).bind fun v1 =>
  bd2 (fL_work sh x1 v1 x3 mm) fun v2 m3 =>
  lt1 v2 fun x5_4 =>
  (scL L xs (x4 + 1)).bind fun v5 =>
  (isO sh 12 x2).bind fun _ =>
  bd2 (fX12_work sh x2 v5 m3) fun v6 m7 =>
  lt1 v6 fun x6_8 =>
  (isO sh 12 x2).bind fun _ =>
  (fX12_thrown sh x2 m7).bind fun v9 =>
  if v9 = x5_4 then (if x5_4 = 0 then ((lL sh m7 x3 0).bind fun v12 =>
  if (lg_cmp v12 ((x6_8).toInt64)) = 0 then (some (.inl m7))
  else (some (.inr 0)))
  else (some (.inl m7)))
  else (some (.inr 0))
def fLc_4 (sh : Shp) (L : Nat) (xs : Nat → Int32) (x1 x2 x3 : Nat) (x4 : Int32) (mm : Mem) : Option (Mem ⊕ Int32) :=
  (scL L xs (x4 + 1)).bind fun v1 =>
  bd2 (fL_book sh x1 v1 x3 mm) fun v2 m3 =>
  lt1 v2 fun x5_4 =>
  (scL L xs (x4 + 1)).bind fun v5 =>
  (isO sh 12 x2).bind fun _ =>
  bd2 (fX12_book sh x2 v5 m3) fun v6 m7 =>
  lt1 v6 fun x6_8 =>
  (isO sh 12 x2).bind fun _ =>
  (fX12_thrown sh x2 m7).bind fun v9 =>
  if v9 = x5_4 then (if x5_4 = 0 then ((lL sh m7 x3 0).bind fun v12 =>
  if (lg_cmp v12 ((x6_8).toInt64)) = 0 then (some (.inl m7))
  else (some (.inr 0)))
  else (some (.inl m7)))
  else (some (.inr 0))
def fLc_5 (sh : Shp) (L : Nat) (xs : Nat → Int32) (x1 x2 x3 : Nat) (x4 : Int32) (mm : Mem) : Option (Mem ⊕ Int32) :=
  (isO sh 11 x1).bind fun _ =>
  (fX11_fault sh x1 mm).bind fun v1 =>
  (isO sh 12 x2).bind fun _ =>
  bd2 (fX12_fault sh x2 mm) fun v2 m3 =>
  if v1 = v2 then (some (.inl m3))
  else (some (.inr 0))
def fLc_6 (sh : Shp) (L : Nat) (xs : Nat → Int32) (x1 x2 x3 : Nat) (x4 : Int32) (mm : Mem) : Option (Mem ⊕ Int32) :=
  (isO sh 11 x1).bind fun _ =>
  bd2 (fX11_undo sh x1 mm) fun v1 m2 =>
  (isO sh 12 x2).bind fun _ =>
  bd2 (fX12_undo sh x2 m2) fun v3 m4 =>
  if v1 = v3 then (some (.inl m4))
  else (some (.inr 0))
def fLc_7 (sh : Shp) (L : Nat) (xs : Nat → Int32) (x1 x2 x3 : Nat) (x4 : Int32) (mm : Mem) : Option (Mem ⊕ Int32) :=
  (scL L xs (x4 + 1)).bind fun v1 =>
  bd2 (fL_told sh x1 v1 x3 mm) fun v2 m3 =>
  lt1 v2 fun x5_4 =>
  (scL L xs (x4 + 1)).bind fun v5 =>
  (isO sh 12 x2).bind fun _ =>
  bd2 (fX12_told sh x2 v5 m3) fun v6 m7 =>
  lt1 v6 fun x6_8 =>
  (isO sh 12 x2).bind fun _ =>
  (fX12_thrown sh x2 m7).bind fun v9 =>
  if v9 = x5_4 then (if x5_4 = 0 then ((lL sh m7 x3 0).bind fun v12 =>
  if (lg_cmp v12 ((x6_8).toInt64)) = 0 then (some (.inl m7))
  else (some (.inr 0)))
  else (some (.inl m7)))
  else (some (.inr 0))
def fLc_8 (sh : Shp) (L : Nat) (xs : Nat → Int32) (x1 x2 x3 : Nat) (x4 : Int32) (mm : Mem) : Option (Mem ⊕ Int32) :=
  (scL L xs (x4 + 1)).bind fun v1 =>
  (scL L xs (x4 + 2)).bind fun v2 =>
  bd2 (fL_fellow sh x1 v1 v2 x3 mm) fun v3 m4 =>
  lt1 v3 fun x5_5 =>
  (scL L xs (x4 + 1)).bind fun v6 =>
  (scL L xs (x4 + 2)).bind fun v7 =>
  (isO sh 12 x2).bind fun _ =>
  bd2 (fX12_fellow sh x2 v6 v7 m4) fun v8 m9 =>
  lt1 v8 fun x6_10 =>
  (isO sh 12 x2).bind fun _ =>
  (fX12_thrown sh x2 m9).bind fun v11 =>
  if v11 = x5_5 then (if x5_5 = 0 then ((lL sh m9 x3 0).bind fun v14 =>
  if (lg_cmp v14 ((x6_10).toInt64)) = 0 then (some (.inl m9))
  else (some (.inr 0)))
  else (some (.inl m9)))
  else (some (.inr 0))
def fLc_9 (sh : Shp) (L : Nat) (xs : Nat → Int32) (x1 x2 x3 : Nat) (x4 : Int32) (mm : Mem) : Option (Mem ⊕ Int32) :=
  (scL L xs (x4 + 1)).bind fun v1 =>
  (scL L xs (x4 + 2)).bind fun v2 =>
  (scL L xs (x4 + 3)).bind fun v3 =>
  bd2 (fL_part sh x1 v1 v2 v3 x3 mm) fun v4 m5 =>
  lt1 v4 fun x5_6 =>
  (scL L xs (x4 + 1)).bind fun v7 =>
  (scL L xs (x4 + 2)).bind fun v8 =>
  (scL L xs (x4 + 3)).bind fun v9 =>
  (isO sh 12 x2).bind fun _ =>
  bd2 (fX12_part sh x2 v7 v8 v9 m5) fun v10 m11 =>
  lt1 v10 fun x6_12 =>
  (isO sh 12 x2).bind fun _ =>
  (fX12_thrown sh x2 m11).bind fun v13 =>
  if v13 = x5_6 then (if x5_6 = 0 then ((lL sh m11 x3 0).bind fun v16 =>
  if (lg_cmp v16 ((x6_12).toInt64)) = 0 then (some (.inl m11))
  else (some (.inr 0)))
  else (some (.inl m11)))
  else (some (.inr 0))
def fLc_10 (sh : Shp) (L : Nat) (xs : Nat → Int32) (x1 x2 x3 : Nat) (x4 : Int32) (mm : Mem) : Option (Mem ⊕ Int32) :=
  (scL L xs (x4 + 1)).bind fun v1 =>
  (scL L xs (x4 + 2)).bind fun v2 =>
  bd2 (fL_glass sh x1 v1 v2 x3 mm) fun v3 m4 =>
  lt1 v3 fun x5_5 =>
  (scL L xs (x4 + 1)).bind fun v6 =>
  (scL L xs (x4 + 2)).bind fun v7 =>
  (isO sh 12 x2).bind fun _ =>
  bd2 (fX12_glass sh x2 v6 v7 m4) fun v8 m9 =>
  lt1 v8 fun x6_10 =>
  (isO sh 12 x2).bind fun _ =>
  (fX12_thrown sh x2 m9).bind fun v11 =>
  if v11 = x5_5 then (if x5_5 = 0 then ((lL sh m9 x3 0).bind fun v14 =>
  if (lg_cmp v14 ((x6_10).toInt64)) = 0 then (some (.inl m9))
  else (some (.inr 0)))
  else (some (.inl m9)))
  else (some (.inr 0))
def fLc_11 (sh : Shp) (L : Nat) (xs : Nat → Int32) (x1 x2 x3 : Nat) (x4 : Int32) (mm : Mem) : Option (Mem ⊕ Int32) :=
  (scL L xs (x4 + 1)).bind fun v1 =>
  bd2 (fL_place sh x1 v1 x3 mm) fun v2 m3 =>
  lt1 v2 fun x5_4 =>
  (scL L xs (x4 + 1)).bind fun v5 =>
  (isO sh 12 x2).bind fun _ =>
  bd2 (fX12_place sh x2 v5 m3) fun v6 m7 =>
  lt1 v6 fun x6_8 =>
  (isO sh 12 x2).bind fun _ =>
  (fX12_thrown sh x2 m7).bind fun v9 =>
  if v9 = x5_4 then (if x5_4 = 0 then ((lL sh m7 x3 0).bind fun v12 =>
  if (lg_cmp v12 ((x6_8).toInt64)) = 0 then (some (.inl m7))
  else (some (.inr 0)))
  else (some (.inl m7)))
  else (some (.inr 0))
def fLc_12 (sh : Shp) (L : Nat) (xs : Nat → Int32) (x1 x2 x3 : Nat) (x4 : Int32) (mm : Mem) : Option (Mem ⊕ Int32) :=
  (scL L xs (x4 + 1)).bind fun v1 =>
  (scL L xs (x4 + 2)).bind fun v2 =>
  (scL L xs (x4 + 3)).bind fun v3 =>
  bd2 (fL_turn sh x1 v1 v2 v3 x3 mm) fun v4 m5 =>
  lt1 v4 fun x5_6 =>
  (scL L xs (x4 + 1)).bind fun v7 =>
  (scL L xs (x4 + 2)).bind fun v8 =>
  (scL L xs (x4 + 3)).bind fun v9 =>
  (isO sh 12 x2).bind fun _ =>
  bd2 (fX12_turn sh x2 v7 v8 v9 m5) fun v10 m11 =>
  lt1 v10 fun x6_12 =>
  (isO sh 12 x2).bind fun _ =>
  (fX12_thrown sh x2 m11).bind fun v13 =>
  if v13 = x5_6 then (if x5_6 = 0 then ((lL sh m11 x3 0).bind fun v16 =>
  if (lg_cmp v16 ((x6_12).toInt64)) = 0 then (some (.inl m11))
  else (some (.inr 0)))
  else (some (.inl m11)))
  else (some (.inr 0))
def fLc_13 (sh : Shp) (L : Nat) (xs : Nat → Int32) (x1 x2 x3 : Nat) (x4 : Int32) (mm : Mem) : Option (Mem ⊕ Int32) :=
  (scL L xs (x4 + 1)).bind fun v1 =>
  (scL L xs (x4 + 2)).bind fun v2 =>
  (scL L xs (x4 + 3)).bind fun v3 =>
  (scL L xs (x4 + 4)).bind fun v4 =>
  (scL L xs (x4 + 5)).bind fun v5 =>
  (scL L xs (x4 + 6)).bind fun v6 =>
  (scL L xs (x4 + 7)).bind fun v7 =>
  (scL L xs (x4 + 8)).bind fun v8 =>
  bd2 (fL_would sh x1 v1 v2 v3 v4 v5 v6 v7 v8 x3 mm) fun v9 m10 =>
  lt1 v9 fun x5_11 =>
  (scL L xs (x4 + 1)).bind fun v12 =>
  (scL L xs (x4 + 2)).bind fun v13 =>
  (scL L xs (x4 + 3)).bind fun v14 =>
  (scL L xs (x4 + 4)).bind fun v15 =>
  (scL L xs (x4 + 5)).bind fun v16 =>
  (scL L xs (x4 + 6)).bind fun v17 =>
  (scL L xs (x4 + 7)).bind fun v18 =>
  (scL L xs (x4 + 8)).bind fun v19 =>
  (isO sh 12 x2).bind fun _ =>
  bd2 (fX12_would sh x2 v12 v13 v14 v15 v16 v17 v18 v19 m10) fun v20 m21 =>
  lt1 v20 fun x6_22 =>
  (isO sh 12 x2).bind fun _ =>
  (fX12_thrown sh x2 m21).bind fun v23 =>
  if v23 = x5_11 then (if x5_11 = 0 then ((lL sh m21 x3 0).bind fun v26 =>
  if (lg_cmp v26 ((x6_22).toInt64)) = 0 then (some (.inl m21))
  else (some (.inr 0)))
  else (some (.inl m21)))
  else (some (.inr 0))
def fLc_14 (sh : Shp) (L : Nat) (xs : Nat → Int32) (x1 x2 x3 : Nat) (x4 : Int32) (mm : Mem) : Option (Mem ⊕ Int32) :=
  (scL L xs (x4 + 1)).bind fun v1 =>
  (scL L xs (x4 + 2)).bind fun v2 =>
  bd2 (fL_ahead sh x1 v1 v2 x3 mm) fun v3 m4 =>
  lt1 v3 fun x5_5 =>
  (scL L xs (x4 + 1)).bind fun v6 =>
  (scL L xs (x4 + 2)).bind fun v7 =>
  (isO sh 12 x2).bind fun _ =>
  bd2 (fX12_ahead sh x2 v6 v7 m4) fun v8 m9 =>
  lt1 v8 fun x6_10 =>
  (isO sh 12 x2).bind fun _ =>
  (fX12_thrown sh x2 m9).bind fun v11 =>
  if v11 = x5_5 then (if x5_5 = 0 then ((lL sh m9 x3 0).bind fun v14 =>
  if (lg_cmp v14 ((x6_10).toInt64)) = 0 then (some (.inl m9))
  else (some (.inr 0)))
  else (some (.inl m9)))
  else (some (.inr 0))
def fLc_15 (sh : Shp) (L : Nat) (xs : Nat → Int32) (x1 x2 x3 : Nat) (x4 : Int32) (mm : Mem) : Option (Mem ⊕ Int32) :=
  (scL L xs (x4 + 1)).bind fun v1 =>
  bd2 (fL_spread sh x1 v1 x3 mm) fun v2 m3 =>
  lt1 v2 fun x5_4 =>
  (scL L xs (x4 + 1)).bind fun v5 =>
  (isO sh 12 x2).bind fun _ =>
  bd2 (fX12_spread sh x2 v5 m3) fun v6 m7 =>
  lt1 v6 fun x6_8 =>
  (isO sh 12 x2).bind fun _ =>
  (fX12_thrown sh x2 m7).bind fun v9 =>
  if v9 = x5_4 then (if x5_4 = 0 then ((lL sh m7 x3 0).bind fun v12 =>
  if (lg_cmp v12 ((x6_8).toInt64)) = 0 then (some (.inl m7))
  else (some (.inr 0)))
  else (some (.inl m7)))
  else (some (.inr 0))
def fLc_16 (sh : Shp) (L : Nat) (xs : Nat → Int32) (x1 x2 x3 : Nat) (x4 : Int32) (mm : Mem) : Option (Mem ⊕ Int32) :=
  (scL L xs (x4 + 1)).bind fun v1 =>
  bd2 (fL_bow sh x1 v1 x3 mm) fun v2 m3 =>
  lt1 v2 fun x5_4 =>
  (scL L xs (x4 + 1)).bind fun v5 =>
  (isO sh 12 x2).bind fun _ =>
  bd2 (fX12_bow sh x2 v5 m3) fun v6 m7 =>
  lt1 v6 fun x6_8 =>
  (isO sh 12 x2).bind fun _ =>
  (fX12_thrown sh x2 m7).bind fun v9 =>
  if v9 = x5_4 then (if x5_4 = 0 then ((lL sh m7 x3 0).bind fun v12 =>
  if (lg_cmp v12 ((x6_8).toInt64)) = 0 then (some (.inl m7))
  else (some (.inr 0)))
  else (some (.inl m7)))
  else (some (.inr 0))
def fLc_17 (sh : Shp) (L : Nat) (xs : Nat → Int32) (x1 x2 x3 : Nat) (x4 : Int32) (mm : Mem) : Option (Mem ⊕ Int32) :=
  (scL L xs (x4 + 1)).bind fun v1 =>
  (scL L xs (x4 + 2)).bind fun v2 =>
  (scL L xs (x4 + 3)).bind fun v3 =>
  bd2 (fL_through sh x1 v1 v2 v3 x3 mm) fun v4 m5 =>
  lt1 v4 fun x5_6 =>
  (scL L xs (x4 + 1)).bind fun v7 =>
  (scL L xs (x4 + 2)).bind fun v8 =>
  (scL L xs (x4 + 3)).bind fun v9 =>
  (isO sh 12 x2).bind fun _ =>
  bd2 (fX12_through sh x2 v7 v8 v9 m5) fun v10 m11 =>
  lt1 v10 fun x6_12 =>
  (isO sh 12 x2).bind fun _ =>
  (fX12_thrown sh x2 m11).bind fun v13 =>
  if v13 = x5_6 then (if x5_6 = 0 then ((lL sh m11 x3 0).bind fun v16 =>
  if (lg_cmp v16 ((x6_12).toInt64)) = 0 then (some (.inl m11))
  else (some (.inr 0)))
  else (some (.inl m11)))
  else (some (.inr 0))
def fLc_18 (sh : Shp) (L : Nat) (xs : Nat → Int32) (x1 x2 x3 : Nat) (x4 : Int32) (mm : Mem) : Option (Mem ⊕ Int32) :=
  (scL L xs (x4 + 1)).bind fun v1 =>
  (scL L xs (x4 + 2)).bind fun v2 =>
  bd2 (fL_serves sh x1 v1 v2 x3 mm) fun v3 m4 =>
  lt1 v3 fun x5_5 =>
  (scL L xs (x4 + 1)).bind fun v6 =>
  (scL L xs (x4 + 2)).bind fun v7 =>
  (isO sh 12 x2).bind fun _ =>
  bd2 (fX12_serves sh x2 v6 v7 m4) fun v8 m9 =>
  lt1 v8 fun x6_10 =>
  (isO sh 12 x2).bind fun _ =>
  (fX12_thrown sh x2 m9).bind fun v11 =>
  if v11 = x5_5 then (if x5_5 = 0 then ((lL sh m9 x3 0).bind fun v14 =>
  if (lg_cmp v14 ((x6_10).toInt64)) = 0 then (some (.inl m9))
  else (some (.inr 0)))
  else (some (.inl m9)))
  else (some (.inr 0))
def fLc_19 (sh : Shp) (L : Nat) (xs : Nat → Int32) (x1 x2 x3 : Nat) (x4 : Int32) (mm : Mem) : Option (Mem ⊕ Int32) :=
  (scL L xs (x4 + 1)).bind fun v1 =>
  bd2 (fL_fits sh x1 v1 x3 mm) fun v2 m3 =>
  lt1 v2 fun x5_4 =>
  (scL L xs (x4 + 1)).bind fun v5 =>
  (isO sh 12 x2).bind fun _ =>
  bd2 (fX12_fits sh x2 v5 m3) fun v6 m7 =>
  lt1 v6 fun x6_8 =>
  (isO sh 12 x2).bind fun _ =>
  (fX12_thrown sh x2 m7).bind fun v9 =>
  if v9 = x5_4 then (if x5_4 = 0 then ((lL sh m7 x3 0).bind fun v12 =>
  if (lg_cmp v12 ((x6_8).toInt64)) = 0 then (some (.inl m7))
  else (some (.inr 0)))
  else (some (.inl m7)))
  else (some (.inr 0))
def fLc_20 (sh : Shp) (L : Nat) (xs : Nat → Int32) (x1 x2 x3 : Nat) (x4 : Int32) (mm : Mem) : Option (Mem ⊕ Int32) :=
  (scL L xs (x4 + 1)).bind fun v1 =>
  bd2 (fL_look sh x1 v1 x3 mm) fun v2 m3 =>
  lt1 v2 fun x5_4 =>
  (scL L xs (x4 + 1)).bind fun v5 =>
  (isO sh 12 x2).bind fun _ =>
  bd2 (fX12_look sh x2 v5 m3) fun v6 m7 =>
  lt1 v6 fun x6_8 =>
  (isO sh 12 x2).bind fun _ =>
  (fX12_thrown sh x2 m7).bind fun v9 =>
  if v9 = x5_4 then (if x5_4 = 0 then ((lL sh m7 x3 0).bind fun v12 =>
  if (lg_cmp v12 ((x6_8).toInt64)) = 0 then (some (.inl m7))
  else (some (.inr 0)))
  else (some (.inl m7)))
  else (some (.inr 0))
def fLc_21 (sh : Shp) (L : Nat) (xs : Nat → Int32) (x1 x2 x3 : Nat) (x4 : Int32) (mm : Mem) : Option (Mem ⊕ Int32) :=
  (scL L xs (x4 + 1)).bind fun v1 =>
  (scL L xs (x4 + 2)).bind fun v2 =>
  (scL L xs (x4 + 3)).bind fun v3 =>
  bd2 (fL_swings sh x1 v1 v2 v3 x3 mm) fun v4 m5 =>
  lt1 v4 fun x5_6 =>
  (scL L xs (x4 + 1)).bind fun v7 =>
  (scL L xs (x4 + 2)).bind fun v8 =>
  (scL L xs (x4 + 3)).bind fun v9 =>
  (isO sh 12 x2).bind fun _ =>
  bd2 (fX12_swings sh x2 v7 v8 v9 m5) fun v10 m11 =>
  lt1 v10 fun x6_12 =>
  (isO sh 12 x2).bind fun _ =>
  (fX12_thrown sh x2 m11).bind fun v13 =>
  if v13 = x5_6 then (if x5_6 = 0 then ((lL sh m11 x3 0).bind fun v16 =>
  if (lg_cmp v16 ((x6_12).toInt64)) = 0 then (some (.inl m11))
  else (some (.inr 0)))
  else (some (.inl m11)))
  else (some (.inr 0))
def fLc_22 (sh : Shp) (L : Nat) (xs : Nat → Int32) (x1 x2 x3 : Nat) (x4 : Int32) (mm : Mem) : Option (Mem ⊕ Int32) :=
  (scL L xs (x4 + 1)).bind fun v1 =>
  (scL L xs (x4 + 2)).bind fun v2 =>
  (scL L xs (x4 + 3)).bind fun v3 =>
  (scL L xs (x4 + 4)).bind fun v4 =>
  bd2 (fL_power sh x1 v1 v2 v3 v4 x3 mm) fun v5 m6 =>
  lt1 v5 fun x5_7 =>
  (scL L xs (x4 + 1)).bind fun v8 =>
  (scL L xs (x4 + 2)).bind fun v9 =>
  (scL L xs (x4 + 3)).bind fun v10 =>
  (scL L xs (x4 + 4)).bind fun v11 =>
  (isO sh 12 x2).bind fun _ =>
  bd2 (fX12_power sh x2 v8 v9 v10 v11 m6) fun v12 m13 =>
  lt1 v12 fun x6_14 =>
  (isO sh 12 x2).bind fun _ =>
  (fX12_thrown sh x2 m13).bind fun v15 =>
  if v15 = x5_7 then (if x5_7 = 0 then ((lL sh m13 x3 0).bind fun v18 =>
  if (lg_cmp v18 ((x6_14).toInt64)) = 0 then (some (.inl m13))
  else (some (.inr 0)))
  else (some (.inl m13)))
  else (some (.inr 0))
def fLc_23 (sh : Shp) (L : Nat) (xs : Nat → Int32) (x1 x2 x3 : Nat) (x4 : Int32) (mm : Mem) : Option (Mem ⊕ Int32) :=
  (scL L xs (x4 + 1)).bind fun v1 =>
  (scL L xs (x4 + 2)).bind fun v2 =>
  (scL L xs (x4 + 3)).bind fun v3 =>
  bd2 (fL_green sh x1 v1 v2 v3 x3 mm) fun v4 m5 =>
  lt1 v4 fun x5_6 =>
  (scL L xs (x4 + 1)).bind fun v7 =>
  (scL L xs (x4 + 2)).bind fun v8 =>
  (scL L xs (x4 + 3)).bind fun v9 =>
  (isO sh 12 x2).bind fun _ =>
  bd2 (fX12_green sh x2 v7 v8 v9 m5) fun v10 m11 =>
  lt1 v10 fun x6_12 =>
  (isO sh 12 x2).bind fun _ =>
  (fX12_thrown sh x2 m11).bind fun v13 =>
  if v13 = x5_6 then (if x5_6 = 0 then ((lL sh m11 x3 0).bind fun v16 =>
  if (lg_cmp v16 x6_12) = 0 then (some (.inl m11))
  else (some (.inr 0)))
  else (some (.inl m11)))
  else (some (.inr 0))
def fLc_24 (sh : Shp) (L : Nat) (xs : Nat → Int32) (x1 x2 x3 : Nat) (x4 : Int32) (mm : Mem) : Option (Mem ⊕ Int32) :=
  (scL L xs (x4 + 1)).bind fun v1 =>
  (scL L xs (x4 + 2)).bind fun v2 =>
  (scL L xs (x4 + 3)).bind fun v3 =>
  bd2 (fL_lookers sh x1 v1 v2 v3 x3 mm) fun v4 m5 =>
  lt1 v4 fun x5_6 =>
  (scL L xs (x4 + 1)).bind fun v7 =>
  (scL L xs (x4 + 2)).bind fun v8 =>
  (scL L xs (x4 + 3)).bind fun v9 =>
  (isO sh 12 x2).bind fun _ =>
  bd2 (fX12_lookers sh x2 v7 v8 v9 m5) fun v10 m11 =>
  lt1 v10 fun x6_12 =>
  (isO sh 12 x2).bind fun _ =>
  (fX12_thrown sh x2 m11).bind fun v13 =>
  if v13 = x5_6 then (if x5_6 = 0 then ((lL sh m11 x3 0).bind fun v16 =>
  if (lg_cmp v16 ((x6_12).toInt64)) = 0 then (some (.inl m11))
  else (some (.inr 0)))
  else (some (.inl m11)))
  else (some (.inr 0))
def fLc_25 (sh : Shp) (L : Nat) (xs : Nat → Int32) (x1 x2 x3 : Nat) (x4 : Int32) (mm : Mem) : Option (Mem ⊕ Int32) :=
  (scL L xs (x4 + 1)).bind fun v1 =>
  (scL L xs (x4 + 2)).bind fun v2 =>
  (scL L xs (x4 + 3)).bind fun v3 =>
  bd2 (fL_light sh x1 v1 v2 v3 x3 mm) fun v4 m5 =>
  lt1 v4 fun x5_6 =>
  (scL L xs (x4 + 1)).bind fun v7 =>
  (scL L xs (x4 + 2)).bind fun v8 =>
  (scL L xs (x4 + 3)).bind fun v9 =>
  (isO sh 12 x2).bind fun _ =>
  bd2 (fX12_light sh x2 v7 v8 v9 m5) fun v10 m11 =>
  lt1 v10 fun x6_12 =>
  (isO sh 12 x2).bind fun _ =>
  (fX12_thrown sh x2 m11).bind fun v13 =>
  if v13 = x5_6 then (if x5_6 = 0 then ((lL sh m11 x3 0).bind fun v16 =>
  if (lg_cmp v16 ((x6_12).toInt64)) = 0 then (some (.inl m11))
  else (some (.inr 0)))
  else (some (.inl m11)))
  else (some (.inr 0))
def fLc_26 (sh : Shp) (L : Nat) (xs : Nat → Int32) (x1 x2 x3 : Nat) (x4 : Int32) (mm : Mem) : Option (Mem ⊕ Int32) :=
  (scL L xs (x4 + 1)).bind fun v1 =>
  bd2 (fL_broadest sh x1 v1 x3 mm) fun v2 m3 =>
  lt1 v2 fun x5_4 =>
  (scL L xs (x4 + 1)).bind fun v5 =>
  (isO sh 12 x2).bind fun _ =>
  bd2 (fX12_broadest sh x2 v5 m3) fun v6 m7 =>
  lt1 v6 fun x6_8 =>
  (isO sh 12 x2).bind fun _ =>
  (fX12_thrown sh x2 m7).bind fun v9 =>
  if v9 = x5_4 then (if x5_4 = 0 then ((lL sh m7 x3 0).bind fun v12 =>
  if (lg_cmp v12 ((x6_8).toInt64)) = 0 then (some (.inl m7))
  else (some (.inr 0)))
  else (some (.inl m7)))
  else (some (.inr 0))
def fLc_27 (sh : Shp) (L : Nat) (xs : Nat → Int32) (x1 x2 x3 : Nat) (x4 : Int32) (mm : Mem) : Option (Mem ⊕ Int32) :=
  (scL L xs (x4 + 1)).bind fun v1 =>
  (scL L xs (x4 + 2)).bind fun v2 =>
  bd2 (fL_strongest sh x1 v1 v2 x3 mm) fun v3 m4 =>
  lt1 v3 fun x5_5 =>
  (scL L xs (x4 + 1)).bind fun v6 =>
  (scL L xs (x4 + 2)).bind fun v7 =>
  (isO sh 12 x2).bind fun _ =>
  bd2 (fX12_strongest sh x2 v6 v7 m4) fun v8 m9 =>
  lt1 v8 fun x6_10 =>
  (isO sh 12 x2).bind fun _ =>
  (fX12_thrown sh x2 m9).bind fun v11 =>
  if v11 = x5_5 then (if x5_5 = 0 then ((lL sh m9 x3 0).bind fun v14 =>
  if (lg_cmp v14 ((x6_10).toInt64)) = 0 then (some (.inl m9))
  else (some (.inr 0)))
  else (some (.inl m9)))
  else (some (.inr 0))
def fLc_28 (sh : Shp) (L : Nat) (xs : Nat → Int32) (x1 x2 x3 : Nat) (x4 : Int32) (mm : Mem) : Option (Mem ⊕ Int32) :=
  (scL L xs (x4 + 1)).bind fun v1 =>
  (scL L xs (x4 + 2)).bind fun v2 =>
  bd2 (fL_joins sh x1 v1 v2 x3 mm) fun v3 m4 =>
  lt1 v3 fun x5_5 =>
  (scL L xs (x4 + 1)).bind fun v6 =>
  (scL L xs (x4 + 2)).bind fun v7 =>
  (isO sh 12 x2).bind fun _ =>
  bd2 (fX12_joins sh x2 v6 v7 m4) fun v8 m9 =>
  lt1 v8 fun x6_10 =>
  (isO sh 12 x2).bind fun _ =>
  (fX12_thrown sh x2 m9).bind fun v11 =>
  if v11 = x5_5 then (if x5_5 = 0 then ((lL sh m9 x3 0).bind fun v14 =>
  if (lg_cmp v14 ((x6_10).toInt64)) = 0 then (some (.inl m9))
  else (some (.inr 0)))
  else (some (.inl m9)))
  else (some (.inr 0))
def fLc_29 (sh : Shp) (L : Nat) (xs : Nat → Int32) (x1 x2 x3 : Nat) (x4 : Int32) (mm : Mem) : Option (Mem ⊕ Int32) :=
  (scL L xs (x4 + 1)).bind fun v1 =>
  bd2 (fL_blurs sh x1 v1 x3 mm) fun v2 m3 =>
  lt1 v2 fun x5_4 =>
  (scL L xs (x4 + 1)).bind fun v5 =>
  (isO sh 12 x2).bind fun _ =>
  bd2 (fX12_blurs sh x2 v5 m3) fun v6 m7 =>
  lt1 v6 fun x6_8 =>
  (isO sh 12 x2).bind fun _ =>
  (fX12_thrown sh x2 m7).bind fun v9 =>
  if v9 = x5_4 then (if x5_4 = 0 then ((lL sh m7 x3 0).bind fun v12 =>
  if (lg_cmp v12 ((x6_8).toInt64)) = 0 then (some (.inl m7))
  else (some (.inr 0)))
  else (some (.inl m7)))
  else (some (.inr 0))
def fLc_30 (sh : Shp) (L : Nat) (xs : Nat → Int32) (x1 x2 x3 : Nat) (x4 : Int32) (mm : Mem) : Option (Mem ⊕ Int32) :=
  (isO sh 11 x1).bind fun _ =>
  (fX11_lit sh x1 mm).bind fun v1 =>
  (isO sh 12 x2).bind fun _ =>
  bd2 (fX12_lit sh x2 mm) fun v2 m3 =>
  if v1 = v2 then (some (.inl m3))
  else (some (.inr 0))
def fLc_31 (sh : Shp) (L : Nat) (xs : Nat → Int32) (x1 x2 x3 : Nat) (x4 : Int32) (mm : Mem) : Option (Mem ⊕ Int32) :=
  (scL L xs (x4 + 1)).bind fun v1 =>
  (scL L xs (x4 + 2)).bind fun v2 =>
  bd2 (fL_lacks sh x1 v1 v2 x3 mm) fun v3 m4 =>
  lt1 v3 fun x5_5 =>
  (scL L xs (x4 + 1)).bind fun v6 =>
  (scL L xs (x4 + 2)).bind fun v7 =>
  (isO sh 12 x2).bind fun _ =>
  bd2 (fX12_lacks sh x2 v6 v7 m4) fun v8 m9 =>
  lt1 v8 fun x6_10 =>
  (isO sh 12 x2).bind fun _ =>
  (fX12_thrown sh x2 m9).bind fun v11 =>
  if v11 = x5_5 then (if x5_5 = 0 then ((lL sh m9 x3 0).bind fun v14 =>
  if (lg_cmp v14 ((x6_10).toInt64)) = 0 then (some (.inl m9))
  else (some (.inr 0)))
  else (some (.inl m9)))
  else (some (.inr 0))
def fLc_32 (sh : Shp) (L : Nat) (xs : Nat → Int32) (x1 x2 x3 : Nat) (x4 : Int32) (mm : Mem) : Option (Mem ⊕ Int32) :=
  (scL L xs (x4 + 1)).bind fun v1 =>
  bd2 (fL_mates sh x1 v1 x3 mm) fun v2 m3 =>
  lt1 v2 fun x5_4 =>
  (scL L xs (x4 + 1)).bind fun v5 =>
  (isO sh 12 x2).bind fun _ =>
  bd2 (fX12_mates sh x2 v5 m3) fun v6 m7 =>
  lt1 v6 fun x6_8 =>
  (isO sh 12 x2).bind fun _ =>
  (fX12_thrown sh x2 m7).bind fun v9 =>
  if v9 = x5_4 then (if x5_4 = 0 then ((lL sh m7 x3 0).bind fun v12 =>
  if (lg_cmp v12 ((x6_8).toInt64)) = 0 then (some (.inl m7))
  else (some (.inr 0)))
  else (some (.inl m7)))
  else (some (.inr 0))
def fLc_33 (sh : Shp) (L : Nat) (xs : Nat → Int32) (x1 x2 x3 : Nat) (x4 : Int32) (mm : Mem) : Option (Mem ⊕ Int32) :=
  (scL L xs (x4 + 1)).bind fun v1 =>
  bd2 (fL_first sh x1 v1 x3 mm) fun v2 m3 =>
  lt1 v2 fun x5_4 =>
  (scL L xs (x4 + 1)).bind fun v5 =>
  (isO sh 12 x2).bind fun _ =>
  bd2 (fX12_first sh x2 v5 m3) fun v6 m7 =>
  lt1 v6 fun x6_8 =>
  (isO sh 12 x2).bind fun _ =>
  (fX12_thrown sh x2 m7).bind fun v9 =>
  if v9 = x5_4 then (if x5_4 = 0 then ((lL sh m7 x3 0).bind fun v12 =>
  if (lg_cmp v12 ((x6_8).toInt64)) = 0 then (some (.inl m7))
  else (some (.inr 0)))
  else (some (.inl m7)))
  else (some (.inr 0))
def fLc_34 (sh : Shp) (L : Nat) (xs : Nat → Int32) (x1 x2 x3 : Nat) (x4 : Int32) (mm : Mem) : Option (Mem ⊕ Int32) :=
  (scL L xs (x4 + 1)).bind fun v1 =>
  (scL L xs (x4 + 2)).bind fun v2 =>
  bd2 (fL_halo sh x1 v1 v2 x3 mm) fun v3 m4 =>
  lt1 v3 fun x5_5 =>
  (scL L xs (x4 + 1)).bind fun v6 =>
  (scL L xs (x4 + 2)).bind fun v7 =>
  (isO sh 12 x2).bind fun _ =>
  bd2 (fX12_halo sh x2 v6 v7 m4) fun v8 m9 =>
  lt1 v8 fun x6_10 =>
  (isO sh 12 x2).bind fun _ =>
  (fX12_thrown sh x2 m9).bind fun v11 =>
  if v11 = x5_5 then (if x5_5 = 0 then ((lL sh m9 x3 0).bind fun v14 =>
  if (lg_cmp v14 ((x6_10).toInt64)) = 0 then (some (.inl m9))
  else (some (.inr 0)))
  else (some (.inl m9)))
  else (some (.inr 0))
def fLc_35 (sh : Shp) (L : Nat) (xs : Nat → Int32) (x1 x2 x3 : Nat) (x4 : Int32) (mm : Mem) : Option (Mem ⊕ Int32) :=
  (scL L xs (x4 + 1)).bind fun v1 =>
  (scL L xs (x4 + 2)).bind fun v2 =>
  (scL L xs (x4 + 3)).bind fun v3 =>
  (scL L xs (x4 + 4)).bind fun v4 =>
  bd2 (fL_term sh x1 v1 v2 v3 v4 x3 mm) fun v5 m6 =>
  lt1 v5 fun x5_7 =>
  (scL L xs (x4 + 1)).bind fun v8 =>
  (scL L xs (x4 + 2)).bind fun v9 =>
  (scL L xs (x4 + 3)).bind fun v10 =>
  (scL L xs (x4 + 4)).bind fun v11 =>
  (isO sh 12 x2).bind fun _ =>
  bd2 (fX12_term sh x2 v8 v9 v10 v11 m6) fun v12 m13 =>
  lt1 v12 fun x6_14 =>
  (isO sh 12 x2).bind fun _ =>
  (fX12_thrown sh x2 m13).bind fun v15 =>
  if v15 = x5_7 then (if x5_7 = 0 then ((lL sh m13 x3 0).bind fun v18 =>
  if (lg_cmp v18 ((x6_14).toInt64)) = 0 then (some (.inl m13))
  else (some (.inr 0)))
  else (some (.inl m13)))
  else (some (.inr 0))
def fLc_36 (sh : Shp) (L : Nat) (xs : Nat → Int32) (x1 x2 x3 : Nat) (x4 : Int32) (mm : Mem) : Option (Mem ⊕ Int32) :=
  (scL L xs (x4 + 1)).bind fun v1 =>
  (scL L xs (x4 + 2)).bind fun v2 =>
  (scL L xs (x4 + 3)).bind fun v3 =>
  (scL L xs (x4 + 4)).bind fun v4 =>
  (scL L xs (x4 + 5)).bind fun v5 =>
  (scL L xs (x4 + 6)).bind fun v6 =>
  bd2 (fL_span sh x1 v1 v2 v3 v4 v5 v6 x3 mm) fun v7 m8 =>
  lt1 v7 fun x5_9 =>
  (scL L xs (x4 + 1)).bind fun v10 =>
  (scL L xs (x4 + 2)).bind fun v11 =>
  (scL L xs (x4 + 3)).bind fun v12 =>
  (scL L xs (x4 + 4)).bind fun v13 =>
  (scL L xs (x4 + 5)).bind fun v14 =>
  (scL L xs (x4 + 6)).bind fun v15 =>
  (isO sh 12 x2).bind fun _ =>
  bd2 (fX12_span sh x2 v10 v11 v12 v13 v14 v15 m8) fun v16 m17 =>
  lt1 v16 fun x6_18 =>
  (isO sh 12 x2).bind fun _ =>
  (fX12_thrown sh x2 m17).bind fun v19 =>
  if v19 = x5_9 then (if x5_9 = 0 then ((lL sh m17 x3 0).bind fun v22 =>
  if (lg_cmp v22 ((x6_18).toInt64)) = 0 then (some (.inl m17))
  else (some (.inr 0)))
  else (some (.inl m17)))
  else (some (.inr 0))
def fLc_37 (sh : Shp) (L : Nat) (xs : Nat → Int32) (x1 x2 x3 : Nat) (x4 : Int32) (mm : Mem) : Option (Mem ⊕ Int32) :=
  (isO sh 11 x1).bind fun _ =>
  bd2 (fX11_image sh x1 mm) fun v1 m2 =>
  (isO sh 12 x2).bind fun _ =>
  bd2 (fX12_image sh x2 m2) fun v3 m4 =>
  if v1 = v3 then (some (.inl m4))
  else (some (.inr 0))
def fLc_38 (sh : Shp) (L : Nat) (xs : Nat → Int32) (x1 x2 x3 : Nat) (x4 : Int32) (mm : Mem) : Option (Mem ⊕ Int32) :=
  (isO sh 11 x1).bind fun _ =>
  bd2 (fX11_restore sh x1 mm) fun v1 m2 =>
  (isO sh 12 x2).bind fun _ =>
  bd2 (fX12_restore sh x2 m2) fun v3 m4 =>
  if v1 = v3 then (some (.inl m4))
  else (some (.inr 0))
def fLc_39 (sh : Shp) (L : Nat) (xs : Nat → Int32) (x1 x2 x3 : Nat) (x4 : Int32) (mm : Mem) : Option (Mem ⊕ Int32) :=
  (scL L xs (x4 + 1)).bind fun v1 =>
  (isO sh 11 x1).bind fun _ =>
  (fX11_status sh x1 v1 mm).bind fun v2 =>
  (scL L xs (x4 + 1)).bind fun v3 =>
  (isO sh 12 x2).bind fun _ =>
  bd2 (fX12_status sh x2 v3 mm) fun v4 m5 =>
  if v2 = v4 then (some (.inl m5))
  else (some (.inr 0))
def fLc_40 (sh : Shp) (L : Nat) (xs : Nat → Int32) (x1 x2 x3 : Nat) (x4 : Int32) (mm : Mem) : Option (Mem ⊕ Int32) :=
  (scL L xs (x4 + 1)).bind fun v1 =>
  (isO sh 11 x1).bind fun _ =>
  (fX11_count sh x1 v1 mm).bind fun v2 =>
  (scL L xs (x4 + 1)).bind fun v3 =>
  (isO sh 12 x2).bind fun _ =>
  bd2 (fX12_count sh x2 v3 mm) fun v4 m5 =>
  if v2 = v4 then (some (.inl m5))
  else (some (.inr 0))
set_option maxHeartbeats 4000000 in
set_option maxRecDepth 100000 in
theorem wLc_0 {p : Program} {l : Launch} {e : Env} {R : Room} {s : State} {m : MethodId} {args : Array Value} {below : List Frame} {meth : Method} {c : Code} {Q : State → Prop} {E : Ev} {b L : Nat} {xs : Nat → Int32} (hl0 : l.stackTraces = false) (X : Cx p s m args c cL_law_ RL E) (hX : Scr E s b L xs) (hml : c.maxLocals = 8) (hR : 400 ≤ R.frames ∧ 20000 ≤ R.locals) {x1 x2 x3 : Nat} {x4 : Int32} {mm : Mem} {y : Mem ⊕ Int32} {kc ks : Nat} (hkc : kc + 1 ≤ R.cells) (hks : ks + 6 ≤ R.slots) (hf : fLc_0 (eS E) L xs x1 x2 x3 x4 mm = some y) (kN : ∀ mm1, y = .inl mm1 → ∀ (H : Heap) (locs : List Loc) (ls : Array Slot) (cells slots : Nat), cells ≤ kc + 1 → slots ≤ ks + 6 → wS E s mm1 H locs → lv_has ls 8 [(0, .ref b), (1, .ref x1), (2, .ref x2), (3, .ref x3), (4, .int x4)] → W p l e R s m args below meth c H locs cells slots Q (F0 m 2743 ls [])) (kR : ∀ v, y = .inr v → ∀ (pc : Nat) (H : Heap) (locs : List Loc) (ls : Array Slot) (cells slots : Nat), cells ≤ kc + 1 → slots ≤ ks + 6 → decode cL_law_ pc = .ok (.ireturn, 1) → ∀ {mm1 : Mem}, wS E s mm1 H locs → W p l e R s m args below meth c H locs cells slots Q (F0 m pc ls [.int v])) : ∀ (H : Heap) (locs : List Loc) (ls : Array Slot) (cells slots : Nat), cells ≤ kc → slots ≤ ks → wS E s mm H locs → lv_has ls 8 [(0, .ref b), (1, .ref x1), (2, .ref x2), (3, .ref x3), (4, .int x4)] → W p l e R s m args below meth c H locs cells slots Q (F0 m 220 ls []) := by
  intro H locs ls cells slots hcc hcs hS hl
  have hx := X.1
  have hb := X.2.1
  unfold fLc_0 at hf
  refine lv_aload_n hx hb dL_law__220 rfl (lv_at hl 1 rfl) ?_
  refine lv_aload_n hx hb dL_law__221 rfl (lv_at hl 0 rfl) ?_
  refine lv_iload hx hb dL_law__222 (lv_at hl 4 rfl) ?_
  refine lv_iconst (v := 1) hx hb dL_law__224 (by decide) ?_
  refine lv_iadd hx hb dL_law__225 ?_
  obtain ⟨v1, h1, hf⟩ := bs hf
  refine am_scr X hX hS h1 dL_law__226 ?_
  refine lv_aload_n hx hb dL_law__227 rfl (lv_at hl 0 rfl) ?_
  refine lv_iload hx hb dL_law__228 (lv_at hl 4 rfl) ?_
  refine lv_iconst (v := 2) hx hb dL_law__230 (by decide) ?_
  refine lv_iadd hx hb dL_law__231 ?_
  obtain ⟨v2, h1, hf⟩ := bs hf
  refine am_scr X hX hS h1 dL_law__232 ?_
  refine lv_aload_n hx hb dL_law__233 rfl (lv_at hl 0 rfl) ?_
  refine lv_iload hx hb dL_law__234 (lv_at hl 4 rfl) ?_
  refine lv_iconst (v := 3) hx hb dL_law__236 (by decide) ?_
  refine lv_iadd hx hb dL_law__237 ?_
  obtain ⟨v3, h1, hf⟩ := bs hf
  refine am_scr X hX hS h1 dL_law__238 ?_
  refine lv_aload_n hx hb dL_law__239 rfl (lv_at hl 0 rfl) ?_
  refine lv_iload hx hb dL_law__240 (lv_at hl 4 rfl) ?_
  refine lv_iconst (v := 4) hx hb dL_law__242 (by decide) ?_
  refine lv_iadd hx hb dL_law__243 ?_
  obtain ⟨v4, h1, hf⟩ := bs hf
  refine am_scr X hX hS h1 dL_law__244 ?_
  refine lv_aload_n hx hb dL_law__245 rfl (lv_at hl 0 rfl) ?_
  refine lv_iload hx hb dL_law__246 (lv_at hl 4 rfl) ?_
  refine lv_iconst (v := 5) hx hb dL_law__248 (by decide) ?_
  refine lv_iadd hx hb dL_law__249 ?_
  obtain ⟨v5, h1, hf⟩ := bs hf
  refine am_scr X hX hS h1 dL_law__250 ?_
  obtain ⟨u0, h0, hf⟩ := bs hf
  obtain ⟨_, hrc⟩ := isO_n h0
  obtain ⟨v6, m7, h1, hf⟩ := bs2 hf
  refine am_endi hS (am_runV (As := [.int v1, .int v2, .int v3, .int v4, .int v5]) X (hml.trans hl.1.symm) hS (cX11_feed_ok (l := l) (E := E) h1) mv_L_123 hrc rfl ⟨Nat.le_trans (by decide) hR.1, Nat.le_trans (by decide) hR.2⟩ ⟨by omega, by omega⟩ rfl rfl (Nat.le_of_ble_eq_true rfl) dL_law__251) (fun H locs hS => ?_)
  refine lv_aload_n hx hb dL_law__254 rfl (lv_at hl 2 rfl) ?_
  refine lv_aload_n hx hb dL_law__255 rfl (lv_at hl 0 rfl) ?_
  refine lv_iload hx hb dL_law__256 (lv_at hl 4 rfl) ?_
  refine lv_iconst (v := 1) hx hb dL_law__258 (by decide) ?_
  refine lv_iadd hx hb dL_law__259 ?_
  obtain ⟨v8, h1, hf⟩ := bs hf
  refine am_scr X hX hS h1 dL_law__260 ?_
  refine lv_aload_n hx hb dL_law__261 rfl (lv_at hl 0 rfl) ?_
  refine lv_iload hx hb dL_law__262 (lv_at hl 4 rfl) ?_
  refine lv_iconst (v := 2) hx hb dL_law__264 (by decide) ?_
  refine lv_iadd hx hb dL_law__265 ?_
  obtain ⟨v9, h1, hf⟩ := bs hf
  refine am_scr X hX hS h1 dL_law__266 ?_
  refine lv_aload_n hx hb dL_law__267 rfl (lv_at hl 0 rfl) ?_
  refine lv_iload hx hb dL_law__268 (lv_at hl 4 rfl) ?_
  refine lv_iconst (v := 3) hx hb dL_law__270 (by decide) ?_
  refine lv_iadd hx hb dL_law__271 ?_
  obtain ⟨v10, h1, hf⟩ := bs hf
  refine am_scr X hX hS h1 dL_law__272 ?_
  refine lv_aload_n hx hb dL_law__273 rfl (lv_at hl 0 rfl) ?_
  refine lv_iload hx hb dL_law__274 (lv_at hl 4 rfl) ?_
  refine lv_iconst (v := 4) hx hb dL_law__276 (by decide) ?_
  refine lv_iadd hx hb dL_law__277 ?_
  obtain ⟨v11, h1, hf⟩ := bs hf
  refine am_scr X hX hS h1 dL_law__278 ?_
  refine lv_aload_n hx hb dL_law__279 rfl (lv_at hl 0 rfl) ?_
  refine lv_iload hx hb dL_law__280 (lv_at hl 4 rfl) ?_
  refine lv_iconst (v := 5) hx hb dL_law__282 (by decide) ?_
  refine lv_iadd hx hb dL_law__283 ?_
  obtain ⟨v12, h1, hf⟩ := bs hf
  refine am_scr X hX hS h1 dL_law__284 ?_
  obtain ⟨u0, h0, hf⟩ := bs hf
  obtain ⟨_, hrc⟩ := isO_n h0
  obtain ⟨v13, m14, h1, hf⟩ := bs2 hf
  refine am_endi hS (am_runV (As := [.int v8, .int v9, .int v10, .int v11, .int v12]) X (hml.trans hl.1.symm) hS (cX12_feed_ok (l := l) (E := E) h1) mv_L_127 hrc rfl ⟨Nat.le_trans (by decide) hR.1, Nat.le_trans (by decide) hR.2⟩ ⟨by omega, by omega⟩ rfl rfl (Nat.le_of_ble_eq_true rfl) dL_law__285) (fun H locs hS => ?_)
  refine lv_icmp_eq (tgt := 2743) hx hb dL_law__288 (by decide) (fun q15 => ?_) (fun q15 => ?_)
  · have hf := ifp hf q15
    exact kN _ (Option.some.inj hf).symm H locs ls _ _ (by omega) (by omega) hS (lv_sub hl [0, 1, 2, 3, 4] rfl)
  · have hf := ifn hf q15
    refine lv_iconst (v := 0) hx hb dL_law__291 (by decide) ?_
    exact kR _ (Option.some.inj hf).symm _ H locs ls _ _ (by omega) (by omega) dL_law__292 hS
set_option maxHeartbeats 4000000 in
set_option maxRecDepth 100000 in
theorem wLc_1 {p : Program} {l : Launch} {e : Env} {R : Room} {s : State} {m : MethodId} {args : Array Value} {below : List Frame} {meth : Method} {c : Code} {Q : State → Prop} {E : Ev} {b L : Nat} {xs : Nat → Int32} (hl0 : l.stackTraces = false) (X : Cx p s m args c cL_law_ RL E) (hX : Scr E s b L xs) (hml : c.maxLocals = 8) (hR : 400 ≤ R.frames ∧ 20000 ≤ R.locals) {x1 x2 x3 : Nat} {x4 : Int32} {mm : Mem} {y : Mem ⊕ Int32} {kc ks : Nat} (hkc : kc + 1 ≤ R.cells) (hks : ks + 6 ≤ R.slots) (hf : fLc_1 (eS E) L xs x1 x2 x3 x4 mm = some y) (kN : ∀ mm1, y = .inl mm1 → ∀ (H : Heap) (locs : List Loc) (ls : Array Slot) (cells slots : Nat), cells ≤ kc + 1 → slots ≤ ks + 6 → wS E s mm1 H locs → lv_has ls 8 [(0, .ref b), (1, .ref x1), (2, .ref x2), (3, .ref x3), (4, .int x4)] → W p l e R s m args below meth c H locs cells slots Q (F0 m 2743 ls [])) (kR : ∀ v, y = .inr v → ∀ (pc : Nat) (H : Heap) (locs : List Loc) (ls : Array Slot) (cells slots : Nat), cells ≤ kc + 1 → slots ≤ ks + 6 → decode cL_law_ pc = .ok (.ireturn, 1) → ∀ {mm1 : Mem}, wS E s mm1 H locs → W p l e R s m args below meth c H locs cells slots Q (F0 m pc ls [.int v])) : ∀ (H : Heap) (locs : List Loc) (ls : Array Slot) (cells slots : Nat), cells ≤ kc → slots ≤ ks → wS E s mm H locs → lv_has ls 8 [(0, .ref b), (1, .ref x1), (2, .ref x2), (3, .ref x3), (4, .int x4)] → W p l e R s m args below meth c H locs cells slots Q (F0 m 293 ls []) := by
  intro H locs ls cells slots hcc hcs hS hl
  have hx := X.1
  have hb := X.2.1
  unfold fLc_1 at hf
  refine lv_aload_n hx hb dL_law__293 rfl (lv_at hl 1 rfl) ?_
  refine lv_aload_n hx hb dL_law__294 rfl (lv_at hl 0 rfl) ?_
  refine lv_iload hx hb dL_law__295 (lv_at hl 4 rfl) ?_
  refine lv_iconst (v := 1) hx hb dL_law__297 (by decide) ?_
  refine lv_iadd hx hb dL_law__298 ?_
  obtain ⟨v1, h1, hf⟩ := bs hf
  refine am_scr X hX hS h1 dL_law__299 ?_
  refine lv_aload_n hx hb dL_law__300 rfl (lv_at hl 3 rfl) ?_
  obtain ⟨v2, m3, h1, hf⟩ := bs2 hf
  refine am_cH (As := [.ref x1, .int v1, .ref x3]) X (hml.trans hl.1.symm) hS (cL_college_ok (l := l) (E := E) hl0 h1) mh_128 ⟨Nat.le_trans (by decide) hR.1, Nat.le_trans (by decide) hR.2⟩ ⟨by omega, by omega⟩ rfl rfl (Nat.le_of_ble_eq_true rfl) dL_law__301 (fun H locs hS => ?_)
  refine lv_topi (fun x5_4 e1 => ?_)
  have hf := lt1_n e1 hf
  refine lv_istore (lv' := [(5, .int x5_4), (0, .ref b), (1, .ref x1), (2, .ref x2), (3, .ref x3), (4, .int x4)]) hx hb dL_law__304 hl (by decide) rfl (fun ls hl => ?_)
  refine lv_aload_n hx hb dL_law__306 rfl (lv_at hl 3 rfl) ?_
  refine lv_aload_n hx hb dL_law__307 rfl (lv_at hl 1 rfl) ?_
  refine lv_iload hx hb dL_law__308 (lv_at hl 5 rfl) ?_
  refine lv_iconst (v := 1) hx hb dL_law__310 (by decide) ?_
  refine lv_iadd hx hb dL_law__311 ?_
  obtain ⟨v5, h1, hf⟩ := bs hf
  refine am_scr X hX hS h1 dL_law__312 ?_
  obtain ⟨u0, h0, hf⟩ := bs hf
  obtain ⟨_, hrc⟩ := isO_n h0
  obtain ⟨v6, m7, h1, hf⟩ := bs2 hf
  refine am_endi hS (am_runV (As := [.int v5]) X (hml.trans hl.1.symm) hS (cX12_college_ok (l := l) (E := E) h1) mv_L_133 hrc rfl ⟨Nat.le_trans (by decide) hR.1, Nat.le_trans (by decide) hR.2⟩ ⟨by omega, by omega⟩ rfl rfl (Nat.le_of_ble_eq_true rfl) dL_law__313) (fun H locs hS => ?_)
  refine lv_topi (fun x6_8 e1 => ?_)
  have hf := lt1_n e1 hf
  refine lv_istore (lv' := [(6, .int x6_8), (5, .int x5_4), (0, .ref b), (1, .ref x1), (2, .ref x2), (3, .ref x3), (4, .int x4)]) hx hb dL_law__316 hl (by decide) rfl (fun ls hl => ?_)
  refine lv_aload_n hx hb dL_law__318 rfl (lv_at hl 4 rfl) ?_
  obtain ⟨u0, h0, hf⟩ := bs hf
  obtain ⟨_, hrc⟩ := isO_n h0
  obtain ⟨v9, h1, hf⟩ := bs hf
  refine am_endi hS (am_runV (As := []) X (hml.trans hl.1.symm) hS (cX12_thrown_ok (l := l) (E := E) h1) mv_L_134 hrc rfl ⟨Nat.le_trans (by decide) hR.1, Nat.le_trans (by decide) hR.2⟩ ⟨by omega, by omega⟩ rfl rfl (Nat.le_of_ble_eq_true rfl) dL_law__319) (fun H locs hS => ?_)
  refine lv_iload hx hb dL_law__322 (lv_at hl 1 rfl) ?_
  refine lv_icmp_eq (tgt := 329) hx hb dL_law__324 (by decide) (fun q10 => ?_) (fun q10 => ?_)
  · have hf := ifp hf q10
    refine lv_iload hx hb dL_law__329 (lv_at hl 1 rfl) ?_
    refine lv_if_ne (tgt := 346) hx hb dL_law__331 (by decide) (fun q11 => ?_) (fun q11 => ?_)
    · have hf := ifn hf q11
      refine lv_goto (tgt := 2743) hx hb dL_law__346 (by decide) ?_
      exact kN _ (Option.some.inj hf).symm H locs ls _ _ (by omega) (by omega) hS (lv_sub hl [2, 3, 4, 5, 6] rfl)
    · have hf := ifp hf q11
      refine lv_aload_n hx hb dL_law__334 rfl (lv_at hl 5 rfl) ?_
      refine lv_iconst (v := 0) hx hb dL_law__335 (by decide) ?_
      obtain ⟨v12, h1, hf⟩ := bs hf
      refine am_lld X hS h1 dL_law__336 ?_
      refine lv_iload hx hb dL_law__337 (lv_at hl 0 rfl) ?_
      refine lv_i2l (v := ((x6_8).toInt64)) hx hb dL_law__339 rfl ?_
      refine W.lcmp hx hb dL_law__340 ?_
      refine lv_if_eq (tgt := 346) hx hb dL_law__341 (by decide) (fun q13 => ?_) (fun q13 => ?_)
      · have hf := ifp hf q13
        refine lv_goto (tgt := 2743) hx hb dL_law__346 (by decide) ?_
        exact kN _ (Option.some.inj hf).symm H locs ls _ _ (by omega) (by omega) hS (lv_sub hl [2, 3, 4, 5, 6] rfl)
      · have hf := ifn hf q13
        refine lv_iconst (v := 0) hx hb dL_law__344 (by decide) ?_
        exact kR _ (Option.some.inj hf).symm _ H locs ls _ _ (by omega) (by omega) dL_law__345 hS
  · have hf := ifn hf q10
    refine lv_iconst (v := 0) hx hb dL_law__327 (by decide) ?_
    exact kR _ (Option.some.inj hf).symm _ H locs ls _ _ (by omega) (by omega) dL_law__328 hS
set_option maxHeartbeats 4000000 in
set_option maxRecDepth 100000 in
theorem wLc_2 {p : Program} {l : Launch} {e : Env} {R : Room} {s : State} {m : MethodId} {args : Array Value} {below : List Frame} {meth : Method} {c : Code} {Q : State → Prop} {E : Ev} {b L : Nat} {xs : Nat → Int32} (hl0 : l.stackTraces = false) (X : Cx p s m args c cL_law_ RL E) (hX : Scr E s b L xs) (hml : c.maxLocals = 8) (hR : 400 ≤ R.frames ∧ 20000 ≤ R.locals) {x1 x2 x3 : Nat} {x4 : Int32} {mm : Mem} {y : Mem ⊕ Int32} {kc ks : Nat} (hkc : kc + 1 ≤ R.cells) (hks : ks + 6 ≤ R.slots) (hf : fLc_2 (eS E) L xs x1 x2 x3 x4 mm = some y) (kN : ∀ mm1, y = .inl mm1 → ∀ (H : Heap) (locs : List Loc) (ls : Array Slot) (cells slots : Nat), cells ≤ kc + 1 → slots ≤ ks + 6 → wS E s mm1 H locs → lv_has ls 8 [(0, .ref b), (1, .ref x1), (2, .ref x2), (3, .ref x3), (4, .int x4)] → W p l e R s m args below meth c H locs cells slots Q (F0 m 2743 ls [])) (kR : ∀ v, y = .inr v → ∀ (pc : Nat) (H : Heap) (locs : List Loc) (ls : Array Slot) (cells slots : Nat), cells ≤ kc + 1 → slots ≤ ks + 6 → decode cL_law_ pc = .ok (.ireturn, 1) → ∀ {mm1 : Mem}, wS E s mm1 H locs → W p l e R s m args below meth c H locs cells slots Q (F0 m pc ls [.int v])) : ∀ (H : Heap) (locs : List Loc) (ls : Array Slot) (cells slots : Nat), cells ≤ kc → slots ≤ ks → wS E s mm H locs → lv_has ls 8 [(0, .ref b), (1, .ref x1), (2, .ref x2), (3, .ref x3), (4, .int x4)] → W p l e R s m args below meth c H locs cells slots Q (F0 m 349 ls []) := by
  intro H locs ls cells slots hcc hcs hS hl
  have hx := X.1
  have hb := X.2.1
  unfold fLc_2 at hf
  refine lv_aload_n hx hb dL_law__349 rfl (lv_at hl 1 rfl) ?_
  refine lv_aload_n hx hb dL_law__350 rfl (lv_at hl 0 rfl) ?_
  refine lv_iload hx hb dL_law__351 (lv_at hl 4 rfl) ?_
  refine lv_iconst (v := 1) hx hb dL_law__353 (by decide) ?_
  refine lv_iadd hx hb dL_law__354 ?_
  obtain ⟨v1, h1, hf⟩ := bs hf
  refine am_scr X hX hS h1 dL_law__355 ?_
  refine lv_aload_n hx hb dL_law__356 rfl (lv_at hl 3 rfl) ?_
  obtain ⟨v2, m3, h1, hf⟩ := bs2 hf
  refine am_cH (As := [.ref x1, .int v1, .ref x3]) X (hml.trans hl.1.symm) hS (cL_law_ok (l := l) (E := E) hl0 h1) mh_138 ⟨Nat.le_trans (by decide) hR.1, Nat.le_trans (by decide) hR.2⟩ ⟨by omega, by omega⟩ rfl rfl (Nat.le_of_ble_eq_true rfl) dL_law__357 (fun H locs hS => ?_)
  refine lv_topi (fun x5_4 e1 => ?_)
  have hf := lt1_n e1 hf
  refine lv_istore (lv' := [(5, .int x5_4), (0, .ref b), (1, .ref x1), (2, .ref x2), (3, .ref x3), (4, .int x4)]) hx hb dL_law__360 hl (by decide) rfl (fun ls hl => ?_)
  refine lv_aload_n hx hb dL_law__362 rfl (lv_at hl 3 rfl) ?_
  refine lv_aload_n hx hb dL_law__363 rfl (lv_at hl 1 rfl) ?_
  refine lv_iload hx hb dL_law__364 (lv_at hl 5 rfl) ?_
  refine lv_iconst (v := 1) hx hb dL_law__366 (by decide) ?_
  refine lv_iadd hx hb dL_law__367 ?_
  obtain ⟨v5, h1, hf⟩ := bs hf
  refine am_scr X hX hS h1 dL_law__368 ?_
  obtain ⟨u0, h0, hf⟩ := bs hf
  obtain ⟨_, hrc⟩ := isO_n h0
  obtain ⟨v6, m7, h1, hf⟩ := bs2 hf
  refine am_endi hS (am_runV (As := [.int v5]) X (hml.trans hl.1.symm) hS (cX12_law_ok (l := l) (E := E) h1) mv_L_140 hrc rfl ⟨Nat.le_trans (by decide) hR.1, Nat.le_trans (by decide) hR.2⟩ ⟨by omega, by omega⟩ rfl rfl (Nat.le_of_ble_eq_true rfl) dL_law__369) (fun H locs hS => ?_)
  refine lv_topi (fun x6_8 e1 => ?_)
  have hf := lt1_n e1 hf
  refine lv_istore (lv' := [(6, .int x6_8), (5, .int x5_4), (0, .ref b), (1, .ref x1), (2, .ref x2), (3, .ref x3), (4, .int x4)]) hx hb dL_law__372 hl (by decide) rfl (fun ls hl => ?_)
  refine lv_aload_n hx hb dL_law__374 rfl (lv_at hl 4 rfl) ?_
  obtain ⟨u0, h0, hf⟩ := bs hf
  obtain ⟨_, hrc⟩ := isO_n h0
  obtain ⟨v9, h1, hf⟩ := bs hf
  refine am_endi hS (am_runV (As := []) X (hml.trans hl.1.symm) hS (cX12_thrown_ok (l := l) (E := E) h1) mv_L_134 hrc rfl ⟨Nat.le_trans (by decide) hR.1, Nat.le_trans (by decide) hR.2⟩ ⟨by omega, by omega⟩ rfl rfl (Nat.le_of_ble_eq_true rfl) dL_law__375) (fun H locs hS => ?_)
  refine lv_iload hx hb dL_law__378 (lv_at hl 1 rfl) ?_
  refine lv_icmp_eq (tgt := 385) hx hb dL_law__380 (by decide) (fun q10 => ?_) (fun q10 => ?_)
  · have hf := ifp hf q10
    refine lv_iload hx hb dL_law__385 (lv_at hl 1 rfl) ?_
    refine lv_if_ne (tgt := 402) hx hb dL_law__387 (by decide) (fun q11 => ?_) (fun q11 => ?_)
    · have hf := ifn hf q11
      refine lv_goto (tgt := 2743) hx hb dL_law__402 (by decide) ?_
      exact kN _ (Option.some.inj hf).symm H locs ls _ _ (by omega) (by omega) hS (lv_sub hl [2, 3, 4, 5, 6] rfl)
    · have hf := ifp hf q11
      refine lv_aload_n hx hb dL_law__390 rfl (lv_at hl 5 rfl) ?_
      refine lv_iconst (v := 0) hx hb dL_law__391 (by decide) ?_
      obtain ⟨v12, h1, hf⟩ := bs hf
      refine am_lld X hS h1 dL_law__392 ?_
      refine lv_iload hx hb dL_law__393 (lv_at hl 0 rfl) ?_
      refine lv_i2l (v := ((x6_8).toInt64)) hx hb dL_law__395 rfl ?_
      refine W.lcmp hx hb dL_law__396 ?_
      refine lv_if_eq (tgt := 402) hx hb dL_law__397 (by decide) (fun q13 => ?_) (fun q13 => ?_)
      · have hf := ifp hf q13
        refine lv_goto (tgt := 2743) hx hb dL_law__402 (by decide) ?_
        exact kN _ (Option.some.inj hf).symm H locs ls _ _ (by omega) (by omega) hS (lv_sub hl [2, 3, 4, 5, 6] rfl)
      · have hf := ifn hf q13
        refine lv_iconst (v := 0) hx hb dL_law__400 (by decide) ?_
        exact kR _ (Option.some.inj hf).symm _ H locs ls _ _ (by omega) (by omega) dL_law__401 hS
  · have hf := ifn hf q10
    refine lv_iconst (v := 0) hx hb dL_law__383 (by decide) ?_
    exact kR _ (Option.some.inj hf).symm _ H locs ls _ _ (by omega) (by omega) dL_law__384 hS
set_option maxHeartbeats 4000000 in
set_option maxRecDepth 100000 in
theorem wLc_3 {p : Program} {l : Launch} {e : Env} {R : Room} {s : State} {m : MethodId} {args : Array Value} {below : List Frame} {meth : Method} {c : Code} {Q : State → Prop} {E : Ev} {b L : Nat} {xs : Nat → Int32} (hl0 : l.stackTraces = false) (X : Cx p s m args c cL_law_ RL E) (hX : Scr E s b L xs) (hml : c.maxLocals = 8) (hR : 400 ≤ R.frames ∧ 20000 ≤ R.locals) {x1 x2 x3 : Nat} {x4 : Int32} {mm : Mem} {y : Mem ⊕ Int32} {kc ks : Nat} (hkc : kc + 1 ≤ R.cells) (hks : ks + 6 ≤ R.slots) (hf : fLc_3 (eS E) L xs x1 x2 x3 x4 mm = some y) (kN : ∀ mm1, y = .inl mm1 → ∀ (H : Heap) (locs : List Loc) (ls : Array Slot) (cells slots : Nat), cells ≤ kc + 1 → slots ≤ ks + 6 → wS E s mm1 H locs → lv_has ls 8 [(0, .ref b), (1, .ref x1), (2, .ref x2), (3, .ref x3), (4, .int x4)] → W p l e R s m args below meth c H locs cells slots Q (F0 m 2743 ls [])) (kR : ∀ v, y = .inr v → ∀ (pc : Nat) (H : Heap) (locs : List Loc) (ls : Array Slot) (cells slots : Nat), cells ≤ kc + 1 → slots ≤ ks + 6 → decode cL_law_ pc = .ok (.ireturn, 1) → ∀ {mm1 : Mem}, wS E s mm1 H locs → W p l e R s m args below meth c H locs cells slots Q (F0 m pc ls [.int v])) : ∀ (H : Heap) (locs : List Loc) (ls : Array Slot) (cells slots : Nat), cells ≤ kc → slots ≤ ks → wS E s mm H locs → lv_has ls 8 [(0, .ref b), (1, .ref x1), (2, .ref x2), (3, .ref x3), (4, .int x4)] → W p l e R s m args below meth c H locs cells slots Q (F0 m 405 ls []) := by
  intro H locs ls cells slots hcc hcs hS hl
  have hx := X.1
  have hb := X.2.1
  unfold fLc_3 at hf
  refine lv_aload_n hx hb dL_law__405 rfl (lv_at hl 1 rfl) ?_
  refine lv_aload_n hx hb dL_law__406 rfl (lv_at hl 0 rfl) ?_
  refine lv_iload hx hb dL_law__407 (lv_at hl 4 rfl) ?_
  refine lv_iconst (v := 1) hx hb dL_law__409 (by decide) ?_
  refine lv_iadd hx hb dL_law__410 ?_
  obtain ⟨v1, h1, hf⟩ := bs hf
  refine am_scr X hX hS h1 dL_law__411 ?_
  refine lv_aload_n hx hb dL_law__412 rfl (lv_at hl 3 rfl) ?_
  obtain ⟨v2, m3, h1, hf⟩ := bs2 hf
  refine am_cH (As := [.ref x1, .int v1, .ref x3]) X (hml.trans hl.1.symm) hS (cL_work_ok (l := l) (E := E) hl0 h1) mh_141 ⟨Nat.le_trans (by decide) hR.1, Nat.le_trans (by decide) hR.2⟩ ⟨by omega, by omega⟩ rfl rfl (Nat.le_of_ble_eq_true rfl) dL_law__413 (fun H locs hS => ?_)
  refine lv_topi (fun x5_4 e1 => ?_)
  have hf := lt1_n e1 hf
  refine lv_istore (lv' := [(5, .int x5_4), (0, .ref b), (1, .ref x1), (2, .ref x2), (3, .ref x3), (4, .int x4)]) hx hb dL_law__416 hl (by decide) rfl (fun ls hl => ?_)
  refine lv_aload_n hx hb dL_law__418 rfl (lv_at hl 3 rfl) ?_
  refine lv_aload_n hx hb dL_law__419 rfl (lv_at hl 1 rfl) ?_
  refine lv_iload hx hb dL_law__420 (lv_at hl 5 rfl) ?_
  refine lv_iconst (v := 1) hx hb dL_law__422 (by decide) ?_
  refine lv_iadd hx hb dL_law__423 ?_
  obtain ⟨v5, h1, hf⟩ := bs hf
  refine am_scr X hX hS h1 dL_law__424 ?_
  obtain ⟨u0, h0, hf⟩ := bs hf
  obtain ⟨_, hrc⟩ := isO_n h0
  obtain ⟨v6, m7, h1, hf⟩ := bs2 hf
  refine am_endi hS (am_runV (As := [.int v5]) X (hml.trans hl.1.symm) hS (cX12_work_ok (l := l) (E := E) h1) mv_L_143 hrc rfl ⟨Nat.le_trans (by decide) hR.1, Nat.le_trans (by decide) hR.2⟩ ⟨by omega, by omega⟩ rfl rfl (Nat.le_of_ble_eq_true rfl) dL_law__425) (fun H locs hS => ?_)
  refine lv_topi (fun x6_8 e1 => ?_)
  have hf := lt1_n e1 hf
  refine lv_istore (lv' := [(6, .int x6_8), (5, .int x5_4), (0, .ref b), (1, .ref x1), (2, .ref x2), (3, .ref x3), (4, .int x4)]) hx hb dL_law__428 hl (by decide) rfl (fun ls hl => ?_)
  refine lv_aload_n hx hb dL_law__430 rfl (lv_at hl 4 rfl) ?_
  obtain ⟨u0, h0, hf⟩ := bs hf
  obtain ⟨_, hrc⟩ := isO_n h0
  obtain ⟨v9, h1, hf⟩ := bs hf
  refine am_endi hS (am_runV (As := []) X (hml.trans hl.1.symm) hS (cX12_thrown_ok (l := l) (E := E) h1) mv_L_134 hrc rfl ⟨Nat.le_trans (by decide) hR.1, Nat.le_trans (by decide) hR.2⟩ ⟨by omega, by omega⟩ rfl rfl (Nat.le_of_ble_eq_true rfl) dL_law__431) (fun H locs hS => ?_)
  refine lv_iload hx hb dL_law__434 (lv_at hl 1 rfl) ?_
  refine lv_icmp_eq (tgt := 441) hx hb dL_law__436 (by decide) (fun q10 => ?_) (fun q10 => ?_)
  · have hf := ifp hf q10
    refine lv_iload hx hb dL_law__441 (lv_at hl 1 rfl) ?_
    refine lv_if_ne (tgt := 458) hx hb dL_law__443 (by decide) (fun q11 => ?_) (fun q11 => ?_)
    · have hf := ifn hf q11
      refine lv_goto (tgt := 2743) hx hb dL_law__458 (by decide) ?_
      exact kN _ (Option.some.inj hf).symm H locs ls _ _ (by omega) (by omega) hS (lv_sub hl [2, 3, 4, 5, 6] rfl)
    · have hf := ifp hf q11
      refine lv_aload_n hx hb dL_law__446 rfl (lv_at hl 5 rfl) ?_
      refine lv_iconst (v := 0) hx hb dL_law__447 (by decide) ?_
      obtain ⟨v12, h1, hf⟩ := bs hf
      refine am_lld X hS h1 dL_law__448 ?_
      refine lv_iload hx hb dL_law__449 (lv_at hl 0 rfl) ?_
      refine lv_i2l (v := ((x6_8).toInt64)) hx hb dL_law__451 rfl ?_
      refine W.lcmp hx hb dL_law__452 ?_
      refine lv_if_eq (tgt := 458) hx hb dL_law__453 (by decide) (fun q13 => ?_) (fun q13 => ?_)
      · have hf := ifp hf q13
        refine lv_goto (tgt := 2743) hx hb dL_law__458 (by decide) ?_
        exact kN _ (Option.some.inj hf).symm H locs ls _ _ (by omega) (by omega) hS (lv_sub hl [2, 3, 4, 5, 6] rfl)
      · have hf := ifn hf q13
        refine lv_iconst (v := 0) hx hb dL_law__456 (by decide) ?_
        exact kR _ (Option.some.inj hf).symm _ H locs ls _ _ (by omega) (by omega) dL_law__457 hS
  · have hf := ifn hf q10
    refine lv_iconst (v := 0) hx hb dL_law__439 (by decide) ?_
    exact kR _ (Option.some.inj hf).symm _ H locs ls _ _ (by omega) (by omega) dL_law__440 hS
set_option maxHeartbeats 4000000 in
set_option maxRecDepth 100000 in
theorem wLc_4 {p : Program} {l : Launch} {e : Env} {R : Room} {s : State} {m : MethodId} {args : Array Value} {below : List Frame} {meth : Method} {c : Code} {Q : State → Prop} {E : Ev} {b L : Nat} {xs : Nat → Int32} (hl0 : l.stackTraces = false) (X : Cx p s m args c cL_law_ RL E) (hX : Scr E s b L xs) (hml : c.maxLocals = 8) (hR : 400 ≤ R.frames ∧ 20000 ≤ R.locals) {x1 x2 x3 : Nat} {x4 : Int32} {mm : Mem} {y : Mem ⊕ Int32} {kc ks : Nat} (hkc : kc + 1 ≤ R.cells) (hks : ks + 6 ≤ R.slots) (hf : fLc_4 (eS E) L xs x1 x2 x3 x4 mm = some y) (kN : ∀ mm1, y = .inl mm1 → ∀ (H : Heap) (locs : List Loc) (ls : Array Slot) (cells slots : Nat), cells ≤ kc + 1 → slots ≤ ks + 6 → wS E s mm1 H locs → lv_has ls 8 [(0, .ref b), (1, .ref x1), (2, .ref x2), (3, .ref x3), (4, .int x4)] → W p l e R s m args below meth c H locs cells slots Q (F0 m 2743 ls [])) (kR : ∀ v, y = .inr v → ∀ (pc : Nat) (H : Heap) (locs : List Loc) (ls : Array Slot) (cells slots : Nat), cells ≤ kc + 1 → slots ≤ ks + 6 → decode cL_law_ pc = .ok (.ireturn, 1) → ∀ {mm1 : Mem}, wS E s mm1 H locs → W p l e R s m args below meth c H locs cells slots Q (F0 m pc ls [.int v])) : ∀ (H : Heap) (locs : List Loc) (ls : Array Slot) (cells slots : Nat), cells ≤ kc → slots ≤ ks → wS E s mm H locs → lv_has ls 8 [(0, .ref b), (1, .ref x1), (2, .ref x2), (3, .ref x3), (4, .int x4)] → W p l e R s m args below meth c H locs cells slots Q (F0 m 461 ls []) := by
  intro H locs ls cells slots hcc hcs hS hl
  have hx := X.1
  have hb := X.2.1
  unfold fLc_4 at hf
  refine lv_aload_n hx hb dL_law__461 rfl (lv_at hl 1 rfl) ?_
  refine lv_aload_n hx hb dL_law__462 rfl (lv_at hl 0 rfl) ?_
  refine lv_iload hx hb dL_law__463 (lv_at hl 4 rfl) ?_
  refine lv_iconst (v := 1) hx hb dL_law__465 (by decide) ?_
  refine lv_iadd hx hb dL_law__466 ?_
  obtain ⟨v1, h1, hf⟩ := bs hf
  refine am_scr X hX hS h1 dL_law__467 ?_
  refine lv_aload_n hx hb dL_law__468 rfl (lv_at hl 3 rfl) ?_
  obtain ⟨v2, m3, h1, hf⟩ := bs2 hf
  refine am_cH (As := [.ref x1, .int v1, .ref x3]) X (hml.trans hl.1.symm) hS (cL_book_ok (l := l) (E := E) hl0 h1) mh_144 ⟨Nat.le_trans (by decide) hR.1, Nat.le_trans (by decide) hR.2⟩ ⟨by omega, by omega⟩ rfl rfl (Nat.le_of_ble_eq_true rfl) dL_law__469 (fun H locs hS => ?_)
  refine lv_topi (fun x5_4 e1 => ?_)
  have hf := lt1_n e1 hf
  refine lv_istore (lv' := [(5, .int x5_4), (0, .ref b), (1, .ref x1), (2, .ref x2), (3, .ref x3), (4, .int x4)]) hx hb dL_law__472 hl (by decide) rfl (fun ls hl => ?_)
  refine lv_aload_n hx hb dL_law__474 rfl (lv_at hl 3 rfl) ?_
  refine lv_aload_n hx hb dL_law__475 rfl (lv_at hl 1 rfl) ?_
  refine lv_iload hx hb dL_law__476 (lv_at hl 5 rfl) ?_
  refine lv_iconst (v := 1) hx hb dL_law__478 (by decide) ?_
  refine lv_iadd hx hb dL_law__479 ?_
  obtain ⟨v5, h1, hf⟩ := bs hf
  refine am_scr X hX hS h1 dL_law__480 ?_
  obtain ⟨u0, h0, hf⟩ := bs hf
  obtain ⟨_, hrc⟩ := isO_n h0
  obtain ⟨v6, m7, h1, hf⟩ := bs2 hf
  refine am_endi hS (am_runV (As := [.int v5]) X (hml.trans hl.1.symm) hS (cX12_book_ok (l := l) (E := E) h1) mv_L_146 hrc rfl ⟨Nat.le_trans (by decide) hR.1, Nat.le_trans (by decide) hR.2⟩ ⟨by omega, by omega⟩ rfl rfl (Nat.le_of_ble_eq_true rfl) dL_law__481) (fun H locs hS => ?_)
  refine lv_topi (fun x6_8 e1 => ?_)
  have hf := lt1_n e1 hf
  refine lv_istore (lv' := [(6, .int x6_8), (5, .int x5_4), (0, .ref b), (1, .ref x1), (2, .ref x2), (3, .ref x3), (4, .int x4)]) hx hb dL_law__484 hl (by decide) rfl (fun ls hl => ?_)
  refine lv_aload_n hx hb dL_law__486 rfl (lv_at hl 4 rfl) ?_
  obtain ⟨u0, h0, hf⟩ := bs hf
  obtain ⟨_, hrc⟩ := isO_n h0
  obtain ⟨v9, h1, hf⟩ := bs hf
  refine am_endi hS (am_runV (As := []) X (hml.trans hl.1.symm) hS (cX12_thrown_ok (l := l) (E := E) h1) mv_L_134 hrc rfl ⟨Nat.le_trans (by decide) hR.1, Nat.le_trans (by decide) hR.2⟩ ⟨by omega, by omega⟩ rfl rfl (Nat.le_of_ble_eq_true rfl) dL_law__487) (fun H locs hS => ?_)
  refine lv_iload hx hb dL_law__490 (lv_at hl 1 rfl) ?_
  refine lv_icmp_eq (tgt := 497) hx hb dL_law__492 (by decide) (fun q10 => ?_) (fun q10 => ?_)
  · have hf := ifp hf q10
    refine lv_iload hx hb dL_law__497 (lv_at hl 1 rfl) ?_
    refine lv_if_ne (tgt := 514) hx hb dL_law__499 (by decide) (fun q11 => ?_) (fun q11 => ?_)
    · have hf := ifn hf q11
      refine lv_goto (tgt := 2743) hx hb dL_law__514 (by decide) ?_
      exact kN _ (Option.some.inj hf).symm H locs ls _ _ (by omega) (by omega) hS (lv_sub hl [2, 3, 4, 5, 6] rfl)
    · have hf := ifp hf q11
      refine lv_aload_n hx hb dL_law__502 rfl (lv_at hl 5 rfl) ?_
      refine lv_iconst (v := 0) hx hb dL_law__503 (by decide) ?_
      obtain ⟨v12, h1, hf⟩ := bs hf
      refine am_lld X hS h1 dL_law__504 ?_
      refine lv_iload hx hb dL_law__505 (lv_at hl 0 rfl) ?_
      refine lv_i2l (v := ((x6_8).toInt64)) hx hb dL_law__507 rfl ?_
      refine W.lcmp hx hb dL_law__508 ?_
      refine lv_if_eq (tgt := 514) hx hb dL_law__509 (by decide) (fun q13 => ?_) (fun q13 => ?_)
      · have hf := ifp hf q13
        refine lv_goto (tgt := 2743) hx hb dL_law__514 (by decide) ?_
        exact kN _ (Option.some.inj hf).symm H locs ls _ _ (by omega) (by omega) hS (lv_sub hl [2, 3, 4, 5, 6] rfl)
      · have hf := ifn hf q13
        refine lv_iconst (v := 0) hx hb dL_law__512 (by decide) ?_
        exact kR _ (Option.some.inj hf).symm _ H locs ls _ _ (by omega) (by omega) dL_law__513 hS
  · have hf := ifn hf q10
    refine lv_iconst (v := 0) hx hb dL_law__495 (by decide) ?_
    exact kR _ (Option.some.inj hf).symm _ H locs ls _ _ (by omega) (by omega) dL_law__496 hS
set_option maxHeartbeats 4000000 in
set_option maxRecDepth 100000 in
theorem wLc_5 {p : Program} {l : Launch} {e : Env} {R : Room} {s : State} {m : MethodId} {args : Array Value} {below : List Frame} {meth : Method} {c : Code} {Q : State → Prop} {E : Ev} {b L : Nat} {xs : Nat → Int32} (hl0 : l.stackTraces = false) (X : Cx p s m args c cL_law_ RL E) (hX : Scr E s b L xs) (hml : c.maxLocals = 8) (hR : 400 ≤ R.frames ∧ 20000 ≤ R.locals) {x1 x2 x3 : Nat} {x4 : Int32} {mm : Mem} {y : Mem ⊕ Int32} {kc ks : Nat} (hkc : kc + 1 ≤ R.cells) (hks : ks + 6 ≤ R.slots) (hf : fLc_5 (eS E) L xs x1 x2 x3 x4 mm = some y) (kN : ∀ mm1, y = .inl mm1 → ∀ (H : Heap) (locs : List Loc) (ls : Array Slot) (cells slots : Nat), cells ≤ kc + 1 → slots ≤ ks + 6 → wS E s mm1 H locs → lv_has ls 8 [(0, .ref b), (1, .ref x1), (2, .ref x2), (3, .ref x3), (4, .int x4)] → W p l e R s m args below meth c H locs cells slots Q (F0 m 2743 ls [])) (kR : ∀ v, y = .inr v → ∀ (pc : Nat) (H : Heap) (locs : List Loc) (ls : Array Slot) (cells slots : Nat), cells ≤ kc + 1 → slots ≤ ks + 6 → decode cL_law_ pc = .ok (.ireturn, 1) → ∀ {mm1 : Mem}, wS E s mm1 H locs → W p l e R s m args below meth c H locs cells slots Q (F0 m pc ls [.int v])) : ∀ (H : Heap) (locs : List Loc) (ls : Array Slot) (cells slots : Nat), cells ≤ kc → slots ≤ ks → wS E s mm H locs → lv_has ls 8 [(0, .ref b), (1, .ref x1), (2, .ref x2), (3, .ref x3), (4, .int x4)] → W p l e R s m args below meth c H locs cells slots Q (F0 m 517 ls []) := by
  intro H locs ls cells slots hcc hcs hS hl
  have hx := X.1
  have hb := X.2.1
  unfold fLc_5 at hf
  refine lv_aload_n hx hb dL_law__517 rfl (lv_at hl 1 rfl) ?_
  obtain ⟨u0, h0, hf⟩ := bs hf
  obtain ⟨_, hrc⟩ := isO_n h0
  obtain ⟨v1, h1, hf⟩ := bs hf
  refine am_endi hS (am_runV (As := []) X (hml.trans hl.1.symm) hS (cX11_fault_ok (l := l) (E := E) h1) mv_L_147 hrc rfl ⟨Nat.le_trans (by decide) hR.1, Nat.le_trans (by decide) hR.2⟩ ⟨by omega, by omega⟩ rfl rfl (Nat.le_of_ble_eq_true rfl) dL_law__518) (fun H locs hS => ?_)
  refine lv_aload_n hx hb dL_law__521 rfl (lv_at hl 2 rfl) ?_
  obtain ⟨u0, h0, hf⟩ := bs hf
  obtain ⟨_, hrc⟩ := isO_n h0
  obtain ⟨v2, m3, h1, hf⟩ := bs2 hf
  refine am_endi hS (am_runV (As := []) X (hml.trans hl.1.symm) hS (cX12_fault_ok (l := l) (E := E) h1) mv_L_150 hrc rfl ⟨Nat.le_trans (by decide) hR.1, Nat.le_trans (by decide) hR.2⟩ ⟨by omega, by omega⟩ rfl rfl (Nat.le_of_ble_eq_true rfl) dL_law__522) (fun H locs hS => ?_)
  refine lv_icmp_eq (tgt := 2743) hx hb dL_law__525 (by decide) (fun q4 => ?_) (fun q4 => ?_)
  · have hf := ifp hf q4
    exact kN _ (Option.some.inj hf).symm H locs ls _ _ (by omega) (by omega) hS (lv_sub hl [0, 1, 2, 3, 4] rfl)
  · have hf := ifn hf q4
    refine lv_iconst (v := 0) hx hb dL_law__528 (by decide) ?_
    exact kR _ (Option.some.inj hf).symm _ H locs ls _ _ (by omega) (by omega) dL_law__529 hS
set_option maxHeartbeats 4000000 in
set_option maxRecDepth 100000 in
theorem wLc_6 {p : Program} {l : Launch} {e : Env} {R : Room} {s : State} {m : MethodId} {args : Array Value} {below : List Frame} {meth : Method} {c : Code} {Q : State → Prop} {E : Ev} {b L : Nat} {xs : Nat → Int32} (hl0 : l.stackTraces = false) (X : Cx p s m args c cL_law_ RL E) (hX : Scr E s b L xs) (hml : c.maxLocals = 8) (hR : 400 ≤ R.frames ∧ 20000 ≤ R.locals) {x1 x2 x3 : Nat} {x4 : Int32} {mm : Mem} {y : Mem ⊕ Int32} {kc ks : Nat} (hkc : kc + 1 ≤ R.cells) (hks : ks + 6 ≤ R.slots) (hf : fLc_6 (eS E) L xs x1 x2 x3 x4 mm = some y) (kN : ∀ mm1, y = .inl mm1 → ∀ (H : Heap) (locs : List Loc) (ls : Array Slot) (cells slots : Nat), cells ≤ kc + 1 → slots ≤ ks + 6 → wS E s mm1 H locs → lv_has ls 8 [(0, .ref b), (1, .ref x1), (2, .ref x2), (3, .ref x3), (4, .int x4)] → W p l e R s m args below meth c H locs cells slots Q (F0 m 2743 ls [])) (kR : ∀ v, y = .inr v → ∀ (pc : Nat) (H : Heap) (locs : List Loc) (ls : Array Slot) (cells slots : Nat), cells ≤ kc + 1 → slots ≤ ks + 6 → decode cL_law_ pc = .ok (.ireturn, 1) → ∀ {mm1 : Mem}, wS E s mm1 H locs → W p l e R s m args below meth c H locs cells slots Q (F0 m pc ls [.int v])) : ∀ (H : Heap) (locs : List Loc) (ls : Array Slot) (cells slots : Nat), cells ≤ kc → slots ≤ ks → wS E s mm H locs → lv_has ls 8 [(0, .ref b), (1, .ref x1), (2, .ref x2), (3, .ref x3), (4, .int x4)] → W p l e R s m args below meth c H locs cells slots Q (F0 m 530 ls []) := by
  intro H locs ls cells slots hcc hcs hS hl
  have hx := X.1
  have hb := X.2.1
  unfold fLc_6 at hf
  refine lv_aload_n hx hb dL_law__530 rfl (lv_at hl 1 rfl) ?_
  obtain ⟨u0, h0, hf⟩ := bs hf
  obtain ⟨_, hrc⟩ := isO_n h0
  obtain ⟨v1, m2, h1, hf⟩ := bs2 hf
  refine am_endi hS (am_runV (As := []) X (hml.trans hl.1.symm) hS (cX11_undo_ok (l := l) (E := E) h1) mv_L_151 hrc rfl ⟨Nat.le_trans (by decide) hR.1, Nat.le_trans (by decide) hR.2⟩ ⟨by omega, by omega⟩ rfl rfl (Nat.le_of_ble_eq_true rfl) dL_law__531) (fun H locs hS => ?_)
  refine lv_aload_n hx hb dL_law__534 rfl (lv_at hl 2 rfl) ?_
  obtain ⟨u0, h0, hf⟩ := bs hf
  obtain ⟨_, hrc⟩ := isO_n h0
  obtain ⟨v3, m4, h1, hf⟩ := bs2 hf
  refine am_endi hS (am_runV (As := []) X (hml.trans hl.1.symm) hS (cX12_undo_ok (l := l) (E := E) h1) mv_L_154 hrc rfl ⟨Nat.le_trans (by decide) hR.1, Nat.le_trans (by decide) hR.2⟩ ⟨by omega, by omega⟩ rfl rfl (Nat.le_of_ble_eq_true rfl) dL_law__535) (fun H locs hS => ?_)
  refine lv_icmp_eq (tgt := 2743) hx hb dL_law__538 (by decide) (fun q5 => ?_) (fun q5 => ?_)
  · have hf := ifp hf q5
    exact kN _ (Option.some.inj hf).symm H locs ls _ _ (by omega) (by omega) hS (lv_sub hl [0, 1, 2, 3, 4] rfl)
  · have hf := ifn hf q5
    refine lv_iconst (v := 0) hx hb dL_law__541 (by decide) ?_
    exact kR _ (Option.some.inj hf).symm _ H locs ls _ _ (by omega) (by omega) dL_law__542 hS
set_option maxHeartbeats 4000000 in
set_option maxRecDepth 100000 in
theorem wLc_7 {p : Program} {l : Launch} {e : Env} {R : Room} {s : State} {m : MethodId} {args : Array Value} {below : List Frame} {meth : Method} {c : Code} {Q : State → Prop} {E : Ev} {b L : Nat} {xs : Nat → Int32} (hl0 : l.stackTraces = false) (X : Cx p s m args c cL_law_ RL E) (hX : Scr E s b L xs) (hml : c.maxLocals = 8) (hR : 400 ≤ R.frames ∧ 20000 ≤ R.locals) {x1 x2 x3 : Nat} {x4 : Int32} {mm : Mem} {y : Mem ⊕ Int32} {kc ks : Nat} (hkc : kc + 1 ≤ R.cells) (hks : ks + 6 ≤ R.slots) (hf : fLc_7 (eS E) L xs x1 x2 x3 x4 mm = some y) (kN : ∀ mm1, y = .inl mm1 → ∀ (H : Heap) (locs : List Loc) (ls : Array Slot) (cells slots : Nat), cells ≤ kc + 1 → slots ≤ ks + 6 → wS E s mm1 H locs → lv_has ls 8 [(0, .ref b), (1, .ref x1), (2, .ref x2), (3, .ref x3), (4, .int x4)] → W p l e R s m args below meth c H locs cells slots Q (F0 m 2743 ls [])) (kR : ∀ v, y = .inr v → ∀ (pc : Nat) (H : Heap) (locs : List Loc) (ls : Array Slot) (cells slots : Nat), cells ≤ kc + 1 → slots ≤ ks + 6 → decode cL_law_ pc = .ok (.ireturn, 1) → ∀ {mm1 : Mem}, wS E s mm1 H locs → W p l e R s m args below meth c H locs cells slots Q (F0 m pc ls [.int v])) : ∀ (H : Heap) (locs : List Loc) (ls : Array Slot) (cells slots : Nat), cells ≤ kc → slots ≤ ks → wS E s mm H locs → lv_has ls 8 [(0, .ref b), (1, .ref x1), (2, .ref x2), (3, .ref x3), (4, .int x4)] → W p l e R s m args below meth c H locs cells slots Q (F0 m 543 ls []) := by
  intro H locs ls cells slots hcc hcs hS hl
  have hx := X.1
  have hb := X.2.1
  unfold fLc_7 at hf
  refine lv_aload_n hx hb dL_law__543 rfl (lv_at hl 1 rfl) ?_
  refine lv_aload_n hx hb dL_law__544 rfl (lv_at hl 0 rfl) ?_
  refine lv_iload hx hb dL_law__545 (lv_at hl 4 rfl) ?_
  refine lv_iconst (v := 1) hx hb dL_law__547 (by decide) ?_
  refine lv_iadd hx hb dL_law__548 ?_
  obtain ⟨v1, h1, hf⟩ := bs hf
  refine am_scr X hX hS h1 dL_law__549 ?_
  refine lv_aload_n hx hb dL_law__550 rfl (lv_at hl 3 rfl) ?_
  obtain ⟨v2, m3, h1, hf⟩ := bs2 hf
  refine am_cH (As := [.ref x1, .int v1, .ref x3]) X (hml.trans hl.1.symm) hS (cL_told_ok (l := l) (E := E) hl0 h1) mh_155 ⟨Nat.le_trans (by decide) hR.1, Nat.le_trans (by decide) hR.2⟩ ⟨by omega, by omega⟩ rfl rfl (Nat.le_of_ble_eq_true rfl) dL_law__551 (fun H locs hS => ?_)
  refine lv_topi (fun x5_4 e1 => ?_)
  have hf := lt1_n e1 hf
  refine lv_istore (lv' := [(5, .int x5_4), (0, .ref b), (1, .ref x1), (2, .ref x2), (3, .ref x3), (4, .int x4)]) hx hb dL_law__554 hl (by decide) rfl (fun ls hl => ?_)
  refine lv_aload_n hx hb dL_law__556 rfl (lv_at hl 3 rfl) ?_
  refine lv_aload_n hx hb dL_law__557 rfl (lv_at hl 1 rfl) ?_
  refine lv_iload hx hb dL_law__558 (lv_at hl 5 rfl) ?_
  refine lv_iconst (v := 1) hx hb dL_law__560 (by decide) ?_
  refine lv_iadd hx hb dL_law__561 ?_
  obtain ⟨v5, h1, hf⟩ := bs hf
  refine am_scr X hX hS h1 dL_law__562 ?_
  obtain ⟨u0, h0, hf⟩ := bs hf
  obtain ⟨_, hrc⟩ := isO_n h0
  obtain ⟨v6, m7, h1, hf⟩ := bs2 hf
  refine am_endi hS (am_runV (As := [.int v5]) X (hml.trans hl.1.symm) hS (cX12_told_ok (l := l) (E := E) h1) mv_L_157 hrc rfl ⟨Nat.le_trans (by decide) hR.1, Nat.le_trans (by decide) hR.2⟩ ⟨by omega, by omega⟩ rfl rfl (Nat.le_of_ble_eq_true rfl) dL_law__563) (fun H locs hS => ?_)
  refine lv_topi (fun x6_8 e1 => ?_)
  have hf := lt1_n e1 hf
  refine lv_istore (lv' := [(6, .int x6_8), (5, .int x5_4), (0, .ref b), (1, .ref x1), (2, .ref x2), (3, .ref x3), (4, .int x4)]) hx hb dL_law__566 hl (by decide) rfl (fun ls hl => ?_)
  refine lv_aload_n hx hb dL_law__568 rfl (lv_at hl 4 rfl) ?_
  obtain ⟨u0, h0, hf⟩ := bs hf
  obtain ⟨_, hrc⟩ := isO_n h0
  obtain ⟨v9, h1, hf⟩ := bs hf
  refine am_endi hS (am_runV (As := []) X (hml.trans hl.1.symm) hS (cX12_thrown_ok (l := l) (E := E) h1) mv_L_134 hrc rfl ⟨Nat.le_trans (by decide) hR.1, Nat.le_trans (by decide) hR.2⟩ ⟨by omega, by omega⟩ rfl rfl (Nat.le_of_ble_eq_true rfl) dL_law__569) (fun H locs hS => ?_)
  refine lv_iload hx hb dL_law__572 (lv_at hl 1 rfl) ?_
  refine lv_icmp_eq (tgt := 579) hx hb dL_law__574 (by decide) (fun q10 => ?_) (fun q10 => ?_)
  · have hf := ifp hf q10
    refine lv_iload hx hb dL_law__579 (lv_at hl 1 rfl) ?_
    refine lv_if_ne (tgt := 596) hx hb dL_law__581 (by decide) (fun q11 => ?_) (fun q11 => ?_)
    · have hf := ifn hf q11
      refine lv_goto (tgt := 2743) hx hb dL_law__596 (by decide) ?_
      exact kN _ (Option.some.inj hf).symm H locs ls _ _ (by omega) (by omega) hS (lv_sub hl [2, 3, 4, 5, 6] rfl)
    · have hf := ifp hf q11
      refine lv_aload_n hx hb dL_law__584 rfl (lv_at hl 5 rfl) ?_
      refine lv_iconst (v := 0) hx hb dL_law__585 (by decide) ?_
      obtain ⟨v12, h1, hf⟩ := bs hf
      refine am_lld X hS h1 dL_law__586 ?_
      refine lv_iload hx hb dL_law__587 (lv_at hl 0 rfl) ?_
      refine lv_i2l (v := ((x6_8).toInt64)) hx hb dL_law__589 rfl ?_
      refine W.lcmp hx hb dL_law__590 ?_
      refine lv_if_eq (tgt := 596) hx hb dL_law__591 (by decide) (fun q13 => ?_) (fun q13 => ?_)
      · have hf := ifp hf q13
        refine lv_goto (tgt := 2743) hx hb dL_law__596 (by decide) ?_
        exact kN _ (Option.some.inj hf).symm H locs ls _ _ (by omega) (by omega) hS (lv_sub hl [2, 3, 4, 5, 6] rfl)
      · have hf := ifn hf q13
        refine lv_iconst (v := 0) hx hb dL_law__594 (by decide) ?_
        exact kR _ (Option.some.inj hf).symm _ H locs ls _ _ (by omega) (by omega) dL_law__595 hS
  · have hf := ifn hf q10
    refine lv_iconst (v := 0) hx hb dL_law__577 (by decide) ?_
    exact kR _ (Option.some.inj hf).symm _ H locs ls _ _ (by omega) (by omega) dL_law__578 hS
set_option maxHeartbeats 4000000 in
set_option maxRecDepth 100000 in
theorem wLc_8 {p : Program} {l : Launch} {e : Env} {R : Room} {s : State} {m : MethodId} {args : Array Value} {below : List Frame} {meth : Method} {c : Code} {Q : State → Prop} {E : Ev} {b L : Nat} {xs : Nat → Int32} (hl0 : l.stackTraces = false) (X : Cx p s m args c cL_law_ RL E) (hX : Scr E s b L xs) (hml : c.maxLocals = 8) (hR : 400 ≤ R.frames ∧ 20000 ≤ R.locals) {x1 x2 x3 : Nat} {x4 : Int32} {mm : Mem} {y : Mem ⊕ Int32} {kc ks : Nat} (hkc : kc + 1 ≤ R.cells) (hks : ks + 6 ≤ R.slots) (hf : fLc_8 (eS E) L xs x1 x2 x3 x4 mm = some y) (kN : ∀ mm1, y = .inl mm1 → ∀ (H : Heap) (locs : List Loc) (ls : Array Slot) (cells slots : Nat), cells ≤ kc + 1 → slots ≤ ks + 6 → wS E s mm1 H locs → lv_has ls 8 [(0, .ref b), (1, .ref x1), (2, .ref x2), (3, .ref x3), (4, .int x4)] → W p l e R s m args below meth c H locs cells slots Q (F0 m 2743 ls [])) (kR : ∀ v, y = .inr v → ∀ (pc : Nat) (H : Heap) (locs : List Loc) (ls : Array Slot) (cells slots : Nat), cells ≤ kc + 1 → slots ≤ ks + 6 → decode cL_law_ pc = .ok (.ireturn, 1) → ∀ {mm1 : Mem}, wS E s mm1 H locs → W p l e R s m args below meth c H locs cells slots Q (F0 m pc ls [.int v])) : ∀ (H : Heap) (locs : List Loc) (ls : Array Slot) (cells slots : Nat), cells ≤ kc → slots ≤ ks → wS E s mm H locs → lv_has ls 8 [(0, .ref b), (1, .ref x1), (2, .ref x2), (3, .ref x3), (4, .int x4)] → W p l e R s m args below meth c H locs cells slots Q (F0 m 599 ls []) := by
  intro H locs ls cells slots hcc hcs hS hl
  have hx := X.1
  have hb := X.2.1
  unfold fLc_8 at hf
  refine lv_aload_n hx hb dL_law__599 rfl (lv_at hl 1 rfl) ?_
  refine lv_aload_n hx hb dL_law__600 rfl (lv_at hl 0 rfl) ?_
  refine lv_iload hx hb dL_law__601 (lv_at hl 4 rfl) ?_
  refine lv_iconst (v := 1) hx hb dL_law__603 (by decide) ?_
  refine lv_iadd hx hb dL_law__604 ?_
  obtain ⟨v1, h1, hf⟩ := bs hf
  refine am_scr X hX hS h1 dL_law__605 ?_
  refine lv_aload_n hx hb dL_law__606 rfl (lv_at hl 0 rfl) ?_
  refine lv_iload hx hb dL_law__607 (lv_at hl 4 rfl) ?_
  refine lv_iconst (v := 2) hx hb dL_law__609 (by decide) ?_
  refine lv_iadd hx hb dL_law__610 ?_
  obtain ⟨v2, h1, hf⟩ := bs hf
  refine am_scr X hX hS h1 dL_law__611 ?_
  refine lv_aload_n hx hb dL_law__612 rfl (lv_at hl 3 rfl) ?_
  obtain ⟨v3, m4, h1, hf⟩ := bs2 hf
  refine am_cH (As := [.ref x1, .int v1, .int v2, .ref x3]) X (hml.trans hl.1.symm) hS (cL_fellow_ok (l := l) (E := E) hl0 h1) mh_158 ⟨Nat.le_trans (by decide) hR.1, Nat.le_trans (by decide) hR.2⟩ ⟨by omega, by omega⟩ rfl rfl (Nat.le_of_ble_eq_true rfl) dL_law__613 (fun H locs hS => ?_)
  refine lv_topi (fun x5_5 e1 => ?_)
  have hf := lt1_n e1 hf
  refine lv_istore (lv' := [(5, .int x5_5), (0, .ref b), (1, .ref x1), (2, .ref x2), (3, .ref x3), (4, .int x4)]) hx hb dL_law__616 hl (by decide) rfl (fun ls hl => ?_)
  refine lv_aload_n hx hb dL_law__618 rfl (lv_at hl 3 rfl) ?_
  refine lv_aload_n hx hb dL_law__619 rfl (lv_at hl 1 rfl) ?_
  refine lv_iload hx hb dL_law__620 (lv_at hl 5 rfl) ?_
  refine lv_iconst (v := 1) hx hb dL_law__622 (by decide) ?_
  refine lv_iadd hx hb dL_law__623 ?_
  obtain ⟨v6, h1, hf⟩ := bs hf
  refine am_scr X hX hS h1 dL_law__624 ?_
  refine lv_aload_n hx hb dL_law__625 rfl (lv_at hl 1 rfl) ?_
  refine lv_iload hx hb dL_law__626 (lv_at hl 5 rfl) ?_
  refine lv_iconst (v := 2) hx hb dL_law__628 (by decide) ?_
  refine lv_iadd hx hb dL_law__629 ?_
  obtain ⟨v7, h1, hf⟩ := bs hf
  refine am_scr X hX hS h1 dL_law__630 ?_
  obtain ⟨u0, h0, hf⟩ := bs hf
  obtain ⟨_, hrc⟩ := isO_n h0
  obtain ⟨v8, m9, h1, hf⟩ := bs2 hf
  refine am_endi hS (am_runV (As := [.int v6, .int v7]) X (hml.trans hl.1.symm) hS (cX12_fellow_ok (l := l) (E := E) h1) mv_L_161 hrc rfl ⟨Nat.le_trans (by decide) hR.1, Nat.le_trans (by decide) hR.2⟩ ⟨by omega, by omega⟩ rfl rfl (Nat.le_of_ble_eq_true rfl) dL_law__631) (fun H locs hS => ?_)
  refine lv_topi (fun x6_10 e1 => ?_)
  have hf := lt1_n e1 hf
  refine lv_istore (lv' := [(6, .int x6_10), (5, .int x5_5), (0, .ref b), (1, .ref x1), (2, .ref x2), (3, .ref x3), (4, .int x4)]) hx hb dL_law__634 hl (by decide) rfl (fun ls hl => ?_)
  refine lv_aload_n hx hb dL_law__636 rfl (lv_at hl 4 rfl) ?_
  obtain ⟨u0, h0, hf⟩ := bs hf
  obtain ⟨_, hrc⟩ := isO_n h0
  obtain ⟨v11, h1, hf⟩ := bs hf
  refine am_endi hS (am_runV (As := []) X (hml.trans hl.1.symm) hS (cX12_thrown_ok (l := l) (E := E) h1) mv_L_134 hrc rfl ⟨Nat.le_trans (by decide) hR.1, Nat.le_trans (by decide) hR.2⟩ ⟨by omega, by omega⟩ rfl rfl (Nat.le_of_ble_eq_true rfl) dL_law__637) (fun H locs hS => ?_)
  refine lv_iload hx hb dL_law__640 (lv_at hl 1 rfl) ?_
  refine lv_icmp_eq (tgt := 647) hx hb dL_law__642 (by decide) (fun q12 => ?_) (fun q12 => ?_)
  · have hf := ifp hf q12
    refine lv_iload hx hb dL_law__647 (lv_at hl 1 rfl) ?_
    refine lv_if_ne (tgt := 664) hx hb dL_law__649 (by decide) (fun q13 => ?_) (fun q13 => ?_)
    · have hf := ifn hf q13
      refine lv_goto (tgt := 2743) hx hb dL_law__664 (by decide) ?_
      exact kN _ (Option.some.inj hf).symm H locs ls _ _ (by omega) (by omega) hS (lv_sub hl [2, 3, 4, 5, 6] rfl)
    · have hf := ifp hf q13
      refine lv_aload_n hx hb dL_law__652 rfl (lv_at hl 5 rfl) ?_
      refine lv_iconst (v := 0) hx hb dL_law__653 (by decide) ?_
      obtain ⟨v14, h1, hf⟩ := bs hf
      refine am_lld X hS h1 dL_law__654 ?_
      refine lv_iload hx hb dL_law__655 (lv_at hl 0 rfl) ?_
      refine lv_i2l (v := ((x6_10).toInt64)) hx hb dL_law__657 rfl ?_
      refine W.lcmp hx hb dL_law__658 ?_
      refine lv_if_eq (tgt := 664) hx hb dL_law__659 (by decide) (fun q15 => ?_) (fun q15 => ?_)
      · have hf := ifp hf q15
        refine lv_goto (tgt := 2743) hx hb dL_law__664 (by decide) ?_
        exact kN _ (Option.some.inj hf).symm H locs ls _ _ (by omega) (by omega) hS (lv_sub hl [2, 3, 4, 5, 6] rfl)
      · have hf := ifn hf q15
        refine lv_iconst (v := 0) hx hb dL_law__662 (by decide) ?_
        exact kR _ (Option.some.inj hf).symm _ H locs ls _ _ (by omega) (by omega) dL_law__663 hS
  · have hf := ifn hf q12
    refine lv_iconst (v := 0) hx hb dL_law__645 (by decide) ?_
    exact kR _ (Option.some.inj hf).symm _ H locs ls _ _ (by omega) (by omega) dL_law__646 hS
set_option maxHeartbeats 4000000 in
set_option maxRecDepth 100000 in
theorem wLc_9 {p : Program} {l : Launch} {e : Env} {R : Room} {s : State} {m : MethodId} {args : Array Value} {below : List Frame} {meth : Method} {c : Code} {Q : State → Prop} {E : Ev} {b L : Nat} {xs : Nat → Int32} (hl0 : l.stackTraces = false) (X : Cx p s m args c cL_law_ RL E) (hX : Scr E s b L xs) (hml : c.maxLocals = 8) (hR : 400 ≤ R.frames ∧ 20000 ≤ R.locals) {x1 x2 x3 : Nat} {x4 : Int32} {mm : Mem} {y : Mem ⊕ Int32} {kc ks : Nat} (hkc : kc + 1 ≤ R.cells) (hks : ks + 6 ≤ R.slots) (hf : fLc_9 (eS E) L xs x1 x2 x3 x4 mm = some y) (kN : ∀ mm1, y = .inl mm1 → ∀ (H : Heap) (locs : List Loc) (ls : Array Slot) (cells slots : Nat), cells ≤ kc + 1 → slots ≤ ks + 6 → wS E s mm1 H locs → lv_has ls 8 [(0, .ref b), (1, .ref x1), (2, .ref x2), (3, .ref x3), (4, .int x4)] → W p l e R s m args below meth c H locs cells slots Q (F0 m 2743 ls [])) (kR : ∀ v, y = .inr v → ∀ (pc : Nat) (H : Heap) (locs : List Loc) (ls : Array Slot) (cells slots : Nat), cells ≤ kc + 1 → slots ≤ ks + 6 → decode cL_law_ pc = .ok (.ireturn, 1) → ∀ {mm1 : Mem}, wS E s mm1 H locs → W p l e R s m args below meth c H locs cells slots Q (F0 m pc ls [.int v])) : ∀ (H : Heap) (locs : List Loc) (ls : Array Slot) (cells slots : Nat), cells ≤ kc → slots ≤ ks → wS E s mm H locs → lv_has ls 8 [(0, .ref b), (1, .ref x1), (2, .ref x2), (3, .ref x3), (4, .int x4)] → W p l e R s m args below meth c H locs cells slots Q (F0 m 667 ls []) := by
  intro H locs ls cells slots hcc hcs hS hl
  have hx := X.1
  have hb := X.2.1
  unfold fLc_9 at hf
  refine lv_aload_n hx hb dL_law__667 rfl (lv_at hl 1 rfl) ?_
  refine lv_aload_n hx hb dL_law__668 rfl (lv_at hl 0 rfl) ?_
  refine lv_iload hx hb dL_law__669 (lv_at hl 4 rfl) ?_
  refine lv_iconst (v := 1) hx hb dL_law__671 (by decide) ?_
  refine lv_iadd hx hb dL_law__672 ?_
  obtain ⟨v1, h1, hf⟩ := bs hf
  refine am_scr X hX hS h1 dL_law__673 ?_
  refine lv_aload_n hx hb dL_law__674 rfl (lv_at hl 0 rfl) ?_
  refine lv_iload hx hb dL_law__675 (lv_at hl 4 rfl) ?_
  refine lv_iconst (v := 2) hx hb dL_law__677 (by decide) ?_
  refine lv_iadd hx hb dL_law__678 ?_
  obtain ⟨v2, h1, hf⟩ := bs hf
  refine am_scr X hX hS h1 dL_law__679 ?_
  refine lv_aload_n hx hb dL_law__680 rfl (lv_at hl 0 rfl) ?_
  refine lv_iload hx hb dL_law__681 (lv_at hl 4 rfl) ?_
  refine lv_iconst (v := 3) hx hb dL_law__683 (by decide) ?_
  refine lv_iadd hx hb dL_law__684 ?_
  obtain ⟨v3, h1, hf⟩ := bs hf
  refine am_scr X hX hS h1 dL_law__685 ?_
  refine lv_aload_n hx hb dL_law__686 rfl (lv_at hl 3 rfl) ?_
  obtain ⟨v4, m5, h1, hf⟩ := bs2 hf
  refine am_cH (As := [.ref x1, .int v1, .int v2, .int v3, .ref x3]) X (hml.trans hl.1.symm) hS (cL_part_ok (l := l) (E := E) hl0 h1) mh_162 ⟨Nat.le_trans (by decide) hR.1, Nat.le_trans (by decide) hR.2⟩ ⟨by omega, by omega⟩ rfl rfl (Nat.le_of_ble_eq_true rfl) dL_law__687 (fun H locs hS => ?_)
  refine lv_topi (fun x5_6 e1 => ?_)
  have hf := lt1_n e1 hf
  refine lv_istore (lv' := [(5, .int x5_6), (0, .ref b), (1, .ref x1), (2, .ref x2), (3, .ref x3), (4, .int x4)]) hx hb dL_law__690 hl (by decide) rfl (fun ls hl => ?_)
  refine lv_aload_n hx hb dL_law__692 rfl (lv_at hl 3 rfl) ?_
  refine lv_aload_n hx hb dL_law__693 rfl (lv_at hl 1 rfl) ?_
  refine lv_iload hx hb dL_law__694 (lv_at hl 5 rfl) ?_
  refine lv_iconst (v := 1) hx hb dL_law__696 (by decide) ?_
  refine lv_iadd hx hb dL_law__697 ?_
  obtain ⟨v7, h1, hf⟩ := bs hf
  refine am_scr X hX hS h1 dL_law__698 ?_
  refine lv_aload_n hx hb dL_law__699 rfl (lv_at hl 1 rfl) ?_
  refine lv_iload hx hb dL_law__700 (lv_at hl 5 rfl) ?_
  refine lv_iconst (v := 2) hx hb dL_law__702 (by decide) ?_
  refine lv_iadd hx hb dL_law__703 ?_
  obtain ⟨v8, h1, hf⟩ := bs hf
  refine am_scr X hX hS h1 dL_law__704 ?_
  refine lv_aload_n hx hb dL_law__705 rfl (lv_at hl 1 rfl) ?_
  refine lv_iload hx hb dL_law__706 (lv_at hl 5 rfl) ?_
  refine lv_iconst (v := 3) hx hb dL_law__708 (by decide) ?_
  refine lv_iadd hx hb dL_law__709 ?_
  obtain ⟨v9, h1, hf⟩ := bs hf
  refine am_scr X hX hS h1 dL_law__710 ?_
  obtain ⟨u0, h0, hf⟩ := bs hf
  obtain ⟨_, hrc⟩ := isO_n h0
  obtain ⟨v10, m11, h1, hf⟩ := bs2 hf
  refine am_endi hS (am_runV (As := [.int v7, .int v8, .int v9]) X (hml.trans hl.1.symm) hS (cX12_part_ok (l := l) (E := E) h1) mv_L_165 hrc rfl ⟨Nat.le_trans (by decide) hR.1, Nat.le_trans (by decide) hR.2⟩ ⟨by omega, by omega⟩ rfl rfl (Nat.le_of_ble_eq_true rfl) dL_law__711) (fun H locs hS => ?_)
  refine lv_topi (fun x6_12 e1 => ?_)
  have hf := lt1_n e1 hf
  refine lv_istore (lv' := [(6, .int x6_12), (5, .int x5_6), (0, .ref b), (1, .ref x1), (2, .ref x2), (3, .ref x3), (4, .int x4)]) hx hb dL_law__714 hl (by decide) rfl (fun ls hl => ?_)
  refine lv_aload_n hx hb dL_law__716 rfl (lv_at hl 4 rfl) ?_
  obtain ⟨u0, h0, hf⟩ := bs hf
  obtain ⟨_, hrc⟩ := isO_n h0
  obtain ⟨v13, h1, hf⟩ := bs hf
  refine am_endi hS (am_runV (As := []) X (hml.trans hl.1.symm) hS (cX12_thrown_ok (l := l) (E := E) h1) mv_L_134 hrc rfl ⟨Nat.le_trans (by decide) hR.1, Nat.le_trans (by decide) hR.2⟩ ⟨by omega, by omega⟩ rfl rfl (Nat.le_of_ble_eq_true rfl) dL_law__717) (fun H locs hS => ?_)
  refine lv_iload hx hb dL_law__720 (lv_at hl 1 rfl) ?_
  refine lv_icmp_eq (tgt := 727) hx hb dL_law__722 (by decide) (fun q14 => ?_) (fun q14 => ?_)
  · have hf := ifp hf q14
    refine lv_iload hx hb dL_law__727 (lv_at hl 1 rfl) ?_
    refine lv_if_ne (tgt := 744) hx hb dL_law__729 (by decide) (fun q15 => ?_) (fun q15 => ?_)
    · have hf := ifn hf q15
      refine lv_goto (tgt := 2743) hx hb dL_law__744 (by decide) ?_
      exact kN _ (Option.some.inj hf).symm H locs ls _ _ (by omega) (by omega) hS (lv_sub hl [2, 3, 4, 5, 6] rfl)
    · have hf := ifp hf q15
      refine lv_aload_n hx hb dL_law__732 rfl (lv_at hl 5 rfl) ?_
      refine lv_iconst (v := 0) hx hb dL_law__733 (by decide) ?_
      obtain ⟨v16, h1, hf⟩ := bs hf
      refine am_lld X hS h1 dL_law__734 ?_
      refine lv_iload hx hb dL_law__735 (lv_at hl 0 rfl) ?_
      refine lv_i2l (v := ((x6_12).toInt64)) hx hb dL_law__737 rfl ?_
      refine W.lcmp hx hb dL_law__738 ?_
      refine lv_if_eq (tgt := 744) hx hb dL_law__739 (by decide) (fun q17 => ?_) (fun q17 => ?_)
      · have hf := ifp hf q17
        refine lv_goto (tgt := 2743) hx hb dL_law__744 (by decide) ?_
        exact kN _ (Option.some.inj hf).symm H locs ls _ _ (by omega) (by omega) hS (lv_sub hl [2, 3, 4, 5, 6] rfl)
      · have hf := ifn hf q17
        refine lv_iconst (v := 0) hx hb dL_law__742 (by decide) ?_
        exact kR _ (Option.some.inj hf).symm _ H locs ls _ _ (by omega) (by omega) dL_law__743 hS
  · have hf := ifn hf q14
    refine lv_iconst (v := 0) hx hb dL_law__725 (by decide) ?_
    exact kR _ (Option.some.inj hf).symm _ H locs ls _ _ (by omega) (by omega) dL_law__726 hS
set_option maxHeartbeats 4000000 in
set_option maxRecDepth 100000 in
theorem wLc_10 {p : Program} {l : Launch} {e : Env} {R : Room} {s : State} {m : MethodId} {args : Array Value} {below : List Frame} {meth : Method} {c : Code} {Q : State → Prop} {E : Ev} {b L : Nat} {xs : Nat → Int32} (hl0 : l.stackTraces = false) (X : Cx p s m args c cL_law_ RL E) (hX : Scr E s b L xs) (hml : c.maxLocals = 8) (hR : 400 ≤ R.frames ∧ 20000 ≤ R.locals) {x1 x2 x3 : Nat} {x4 : Int32} {mm : Mem} {y : Mem ⊕ Int32} {kc ks : Nat} (hkc : kc + 1 ≤ R.cells) (hks : ks + 6 ≤ R.slots) (hf : fLc_10 (eS E) L xs x1 x2 x3 x4 mm = some y) (kN : ∀ mm1, y = .inl mm1 → ∀ (H : Heap) (locs : List Loc) (ls : Array Slot) (cells slots : Nat), cells ≤ kc + 1 → slots ≤ ks + 6 → wS E s mm1 H locs → lv_has ls 8 [(0, .ref b), (1, .ref x1), (2, .ref x2), (3, .ref x3), (4, .int x4)] → W p l e R s m args below meth c H locs cells slots Q (F0 m 2743 ls [])) (kR : ∀ v, y = .inr v → ∀ (pc : Nat) (H : Heap) (locs : List Loc) (ls : Array Slot) (cells slots : Nat), cells ≤ kc + 1 → slots ≤ ks + 6 → decode cL_law_ pc = .ok (.ireturn, 1) → ∀ {mm1 : Mem}, wS E s mm1 H locs → W p l e R s m args below meth c H locs cells slots Q (F0 m pc ls [.int v])) : ∀ (H : Heap) (locs : List Loc) (ls : Array Slot) (cells slots : Nat), cells ≤ kc → slots ≤ ks → wS E s mm H locs → lv_has ls 8 [(0, .ref b), (1, .ref x1), (2, .ref x2), (3, .ref x3), (4, .int x4)] → W p l e R s m args below meth c H locs cells slots Q (F0 m 747 ls []) := by
  intro H locs ls cells slots hcc hcs hS hl
  have hx := X.1
  have hb := X.2.1
  unfold fLc_10 at hf
  refine lv_aload_n hx hb dL_law__747 rfl (lv_at hl 1 rfl) ?_
  refine lv_aload_n hx hb dL_law__748 rfl (lv_at hl 0 rfl) ?_
  refine lv_iload hx hb dL_law__749 (lv_at hl 4 rfl) ?_
  refine lv_iconst (v := 1) hx hb dL_law__751 (by decide) ?_
  refine lv_iadd hx hb dL_law__752 ?_
  obtain ⟨v1, h1, hf⟩ := bs hf
  refine am_scr X hX hS h1 dL_law__753 ?_
  refine lv_aload_n hx hb dL_law__754 rfl (lv_at hl 0 rfl) ?_
  refine lv_iload hx hb dL_law__755 (lv_at hl 4 rfl) ?_
  refine lv_iconst (v := 2) hx hb dL_law__757 (by decide) ?_
  refine lv_iadd hx hb dL_law__758 ?_
  obtain ⟨v2, h1, hf⟩ := bs hf
  refine am_scr X hX hS h1 dL_law__759 ?_
  refine lv_aload_n hx hb dL_law__760 rfl (lv_at hl 3 rfl) ?_
  obtain ⟨v3, m4, h1, hf⟩ := bs2 hf
  refine am_cH (As := [.ref x1, .int v1, .int v2, .ref x3]) X (hml.trans hl.1.symm) hS (cL_glass_ok (l := l) (E := E) hl0 h1) mh_166 ⟨Nat.le_trans (by decide) hR.1, Nat.le_trans (by decide) hR.2⟩ ⟨by omega, by omega⟩ rfl rfl (Nat.le_of_ble_eq_true rfl) dL_law__761 (fun H locs hS => ?_)
  refine lv_topi (fun x5_5 e1 => ?_)
  have hf := lt1_n e1 hf
  refine lv_istore (lv' := [(5, .int x5_5), (0, .ref b), (1, .ref x1), (2, .ref x2), (3, .ref x3), (4, .int x4)]) hx hb dL_law__764 hl (by decide) rfl (fun ls hl => ?_)
  refine lv_aload_n hx hb dL_law__766 rfl (lv_at hl 3 rfl) ?_
  refine lv_aload_n hx hb dL_law__767 rfl (lv_at hl 1 rfl) ?_
  refine lv_iload hx hb dL_law__768 (lv_at hl 5 rfl) ?_
  refine lv_iconst (v := 1) hx hb dL_law__770 (by decide) ?_
  refine lv_iadd hx hb dL_law__771 ?_
  obtain ⟨v6, h1, hf⟩ := bs hf
  refine am_scr X hX hS h1 dL_law__772 ?_
  refine lv_aload_n hx hb dL_law__773 rfl (lv_at hl 1 rfl) ?_
  refine lv_iload hx hb dL_law__774 (lv_at hl 5 rfl) ?_
  refine lv_iconst (v := 2) hx hb dL_law__776 (by decide) ?_
  refine lv_iadd hx hb dL_law__777 ?_
  obtain ⟨v7, h1, hf⟩ := bs hf
  refine am_scr X hX hS h1 dL_law__778 ?_
  obtain ⟨u0, h0, hf⟩ := bs hf
  obtain ⟨_, hrc⟩ := isO_n h0
  obtain ⟨v8, m9, h1, hf⟩ := bs2 hf
  refine am_endi hS (am_runV (As := [.int v6, .int v7]) X (hml.trans hl.1.symm) hS (cX12_glass_ok (l := l) (E := E) h1) mv_L_168 hrc rfl ⟨Nat.le_trans (by decide) hR.1, Nat.le_trans (by decide) hR.2⟩ ⟨by omega, by omega⟩ rfl rfl (Nat.le_of_ble_eq_true rfl) dL_law__779) (fun H locs hS => ?_)
  refine lv_topi (fun x6_10 e1 => ?_)
  have hf := lt1_n e1 hf
  refine lv_istore (lv' := [(6, .int x6_10), (5, .int x5_5), (0, .ref b), (1, .ref x1), (2, .ref x2), (3, .ref x3), (4, .int x4)]) hx hb dL_law__782 hl (by decide) rfl (fun ls hl => ?_)
  refine lv_aload_n hx hb dL_law__784 rfl (lv_at hl 4 rfl) ?_
  obtain ⟨u0, h0, hf⟩ := bs hf
  obtain ⟨_, hrc⟩ := isO_n h0
  obtain ⟨v11, h1, hf⟩ := bs hf
  refine am_endi hS (am_runV (As := []) X (hml.trans hl.1.symm) hS (cX12_thrown_ok (l := l) (E := E) h1) mv_L_134 hrc rfl ⟨Nat.le_trans (by decide) hR.1, Nat.le_trans (by decide) hR.2⟩ ⟨by omega, by omega⟩ rfl rfl (Nat.le_of_ble_eq_true rfl) dL_law__785) (fun H locs hS => ?_)
  refine lv_iload hx hb dL_law__788 (lv_at hl 1 rfl) ?_
  refine lv_icmp_eq (tgt := 795) hx hb dL_law__790 (by decide) (fun q12 => ?_) (fun q12 => ?_)
  · have hf := ifp hf q12
    refine lv_iload hx hb dL_law__795 (lv_at hl 1 rfl) ?_
    refine lv_if_ne (tgt := 812) hx hb dL_law__797 (by decide) (fun q13 => ?_) (fun q13 => ?_)
    · have hf := ifn hf q13
      refine lv_goto (tgt := 2743) hx hb dL_law__812 (by decide) ?_
      exact kN _ (Option.some.inj hf).symm H locs ls _ _ (by omega) (by omega) hS (lv_sub hl [2, 3, 4, 5, 6] rfl)
    · have hf := ifp hf q13
      refine lv_aload_n hx hb dL_law__800 rfl (lv_at hl 5 rfl) ?_
      refine lv_iconst (v := 0) hx hb dL_law__801 (by decide) ?_
      obtain ⟨v14, h1, hf⟩ := bs hf
      refine am_lld X hS h1 dL_law__802 ?_
      refine lv_iload hx hb dL_law__803 (lv_at hl 0 rfl) ?_
      refine lv_i2l (v := ((x6_10).toInt64)) hx hb dL_law__805 rfl ?_
      refine W.lcmp hx hb dL_law__806 ?_
      refine lv_if_eq (tgt := 812) hx hb dL_law__807 (by decide) (fun q15 => ?_) (fun q15 => ?_)
      · have hf := ifp hf q15
        refine lv_goto (tgt := 2743) hx hb dL_law__812 (by decide) ?_
        exact kN _ (Option.some.inj hf).symm H locs ls _ _ (by omega) (by omega) hS (lv_sub hl [2, 3, 4, 5, 6] rfl)
      · have hf := ifn hf q15
        refine lv_iconst (v := 0) hx hb dL_law__810 (by decide) ?_
        exact kR _ (Option.some.inj hf).symm _ H locs ls _ _ (by omega) (by omega) dL_law__811 hS
  · have hf := ifn hf q12
    refine lv_iconst (v := 0) hx hb dL_law__793 (by decide) ?_
    exact kR _ (Option.some.inj hf).symm _ H locs ls _ _ (by omega) (by omega) dL_law__794 hS
set_option maxHeartbeats 4000000 in
set_option maxRecDepth 100000 in
theorem wLc_11 {p : Program} {l : Launch} {e : Env} {R : Room} {s : State} {m : MethodId} {args : Array Value} {below : List Frame} {meth : Method} {c : Code} {Q : State → Prop} {E : Ev} {b L : Nat} {xs : Nat → Int32} (hl0 : l.stackTraces = false) (X : Cx p s m args c cL_law_ RL E) (hX : Scr E s b L xs) (hml : c.maxLocals = 8) (hR : 400 ≤ R.frames ∧ 20000 ≤ R.locals) {x1 x2 x3 : Nat} {x4 : Int32} {mm : Mem} {y : Mem ⊕ Int32} {kc ks : Nat} (hkc : kc + 1 ≤ R.cells) (hks : ks + 6 ≤ R.slots) (hf : fLc_11 (eS E) L xs x1 x2 x3 x4 mm = some y) (kN : ∀ mm1, y = .inl mm1 → ∀ (H : Heap) (locs : List Loc) (ls : Array Slot) (cells slots : Nat), cells ≤ kc + 1 → slots ≤ ks + 6 → wS E s mm1 H locs → lv_has ls 8 [(0, .ref b), (1, .ref x1), (2, .ref x2), (3, .ref x3), (4, .int x4)] → W p l e R s m args below meth c H locs cells slots Q (F0 m 2743 ls [])) (kR : ∀ v, y = .inr v → ∀ (pc : Nat) (H : Heap) (locs : List Loc) (ls : Array Slot) (cells slots : Nat), cells ≤ kc + 1 → slots ≤ ks + 6 → decode cL_law_ pc = .ok (.ireturn, 1) → ∀ {mm1 : Mem}, wS E s mm1 H locs → W p l e R s m args below meth c H locs cells slots Q (F0 m pc ls [.int v])) : ∀ (H : Heap) (locs : List Loc) (ls : Array Slot) (cells slots : Nat), cells ≤ kc → slots ≤ ks → wS E s mm H locs → lv_has ls 8 [(0, .ref b), (1, .ref x1), (2, .ref x2), (3, .ref x3), (4, .int x4)] → W p l e R s m args below meth c H locs cells slots Q (F0 m 815 ls []) := by
  intro H locs ls cells slots hcc hcs hS hl
  have hx := X.1
  have hb := X.2.1
  unfold fLc_11 at hf
  refine lv_aload_n hx hb dL_law__815 rfl (lv_at hl 1 rfl) ?_
  refine lv_aload_n hx hb dL_law__816 rfl (lv_at hl 0 rfl) ?_
  refine lv_iload hx hb dL_law__817 (lv_at hl 4 rfl) ?_
  refine lv_iconst (v := 1) hx hb dL_law__819 (by decide) ?_
  refine lv_iadd hx hb dL_law__820 ?_
  obtain ⟨v1, h1, hf⟩ := bs hf
  refine am_scr X hX hS h1 dL_law__821 ?_
  refine lv_aload_n hx hb dL_law__822 rfl (lv_at hl 3 rfl) ?_
  obtain ⟨v2, m3, h1, hf⟩ := bs2 hf
  refine am_cH (As := [.ref x1, .int v1, .ref x3]) X (hml.trans hl.1.symm) hS (cL_place_ok (l := l) (E := E) hl0 h1) mh_169 ⟨Nat.le_trans (by decide) hR.1, Nat.le_trans (by decide) hR.2⟩ ⟨by omega, by omega⟩ rfl rfl (Nat.le_of_ble_eq_true rfl) dL_law__823 (fun H locs hS => ?_)
  refine lv_topi (fun x5_4 e1 => ?_)
  have hf := lt1_n e1 hf
  refine lv_istore (lv' := [(5, .int x5_4), (0, .ref b), (1, .ref x1), (2, .ref x2), (3, .ref x3), (4, .int x4)]) hx hb dL_law__826 hl (by decide) rfl (fun ls hl => ?_)
  refine lv_aload_n hx hb dL_law__828 rfl (lv_at hl 3 rfl) ?_
  refine lv_aload_n hx hb dL_law__829 rfl (lv_at hl 1 rfl) ?_
  refine lv_iload hx hb dL_law__830 (lv_at hl 5 rfl) ?_
  refine lv_iconst (v := 1) hx hb dL_law__832 (by decide) ?_
  refine lv_iadd hx hb dL_law__833 ?_
  obtain ⟨v5, h1, hf⟩ := bs hf
  refine am_scr X hX hS h1 dL_law__834 ?_
  obtain ⟨u0, h0, hf⟩ := bs hf
  obtain ⟨_, hrc⟩ := isO_n h0
  obtain ⟨v6, m7, h1, hf⟩ := bs2 hf
  refine am_endi hS (am_runV (As := [.int v5]) X (hml.trans hl.1.symm) hS (cX12_place_ok (l := l) (E := E) h1) mv_L_171 hrc rfl ⟨Nat.le_trans (by decide) hR.1, Nat.le_trans (by decide) hR.2⟩ ⟨by omega, by omega⟩ rfl rfl (Nat.le_of_ble_eq_true rfl) dL_law__835) (fun H locs hS => ?_)
  refine lv_topi (fun x6_8 e1 => ?_)
  have hf := lt1_n e1 hf
  refine lv_istore (lv' := [(6, .int x6_8), (5, .int x5_4), (0, .ref b), (1, .ref x1), (2, .ref x2), (3, .ref x3), (4, .int x4)]) hx hb dL_law__838 hl (by decide) rfl (fun ls hl => ?_)
  refine lv_aload_n hx hb dL_law__840 rfl (lv_at hl 4 rfl) ?_
  obtain ⟨u0, h0, hf⟩ := bs hf
  obtain ⟨_, hrc⟩ := isO_n h0
  obtain ⟨v9, h1, hf⟩ := bs hf
  refine am_endi hS (am_runV (As := []) X (hml.trans hl.1.symm) hS (cX12_thrown_ok (l := l) (E := E) h1) mv_L_134 hrc rfl ⟨Nat.le_trans (by decide) hR.1, Nat.le_trans (by decide) hR.2⟩ ⟨by omega, by omega⟩ rfl rfl (Nat.le_of_ble_eq_true rfl) dL_law__841) (fun H locs hS => ?_)
  refine lv_iload hx hb dL_law__844 (lv_at hl 1 rfl) ?_
  refine lv_icmp_eq (tgt := 851) hx hb dL_law__846 (by decide) (fun q10 => ?_) (fun q10 => ?_)
  · have hf := ifp hf q10
    refine lv_iload hx hb dL_law__851 (lv_at hl 1 rfl) ?_
    refine lv_if_ne (tgt := 868) hx hb dL_law__853 (by decide) (fun q11 => ?_) (fun q11 => ?_)
    · have hf := ifn hf q11
      refine lv_goto (tgt := 2743) hx hb dL_law__868 (by decide) ?_
      exact kN _ (Option.some.inj hf).symm H locs ls _ _ (by omega) (by omega) hS (lv_sub hl [2, 3, 4, 5, 6] rfl)
    · have hf := ifp hf q11
      refine lv_aload_n hx hb dL_law__856 rfl (lv_at hl 5 rfl) ?_
      refine lv_iconst (v := 0) hx hb dL_law__857 (by decide) ?_
      obtain ⟨v12, h1, hf⟩ := bs hf
      refine am_lld X hS h1 dL_law__858 ?_
      refine lv_iload hx hb dL_law__859 (lv_at hl 0 rfl) ?_
      refine lv_i2l (v := ((x6_8).toInt64)) hx hb dL_law__861 rfl ?_
      refine W.lcmp hx hb dL_law__862 ?_
      refine lv_if_eq (tgt := 868) hx hb dL_law__863 (by decide) (fun q13 => ?_) (fun q13 => ?_)
      · have hf := ifp hf q13
        refine lv_goto (tgt := 2743) hx hb dL_law__868 (by decide) ?_
        exact kN _ (Option.some.inj hf).symm H locs ls _ _ (by omega) (by omega) hS (lv_sub hl [2, 3, 4, 5, 6] rfl)
      · have hf := ifn hf q13
        refine lv_iconst (v := 0) hx hb dL_law__866 (by decide) ?_
        exact kR _ (Option.some.inj hf).symm _ H locs ls _ _ (by omega) (by omega) dL_law__867 hS
  · have hf := ifn hf q10
    refine lv_iconst (v := 0) hx hb dL_law__849 (by decide) ?_
    exact kR _ (Option.some.inj hf).symm _ H locs ls _ _ (by omega) (by omega) dL_law__850 hS
set_option maxHeartbeats 4000000 in
set_option maxRecDepth 100000 in
theorem wLc_12 {p : Program} {l : Launch} {e : Env} {R : Room} {s : State} {m : MethodId} {args : Array Value} {below : List Frame} {meth : Method} {c : Code} {Q : State → Prop} {E : Ev} {b L : Nat} {xs : Nat → Int32} (hl0 : l.stackTraces = false) (X : Cx p s m args c cL_law_ RL E) (hX : Scr E s b L xs) (hml : c.maxLocals = 8) (hR : 400 ≤ R.frames ∧ 20000 ≤ R.locals) {x1 x2 x3 : Nat} {x4 : Int32} {mm : Mem} {y : Mem ⊕ Int32} {kc ks : Nat} (hkc : kc + 1 ≤ R.cells) (hks : ks + 6 ≤ R.slots) (hf : fLc_12 (eS E) L xs x1 x2 x3 x4 mm = some y) (kN : ∀ mm1, y = .inl mm1 → ∀ (H : Heap) (locs : List Loc) (ls : Array Slot) (cells slots : Nat), cells ≤ kc + 1 → slots ≤ ks + 6 → wS E s mm1 H locs → lv_has ls 8 [(0, .ref b), (1, .ref x1), (2, .ref x2), (3, .ref x3), (4, .int x4)] → W p l e R s m args below meth c H locs cells slots Q (F0 m 2743 ls [])) (kR : ∀ v, y = .inr v → ∀ (pc : Nat) (H : Heap) (locs : List Loc) (ls : Array Slot) (cells slots : Nat), cells ≤ kc + 1 → slots ≤ ks + 6 → decode cL_law_ pc = .ok (.ireturn, 1) → ∀ {mm1 : Mem}, wS E s mm1 H locs → W p l e R s m args below meth c H locs cells slots Q (F0 m pc ls [.int v])) : ∀ (H : Heap) (locs : List Loc) (ls : Array Slot) (cells slots : Nat), cells ≤ kc → slots ≤ ks → wS E s mm H locs → lv_has ls 8 [(0, .ref b), (1, .ref x1), (2, .ref x2), (3, .ref x3), (4, .int x4)] → W p l e R s m args below meth c H locs cells slots Q (F0 m 871 ls []) := by
  intro H locs ls cells slots hcc hcs hS hl
  have hx := X.1
  have hb := X.2.1
  unfold fLc_12 at hf
  refine lv_aload_n hx hb dL_law__871 rfl (lv_at hl 1 rfl) ?_
  refine lv_aload_n hx hb dL_law__872 rfl (lv_at hl 0 rfl) ?_
  refine lv_iload hx hb dL_law__873 (lv_at hl 4 rfl) ?_
  refine lv_iconst (v := 1) hx hb dL_law__875 (by decide) ?_
  refine lv_iadd hx hb dL_law__876 ?_
  obtain ⟨v1, h1, hf⟩ := bs hf
  refine am_scr X hX hS h1 dL_law__877 ?_
  refine lv_aload_n hx hb dL_law__878 rfl (lv_at hl 0 rfl) ?_
  refine lv_iload hx hb dL_law__879 (lv_at hl 4 rfl) ?_
  refine lv_iconst (v := 2) hx hb dL_law__881 (by decide) ?_
  refine lv_iadd hx hb dL_law__882 ?_
  obtain ⟨v2, h1, hf⟩ := bs hf
  refine am_scr X hX hS h1 dL_law__883 ?_
  refine lv_aload_n hx hb dL_law__884 rfl (lv_at hl 0 rfl) ?_
  refine lv_iload hx hb dL_law__885 (lv_at hl 4 rfl) ?_
  refine lv_iconst (v := 3) hx hb dL_law__887 (by decide) ?_
  refine lv_iadd hx hb dL_law__888 ?_
  obtain ⟨v3, h1, hf⟩ := bs hf
  refine am_scr X hX hS h1 dL_law__889 ?_
  refine lv_aload_n hx hb dL_law__890 rfl (lv_at hl 3 rfl) ?_
  obtain ⟨v4, m5, h1, hf⟩ := bs2 hf
  refine am_cH (As := [.ref x1, .int v1, .int v2, .int v3, .ref x3]) X (hml.trans hl.1.symm) hS (cL_turn_ok (l := l) (E := E) hl0 h1) mh_172 ⟨Nat.le_trans (by decide) hR.1, Nat.le_trans (by decide) hR.2⟩ ⟨by omega, by omega⟩ rfl rfl (Nat.le_of_ble_eq_true rfl) dL_law__891 (fun H locs hS => ?_)
  refine lv_topi (fun x5_6 e1 => ?_)
  have hf := lt1_n e1 hf
  refine lv_istore (lv' := [(5, .int x5_6), (0, .ref b), (1, .ref x1), (2, .ref x2), (3, .ref x3), (4, .int x4)]) hx hb dL_law__894 hl (by decide) rfl (fun ls hl => ?_)
  refine lv_aload_n hx hb dL_law__896 rfl (lv_at hl 3 rfl) ?_
  refine lv_aload_n hx hb dL_law__897 rfl (lv_at hl 1 rfl) ?_
  refine lv_iload hx hb dL_law__898 (lv_at hl 5 rfl) ?_
  refine lv_iconst (v := 1) hx hb dL_law__900 (by decide) ?_
  refine lv_iadd hx hb dL_law__901 ?_
  obtain ⟨v7, h1, hf⟩ := bs hf
  refine am_scr X hX hS h1 dL_law__902 ?_
  refine lv_aload_n hx hb dL_law__903 rfl (lv_at hl 1 rfl) ?_
  refine lv_iload hx hb dL_law__904 (lv_at hl 5 rfl) ?_
  refine lv_iconst (v := 2) hx hb dL_law__906 (by decide) ?_
  refine lv_iadd hx hb dL_law__907 ?_
  obtain ⟨v8, h1, hf⟩ := bs hf
  refine am_scr X hX hS h1 dL_law__908 ?_
  refine lv_aload_n hx hb dL_law__909 rfl (lv_at hl 1 rfl) ?_
  refine lv_iload hx hb dL_law__910 (lv_at hl 5 rfl) ?_
  refine lv_iconst (v := 3) hx hb dL_law__912 (by decide) ?_
  refine lv_iadd hx hb dL_law__913 ?_
  obtain ⟨v9, h1, hf⟩ := bs hf
  refine am_scr X hX hS h1 dL_law__914 ?_
  obtain ⟨u0, h0, hf⟩ := bs hf
  obtain ⟨_, hrc⟩ := isO_n h0
  obtain ⟨v10, m11, h1, hf⟩ := bs2 hf
  refine am_endi hS (am_runV (As := [.int v7, .int v8, .int v9]) X (hml.trans hl.1.symm) hS (cX12_turn_ok (l := l) (E := E) h1) mv_L_174 hrc rfl ⟨Nat.le_trans (by decide) hR.1, Nat.le_trans (by decide) hR.2⟩ ⟨by omega, by omega⟩ rfl rfl (Nat.le_of_ble_eq_true rfl) dL_law__915) (fun H locs hS => ?_)
  refine lv_topi (fun x6_12 e1 => ?_)
  have hf := lt1_n e1 hf
  refine lv_istore (lv' := [(6, .int x6_12), (5, .int x5_6), (0, .ref b), (1, .ref x1), (2, .ref x2), (3, .ref x3), (4, .int x4)]) hx hb dL_law__918 hl (by decide) rfl (fun ls hl => ?_)
  refine lv_aload_n hx hb dL_law__920 rfl (lv_at hl 4 rfl) ?_
  obtain ⟨u0, h0, hf⟩ := bs hf
  obtain ⟨_, hrc⟩ := isO_n h0
  obtain ⟨v13, h1, hf⟩ := bs hf
  refine am_endi hS (am_runV (As := []) X (hml.trans hl.1.symm) hS (cX12_thrown_ok (l := l) (E := E) h1) mv_L_134 hrc rfl ⟨Nat.le_trans (by decide) hR.1, Nat.le_trans (by decide) hR.2⟩ ⟨by omega, by omega⟩ rfl rfl (Nat.le_of_ble_eq_true rfl) dL_law__921) (fun H locs hS => ?_)
  refine lv_iload hx hb dL_law__924 (lv_at hl 1 rfl) ?_
  refine lv_icmp_eq (tgt := 931) hx hb dL_law__926 (by decide) (fun q14 => ?_) (fun q14 => ?_)
  · have hf := ifp hf q14
    refine lv_iload hx hb dL_law__931 (lv_at hl 1 rfl) ?_
    refine lv_if_ne (tgt := 948) hx hb dL_law__933 (by decide) (fun q15 => ?_) (fun q15 => ?_)
    · have hf := ifn hf q15
      refine lv_goto (tgt := 2743) hx hb dL_law__948 (by decide) ?_
      exact kN _ (Option.some.inj hf).symm H locs ls _ _ (by omega) (by omega) hS (lv_sub hl [2, 3, 4, 5, 6] rfl)
    · have hf := ifp hf q15
      refine lv_aload_n hx hb dL_law__936 rfl (lv_at hl 5 rfl) ?_
      refine lv_iconst (v := 0) hx hb dL_law__937 (by decide) ?_
      obtain ⟨v16, h1, hf⟩ := bs hf
      refine am_lld X hS h1 dL_law__938 ?_
      refine lv_iload hx hb dL_law__939 (lv_at hl 0 rfl) ?_
      refine lv_i2l (v := ((x6_12).toInt64)) hx hb dL_law__941 rfl ?_
      refine W.lcmp hx hb dL_law__942 ?_
      refine lv_if_eq (tgt := 948) hx hb dL_law__943 (by decide) (fun q17 => ?_) (fun q17 => ?_)
      · have hf := ifp hf q17
        refine lv_goto (tgt := 2743) hx hb dL_law__948 (by decide) ?_
        exact kN _ (Option.some.inj hf).symm H locs ls _ _ (by omega) (by omega) hS (lv_sub hl [2, 3, 4, 5, 6] rfl)
      · have hf := ifn hf q17
        refine lv_iconst (v := 0) hx hb dL_law__946 (by decide) ?_
        exact kR _ (Option.some.inj hf).symm _ H locs ls _ _ (by omega) (by omega) dL_law__947 hS
  · have hf := ifn hf q14
    refine lv_iconst (v := 0) hx hb dL_law__929 (by decide) ?_
    exact kR _ (Option.some.inj hf).symm _ H locs ls _ _ (by omega) (by omega) dL_law__930 hS
set_option maxHeartbeats 4000000 in
set_option maxRecDepth 100000 in
theorem wLc_13 {p : Program} {l : Launch} {e : Env} {R : Room} {s : State} {m : MethodId} {args : Array Value} {below : List Frame} {meth : Method} {c : Code} {Q : State → Prop} {E : Ev} {b L : Nat} {xs : Nat → Int32} (hl0 : l.stackTraces = false) (X : Cx p s m args c cL_law_ RL E) (hX : Scr E s b L xs) (hml : c.maxLocals = 8) (hR : 400 ≤ R.frames ∧ 20000 ≤ R.locals) {x1 x2 x3 : Nat} {x4 : Int32} {mm : Mem} {y : Mem ⊕ Int32} {kc ks : Nat} (hkc : kc + 1 ≤ R.cells) (hks : ks + 6 ≤ R.slots) (hf : fLc_13 (eS E) L xs x1 x2 x3 x4 mm = some y) (kN : ∀ mm1, y = .inl mm1 → ∀ (H : Heap) (locs : List Loc) (ls : Array Slot) (cells slots : Nat), cells ≤ kc + 1 → slots ≤ ks + 6 → wS E s mm1 H locs → lv_has ls 8 [(0, .ref b), (1, .ref x1), (2, .ref x2), (3, .ref x3), (4, .int x4)] → W p l e R s m args below meth c H locs cells slots Q (F0 m 2743 ls [])) (kR : ∀ v, y = .inr v → ∀ (pc : Nat) (H : Heap) (locs : List Loc) (ls : Array Slot) (cells slots : Nat), cells ≤ kc + 1 → slots ≤ ks + 6 → decode cL_law_ pc = .ok (.ireturn, 1) → ∀ {mm1 : Mem}, wS E s mm1 H locs → W p l e R s m args below meth c H locs cells slots Q (F0 m pc ls [.int v])) : ∀ (H : Heap) (locs : List Loc) (ls : Array Slot) (cells slots : Nat), cells ≤ kc → slots ≤ ks → wS E s mm H locs → lv_has ls 8 [(0, .ref b), (1, .ref x1), (2, .ref x2), (3, .ref x3), (4, .int x4)] → W p l e R s m args below meth c H locs cells slots Q (F0 m 951 ls []) := by
  intro H locs ls cells slots hcc hcs hS hl
  have hx := X.1
  have hb := X.2.1
  unfold fLc_13 at hf
  refine lv_aload_n hx hb dL_law__951 rfl (lv_at hl 1 rfl) ?_
  refine lv_aload_n hx hb dL_law__952 rfl (lv_at hl 0 rfl) ?_
  refine lv_iload hx hb dL_law__953 (lv_at hl 4 rfl) ?_
  refine lv_iconst (v := 1) hx hb dL_law__955 (by decide) ?_
  refine lv_iadd hx hb dL_law__956 ?_
  obtain ⟨v1, h1, hf⟩ := bs hf
  refine am_scr X hX hS h1 dL_law__957 ?_
  refine lv_aload_n hx hb dL_law__958 rfl (lv_at hl 0 rfl) ?_
  refine lv_iload hx hb dL_law__959 (lv_at hl 4 rfl) ?_
  refine lv_iconst (v := 2) hx hb dL_law__961 (by decide) ?_
  refine lv_iadd hx hb dL_law__962 ?_
  obtain ⟨v2, h1, hf⟩ := bs hf
  refine am_scr X hX hS h1 dL_law__963 ?_
  refine lv_aload_n hx hb dL_law__964 rfl (lv_at hl 0 rfl) ?_
  refine lv_iload hx hb dL_law__965 (lv_at hl 4 rfl) ?_
  refine lv_iconst (v := 3) hx hb dL_law__967 (by decide) ?_
  refine lv_iadd hx hb dL_law__968 ?_
  obtain ⟨v3, h1, hf⟩ := bs hf
  refine am_scr X hX hS h1 dL_law__969 ?_
  refine lv_aload_n hx hb dL_law__970 rfl (lv_at hl 0 rfl) ?_
  refine lv_iload hx hb dL_law__971 (lv_at hl 4 rfl) ?_
  refine lv_iconst (v := 4) hx hb dL_law__973 (by decide) ?_
  refine lv_iadd hx hb dL_law__974 ?_
  obtain ⟨v4, h1, hf⟩ := bs hf
  refine am_scr X hX hS h1 dL_law__975 ?_
  refine lv_aload_n hx hb dL_law__976 rfl (lv_at hl 0 rfl) ?_
  refine lv_iload hx hb dL_law__977 (lv_at hl 4 rfl) ?_
  refine lv_iconst (v := 5) hx hb dL_law__979 (by decide) ?_
  refine lv_iadd hx hb dL_law__980 ?_
  obtain ⟨v5, h1, hf⟩ := bs hf
  refine am_scr X hX hS h1 dL_law__981 ?_
  refine lv_aload_n hx hb dL_law__982 rfl (lv_at hl 0 rfl) ?_
  refine lv_iload hx hb dL_law__983 (lv_at hl 4 rfl) ?_
  refine lv_bipush (v := 6) hx hb dL_law__985 (by decide) ?_
  refine lv_iadd hx hb dL_law__987 ?_
  obtain ⟨v6, h1, hf⟩ := bs hf
  refine am_scr X hX hS h1 dL_law__988 ?_
  refine lv_aload_n hx hb dL_law__989 rfl (lv_at hl 0 rfl) ?_
  refine lv_iload hx hb dL_law__990 (lv_at hl 4 rfl) ?_
  refine lv_bipush (v := 7) hx hb dL_law__992 (by decide) ?_
  refine lv_iadd hx hb dL_law__994 ?_
  obtain ⟨v7, h1, hf⟩ := bs hf
  refine am_scr X hX hS h1 dL_law__995 ?_
  refine lv_aload_n hx hb dL_law__996 rfl (lv_at hl 0 rfl) ?_
  refine lv_iload hx hb dL_law__997 (lv_at hl 4 rfl) ?_
  refine lv_bipush (v := 8) hx hb dL_law__999 (by decide) ?_
  refine lv_iadd hx hb dL_law__1001 ?_
  obtain ⟨v8, h1, hf⟩ := bs hf
  refine am_scr X hX hS h1 dL_law__1002 ?_
  refine lv_aload_n hx hb dL_law__1003 rfl (lv_at hl 3 rfl) ?_
  obtain ⟨v9, m10, h1, hf⟩ := bs2 hf
  refine am_cH (As := [.ref x1, .int v1, .int v2, .int v3, .int v4, .int v5, .int v6, .int v7, .int v8, .ref x3]) X (hml.trans hl.1.symm) hS (cL_would_ok (l := l) (E := E) hl0 h1) mh_175 ⟨Nat.le_trans (by decide) hR.1, Nat.le_trans (by decide) hR.2⟩ ⟨by omega, by omega⟩ rfl rfl (Nat.le_of_ble_eq_true rfl) dL_law__1004 (fun H locs hS => ?_)
  refine lv_topi (fun x5_11 e1 => ?_)
  have hf := lt1_n e1 hf
  refine lv_istore (lv' := [(5, .int x5_11), (0, .ref b), (1, .ref x1), (2, .ref x2), (3, .ref x3), (4, .int x4)]) hx hb dL_law__1007 hl (by decide) rfl (fun ls hl => ?_)
  refine lv_aload_n hx hb dL_law__1009 rfl (lv_at hl 3 rfl) ?_
  refine lv_aload_n hx hb dL_law__1010 rfl (lv_at hl 1 rfl) ?_
  refine lv_iload hx hb dL_law__1011 (lv_at hl 5 rfl) ?_
  refine lv_iconst (v := 1) hx hb dL_law__1013 (by decide) ?_
  refine lv_iadd hx hb dL_law__1014 ?_
  obtain ⟨v12, h1, hf⟩ := bs hf
  refine am_scr X hX hS h1 dL_law__1015 ?_
  refine lv_aload_n hx hb dL_law__1016 rfl (lv_at hl 1 rfl) ?_
  refine lv_iload hx hb dL_law__1017 (lv_at hl 5 rfl) ?_
  refine lv_iconst (v := 2) hx hb dL_law__1019 (by decide) ?_
  refine lv_iadd hx hb dL_law__1020 ?_
  obtain ⟨v13, h1, hf⟩ := bs hf
  refine am_scr X hX hS h1 dL_law__1021 ?_
  refine lv_aload_n hx hb dL_law__1022 rfl (lv_at hl 1 rfl) ?_
  refine lv_iload hx hb dL_law__1023 (lv_at hl 5 rfl) ?_
  refine lv_iconst (v := 3) hx hb dL_law__1025 (by decide) ?_
  refine lv_iadd hx hb dL_law__1026 ?_
  obtain ⟨v14, h1, hf⟩ := bs hf
  refine am_scr X hX hS h1 dL_law__1027 ?_
  refine lv_aload_n hx hb dL_law__1028 rfl (lv_at hl 1 rfl) ?_
  refine lv_iload hx hb dL_law__1029 (lv_at hl 5 rfl) ?_
  refine lv_iconst (v := 4) hx hb dL_law__1031 (by decide) ?_
  refine lv_iadd hx hb dL_law__1032 ?_
  obtain ⟨v15, h1, hf⟩ := bs hf
  refine am_scr X hX hS h1 dL_law__1033 ?_
  refine lv_aload_n hx hb dL_law__1034 rfl (lv_at hl 1 rfl) ?_
  refine lv_iload hx hb dL_law__1035 (lv_at hl 5 rfl) ?_
  refine lv_iconst (v := 5) hx hb dL_law__1037 (by decide) ?_
  refine lv_iadd hx hb dL_law__1038 ?_
  obtain ⟨v16, h1, hf⟩ := bs hf
  refine am_scr X hX hS h1 dL_law__1039 ?_
  refine lv_aload_n hx hb dL_law__1040 rfl (lv_at hl 1 rfl) ?_
  refine lv_iload hx hb dL_law__1041 (lv_at hl 5 rfl) ?_
  refine lv_bipush (v := 6) hx hb dL_law__1043 (by decide) ?_
  refine lv_iadd hx hb dL_law__1045 ?_
  obtain ⟨v17, h1, hf⟩ := bs hf
  refine am_scr X hX hS h1 dL_law__1046 ?_
  refine lv_aload_n hx hb dL_law__1047 rfl (lv_at hl 1 rfl) ?_
  refine lv_iload hx hb dL_law__1048 (lv_at hl 5 rfl) ?_
  refine lv_bipush (v := 7) hx hb dL_law__1050 (by decide) ?_
  refine lv_iadd hx hb dL_law__1052 ?_
  obtain ⟨v18, h1, hf⟩ := bs hf
  refine am_scr X hX hS h1 dL_law__1053 ?_
  refine lv_aload_n hx hb dL_law__1054 rfl (lv_at hl 1 rfl) ?_
  refine lv_iload hx hb dL_law__1055 (lv_at hl 5 rfl) ?_
  refine lv_bipush (v := 8) hx hb dL_law__1057 (by decide) ?_
  refine lv_iadd hx hb dL_law__1059 ?_
  obtain ⟨v19, h1, hf⟩ := bs hf
  refine am_scr X hX hS h1 dL_law__1060 ?_
  obtain ⟨u0, h0, hf⟩ := bs hf
  obtain ⟨_, hrc⟩ := isO_n h0
  obtain ⟨v20, m21, h1, hf⟩ := bs2 hf
  refine am_endi hS (am_runV (As := [.int v12, .int v13, .int v14, .int v15, .int v16, .int v17, .int v18, .int v19]) X (hml.trans hl.1.symm) hS (cX12_would_ok (l := l) (E := E) h1) mv_L_178 hrc rfl ⟨Nat.le_trans (by decide) hR.1, Nat.le_trans (by decide) hR.2⟩ ⟨by omega, by omega⟩ rfl rfl (Nat.le_of_ble_eq_true rfl) dL_law__1061) (fun H locs hS => ?_)
  refine lv_topi (fun x6_22 e1 => ?_)
  have hf := lt1_n e1 hf
  refine lv_istore (lv' := [(6, .int x6_22), (5, .int x5_11), (0, .ref b), (1, .ref x1), (2, .ref x2), (3, .ref x3), (4, .int x4)]) hx hb dL_law__1064 hl (by decide) rfl (fun ls hl => ?_)
  refine lv_aload_n hx hb dL_law__1066 rfl (lv_at hl 4 rfl) ?_
  obtain ⟨u0, h0, hf⟩ := bs hf
  obtain ⟨_, hrc⟩ := isO_n h0
  obtain ⟨v23, h1, hf⟩ := bs hf
  refine am_endi hS (am_runV (As := []) X (hml.trans hl.1.symm) hS (cX12_thrown_ok (l := l) (E := E) h1) mv_L_134 hrc rfl ⟨Nat.le_trans (by decide) hR.1, Nat.le_trans (by decide) hR.2⟩ ⟨by omega, by omega⟩ rfl rfl (Nat.le_of_ble_eq_true rfl) dL_law__1067) (fun H locs hS => ?_)
  refine lv_iload hx hb dL_law__1070 (lv_at hl 1 rfl) ?_
  refine lv_icmp_eq (tgt := 1077) hx hb dL_law__1072 (by decide) (fun q24 => ?_) (fun q24 => ?_)
  · have hf := ifp hf q24
    refine lv_iload hx hb dL_law__1077 (lv_at hl 1 rfl) ?_
    refine lv_if_ne (tgt := 1094) hx hb dL_law__1079 (by decide) (fun q25 => ?_) (fun q25 => ?_)
    · have hf := ifn hf q25
      refine lv_goto (tgt := 2743) hx hb dL_law__1094 (by decide) ?_
      exact kN _ (Option.some.inj hf).symm H locs ls _ _ (by omega) (by omega) hS (lv_sub hl [2, 3, 4, 5, 6] rfl)
    · have hf := ifp hf q25
      refine lv_aload_n hx hb dL_law__1082 rfl (lv_at hl 5 rfl) ?_
      refine lv_iconst (v := 0) hx hb dL_law__1083 (by decide) ?_
      obtain ⟨v26, h1, hf⟩ := bs hf
      refine am_lld X hS h1 dL_law__1084 ?_
      refine lv_iload hx hb dL_law__1085 (lv_at hl 0 rfl) ?_
      refine lv_i2l (v := ((x6_22).toInt64)) hx hb dL_law__1087 rfl ?_
      refine W.lcmp hx hb dL_law__1088 ?_
      refine lv_if_eq (tgt := 1094) hx hb dL_law__1089 (by decide) (fun q27 => ?_) (fun q27 => ?_)
      · have hf := ifp hf q27
        refine lv_goto (tgt := 2743) hx hb dL_law__1094 (by decide) ?_
        exact kN _ (Option.some.inj hf).symm H locs ls _ _ (by omega) (by omega) hS (lv_sub hl [2, 3, 4, 5, 6] rfl)
      · have hf := ifn hf q27
        refine lv_iconst (v := 0) hx hb dL_law__1092 (by decide) ?_
        exact kR _ (Option.some.inj hf).symm _ H locs ls _ _ (by omega) (by omega) dL_law__1093 hS
  · have hf := ifn hf q24
    refine lv_iconst (v := 0) hx hb dL_law__1075 (by decide) ?_
    exact kR _ (Option.some.inj hf).symm _ H locs ls _ _ (by omega) (by omega) dL_law__1076 hS
set_option maxHeartbeats 4000000 in
set_option maxRecDepth 100000 in
theorem wLc_14 {p : Program} {l : Launch} {e : Env} {R : Room} {s : State} {m : MethodId} {args : Array Value} {below : List Frame} {meth : Method} {c : Code} {Q : State → Prop} {E : Ev} {b L : Nat} {xs : Nat → Int32} (hl0 : l.stackTraces = false) (X : Cx p s m args c cL_law_ RL E) (hX : Scr E s b L xs) (hml : c.maxLocals = 8) (hR : 400 ≤ R.frames ∧ 20000 ≤ R.locals) {x1 x2 x3 : Nat} {x4 : Int32} {mm : Mem} {y : Mem ⊕ Int32} {kc ks : Nat} (hkc : kc + 1 ≤ R.cells) (hks : ks + 6 ≤ R.slots) (hf : fLc_14 (eS E) L xs x1 x2 x3 x4 mm = some y) (kN : ∀ mm1, y = .inl mm1 → ∀ (H : Heap) (locs : List Loc) (ls : Array Slot) (cells slots : Nat), cells ≤ kc + 1 → slots ≤ ks + 6 → wS E s mm1 H locs → lv_has ls 8 [(0, .ref b), (1, .ref x1), (2, .ref x2), (3, .ref x3), (4, .int x4)] → W p l e R s m args below meth c H locs cells slots Q (F0 m 2743 ls [])) (kR : ∀ v, y = .inr v → ∀ (pc : Nat) (H : Heap) (locs : List Loc) (ls : Array Slot) (cells slots : Nat), cells ≤ kc + 1 → slots ≤ ks + 6 → decode cL_law_ pc = .ok (.ireturn, 1) → ∀ {mm1 : Mem}, wS E s mm1 H locs → W p l e R s m args below meth c H locs cells slots Q (F0 m pc ls [.int v])) : ∀ (H : Heap) (locs : List Loc) (ls : Array Slot) (cells slots : Nat), cells ≤ kc → slots ≤ ks → wS E s mm H locs → lv_has ls 8 [(0, .ref b), (1, .ref x1), (2, .ref x2), (3, .ref x3), (4, .int x4)] → W p l e R s m args below meth c H locs cells slots Q (F0 m 1097 ls []) := by
  intro H locs ls cells slots hcc hcs hS hl
  have hx := X.1
  have hb := X.2.1
  unfold fLc_14 at hf
  refine lv_aload_n hx hb dL_law__1097 rfl (lv_at hl 1 rfl) ?_
  refine lv_aload_n hx hb dL_law__1098 rfl (lv_at hl 0 rfl) ?_
  refine lv_iload hx hb dL_law__1099 (lv_at hl 4 rfl) ?_
  refine lv_iconst (v := 1) hx hb dL_law__1101 (by decide) ?_
  refine lv_iadd hx hb dL_law__1102 ?_
  obtain ⟨v1, h1, hf⟩ := bs hf
  refine am_scr X hX hS h1 dL_law__1103 ?_
  refine lv_aload_n hx hb dL_law__1104 rfl (lv_at hl 0 rfl) ?_
  refine lv_iload hx hb dL_law__1105 (lv_at hl 4 rfl) ?_
  refine lv_iconst (v := 2) hx hb dL_law__1107 (by decide) ?_
  refine lv_iadd hx hb dL_law__1108 ?_
  obtain ⟨v2, h1, hf⟩ := bs hf
  refine am_scr X hX hS h1 dL_law__1109 ?_
  refine lv_aload_n hx hb dL_law__1110 rfl (lv_at hl 3 rfl) ?_
  obtain ⟨v3, m4, h1, hf⟩ := bs2 hf
  refine am_cH (As := [.ref x1, .int v1, .int v2, .ref x3]) X (hml.trans hl.1.symm) hS (cL_ahead_ok (l := l) (E := E) hl0 h1) mh_179 ⟨Nat.le_trans (by decide) hR.1, Nat.le_trans (by decide) hR.2⟩ ⟨by omega, by omega⟩ rfl rfl (Nat.le_of_ble_eq_true rfl) dL_law__1111 (fun H locs hS => ?_)
  refine lv_topi (fun x5_5 e1 => ?_)
  have hf := lt1_n e1 hf
  refine lv_istore (lv' := [(5, .int x5_5), (0, .ref b), (1, .ref x1), (2, .ref x2), (3, .ref x3), (4, .int x4)]) hx hb dL_law__1114 hl (by decide) rfl (fun ls hl => ?_)
  refine lv_aload_n hx hb dL_law__1116 rfl (lv_at hl 3 rfl) ?_
  refine lv_aload_n hx hb dL_law__1117 rfl (lv_at hl 1 rfl) ?_
  refine lv_iload hx hb dL_law__1118 (lv_at hl 5 rfl) ?_
  refine lv_iconst (v := 1) hx hb dL_law__1120 (by decide) ?_
  refine lv_iadd hx hb dL_law__1121 ?_
  obtain ⟨v6, h1, hf⟩ := bs hf
  refine am_scr X hX hS h1 dL_law__1122 ?_
  refine lv_aload_n hx hb dL_law__1123 rfl (lv_at hl 1 rfl) ?_
  refine lv_iload hx hb dL_law__1124 (lv_at hl 5 rfl) ?_
  refine lv_iconst (v := 2) hx hb dL_law__1126 (by decide) ?_
  refine lv_iadd hx hb dL_law__1127 ?_
  obtain ⟨v7, h1, hf⟩ := bs hf
  refine am_scr X hX hS h1 dL_law__1128 ?_
  obtain ⟨u0, h0, hf⟩ := bs hf
  obtain ⟨_, hrc⟩ := isO_n h0
  obtain ⟨v8, m9, h1, hf⟩ := bs2 hf
  refine am_endi hS (am_runV (As := [.int v6, .int v7]) X (hml.trans hl.1.symm) hS (cX12_ahead_ok (l := l) (E := E) h1) mv_L_181 hrc rfl ⟨Nat.le_trans (by decide) hR.1, Nat.le_trans (by decide) hR.2⟩ ⟨by omega, by omega⟩ rfl rfl (Nat.le_of_ble_eq_true rfl) dL_law__1129) (fun H locs hS => ?_)
  refine lv_topi (fun x6_10 e1 => ?_)
  have hf := lt1_n e1 hf
  refine lv_istore (lv' := [(6, .int x6_10), (5, .int x5_5), (0, .ref b), (1, .ref x1), (2, .ref x2), (3, .ref x3), (4, .int x4)]) hx hb dL_law__1132 hl (by decide) rfl (fun ls hl => ?_)
  refine lv_aload_n hx hb dL_law__1134 rfl (lv_at hl 4 rfl) ?_
  obtain ⟨u0, h0, hf⟩ := bs hf
  obtain ⟨_, hrc⟩ := isO_n h0
  obtain ⟨v11, h1, hf⟩ := bs hf
  refine am_endi hS (am_runV (As := []) X (hml.trans hl.1.symm) hS (cX12_thrown_ok (l := l) (E := E) h1) mv_L_134 hrc rfl ⟨Nat.le_trans (by decide) hR.1, Nat.le_trans (by decide) hR.2⟩ ⟨by omega, by omega⟩ rfl rfl (Nat.le_of_ble_eq_true rfl) dL_law__1135) (fun H locs hS => ?_)
  refine lv_iload hx hb dL_law__1138 (lv_at hl 1 rfl) ?_
  refine lv_icmp_eq (tgt := 1145) hx hb dL_law__1140 (by decide) (fun q12 => ?_) (fun q12 => ?_)
  · have hf := ifp hf q12
    refine lv_iload hx hb dL_law__1145 (lv_at hl 1 rfl) ?_
    refine lv_if_ne (tgt := 1162) hx hb dL_law__1147 (by decide) (fun q13 => ?_) (fun q13 => ?_)
    · have hf := ifn hf q13
      refine lv_goto (tgt := 2743) hx hb dL_law__1162 (by decide) ?_
      exact kN _ (Option.some.inj hf).symm H locs ls _ _ (by omega) (by omega) hS (lv_sub hl [2, 3, 4, 5, 6] rfl)
    · have hf := ifp hf q13
      refine lv_aload_n hx hb dL_law__1150 rfl (lv_at hl 5 rfl) ?_
      refine lv_iconst (v := 0) hx hb dL_law__1151 (by decide) ?_
      obtain ⟨v14, h1, hf⟩ := bs hf
      refine am_lld X hS h1 dL_law__1152 ?_
      refine lv_iload hx hb dL_law__1153 (lv_at hl 0 rfl) ?_
      refine lv_i2l (v := ((x6_10).toInt64)) hx hb dL_law__1155 rfl ?_
      refine W.lcmp hx hb dL_law__1156 ?_
      refine lv_if_eq (tgt := 1162) hx hb dL_law__1157 (by decide) (fun q15 => ?_) (fun q15 => ?_)
      · have hf := ifp hf q15
        refine lv_goto (tgt := 2743) hx hb dL_law__1162 (by decide) ?_
        exact kN _ (Option.some.inj hf).symm H locs ls _ _ (by omega) (by omega) hS (lv_sub hl [2, 3, 4, 5, 6] rfl)
      · have hf := ifn hf q15
        refine lv_iconst (v := 0) hx hb dL_law__1160 (by decide) ?_
        exact kR _ (Option.some.inj hf).symm _ H locs ls _ _ (by omega) (by omega) dL_law__1161 hS
  · have hf := ifn hf q12
    refine lv_iconst (v := 0) hx hb dL_law__1143 (by decide) ?_
    exact kR _ (Option.some.inj hf).symm _ H locs ls _ _ (by omega) (by omega) dL_law__1144 hS
set_option maxHeartbeats 4000000 in
set_option maxRecDepth 100000 in
theorem wLc_15 {p : Program} {l : Launch} {e : Env} {R : Room} {s : State} {m : MethodId} {args : Array Value} {below : List Frame} {meth : Method} {c : Code} {Q : State → Prop} {E : Ev} {b L : Nat} {xs : Nat → Int32} (hl0 : l.stackTraces = false) (X : Cx p s m args c cL_law_ RL E) (hX : Scr E s b L xs) (hml : c.maxLocals = 8) (hR : 400 ≤ R.frames ∧ 20000 ≤ R.locals) {x1 x2 x3 : Nat} {x4 : Int32} {mm : Mem} {y : Mem ⊕ Int32} {kc ks : Nat} (hkc : kc + 1 ≤ R.cells) (hks : ks + 6 ≤ R.slots) (hf : fLc_15 (eS E) L xs x1 x2 x3 x4 mm = some y) (kN : ∀ mm1, y = .inl mm1 → ∀ (H : Heap) (locs : List Loc) (ls : Array Slot) (cells slots : Nat), cells ≤ kc + 1 → slots ≤ ks + 6 → wS E s mm1 H locs → lv_has ls 8 [(0, .ref b), (1, .ref x1), (2, .ref x2), (3, .ref x3), (4, .int x4)] → W p l e R s m args below meth c H locs cells slots Q (F0 m 2743 ls [])) (kR : ∀ v, y = .inr v → ∀ (pc : Nat) (H : Heap) (locs : List Loc) (ls : Array Slot) (cells slots : Nat), cells ≤ kc + 1 → slots ≤ ks + 6 → decode cL_law_ pc = .ok (.ireturn, 1) → ∀ {mm1 : Mem}, wS E s mm1 H locs → W p l e R s m args below meth c H locs cells slots Q (F0 m pc ls [.int v])) : ∀ (H : Heap) (locs : List Loc) (ls : Array Slot) (cells slots : Nat), cells ≤ kc → slots ≤ ks → wS E s mm H locs → lv_has ls 8 [(0, .ref b), (1, .ref x1), (2, .ref x2), (3, .ref x3), (4, .int x4)] → W p l e R s m args below meth c H locs cells slots Q (F0 m 1165 ls []) := by
  intro H locs ls cells slots hcc hcs hS hl
  have hx := X.1
  have hb := X.2.1
  unfold fLc_15 at hf
  refine lv_aload_n hx hb dL_law__1165 rfl (lv_at hl 1 rfl) ?_
  refine lv_aload_n hx hb dL_law__1166 rfl (lv_at hl 0 rfl) ?_
  refine lv_iload hx hb dL_law__1167 (lv_at hl 4 rfl) ?_
  refine lv_iconst (v := 1) hx hb dL_law__1169 (by decide) ?_
  refine lv_iadd hx hb dL_law__1170 ?_
  obtain ⟨v1, h1, hf⟩ := bs hf
  refine am_scr X hX hS h1 dL_law__1171 ?_
  refine lv_aload_n hx hb dL_law__1172 rfl (lv_at hl 3 rfl) ?_
  obtain ⟨v2, m3, h1, hf⟩ := bs2 hf
  refine am_cH (As := [.ref x1, .int v1, .ref x3]) X (hml.trans hl.1.symm) hS (cL_spread_ok (l := l) (E := E) hl0 h1) mh_182 ⟨Nat.le_trans (by decide) hR.1, Nat.le_trans (by decide) hR.2⟩ ⟨by omega, by omega⟩ rfl rfl (Nat.le_of_ble_eq_true rfl) dL_law__1173 (fun H locs hS => ?_)
  refine lv_topi (fun x5_4 e1 => ?_)
  have hf := lt1_n e1 hf
  refine lv_istore (lv' := [(5, .int x5_4), (0, .ref b), (1, .ref x1), (2, .ref x2), (3, .ref x3), (4, .int x4)]) hx hb dL_law__1176 hl (by decide) rfl (fun ls hl => ?_)
  refine lv_aload_n hx hb dL_law__1178 rfl (lv_at hl 3 rfl) ?_
  refine lv_aload_n hx hb dL_law__1179 rfl (lv_at hl 1 rfl) ?_
  refine lv_iload hx hb dL_law__1180 (lv_at hl 5 rfl) ?_
  refine lv_iconst (v := 1) hx hb dL_law__1182 (by decide) ?_
  refine lv_iadd hx hb dL_law__1183 ?_
  obtain ⟨v5, h1, hf⟩ := bs hf
  refine am_scr X hX hS h1 dL_law__1184 ?_
  obtain ⟨u0, h0, hf⟩ := bs hf
  obtain ⟨_, hrc⟩ := isO_n h0
  obtain ⟨v6, m7, h1, hf⟩ := bs2 hf
  refine am_endi hS (am_runV (As := [.int v5]) X (hml.trans hl.1.symm) hS (cX12_spread_ok (l := l) (E := E) h1) mv_L_184 hrc rfl ⟨Nat.le_trans (by decide) hR.1, Nat.le_trans (by decide) hR.2⟩ ⟨by omega, by omega⟩ rfl rfl (Nat.le_of_ble_eq_true rfl) dL_law__1185) (fun H locs hS => ?_)
  refine lv_topi (fun x6_8 e1 => ?_)
  have hf := lt1_n e1 hf
  refine lv_istore (lv' := [(6, .int x6_8), (5, .int x5_4), (0, .ref b), (1, .ref x1), (2, .ref x2), (3, .ref x3), (4, .int x4)]) hx hb dL_law__1188 hl (by decide) rfl (fun ls hl => ?_)
  refine lv_aload_n hx hb dL_law__1190 rfl (lv_at hl 4 rfl) ?_
  obtain ⟨u0, h0, hf⟩ := bs hf
  obtain ⟨_, hrc⟩ := isO_n h0
  obtain ⟨v9, h1, hf⟩ := bs hf
  refine am_endi hS (am_runV (As := []) X (hml.trans hl.1.symm) hS (cX12_thrown_ok (l := l) (E := E) h1) mv_L_134 hrc rfl ⟨Nat.le_trans (by decide) hR.1, Nat.le_trans (by decide) hR.2⟩ ⟨by omega, by omega⟩ rfl rfl (Nat.le_of_ble_eq_true rfl) dL_law__1191) (fun H locs hS => ?_)
  refine lv_iload hx hb dL_law__1194 (lv_at hl 1 rfl) ?_
  refine lv_icmp_eq (tgt := 1201) hx hb dL_law__1196 (by decide) (fun q10 => ?_) (fun q10 => ?_)
  · have hf := ifp hf q10
    refine lv_iload hx hb dL_law__1201 (lv_at hl 1 rfl) ?_
    refine lv_if_ne (tgt := 1218) hx hb dL_law__1203 (by decide) (fun q11 => ?_) (fun q11 => ?_)
    · have hf := ifn hf q11
      refine lv_goto (tgt := 2743) hx hb dL_law__1218 (by decide) ?_
      exact kN _ (Option.some.inj hf).symm H locs ls _ _ (by omega) (by omega) hS (lv_sub hl [2, 3, 4, 5, 6] rfl)
    · have hf := ifp hf q11
      refine lv_aload_n hx hb dL_law__1206 rfl (lv_at hl 5 rfl) ?_
      refine lv_iconst (v := 0) hx hb dL_law__1207 (by decide) ?_
      obtain ⟨v12, h1, hf⟩ := bs hf
      refine am_lld X hS h1 dL_law__1208 ?_
      refine lv_iload hx hb dL_law__1209 (lv_at hl 0 rfl) ?_
      refine lv_i2l (v := ((x6_8).toInt64)) hx hb dL_law__1211 rfl ?_
      refine W.lcmp hx hb dL_law__1212 ?_
      refine lv_if_eq (tgt := 1218) hx hb dL_law__1213 (by decide) (fun q13 => ?_) (fun q13 => ?_)
      · have hf := ifp hf q13
        refine lv_goto (tgt := 2743) hx hb dL_law__1218 (by decide) ?_
        exact kN _ (Option.some.inj hf).symm H locs ls _ _ (by omega) (by omega) hS (lv_sub hl [2, 3, 4, 5, 6] rfl)
      · have hf := ifn hf q13
        refine lv_iconst (v := 0) hx hb dL_law__1216 (by decide) ?_
        exact kR _ (Option.some.inj hf).symm _ H locs ls _ _ (by omega) (by omega) dL_law__1217 hS
  · have hf := ifn hf q10
    refine lv_iconst (v := 0) hx hb dL_law__1199 (by decide) ?_
    exact kR _ (Option.some.inj hf).symm _ H locs ls _ _ (by omega) (by omega) dL_law__1200 hS
set_option maxHeartbeats 4000000 in
set_option maxRecDepth 100000 in
theorem wLc_16 {p : Program} {l : Launch} {e : Env} {R : Room} {s : State} {m : MethodId} {args : Array Value} {below : List Frame} {meth : Method} {c : Code} {Q : State → Prop} {E : Ev} {b L : Nat} {xs : Nat → Int32} (hl0 : l.stackTraces = false) (X : Cx p s m args c cL_law_ RL E) (hX : Scr E s b L xs) (hml : c.maxLocals = 8) (hR : 400 ≤ R.frames ∧ 20000 ≤ R.locals) {x1 x2 x3 : Nat} {x4 : Int32} {mm : Mem} {y : Mem ⊕ Int32} {kc ks : Nat} (hkc : kc + 1 ≤ R.cells) (hks : ks + 6 ≤ R.slots) (hf : fLc_16 (eS E) L xs x1 x2 x3 x4 mm = some y) (kN : ∀ mm1, y = .inl mm1 → ∀ (H : Heap) (locs : List Loc) (ls : Array Slot) (cells slots : Nat), cells ≤ kc + 1 → slots ≤ ks + 6 → wS E s mm1 H locs → lv_has ls 8 [(0, .ref b), (1, .ref x1), (2, .ref x2), (3, .ref x3), (4, .int x4)] → W p l e R s m args below meth c H locs cells slots Q (F0 m 2743 ls [])) (kR : ∀ v, y = .inr v → ∀ (pc : Nat) (H : Heap) (locs : List Loc) (ls : Array Slot) (cells slots : Nat), cells ≤ kc + 1 → slots ≤ ks + 6 → decode cL_law_ pc = .ok (.ireturn, 1) → ∀ {mm1 : Mem}, wS E s mm1 H locs → W p l e R s m args below meth c H locs cells slots Q (F0 m pc ls [.int v])) : ∀ (H : Heap) (locs : List Loc) (ls : Array Slot) (cells slots : Nat), cells ≤ kc → slots ≤ ks → wS E s mm H locs → lv_has ls 8 [(0, .ref b), (1, .ref x1), (2, .ref x2), (3, .ref x3), (4, .int x4)] → W p l e R s m args below meth c H locs cells slots Q (F0 m 1221 ls []) := by
  intro H locs ls cells slots hcc hcs hS hl
  have hx := X.1
  have hb := X.2.1
  unfold fLc_16 at hf
  refine lv_aload_n hx hb dL_law__1221 rfl (lv_at hl 1 rfl) ?_
  refine lv_aload_n hx hb dL_law__1222 rfl (lv_at hl 0 rfl) ?_
  refine lv_iload hx hb dL_law__1223 (lv_at hl 4 rfl) ?_
  refine lv_iconst (v := 1) hx hb dL_law__1225 (by decide) ?_
  refine lv_iadd hx hb dL_law__1226 ?_
  obtain ⟨v1, h1, hf⟩ := bs hf
  refine am_scr X hX hS h1 dL_law__1227 ?_
  refine lv_aload_n hx hb dL_law__1228 rfl (lv_at hl 3 rfl) ?_
  obtain ⟨v2, m3, h1, hf⟩ := bs2 hf
  refine am_cH (As := [.ref x1, .int v1, .ref x3]) X (hml.trans hl.1.symm) hS (cL_bow_ok (l := l) (E := E) hl0 h1) mh_185 ⟨Nat.le_trans (by decide) hR.1, Nat.le_trans (by decide) hR.2⟩ ⟨by omega, by omega⟩ rfl rfl (Nat.le_of_ble_eq_true rfl) dL_law__1229 (fun H locs hS => ?_)
  refine lv_topi (fun x5_4 e1 => ?_)
  have hf := lt1_n e1 hf
  refine lv_istore (lv' := [(5, .int x5_4), (0, .ref b), (1, .ref x1), (2, .ref x2), (3, .ref x3), (4, .int x4)]) hx hb dL_law__1232 hl (by decide) rfl (fun ls hl => ?_)
  refine lv_aload_n hx hb dL_law__1234 rfl (lv_at hl 3 rfl) ?_
  refine lv_aload_n hx hb dL_law__1235 rfl (lv_at hl 1 rfl) ?_
  refine lv_iload hx hb dL_law__1236 (lv_at hl 5 rfl) ?_
  refine lv_iconst (v := 1) hx hb dL_law__1238 (by decide) ?_
  refine lv_iadd hx hb dL_law__1239 ?_
  obtain ⟨v5, h1, hf⟩ := bs hf
  refine am_scr X hX hS h1 dL_law__1240 ?_
  obtain ⟨u0, h0, hf⟩ := bs hf
  obtain ⟨_, hrc⟩ := isO_n h0
  obtain ⟨v6, m7, h1, hf⟩ := bs2 hf
  refine am_endi hS (am_runV (As := [.int v5]) X (hml.trans hl.1.symm) hS (cX12_bow_ok (l := l) (E := E) h1) mv_L_187 hrc rfl ⟨Nat.le_trans (by decide) hR.1, Nat.le_trans (by decide) hR.2⟩ ⟨by omega, by omega⟩ rfl rfl (Nat.le_of_ble_eq_true rfl) dL_law__1241) (fun H locs hS => ?_)
  refine lv_topi (fun x6_8 e1 => ?_)
  have hf := lt1_n e1 hf
  refine lv_istore (lv' := [(6, .int x6_8), (5, .int x5_4), (0, .ref b), (1, .ref x1), (2, .ref x2), (3, .ref x3), (4, .int x4)]) hx hb dL_law__1244 hl (by decide) rfl (fun ls hl => ?_)
  refine lv_aload_n hx hb dL_law__1246 rfl (lv_at hl 4 rfl) ?_
  obtain ⟨u0, h0, hf⟩ := bs hf
  obtain ⟨_, hrc⟩ := isO_n h0
  obtain ⟨v9, h1, hf⟩ := bs hf
  refine am_endi hS (am_runV (As := []) X (hml.trans hl.1.symm) hS (cX12_thrown_ok (l := l) (E := E) h1) mv_L_134 hrc rfl ⟨Nat.le_trans (by decide) hR.1, Nat.le_trans (by decide) hR.2⟩ ⟨by omega, by omega⟩ rfl rfl (Nat.le_of_ble_eq_true rfl) dL_law__1247) (fun H locs hS => ?_)
  refine lv_iload hx hb dL_law__1250 (lv_at hl 1 rfl) ?_
  refine lv_icmp_eq (tgt := 1257) hx hb dL_law__1252 (by decide) (fun q10 => ?_) (fun q10 => ?_)
  · have hf := ifp hf q10
    refine lv_iload hx hb dL_law__1257 (lv_at hl 1 rfl) ?_
    refine lv_if_ne (tgt := 1274) hx hb dL_law__1259 (by decide) (fun q11 => ?_) (fun q11 => ?_)
    · have hf := ifn hf q11
      refine lv_goto (tgt := 2743) hx hb dL_law__1274 (by decide) ?_
      exact kN _ (Option.some.inj hf).symm H locs ls _ _ (by omega) (by omega) hS (lv_sub hl [2, 3, 4, 5, 6] rfl)
    · have hf := ifp hf q11
      refine lv_aload_n hx hb dL_law__1262 rfl (lv_at hl 5 rfl) ?_
      refine lv_iconst (v := 0) hx hb dL_law__1263 (by decide) ?_
      obtain ⟨v12, h1, hf⟩ := bs hf
      refine am_lld X hS h1 dL_law__1264 ?_
      refine lv_iload hx hb dL_law__1265 (lv_at hl 0 rfl) ?_
      refine lv_i2l (v := ((x6_8).toInt64)) hx hb dL_law__1267 rfl ?_
      refine W.lcmp hx hb dL_law__1268 ?_
      refine lv_if_eq (tgt := 1274) hx hb dL_law__1269 (by decide) (fun q13 => ?_) (fun q13 => ?_)
      · have hf := ifp hf q13
        refine lv_goto (tgt := 2743) hx hb dL_law__1274 (by decide) ?_
        exact kN _ (Option.some.inj hf).symm H locs ls _ _ (by omega) (by omega) hS (lv_sub hl [2, 3, 4, 5, 6] rfl)
      · have hf := ifn hf q13
        refine lv_iconst (v := 0) hx hb dL_law__1272 (by decide) ?_
        exact kR _ (Option.some.inj hf).symm _ H locs ls _ _ (by omega) (by omega) dL_law__1273 hS
  · have hf := ifn hf q10
    refine lv_iconst (v := 0) hx hb dL_law__1255 (by decide) ?_
    exact kR _ (Option.some.inj hf).symm _ H locs ls _ _ (by omega) (by omega) dL_law__1256 hS
set_option maxHeartbeats 4000000 in
set_option maxRecDepth 100000 in
theorem wLc_17 {p : Program} {l : Launch} {e : Env} {R : Room} {s : State} {m : MethodId} {args : Array Value} {below : List Frame} {meth : Method} {c : Code} {Q : State → Prop} {E : Ev} {b L : Nat} {xs : Nat → Int32} (hl0 : l.stackTraces = false) (X : Cx p s m args c cL_law_ RL E) (hX : Scr E s b L xs) (hml : c.maxLocals = 8) (hR : 400 ≤ R.frames ∧ 20000 ≤ R.locals) {x1 x2 x3 : Nat} {x4 : Int32} {mm : Mem} {y : Mem ⊕ Int32} {kc ks : Nat} (hkc : kc + 1 ≤ R.cells) (hks : ks + 6 ≤ R.slots) (hf : fLc_17 (eS E) L xs x1 x2 x3 x4 mm = some y) (kN : ∀ mm1, y = .inl mm1 → ∀ (H : Heap) (locs : List Loc) (ls : Array Slot) (cells slots : Nat), cells ≤ kc + 1 → slots ≤ ks + 6 → wS E s mm1 H locs → lv_has ls 8 [(0, .ref b), (1, .ref x1), (2, .ref x2), (3, .ref x3), (4, .int x4)] → W p l e R s m args below meth c H locs cells slots Q (F0 m 2743 ls [])) (kR : ∀ v, y = .inr v → ∀ (pc : Nat) (H : Heap) (locs : List Loc) (ls : Array Slot) (cells slots : Nat), cells ≤ kc + 1 → slots ≤ ks + 6 → decode cL_law_ pc = .ok (.ireturn, 1) → ∀ {mm1 : Mem}, wS E s mm1 H locs → W p l e R s m args below meth c H locs cells slots Q (F0 m pc ls [.int v])) : ∀ (H : Heap) (locs : List Loc) (ls : Array Slot) (cells slots : Nat), cells ≤ kc → slots ≤ ks → wS E s mm H locs → lv_has ls 8 [(0, .ref b), (1, .ref x1), (2, .ref x2), (3, .ref x3), (4, .int x4)] → W p l e R s m args below meth c H locs cells slots Q (F0 m 1277 ls []) := by
  intro H locs ls cells slots hcc hcs hS hl
  have hx := X.1
  have hb := X.2.1
  unfold fLc_17 at hf
  refine lv_aload_n hx hb dL_law__1277 rfl (lv_at hl 1 rfl) ?_
  refine lv_aload_n hx hb dL_law__1278 rfl (lv_at hl 0 rfl) ?_
  refine lv_iload hx hb dL_law__1279 (lv_at hl 4 rfl) ?_
  refine lv_iconst (v := 1) hx hb dL_law__1281 (by decide) ?_
  refine lv_iadd hx hb dL_law__1282 ?_
  obtain ⟨v1, h1, hf⟩ := bs hf
  refine am_scr X hX hS h1 dL_law__1283 ?_
  refine lv_aload_n hx hb dL_law__1284 rfl (lv_at hl 0 rfl) ?_
  refine lv_iload hx hb dL_law__1285 (lv_at hl 4 rfl) ?_
  refine lv_iconst (v := 2) hx hb dL_law__1287 (by decide) ?_
  refine lv_iadd hx hb dL_law__1288 ?_
  obtain ⟨v2, h1, hf⟩ := bs hf
  refine am_scr X hX hS h1 dL_law__1289 ?_
  refine lv_aload_n hx hb dL_law__1290 rfl (lv_at hl 0 rfl) ?_
  refine lv_iload hx hb dL_law__1291 (lv_at hl 4 rfl) ?_
  refine lv_iconst (v := 3) hx hb dL_law__1293 (by decide) ?_
  refine lv_iadd hx hb dL_law__1294 ?_
  obtain ⟨v3, h1, hf⟩ := bs hf
  refine am_scr X hX hS h1 dL_law__1295 ?_
  refine lv_aload_n hx hb dL_law__1296 rfl (lv_at hl 3 rfl) ?_
  obtain ⟨v4, m5, h1, hf⟩ := bs2 hf
  refine am_cH (As := [.ref x1, .int v1, .int v2, .int v3, .ref x3]) X (hml.trans hl.1.symm) hS (cL_through_ok (l := l) (E := E) hl0 h1) mh_188 ⟨Nat.le_trans (by decide) hR.1, Nat.le_trans (by decide) hR.2⟩ ⟨by omega, by omega⟩ rfl rfl (Nat.le_of_ble_eq_true rfl) dL_law__1297 (fun H locs hS => ?_)
  refine lv_topi (fun x5_6 e1 => ?_)
  have hf := lt1_n e1 hf
  refine lv_istore (lv' := [(5, .int x5_6), (0, .ref b), (1, .ref x1), (2, .ref x2), (3, .ref x3), (4, .int x4)]) hx hb dL_law__1300 hl (by decide) rfl (fun ls hl => ?_)
  refine lv_aload_n hx hb dL_law__1302 rfl (lv_at hl 3 rfl) ?_
  refine lv_aload_n hx hb dL_law__1303 rfl (lv_at hl 1 rfl) ?_
  refine lv_iload hx hb dL_law__1304 (lv_at hl 5 rfl) ?_
  refine lv_iconst (v := 1) hx hb dL_law__1306 (by decide) ?_
  refine lv_iadd hx hb dL_law__1307 ?_
  obtain ⟨v7, h1, hf⟩ := bs hf
  refine am_scr X hX hS h1 dL_law__1308 ?_
  refine lv_aload_n hx hb dL_law__1309 rfl (lv_at hl 1 rfl) ?_
  refine lv_iload hx hb dL_law__1310 (lv_at hl 5 rfl) ?_
  refine lv_iconst (v := 2) hx hb dL_law__1312 (by decide) ?_
  refine lv_iadd hx hb dL_law__1313 ?_
  obtain ⟨v8, h1, hf⟩ := bs hf
  refine am_scr X hX hS h1 dL_law__1314 ?_
  refine lv_aload_n hx hb dL_law__1315 rfl (lv_at hl 1 rfl) ?_
  refine lv_iload hx hb dL_law__1316 (lv_at hl 5 rfl) ?_
  refine lv_iconst (v := 3) hx hb dL_law__1318 (by decide) ?_
  refine lv_iadd hx hb dL_law__1319 ?_
  obtain ⟨v9, h1, hf⟩ := bs hf
  refine am_scr X hX hS h1 dL_law__1320 ?_
  obtain ⟨u0, h0, hf⟩ := bs hf
  obtain ⟨_, hrc⟩ := isO_n h0
  obtain ⟨v10, m11, h1, hf⟩ := bs2 hf
  refine am_endi hS (am_runV (As := [.int v7, .int v8, .int v9]) X (hml.trans hl.1.symm) hS (cX12_through_ok (l := l) (E := E) h1) mv_L_190 hrc rfl ⟨Nat.le_trans (by decide) hR.1, Nat.le_trans (by decide) hR.2⟩ ⟨by omega, by omega⟩ rfl rfl (Nat.le_of_ble_eq_true rfl) dL_law__1321) (fun H locs hS => ?_)
  refine lv_topi (fun x6_12 e1 => ?_)
  have hf := lt1_n e1 hf
  refine lv_istore (lv' := [(6, .int x6_12), (5, .int x5_6), (0, .ref b), (1, .ref x1), (2, .ref x2), (3, .ref x3), (4, .int x4)]) hx hb dL_law__1324 hl (by decide) rfl (fun ls hl => ?_)
  refine lv_aload_n hx hb dL_law__1326 rfl (lv_at hl 4 rfl) ?_
  obtain ⟨u0, h0, hf⟩ := bs hf
  obtain ⟨_, hrc⟩ := isO_n h0
  obtain ⟨v13, h1, hf⟩ := bs hf
  refine am_endi hS (am_runV (As := []) X (hml.trans hl.1.symm) hS (cX12_thrown_ok (l := l) (E := E) h1) mv_L_134 hrc rfl ⟨Nat.le_trans (by decide) hR.1, Nat.le_trans (by decide) hR.2⟩ ⟨by omega, by omega⟩ rfl rfl (Nat.le_of_ble_eq_true rfl) dL_law__1327) (fun H locs hS => ?_)
  refine lv_iload hx hb dL_law__1330 (lv_at hl 1 rfl) ?_
  refine lv_icmp_eq (tgt := 1337) hx hb dL_law__1332 (by decide) (fun q14 => ?_) (fun q14 => ?_)
  · have hf := ifp hf q14
    refine lv_iload hx hb dL_law__1337 (lv_at hl 1 rfl) ?_
    refine lv_if_ne (tgt := 1354) hx hb dL_law__1339 (by decide) (fun q15 => ?_) (fun q15 => ?_)
    · have hf := ifn hf q15
      refine lv_goto (tgt := 2743) hx hb dL_law__1354 (by decide) ?_
      exact kN _ (Option.some.inj hf).symm H locs ls _ _ (by omega) (by omega) hS (lv_sub hl [2, 3, 4, 5, 6] rfl)
    · have hf := ifp hf q15
      refine lv_aload_n hx hb dL_law__1342 rfl (lv_at hl 5 rfl) ?_
      refine lv_iconst (v := 0) hx hb dL_law__1343 (by decide) ?_
      obtain ⟨v16, h1, hf⟩ := bs hf
      refine am_lld X hS h1 dL_law__1344 ?_
      refine lv_iload hx hb dL_law__1345 (lv_at hl 0 rfl) ?_
      refine lv_i2l (v := ((x6_12).toInt64)) hx hb dL_law__1347 rfl ?_
      refine W.lcmp hx hb dL_law__1348 ?_
      refine lv_if_eq (tgt := 1354) hx hb dL_law__1349 (by decide) (fun q17 => ?_) (fun q17 => ?_)
      · have hf := ifp hf q17
        refine lv_goto (tgt := 2743) hx hb dL_law__1354 (by decide) ?_
        exact kN _ (Option.some.inj hf).symm H locs ls _ _ (by omega) (by omega) hS (lv_sub hl [2, 3, 4, 5, 6] rfl)
      · have hf := ifn hf q17
        refine lv_iconst (v := 0) hx hb dL_law__1352 (by decide) ?_
        exact kR _ (Option.some.inj hf).symm _ H locs ls _ _ (by omega) (by omega) dL_law__1353 hS
  · have hf := ifn hf q14
    refine lv_iconst (v := 0) hx hb dL_law__1335 (by decide) ?_
    exact kR _ (Option.some.inj hf).symm _ H locs ls _ _ (by omega) (by omega) dL_law__1336 hS
set_option maxHeartbeats 4000000 in
set_option maxRecDepth 100000 in
theorem wLc_18 {p : Program} {l : Launch} {e : Env} {R : Room} {s : State} {m : MethodId} {args : Array Value} {below : List Frame} {meth : Method} {c : Code} {Q : State → Prop} {E : Ev} {b L : Nat} {xs : Nat → Int32} (hl0 : l.stackTraces = false) (X : Cx p s m args c cL_law_ RL E) (hX : Scr E s b L xs) (hml : c.maxLocals = 8) (hR : 400 ≤ R.frames ∧ 20000 ≤ R.locals) {x1 x2 x3 : Nat} {x4 : Int32} {mm : Mem} {y : Mem ⊕ Int32} {kc ks : Nat} (hkc : kc + 1 ≤ R.cells) (hks : ks + 6 ≤ R.slots) (hf : fLc_18 (eS E) L xs x1 x2 x3 x4 mm = some y) (kN : ∀ mm1, y = .inl mm1 → ∀ (H : Heap) (locs : List Loc) (ls : Array Slot) (cells slots : Nat), cells ≤ kc + 1 → slots ≤ ks + 6 → wS E s mm1 H locs → lv_has ls 8 [(0, .ref b), (1, .ref x1), (2, .ref x2), (3, .ref x3), (4, .int x4)] → W p l e R s m args below meth c H locs cells slots Q (F0 m 2743 ls [])) (kR : ∀ v, y = .inr v → ∀ (pc : Nat) (H : Heap) (locs : List Loc) (ls : Array Slot) (cells slots : Nat), cells ≤ kc + 1 → slots ≤ ks + 6 → decode cL_law_ pc = .ok (.ireturn, 1) → ∀ {mm1 : Mem}, wS E s mm1 H locs → W p l e R s m args below meth c H locs cells slots Q (F0 m pc ls [.int v])) : ∀ (H : Heap) (locs : List Loc) (ls : Array Slot) (cells slots : Nat), cells ≤ kc → slots ≤ ks → wS E s mm H locs → lv_has ls 8 [(0, .ref b), (1, .ref x1), (2, .ref x2), (3, .ref x3), (4, .int x4)] → W p l e R s m args below meth c H locs cells slots Q (F0 m 1357 ls []) := by
  intro H locs ls cells slots hcc hcs hS hl
  have hx := X.1
  have hb := X.2.1
  unfold fLc_18 at hf
  refine lv_aload_n hx hb dL_law__1357 rfl (lv_at hl 1 rfl) ?_
  refine lv_aload_n hx hb dL_law__1358 rfl (lv_at hl 0 rfl) ?_
  refine lv_iload hx hb dL_law__1359 (lv_at hl 4 rfl) ?_
  refine lv_iconst (v := 1) hx hb dL_law__1361 (by decide) ?_
  refine lv_iadd hx hb dL_law__1362 ?_
  obtain ⟨v1, h1, hf⟩ := bs hf
  refine am_scr X hX hS h1 dL_law__1363 ?_
  refine lv_aload_n hx hb dL_law__1364 rfl (lv_at hl 0 rfl) ?_
  refine lv_iload hx hb dL_law__1365 (lv_at hl 4 rfl) ?_
  refine lv_iconst (v := 2) hx hb dL_law__1367 (by decide) ?_
  refine lv_iadd hx hb dL_law__1368 ?_
  obtain ⟨v2, h1, hf⟩ := bs hf
  refine am_scr X hX hS h1 dL_law__1369 ?_
  refine lv_aload_n hx hb dL_law__1370 rfl (lv_at hl 3 rfl) ?_
  obtain ⟨v3, m4, h1, hf⟩ := bs2 hf
  refine am_cH (As := [.ref x1, .int v1, .int v2, .ref x3]) X (hml.trans hl.1.symm) hS (cL_serves_ok (l := l) (E := E) hl0 h1) mh_191 ⟨Nat.le_trans (by decide) hR.1, Nat.le_trans (by decide) hR.2⟩ ⟨by omega, by omega⟩ rfl rfl (Nat.le_of_ble_eq_true rfl) dL_law__1371 (fun H locs hS => ?_)
  refine lv_topi (fun x5_5 e1 => ?_)
  have hf := lt1_n e1 hf
  refine lv_istore (lv' := [(5, .int x5_5), (0, .ref b), (1, .ref x1), (2, .ref x2), (3, .ref x3), (4, .int x4)]) hx hb dL_law__1374 hl (by decide) rfl (fun ls hl => ?_)
  refine lv_aload_n hx hb dL_law__1376 rfl (lv_at hl 3 rfl) ?_
  refine lv_aload_n hx hb dL_law__1377 rfl (lv_at hl 1 rfl) ?_
  refine lv_iload hx hb dL_law__1378 (lv_at hl 5 rfl) ?_
  refine lv_iconst (v := 1) hx hb dL_law__1380 (by decide) ?_
  refine lv_iadd hx hb dL_law__1381 ?_
  obtain ⟨v6, h1, hf⟩ := bs hf
  refine am_scr X hX hS h1 dL_law__1382 ?_
  refine lv_aload_n hx hb dL_law__1383 rfl (lv_at hl 1 rfl) ?_
  refine lv_iload hx hb dL_law__1384 (lv_at hl 5 rfl) ?_
  refine lv_iconst (v := 2) hx hb dL_law__1386 (by decide) ?_
  refine lv_iadd hx hb dL_law__1387 ?_
  obtain ⟨v7, h1, hf⟩ := bs hf
  refine am_scr X hX hS h1 dL_law__1388 ?_
  obtain ⟨u0, h0, hf⟩ := bs hf
  obtain ⟨_, hrc⟩ := isO_n h0
  obtain ⟨v8, m9, h1, hf⟩ := bs2 hf
  refine am_endi hS (am_runV (As := [.int v6, .int v7]) X (hml.trans hl.1.symm) hS (cX12_serves_ok (l := l) (E := E) h1) mv_L_193 hrc rfl ⟨Nat.le_trans (by decide) hR.1, Nat.le_trans (by decide) hR.2⟩ ⟨by omega, by omega⟩ rfl rfl (Nat.le_of_ble_eq_true rfl) dL_law__1389) (fun H locs hS => ?_)
  refine lv_topi (fun x6_10 e1 => ?_)
  have hf := lt1_n e1 hf
  refine lv_istore (lv' := [(6, .int x6_10), (5, .int x5_5), (0, .ref b), (1, .ref x1), (2, .ref x2), (3, .ref x3), (4, .int x4)]) hx hb dL_law__1392 hl (by decide) rfl (fun ls hl => ?_)
  refine lv_aload_n hx hb dL_law__1394 rfl (lv_at hl 4 rfl) ?_
  obtain ⟨u0, h0, hf⟩ := bs hf
  obtain ⟨_, hrc⟩ := isO_n h0
  obtain ⟨v11, h1, hf⟩ := bs hf
  refine am_endi hS (am_runV (As := []) X (hml.trans hl.1.symm) hS (cX12_thrown_ok (l := l) (E := E) h1) mv_L_134 hrc rfl ⟨Nat.le_trans (by decide) hR.1, Nat.le_trans (by decide) hR.2⟩ ⟨by omega, by omega⟩ rfl rfl (Nat.le_of_ble_eq_true rfl) dL_law__1395) (fun H locs hS => ?_)
  refine lv_iload hx hb dL_law__1398 (lv_at hl 1 rfl) ?_
  refine lv_icmp_eq (tgt := 1405) hx hb dL_law__1400 (by decide) (fun q12 => ?_) (fun q12 => ?_)
  · have hf := ifp hf q12
    refine lv_iload hx hb dL_law__1405 (lv_at hl 1 rfl) ?_
    refine lv_if_ne (tgt := 1422) hx hb dL_law__1407 (by decide) (fun q13 => ?_) (fun q13 => ?_)
    · have hf := ifn hf q13
      refine lv_goto (tgt := 2743) hx hb dL_law__1422 (by decide) ?_
      exact kN _ (Option.some.inj hf).symm H locs ls _ _ (by omega) (by omega) hS (lv_sub hl [2, 3, 4, 5, 6] rfl)
    · have hf := ifp hf q13
      refine lv_aload_n hx hb dL_law__1410 rfl (lv_at hl 5 rfl) ?_
      refine lv_iconst (v := 0) hx hb dL_law__1411 (by decide) ?_
      obtain ⟨v14, h1, hf⟩ := bs hf
      refine am_lld X hS h1 dL_law__1412 ?_
      refine lv_iload hx hb dL_law__1413 (lv_at hl 0 rfl) ?_
      refine lv_i2l (v := ((x6_10).toInt64)) hx hb dL_law__1415 rfl ?_
      refine W.lcmp hx hb dL_law__1416 ?_
      refine lv_if_eq (tgt := 1422) hx hb dL_law__1417 (by decide) (fun q15 => ?_) (fun q15 => ?_)
      · have hf := ifp hf q15
        refine lv_goto (tgt := 2743) hx hb dL_law__1422 (by decide) ?_
        exact kN _ (Option.some.inj hf).symm H locs ls _ _ (by omega) (by omega) hS (lv_sub hl [2, 3, 4, 5, 6] rfl)
      · have hf := ifn hf q15
        refine lv_iconst (v := 0) hx hb dL_law__1420 (by decide) ?_
        exact kR _ (Option.some.inj hf).symm _ H locs ls _ _ (by omega) (by omega) dL_law__1421 hS
  · have hf := ifn hf q12
    refine lv_iconst (v := 0) hx hb dL_law__1403 (by decide) ?_
    exact kR _ (Option.some.inj hf).symm _ H locs ls _ _ (by omega) (by omega) dL_law__1404 hS
set_option maxHeartbeats 4000000 in
set_option maxRecDepth 100000 in
theorem wLc_19 {p : Program} {l : Launch} {e : Env} {R : Room} {s : State} {m : MethodId} {args : Array Value} {below : List Frame} {meth : Method} {c : Code} {Q : State → Prop} {E : Ev} {b L : Nat} {xs : Nat → Int32} (hl0 : l.stackTraces = false) (X : Cx p s m args c cL_law_ RL E) (hX : Scr E s b L xs) (hml : c.maxLocals = 8) (hR : 400 ≤ R.frames ∧ 20000 ≤ R.locals) {x1 x2 x3 : Nat} {x4 : Int32} {mm : Mem} {y : Mem ⊕ Int32} {kc ks : Nat} (hkc : kc + 1 ≤ R.cells) (hks : ks + 6 ≤ R.slots) (hf : fLc_19 (eS E) L xs x1 x2 x3 x4 mm = some y) (kN : ∀ mm1, y = .inl mm1 → ∀ (H : Heap) (locs : List Loc) (ls : Array Slot) (cells slots : Nat), cells ≤ kc + 1 → slots ≤ ks + 6 → wS E s mm1 H locs → lv_has ls 8 [(0, .ref b), (1, .ref x1), (2, .ref x2), (3, .ref x3), (4, .int x4)] → W p l e R s m args below meth c H locs cells slots Q (F0 m 2743 ls [])) (kR : ∀ v, y = .inr v → ∀ (pc : Nat) (H : Heap) (locs : List Loc) (ls : Array Slot) (cells slots : Nat), cells ≤ kc + 1 → slots ≤ ks + 6 → decode cL_law_ pc = .ok (.ireturn, 1) → ∀ {mm1 : Mem}, wS E s mm1 H locs → W p l e R s m args below meth c H locs cells slots Q (F0 m pc ls [.int v])) : ∀ (H : Heap) (locs : List Loc) (ls : Array Slot) (cells slots : Nat), cells ≤ kc → slots ≤ ks → wS E s mm H locs → lv_has ls 8 [(0, .ref b), (1, .ref x1), (2, .ref x2), (3, .ref x3), (4, .int x4)] → W p l e R s m args below meth c H locs cells slots Q (F0 m 1425 ls []) := by
  intro H locs ls cells slots hcc hcs hS hl
  have hx := X.1
  have hb := X.2.1
  unfold fLc_19 at hf
  refine lv_aload_n hx hb dL_law__1425 rfl (lv_at hl 1 rfl) ?_
  refine lv_aload_n hx hb dL_law__1426 rfl (lv_at hl 0 rfl) ?_
  refine lv_iload hx hb dL_law__1427 (lv_at hl 4 rfl) ?_
  refine lv_iconst (v := 1) hx hb dL_law__1429 (by decide) ?_
  refine lv_iadd hx hb dL_law__1430 ?_
  obtain ⟨v1, h1, hf⟩ := bs hf
  refine am_scr X hX hS h1 dL_law__1431 ?_
  refine lv_aload_n hx hb dL_law__1432 rfl (lv_at hl 3 rfl) ?_
  obtain ⟨v2, m3, h1, hf⟩ := bs2 hf
  refine am_cH (As := [.ref x1, .int v1, .ref x3]) X (hml.trans hl.1.symm) hS (cL_fits_ok (l := l) (E := E) hl0 h1) mh_194 ⟨Nat.le_trans (by decide) hR.1, Nat.le_trans (by decide) hR.2⟩ ⟨by omega, by omega⟩ rfl rfl (Nat.le_of_ble_eq_true rfl) dL_law__1433 (fun H locs hS => ?_)
  refine lv_topi (fun x5_4 e1 => ?_)
  have hf := lt1_n e1 hf
  refine lv_istore (lv' := [(5, .int x5_4), (0, .ref b), (1, .ref x1), (2, .ref x2), (3, .ref x3), (4, .int x4)]) hx hb dL_law__1436 hl (by decide) rfl (fun ls hl => ?_)
  refine lv_aload_n hx hb dL_law__1438 rfl (lv_at hl 3 rfl) ?_
  refine lv_aload_n hx hb dL_law__1439 rfl (lv_at hl 1 rfl) ?_
  refine lv_iload hx hb dL_law__1440 (lv_at hl 5 rfl) ?_
  refine lv_iconst (v := 1) hx hb dL_law__1442 (by decide) ?_
  refine lv_iadd hx hb dL_law__1443 ?_
  obtain ⟨v5, h1, hf⟩ := bs hf
  refine am_scr X hX hS h1 dL_law__1444 ?_
  obtain ⟨u0, h0, hf⟩ := bs hf
  obtain ⟨_, hrc⟩ := isO_n h0
  obtain ⟨v6, m7, h1, hf⟩ := bs2 hf
  refine am_endi hS (am_runV (As := [.int v5]) X (hml.trans hl.1.symm) hS (cX12_fits_ok (l := l) (E := E) h1) mv_L_196 hrc rfl ⟨Nat.le_trans (by decide) hR.1, Nat.le_trans (by decide) hR.2⟩ ⟨by omega, by omega⟩ rfl rfl (Nat.le_of_ble_eq_true rfl) dL_law__1445) (fun H locs hS => ?_)
  refine lv_topi (fun x6_8 e1 => ?_)
  have hf := lt1_n e1 hf
  refine lv_istore (lv' := [(6, .int x6_8), (5, .int x5_4), (0, .ref b), (1, .ref x1), (2, .ref x2), (3, .ref x3), (4, .int x4)]) hx hb dL_law__1448 hl (by decide) rfl (fun ls hl => ?_)
  refine lv_aload_n hx hb dL_law__1450 rfl (lv_at hl 4 rfl) ?_
  obtain ⟨u0, h0, hf⟩ := bs hf
  obtain ⟨_, hrc⟩ := isO_n h0
  obtain ⟨v9, h1, hf⟩ := bs hf
  refine am_endi hS (am_runV (As := []) X (hml.trans hl.1.symm) hS (cX12_thrown_ok (l := l) (E := E) h1) mv_L_134 hrc rfl ⟨Nat.le_trans (by decide) hR.1, Nat.le_trans (by decide) hR.2⟩ ⟨by omega, by omega⟩ rfl rfl (Nat.le_of_ble_eq_true rfl) dL_law__1451) (fun H locs hS => ?_)
  refine lv_iload hx hb dL_law__1454 (lv_at hl 1 rfl) ?_
  refine lv_icmp_eq (tgt := 1461) hx hb dL_law__1456 (by decide) (fun q10 => ?_) (fun q10 => ?_)
  · have hf := ifp hf q10
    refine lv_iload hx hb dL_law__1461 (lv_at hl 1 rfl) ?_
    refine lv_if_ne (tgt := 1478) hx hb dL_law__1463 (by decide) (fun q11 => ?_) (fun q11 => ?_)
    · have hf := ifn hf q11
      refine lv_goto (tgt := 2743) hx hb dL_law__1478 (by decide) ?_
      exact kN _ (Option.some.inj hf).symm H locs ls _ _ (by omega) (by omega) hS (lv_sub hl [2, 3, 4, 5, 6] rfl)
    · have hf := ifp hf q11
      refine lv_aload_n hx hb dL_law__1466 rfl (lv_at hl 5 rfl) ?_
      refine lv_iconst (v := 0) hx hb dL_law__1467 (by decide) ?_
      obtain ⟨v12, h1, hf⟩ := bs hf
      refine am_lld X hS h1 dL_law__1468 ?_
      refine lv_iload hx hb dL_law__1469 (lv_at hl 0 rfl) ?_
      refine lv_i2l (v := ((x6_8).toInt64)) hx hb dL_law__1471 rfl ?_
      refine W.lcmp hx hb dL_law__1472 ?_
      refine lv_if_eq (tgt := 1478) hx hb dL_law__1473 (by decide) (fun q13 => ?_) (fun q13 => ?_)
      · have hf := ifp hf q13
        refine lv_goto (tgt := 2743) hx hb dL_law__1478 (by decide) ?_
        exact kN _ (Option.some.inj hf).symm H locs ls _ _ (by omega) (by omega) hS (lv_sub hl [2, 3, 4, 5, 6] rfl)
      · have hf := ifn hf q13
        refine lv_iconst (v := 0) hx hb dL_law__1476 (by decide) ?_
        exact kR _ (Option.some.inj hf).symm _ H locs ls _ _ (by omega) (by omega) dL_law__1477 hS
  · have hf := ifn hf q10
    refine lv_iconst (v := 0) hx hb dL_law__1459 (by decide) ?_
    exact kR _ (Option.some.inj hf).symm _ H locs ls _ _ (by omega) (by omega) dL_law__1460 hS
set_option maxHeartbeats 4000000 in
set_option maxRecDepth 100000 in
theorem wLc_20 {p : Program} {l : Launch} {e : Env} {R : Room} {s : State} {m : MethodId} {args : Array Value} {below : List Frame} {meth : Method} {c : Code} {Q : State → Prop} {E : Ev} {b L : Nat} {xs : Nat → Int32} (hl0 : l.stackTraces = false) (X : Cx p s m args c cL_law_ RL E) (hX : Scr E s b L xs) (hml : c.maxLocals = 8) (hR : 400 ≤ R.frames ∧ 20000 ≤ R.locals) {x1 x2 x3 : Nat} {x4 : Int32} {mm : Mem} {y : Mem ⊕ Int32} {kc ks : Nat} (hkc : kc + 1 ≤ R.cells) (hks : ks + 6 ≤ R.slots) (hf : fLc_20 (eS E) L xs x1 x2 x3 x4 mm = some y) (kN : ∀ mm1, y = .inl mm1 → ∀ (H : Heap) (locs : List Loc) (ls : Array Slot) (cells slots : Nat), cells ≤ kc + 1 → slots ≤ ks + 6 → wS E s mm1 H locs → lv_has ls 8 [(0, .ref b), (1, .ref x1), (2, .ref x2), (3, .ref x3), (4, .int x4)] → W p l e R s m args below meth c H locs cells slots Q (F0 m 2743 ls [])) (kR : ∀ v, y = .inr v → ∀ (pc : Nat) (H : Heap) (locs : List Loc) (ls : Array Slot) (cells slots : Nat), cells ≤ kc + 1 → slots ≤ ks + 6 → decode cL_law_ pc = .ok (.ireturn, 1) → ∀ {mm1 : Mem}, wS E s mm1 H locs → W p l e R s m args below meth c H locs cells slots Q (F0 m pc ls [.int v])) : ∀ (H : Heap) (locs : List Loc) (ls : Array Slot) (cells slots : Nat), cells ≤ kc → slots ≤ ks → wS E s mm H locs → lv_has ls 8 [(0, .ref b), (1, .ref x1), (2, .ref x2), (3, .ref x3), (4, .int x4)] → W p l e R s m args below meth c H locs cells slots Q (F0 m 1481 ls []) := by
  intro H locs ls cells slots hcc hcs hS hl
  have hx := X.1
  have hb := X.2.1
  unfold fLc_20 at hf
  refine lv_aload_n hx hb dL_law__1481 rfl (lv_at hl 1 rfl) ?_
  refine lv_aload_n hx hb dL_law__1482 rfl (lv_at hl 0 rfl) ?_
  refine lv_iload hx hb dL_law__1483 (lv_at hl 4 rfl) ?_
  refine lv_iconst (v := 1) hx hb dL_law__1485 (by decide) ?_
  refine lv_iadd hx hb dL_law__1486 ?_
  obtain ⟨v1, h1, hf⟩ := bs hf
  refine am_scr X hX hS h1 dL_law__1487 ?_
  refine lv_aload_n hx hb dL_law__1488 rfl (lv_at hl 3 rfl) ?_
  obtain ⟨v2, m3, h1, hf⟩ := bs2 hf
  refine am_cH (As := [.ref x1, .int v1, .ref x3]) X (hml.trans hl.1.symm) hS (cL_look_ok (l := l) (E := E) hl0 h1) mh_197 ⟨Nat.le_trans (by decide) hR.1, Nat.le_trans (by decide) hR.2⟩ ⟨by omega, by omega⟩ rfl rfl (Nat.le_of_ble_eq_true rfl) dL_law__1489 (fun H locs hS => ?_)
  refine lv_topi (fun x5_4 e1 => ?_)
  have hf := lt1_n e1 hf
  refine lv_istore (lv' := [(5, .int x5_4), (0, .ref b), (1, .ref x1), (2, .ref x2), (3, .ref x3), (4, .int x4)]) hx hb dL_law__1492 hl (by decide) rfl (fun ls hl => ?_)
  refine lv_aload_n hx hb dL_law__1494 rfl (lv_at hl 3 rfl) ?_
  refine lv_aload_n hx hb dL_law__1495 rfl (lv_at hl 1 rfl) ?_
  refine lv_iload hx hb dL_law__1496 (lv_at hl 5 rfl) ?_
  refine lv_iconst (v := 1) hx hb dL_law__1498 (by decide) ?_
  refine lv_iadd hx hb dL_law__1499 ?_
  obtain ⟨v5, h1, hf⟩ := bs hf
  refine am_scr X hX hS h1 dL_law__1500 ?_
  obtain ⟨u0, h0, hf⟩ := bs hf
  obtain ⟨_, hrc⟩ := isO_n h0
  obtain ⟨v6, m7, h1, hf⟩ := bs2 hf
  refine am_endi hS (am_runV (As := [.int v5]) X (hml.trans hl.1.symm) hS (cX12_look_ok (l := l) (E := E) h1) mv_L_199 hrc rfl ⟨Nat.le_trans (by decide) hR.1, Nat.le_trans (by decide) hR.2⟩ ⟨by omega, by omega⟩ rfl rfl (Nat.le_of_ble_eq_true rfl) dL_law__1501) (fun H locs hS => ?_)
  refine lv_topi (fun x6_8 e1 => ?_)
  have hf := lt1_n e1 hf
  refine lv_istore (lv' := [(6, .int x6_8), (5, .int x5_4), (0, .ref b), (1, .ref x1), (2, .ref x2), (3, .ref x3), (4, .int x4)]) hx hb dL_law__1504 hl (by decide) rfl (fun ls hl => ?_)
  refine lv_aload_n hx hb dL_law__1506 rfl (lv_at hl 4 rfl) ?_
  obtain ⟨u0, h0, hf⟩ := bs hf
  obtain ⟨_, hrc⟩ := isO_n h0
  obtain ⟨v9, h1, hf⟩ := bs hf
  refine am_endi hS (am_runV (As := []) X (hml.trans hl.1.symm) hS (cX12_thrown_ok (l := l) (E := E) h1) mv_L_134 hrc rfl ⟨Nat.le_trans (by decide) hR.1, Nat.le_trans (by decide) hR.2⟩ ⟨by omega, by omega⟩ rfl rfl (Nat.le_of_ble_eq_true rfl) dL_law__1507) (fun H locs hS => ?_)
  refine lv_iload hx hb dL_law__1510 (lv_at hl 1 rfl) ?_
  refine lv_icmp_eq (tgt := 1517) hx hb dL_law__1512 (by decide) (fun q10 => ?_) (fun q10 => ?_)
  · have hf := ifp hf q10
    refine lv_iload hx hb dL_law__1517 (lv_at hl 1 rfl) ?_
    refine lv_if_ne (tgt := 1534) hx hb dL_law__1519 (by decide) (fun q11 => ?_) (fun q11 => ?_)
    · have hf := ifn hf q11
      refine lv_goto (tgt := 2743) hx hb dL_law__1534 (by decide) ?_
      exact kN _ (Option.some.inj hf).symm H locs ls _ _ (by omega) (by omega) hS (lv_sub hl [2, 3, 4, 5, 6] rfl)
    · have hf := ifp hf q11
      refine lv_aload_n hx hb dL_law__1522 rfl (lv_at hl 5 rfl) ?_
      refine lv_iconst (v := 0) hx hb dL_law__1523 (by decide) ?_
      obtain ⟨v12, h1, hf⟩ := bs hf
      refine am_lld X hS h1 dL_law__1524 ?_
      refine lv_iload hx hb dL_law__1525 (lv_at hl 0 rfl) ?_
      refine lv_i2l (v := ((x6_8).toInt64)) hx hb dL_law__1527 rfl ?_
      refine W.lcmp hx hb dL_law__1528 ?_
      refine lv_if_eq (tgt := 1534) hx hb dL_law__1529 (by decide) (fun q13 => ?_) (fun q13 => ?_)
      · have hf := ifp hf q13
        refine lv_goto (tgt := 2743) hx hb dL_law__1534 (by decide) ?_
        exact kN _ (Option.some.inj hf).symm H locs ls _ _ (by omega) (by omega) hS (lv_sub hl [2, 3, 4, 5, 6] rfl)
      · have hf := ifn hf q13
        refine lv_iconst (v := 0) hx hb dL_law__1532 (by decide) ?_
        exact kR _ (Option.some.inj hf).symm _ H locs ls _ _ (by omega) (by omega) dL_law__1533 hS
  · have hf := ifn hf q10
    refine lv_iconst (v := 0) hx hb dL_law__1515 (by decide) ?_
    exact kR _ (Option.some.inj hf).symm _ H locs ls _ _ (by omega) (by omega) dL_law__1516 hS
set_option maxHeartbeats 4000000 in
set_option maxRecDepth 100000 in
theorem wLc_21 {p : Program} {l : Launch} {e : Env} {R : Room} {s : State} {m : MethodId} {args : Array Value} {below : List Frame} {meth : Method} {c : Code} {Q : State → Prop} {E : Ev} {b L : Nat} {xs : Nat → Int32} (hl0 : l.stackTraces = false) (X : Cx p s m args c cL_law_ RL E) (hX : Scr E s b L xs) (hml : c.maxLocals = 8) (hR : 400 ≤ R.frames ∧ 20000 ≤ R.locals) {x1 x2 x3 : Nat} {x4 : Int32} {mm : Mem} {y : Mem ⊕ Int32} {kc ks : Nat} (hkc : kc + 1 ≤ R.cells) (hks : ks + 6 ≤ R.slots) (hf : fLc_21 (eS E) L xs x1 x2 x3 x4 mm = some y) (kN : ∀ mm1, y = .inl mm1 → ∀ (H : Heap) (locs : List Loc) (ls : Array Slot) (cells slots : Nat), cells ≤ kc + 1 → slots ≤ ks + 6 → wS E s mm1 H locs → lv_has ls 8 [(0, .ref b), (1, .ref x1), (2, .ref x2), (3, .ref x3), (4, .int x4)] → W p l e R s m args below meth c H locs cells slots Q (F0 m 2743 ls [])) (kR : ∀ v, y = .inr v → ∀ (pc : Nat) (H : Heap) (locs : List Loc) (ls : Array Slot) (cells slots : Nat), cells ≤ kc + 1 → slots ≤ ks + 6 → decode cL_law_ pc = .ok (.ireturn, 1) → ∀ {mm1 : Mem}, wS E s mm1 H locs → W p l e R s m args below meth c H locs cells slots Q (F0 m pc ls [.int v])) : ∀ (H : Heap) (locs : List Loc) (ls : Array Slot) (cells slots : Nat), cells ≤ kc → slots ≤ ks → wS E s mm H locs → lv_has ls 8 [(0, .ref b), (1, .ref x1), (2, .ref x2), (3, .ref x3), (4, .int x4)] → W p l e R s m args below meth c H locs cells slots Q (F0 m 1537 ls []) := by
  intro H locs ls cells slots hcc hcs hS hl
  have hx := X.1
  have hb := X.2.1
  unfold fLc_21 at hf
  refine lv_aload_n hx hb dL_law__1537 rfl (lv_at hl 1 rfl) ?_
  refine lv_aload_n hx hb dL_law__1538 rfl (lv_at hl 0 rfl) ?_
  refine lv_iload hx hb dL_law__1539 (lv_at hl 4 rfl) ?_
  refine lv_iconst (v := 1) hx hb dL_law__1541 (by decide) ?_
  refine lv_iadd hx hb dL_law__1542 ?_
  obtain ⟨v1, h1, hf⟩ := bs hf
  refine am_scr X hX hS h1 dL_law__1543 ?_
  refine lv_aload_n hx hb dL_law__1544 rfl (lv_at hl 0 rfl) ?_
  refine lv_iload hx hb dL_law__1545 (lv_at hl 4 rfl) ?_
  refine lv_iconst (v := 2) hx hb dL_law__1547 (by decide) ?_
  refine lv_iadd hx hb dL_law__1548 ?_
  obtain ⟨v2, h1, hf⟩ := bs hf
  refine am_scr X hX hS h1 dL_law__1549 ?_
  refine lv_aload_n hx hb dL_law__1550 rfl (lv_at hl 0 rfl) ?_
  refine lv_iload hx hb dL_law__1551 (lv_at hl 4 rfl) ?_
  refine lv_iconst (v := 3) hx hb dL_law__1553 (by decide) ?_
  refine lv_iadd hx hb dL_law__1554 ?_
  obtain ⟨v3, h1, hf⟩ := bs hf
  refine am_scr X hX hS h1 dL_law__1555 ?_
  refine lv_aload_n hx hb dL_law__1556 rfl (lv_at hl 3 rfl) ?_
  obtain ⟨v4, m5, h1, hf⟩ := bs2 hf
  refine am_cH (As := [.ref x1, .int v1, .int v2, .int v3, .ref x3]) X (hml.trans hl.1.symm) hS (cL_swings_ok (l := l) (E := E) hl0 h1) mh_200 ⟨Nat.le_trans (by decide) hR.1, Nat.le_trans (by decide) hR.2⟩ ⟨by omega, by omega⟩ rfl rfl (Nat.le_of_ble_eq_true rfl) dL_law__1557 (fun H locs hS => ?_)
  refine lv_topi (fun x5_6 e1 => ?_)
  have hf := lt1_n e1 hf
  refine lv_istore (lv' := [(5, .int x5_6), (0, .ref b), (1, .ref x1), (2, .ref x2), (3, .ref x3), (4, .int x4)]) hx hb dL_law__1560 hl (by decide) rfl (fun ls hl => ?_)
  refine lv_aload_n hx hb dL_law__1562 rfl (lv_at hl 3 rfl) ?_
  refine lv_aload_n hx hb dL_law__1563 rfl (lv_at hl 1 rfl) ?_
  refine lv_iload hx hb dL_law__1564 (lv_at hl 5 rfl) ?_
  refine lv_iconst (v := 1) hx hb dL_law__1566 (by decide) ?_
  refine lv_iadd hx hb dL_law__1567 ?_
  obtain ⟨v7, h1, hf⟩ := bs hf
  refine am_scr X hX hS h1 dL_law__1568 ?_
  refine lv_aload_n hx hb dL_law__1569 rfl (lv_at hl 1 rfl) ?_
  refine lv_iload hx hb dL_law__1570 (lv_at hl 5 rfl) ?_
  refine lv_iconst (v := 2) hx hb dL_law__1572 (by decide) ?_
  refine lv_iadd hx hb dL_law__1573 ?_
  obtain ⟨v8, h1, hf⟩ := bs hf
  refine am_scr X hX hS h1 dL_law__1574 ?_
  refine lv_aload_n hx hb dL_law__1575 rfl (lv_at hl 1 rfl) ?_
  refine lv_iload hx hb dL_law__1576 (lv_at hl 5 rfl) ?_
  refine lv_iconst (v := 3) hx hb dL_law__1578 (by decide) ?_
  refine lv_iadd hx hb dL_law__1579 ?_
  obtain ⟨v9, h1, hf⟩ := bs hf
  refine am_scr X hX hS h1 dL_law__1580 ?_
  obtain ⟨u0, h0, hf⟩ := bs hf
  obtain ⟨_, hrc⟩ := isO_n h0
  obtain ⟨v10, m11, h1, hf⟩ := bs2 hf
  refine am_endi hS (am_runV (As := [.int v7, .int v8, .int v9]) X (hml.trans hl.1.symm) hS (cX12_swings_ok (l := l) (E := E) h1) mv_L_202 hrc rfl ⟨Nat.le_trans (by decide) hR.1, Nat.le_trans (by decide) hR.2⟩ ⟨by omega, by omega⟩ rfl rfl (Nat.le_of_ble_eq_true rfl) dL_law__1581) (fun H locs hS => ?_)
  refine lv_topi (fun x6_12 e1 => ?_)
  have hf := lt1_n e1 hf
  refine lv_istore (lv' := [(6, .int x6_12), (5, .int x5_6), (0, .ref b), (1, .ref x1), (2, .ref x2), (3, .ref x3), (4, .int x4)]) hx hb dL_law__1584 hl (by decide) rfl (fun ls hl => ?_)
  refine lv_aload_n hx hb dL_law__1586 rfl (lv_at hl 4 rfl) ?_
  obtain ⟨u0, h0, hf⟩ := bs hf
  obtain ⟨_, hrc⟩ := isO_n h0
  obtain ⟨v13, h1, hf⟩ := bs hf
  refine am_endi hS (am_runV (As := []) X (hml.trans hl.1.symm) hS (cX12_thrown_ok (l := l) (E := E) h1) mv_L_134 hrc rfl ⟨Nat.le_trans (by decide) hR.1, Nat.le_trans (by decide) hR.2⟩ ⟨by omega, by omega⟩ rfl rfl (Nat.le_of_ble_eq_true rfl) dL_law__1587) (fun H locs hS => ?_)
  refine lv_iload hx hb dL_law__1590 (lv_at hl 1 rfl) ?_
  refine lv_icmp_eq (tgt := 1597) hx hb dL_law__1592 (by decide) (fun q14 => ?_) (fun q14 => ?_)
  · have hf := ifp hf q14
    refine lv_iload hx hb dL_law__1597 (lv_at hl 1 rfl) ?_
    refine lv_if_ne (tgt := 1614) hx hb dL_law__1599 (by decide) (fun q15 => ?_) (fun q15 => ?_)
    · have hf := ifn hf q15
      refine lv_goto (tgt := 2743) hx hb dL_law__1614 (by decide) ?_
      exact kN _ (Option.some.inj hf).symm H locs ls _ _ (by omega) (by omega) hS (lv_sub hl [2, 3, 4, 5, 6] rfl)
    · have hf := ifp hf q15
      refine lv_aload_n hx hb dL_law__1602 rfl (lv_at hl 5 rfl) ?_
      refine lv_iconst (v := 0) hx hb dL_law__1603 (by decide) ?_
      obtain ⟨v16, h1, hf⟩ := bs hf
      refine am_lld X hS h1 dL_law__1604 ?_
      refine lv_iload hx hb dL_law__1605 (lv_at hl 0 rfl) ?_
      refine lv_i2l (v := ((x6_12).toInt64)) hx hb dL_law__1607 rfl ?_
      refine W.lcmp hx hb dL_law__1608 ?_
      refine lv_if_eq (tgt := 1614) hx hb dL_law__1609 (by decide) (fun q17 => ?_) (fun q17 => ?_)
      · have hf := ifp hf q17
        refine lv_goto (tgt := 2743) hx hb dL_law__1614 (by decide) ?_
        exact kN _ (Option.some.inj hf).symm H locs ls _ _ (by omega) (by omega) hS (lv_sub hl [2, 3, 4, 5, 6] rfl)
      · have hf := ifn hf q17
        refine lv_iconst (v := 0) hx hb dL_law__1612 (by decide) ?_
        exact kR _ (Option.some.inj hf).symm _ H locs ls _ _ (by omega) (by omega) dL_law__1613 hS
  · have hf := ifn hf q14
    refine lv_iconst (v := 0) hx hb dL_law__1595 (by decide) ?_
    exact kR _ (Option.some.inj hf).symm _ H locs ls _ _ (by omega) (by omega) dL_law__1596 hS
set_option maxHeartbeats 4000000 in
set_option maxRecDepth 100000 in
theorem wLc_22 {p : Program} {l : Launch} {e : Env} {R : Room} {s : State} {m : MethodId} {args : Array Value} {below : List Frame} {meth : Method} {c : Code} {Q : State → Prop} {E : Ev} {b L : Nat} {xs : Nat → Int32} (hl0 : l.stackTraces = false) (X : Cx p s m args c cL_law_ RL E) (hX : Scr E s b L xs) (hml : c.maxLocals = 8) (hR : 400 ≤ R.frames ∧ 20000 ≤ R.locals) {x1 x2 x3 : Nat} {x4 : Int32} {mm : Mem} {y : Mem ⊕ Int32} {kc ks : Nat} (hkc : kc + 1 ≤ R.cells) (hks : ks + 6 ≤ R.slots) (hf : fLc_22 (eS E) L xs x1 x2 x3 x4 mm = some y) (kN : ∀ mm1, y = .inl mm1 → ∀ (H : Heap) (locs : List Loc) (ls : Array Slot) (cells slots : Nat), cells ≤ kc + 1 → slots ≤ ks + 6 → wS E s mm1 H locs → lv_has ls 8 [(0, .ref b), (1, .ref x1), (2, .ref x2), (3, .ref x3), (4, .int x4)] → W p l e R s m args below meth c H locs cells slots Q (F0 m 2743 ls [])) (kR : ∀ v, y = .inr v → ∀ (pc : Nat) (H : Heap) (locs : List Loc) (ls : Array Slot) (cells slots : Nat), cells ≤ kc + 1 → slots ≤ ks + 6 → decode cL_law_ pc = .ok (.ireturn, 1) → ∀ {mm1 : Mem}, wS E s mm1 H locs → W p l e R s m args below meth c H locs cells slots Q (F0 m pc ls [.int v])) : ∀ (H : Heap) (locs : List Loc) (ls : Array Slot) (cells slots : Nat), cells ≤ kc → slots ≤ ks → wS E s mm H locs → lv_has ls 8 [(0, .ref b), (1, .ref x1), (2, .ref x2), (3, .ref x3), (4, .int x4)] → W p l e R s m args below meth c H locs cells slots Q (F0 m 1617 ls []) := by
  intro H locs ls cells slots hcc hcs hS hl
  have hx := X.1
  have hb := X.2.1
  unfold fLc_22 at hf
  refine lv_aload_n hx hb dL_law__1617 rfl (lv_at hl 1 rfl) ?_
  refine lv_aload_n hx hb dL_law__1618 rfl (lv_at hl 0 rfl) ?_
  refine lv_iload hx hb dL_law__1619 (lv_at hl 4 rfl) ?_
  refine lv_iconst (v := 1) hx hb dL_law__1621 (by decide) ?_
  refine lv_iadd hx hb dL_law__1622 ?_
  obtain ⟨v1, h1, hf⟩ := bs hf
  refine am_scr X hX hS h1 dL_law__1623 ?_
  refine lv_aload_n hx hb dL_law__1624 rfl (lv_at hl 0 rfl) ?_
  refine lv_iload hx hb dL_law__1625 (lv_at hl 4 rfl) ?_
  refine lv_iconst (v := 2) hx hb dL_law__1627 (by decide) ?_
  refine lv_iadd hx hb dL_law__1628 ?_
  obtain ⟨v2, h1, hf⟩ := bs hf
  refine am_scr X hX hS h1 dL_law__1629 ?_
  refine lv_aload_n hx hb dL_law__1630 rfl (lv_at hl 0 rfl) ?_
  refine lv_iload hx hb dL_law__1631 (lv_at hl 4 rfl) ?_
  refine lv_iconst (v := 3) hx hb dL_law__1633 (by decide) ?_
  refine lv_iadd hx hb dL_law__1634 ?_
  obtain ⟨v3, h1, hf⟩ := bs hf
  refine am_scr X hX hS h1 dL_law__1635 ?_
  refine lv_aload_n hx hb dL_law__1636 rfl (lv_at hl 0 rfl) ?_
  refine lv_iload hx hb dL_law__1637 (lv_at hl 4 rfl) ?_
  refine lv_iconst (v := 4) hx hb dL_law__1639 (by decide) ?_
  refine lv_iadd hx hb dL_law__1640 ?_
  obtain ⟨v4, h1, hf⟩ := bs hf
  refine am_scr X hX hS h1 dL_law__1641 ?_
  refine lv_aload_n hx hb dL_law__1642 rfl (lv_at hl 3 rfl) ?_
  obtain ⟨v5, m6, h1, hf⟩ := bs2 hf
  refine am_cH (As := [.ref x1, .int v1, .int v2, .int v3, .int v4, .ref x3]) X (hml.trans hl.1.symm) hS (cL_power_ok (l := l) (E := E) hl0 h1) mh_203 ⟨Nat.le_trans (by decide) hR.1, Nat.le_trans (by decide) hR.2⟩ ⟨by omega, by omega⟩ rfl rfl (Nat.le_of_ble_eq_true rfl) dL_law__1643 (fun H locs hS => ?_)
  refine lv_topi (fun x5_7 e1 => ?_)
  have hf := lt1_n e1 hf
  refine lv_istore (lv' := [(5, .int x5_7), (0, .ref b), (1, .ref x1), (2, .ref x2), (3, .ref x3), (4, .int x4)]) hx hb dL_law__1646 hl (by decide) rfl (fun ls hl => ?_)
  refine lv_aload_n hx hb dL_law__1648 rfl (lv_at hl 3 rfl) ?_
  refine lv_aload_n hx hb dL_law__1649 rfl (lv_at hl 1 rfl) ?_
  refine lv_iload hx hb dL_law__1650 (lv_at hl 5 rfl) ?_
  refine lv_iconst (v := 1) hx hb dL_law__1652 (by decide) ?_
  refine lv_iadd hx hb dL_law__1653 ?_
  obtain ⟨v8, h1, hf⟩ := bs hf
  refine am_scr X hX hS h1 dL_law__1654 ?_
  refine lv_aload_n hx hb dL_law__1655 rfl (lv_at hl 1 rfl) ?_
  refine lv_iload hx hb dL_law__1656 (lv_at hl 5 rfl) ?_
  refine lv_iconst (v := 2) hx hb dL_law__1658 (by decide) ?_
  refine lv_iadd hx hb dL_law__1659 ?_
  obtain ⟨v9, h1, hf⟩ := bs hf
  refine am_scr X hX hS h1 dL_law__1660 ?_
  refine lv_aload_n hx hb dL_law__1661 rfl (lv_at hl 1 rfl) ?_
  refine lv_iload hx hb dL_law__1662 (lv_at hl 5 rfl) ?_
  refine lv_iconst (v := 3) hx hb dL_law__1664 (by decide) ?_
  refine lv_iadd hx hb dL_law__1665 ?_
  obtain ⟨v10, h1, hf⟩ := bs hf
  refine am_scr X hX hS h1 dL_law__1666 ?_
  refine lv_aload_n hx hb dL_law__1667 rfl (lv_at hl 1 rfl) ?_
  refine lv_iload hx hb dL_law__1668 (lv_at hl 5 rfl) ?_
  refine lv_iconst (v := 4) hx hb dL_law__1670 (by decide) ?_
  refine lv_iadd hx hb dL_law__1671 ?_
  obtain ⟨v11, h1, hf⟩ := bs hf
  refine am_scr X hX hS h1 dL_law__1672 ?_
  obtain ⟨u0, h0, hf⟩ := bs hf
  obtain ⟨_, hrc⟩ := isO_n h0
  obtain ⟨v12, m13, h1, hf⟩ := bs2 hf
  refine am_endi hS (am_runV (As := [.int v8, .int v9, .int v10, .int v11]) X (hml.trans hl.1.symm) hS (cX12_power_ok (l := l) (E := E) h1) mv_L_206 hrc rfl ⟨Nat.le_trans (by decide) hR.1, Nat.le_trans (by decide) hR.2⟩ ⟨by omega, by omega⟩ rfl rfl (Nat.le_of_ble_eq_true rfl) dL_law__1673) (fun H locs hS => ?_)
  refine lv_topi (fun x6_14 e1 => ?_)
  have hf := lt1_n e1 hf
  refine lv_istore (lv' := [(6, .int x6_14), (5, .int x5_7), (0, .ref b), (1, .ref x1), (2, .ref x2), (3, .ref x3), (4, .int x4)]) hx hb dL_law__1676 hl (by decide) rfl (fun ls hl => ?_)
  refine lv_aload_n hx hb dL_law__1678 rfl (lv_at hl 4 rfl) ?_
  obtain ⟨u0, h0, hf⟩ := bs hf
  obtain ⟨_, hrc⟩ := isO_n h0
  obtain ⟨v15, h1, hf⟩ := bs hf
  refine am_endi hS (am_runV (As := []) X (hml.trans hl.1.symm) hS (cX12_thrown_ok (l := l) (E := E) h1) mv_L_134 hrc rfl ⟨Nat.le_trans (by decide) hR.1, Nat.le_trans (by decide) hR.2⟩ ⟨by omega, by omega⟩ rfl rfl (Nat.le_of_ble_eq_true rfl) dL_law__1679) (fun H locs hS => ?_)
  refine lv_iload hx hb dL_law__1682 (lv_at hl 1 rfl) ?_
  refine lv_icmp_eq (tgt := 1689) hx hb dL_law__1684 (by decide) (fun q16 => ?_) (fun q16 => ?_)
  · have hf := ifp hf q16
    refine lv_iload hx hb dL_law__1689 (lv_at hl 1 rfl) ?_
    refine lv_if_ne (tgt := 1706) hx hb dL_law__1691 (by decide) (fun q17 => ?_) (fun q17 => ?_)
    · have hf := ifn hf q17
      refine lv_goto (tgt := 2743) hx hb dL_law__1706 (by decide) ?_
      exact kN _ (Option.some.inj hf).symm H locs ls _ _ (by omega) (by omega) hS (lv_sub hl [2, 3, 4, 5, 6] rfl)
    · have hf := ifp hf q17
      refine lv_aload_n hx hb dL_law__1694 rfl (lv_at hl 5 rfl) ?_
      refine lv_iconst (v := 0) hx hb dL_law__1695 (by decide) ?_
      obtain ⟨v18, h1, hf⟩ := bs hf
      refine am_lld X hS h1 dL_law__1696 ?_
      refine lv_iload hx hb dL_law__1697 (lv_at hl 0 rfl) ?_
      refine lv_i2l (v := ((x6_14).toInt64)) hx hb dL_law__1699 rfl ?_
      refine W.lcmp hx hb dL_law__1700 ?_
      refine lv_if_eq (tgt := 1706) hx hb dL_law__1701 (by decide) (fun q19 => ?_) (fun q19 => ?_)
      · have hf := ifp hf q19
        refine lv_goto (tgt := 2743) hx hb dL_law__1706 (by decide) ?_
        exact kN _ (Option.some.inj hf).symm H locs ls _ _ (by omega) (by omega) hS (lv_sub hl [2, 3, 4, 5, 6] rfl)
      · have hf := ifn hf q19
        refine lv_iconst (v := 0) hx hb dL_law__1704 (by decide) ?_
        exact kR _ (Option.some.inj hf).symm _ H locs ls _ _ (by omega) (by omega) dL_law__1705 hS
  · have hf := ifn hf q16
    refine lv_iconst (v := 0) hx hb dL_law__1687 (by decide) ?_
    exact kR _ (Option.some.inj hf).symm _ H locs ls _ _ (by omega) (by omega) dL_law__1688 hS
set_option maxHeartbeats 4000000 in
set_option maxRecDepth 100000 in
theorem wLc_23 {p : Program} {l : Launch} {e : Env} {R : Room} {s : State} {m : MethodId} {args : Array Value} {below : List Frame} {meth : Method} {c : Code} {Q : State → Prop} {E : Ev} {b L : Nat} {xs : Nat → Int32} (hl0 : l.stackTraces = false) (X : Cx p s m args c cL_law_ RL E) (hX : Scr E s b L xs) (hml : c.maxLocals = 8) (hR : 400 ≤ R.frames ∧ 20000 ≤ R.locals) {x1 x2 x3 : Nat} {x4 : Int32} {mm : Mem} {y : Mem ⊕ Int32} {kc ks : Nat} (hkc : kc + 1 ≤ R.cells) (hks : ks + 6 ≤ R.slots) (hf : fLc_23 (eS E) L xs x1 x2 x3 x4 mm = some y) (kN : ∀ mm1, y = .inl mm1 → ∀ (H : Heap) (locs : List Loc) (ls : Array Slot) (cells slots : Nat), cells ≤ kc + 1 → slots ≤ ks + 6 → wS E s mm1 H locs → lv_has ls 8 [(0, .ref b), (1, .ref x1), (2, .ref x2), (3, .ref x3), (4, .int x4)] → W p l e R s m args below meth c H locs cells slots Q (F0 m 2743 ls [])) (kR : ∀ v, y = .inr v → ∀ (pc : Nat) (H : Heap) (locs : List Loc) (ls : Array Slot) (cells slots : Nat), cells ≤ kc + 1 → slots ≤ ks + 6 → decode cL_law_ pc = .ok (.ireturn, 1) → ∀ {mm1 : Mem}, wS E s mm1 H locs → W p l e R s m args below meth c H locs cells slots Q (F0 m pc ls [.int v])) : ∀ (H : Heap) (locs : List Loc) (ls : Array Slot) (cells slots : Nat), cells ≤ kc → slots ≤ ks → wS E s mm H locs → lv_has ls 8 [(0, .ref b), (1, .ref x1), (2, .ref x2), (3, .ref x3), (4, .int x4)] → W p l e R s m args below meth c H locs cells slots Q (F0 m 1709 ls []) := by
  intro H locs ls cells slots hcc hcs hS hl
  have hx := X.1
  have hb := X.2.1
  unfold fLc_23 at hf
  refine lv_aload_n hx hb dL_law__1709 rfl (lv_at hl 1 rfl) ?_
  refine lv_aload_n hx hb dL_law__1710 rfl (lv_at hl 0 rfl) ?_
  refine lv_iload hx hb dL_law__1711 (lv_at hl 4 rfl) ?_
  refine lv_iconst (v := 1) hx hb dL_law__1713 (by decide) ?_
  refine lv_iadd hx hb dL_law__1714 ?_
  obtain ⟨v1, h1, hf⟩ := bs hf
  refine am_scr X hX hS h1 dL_law__1715 ?_
  refine lv_aload_n hx hb dL_law__1716 rfl (lv_at hl 0 rfl) ?_
  refine lv_iload hx hb dL_law__1717 (lv_at hl 4 rfl) ?_
  refine lv_iconst (v := 2) hx hb dL_law__1719 (by decide) ?_
  refine lv_iadd hx hb dL_law__1720 ?_
  obtain ⟨v2, h1, hf⟩ := bs hf
  refine am_scr X hX hS h1 dL_law__1721 ?_
  refine lv_aload_n hx hb dL_law__1722 rfl (lv_at hl 0 rfl) ?_
  refine lv_iload hx hb dL_law__1723 (lv_at hl 4 rfl) ?_
  refine lv_iconst (v := 3) hx hb dL_law__1725 (by decide) ?_
  refine lv_iadd hx hb dL_law__1726 ?_
  obtain ⟨v3, h1, hf⟩ := bs hf
  refine am_scr X hX hS h1 dL_law__1727 ?_
  refine lv_aload_n hx hb dL_law__1728 rfl (lv_at hl 3 rfl) ?_
  obtain ⟨v4, m5, h1, hf⟩ := bs2 hf
  refine am_cH (As := [.ref x1, .int v1, .int v2, .int v3, .ref x3]) X (hml.trans hl.1.symm) hS (cL_green_ok (l := l) (E := E) hl0 h1) mh_207 ⟨Nat.le_trans (by decide) hR.1, Nat.le_trans (by decide) hR.2⟩ ⟨by omega, by omega⟩ rfl rfl (Nat.le_of_ble_eq_true rfl) dL_law__1729 (fun H locs hS => ?_)
  refine lv_topi (fun x5_6 e1 => ?_)
  have hf := lt1_n e1 hf
  refine lv_istore (lv' := [(5, .int x5_6), (0, .ref b), (1, .ref x1), (2, .ref x2), (3, .ref x3), (4, .int x4)]) hx hb dL_law__1732 hl (by decide) rfl (fun ls hl => ?_)
  refine lv_aload_n hx hb dL_law__1734 rfl (lv_at hl 3 rfl) ?_
  refine lv_aload_n hx hb dL_law__1735 rfl (lv_at hl 1 rfl) ?_
  refine lv_iload hx hb dL_law__1736 (lv_at hl 5 rfl) ?_
  refine lv_iconst (v := 1) hx hb dL_law__1738 (by decide) ?_
  refine lv_iadd hx hb dL_law__1739 ?_
  obtain ⟨v7, h1, hf⟩ := bs hf
  refine am_scr X hX hS h1 dL_law__1740 ?_
  refine lv_aload_n hx hb dL_law__1741 rfl (lv_at hl 1 rfl) ?_
  refine lv_iload hx hb dL_law__1742 (lv_at hl 5 rfl) ?_
  refine lv_iconst (v := 2) hx hb dL_law__1744 (by decide) ?_
  refine lv_iadd hx hb dL_law__1745 ?_
  obtain ⟨v8, h1, hf⟩ := bs hf
  refine am_scr X hX hS h1 dL_law__1746 ?_
  refine lv_aload_n hx hb dL_law__1747 rfl (lv_at hl 1 rfl) ?_
  refine lv_iload hx hb dL_law__1748 (lv_at hl 5 rfl) ?_
  refine lv_iconst (v := 3) hx hb dL_law__1750 (by decide) ?_
  refine lv_iadd hx hb dL_law__1751 ?_
  obtain ⟨v9, h1, hf⟩ := bs hf
  refine am_scr X hX hS h1 dL_law__1752 ?_
  obtain ⟨u0, h0, hf⟩ := bs hf
  obtain ⟨_, hrc⟩ := isO_n h0
  obtain ⟨v10, m11, h1, hf⟩ := bs2 hf
  refine am_endl hS (am_runV (As := [.int v7, .int v8, .int v9]) X (hml.trans hl.1.symm) hS (cX12_green_ok (l := l) (E := E) h1) mv_L_209 hrc rfl ⟨Nat.le_trans (by decide) hR.1, Nat.le_trans (by decide) hR.2⟩ ⟨by omega, by omega⟩ rfl rfl (Nat.le_of_ble_eq_true rfl) dL_law__1753) (fun H locs hS => ?_)
  refine lv_topl (fun x6_12 e1 => ?_)
  have hf := lt1_n e1 hf
  refine lv_lstore (lv' := [(6, .long x6_12), (5, .int x5_6), (0, .ref b), (1, .ref x1), (2, .ref x2), (3, .ref x3), (4, .int x4)]) hx hb dL_law__1756 hl (by decide) rfl (fun ls hl => ?_)
  refine lv_aload_n hx hb dL_law__1758 rfl (lv_at hl 4 rfl) ?_
  obtain ⟨u0, h0, hf⟩ := bs hf
  obtain ⟨_, hrc⟩ := isO_n h0
  obtain ⟨v13, h1, hf⟩ := bs hf
  refine am_endi hS (am_runV (As := []) X (hml.trans hl.1.symm) hS (cX12_thrown_ok (l := l) (E := E) h1) mv_L_134 hrc rfl ⟨Nat.le_trans (by decide) hR.1, Nat.le_trans (by decide) hR.2⟩ ⟨by omega, by omega⟩ rfl rfl (Nat.le_of_ble_eq_true rfl) dL_law__1759) (fun H locs hS => ?_)
  refine lv_iload hx hb dL_law__1762 (lv_at hl 1 rfl) ?_
  refine lv_icmp_eq (tgt := 1769) hx hb dL_law__1764 (by decide) (fun q14 => ?_) (fun q14 => ?_)
  · have hf := ifp hf q14
    refine lv_iload hx hb dL_law__1769 (lv_at hl 1 rfl) ?_
    refine lv_if_ne (tgt := 1785) hx hb dL_law__1771 (by decide) (fun q15 => ?_) (fun q15 => ?_)
    · have hf := ifn hf q15
      refine lv_goto (tgt := 2743) hx hb dL_law__1785 (by decide) ?_
      exact kN _ (Option.some.inj hf).symm H locs ls _ _ (by omega) (by omega) hS (lv_sub hl [2, 3, 4, 5, 6] rfl)
    · have hf := ifp hf q15
      refine lv_aload_n hx hb dL_law__1774 rfl (lv_at hl 5 rfl) ?_
      refine lv_iconst (v := 0) hx hb dL_law__1775 (by decide) ?_
      obtain ⟨v16, h1, hf⟩ := bs hf
      refine am_lld X hS h1 dL_law__1776 ?_
      refine lv_lload hx hb dL_law__1777 (lv_at hl 0 rfl) ?_
      refine W.lcmp hx hb dL_law__1779 ?_
      refine lv_if_eq (tgt := 1785) hx hb dL_law__1780 (by decide) (fun q17 => ?_) (fun q17 => ?_)
      · have hf := ifp hf q17
        refine lv_goto (tgt := 2743) hx hb dL_law__1785 (by decide) ?_
        exact kN _ (Option.some.inj hf).symm H locs ls _ _ (by omega) (by omega) hS (lv_sub hl [2, 3, 4, 5, 6] rfl)
      · have hf := ifn hf q17
        refine lv_iconst (v := 0) hx hb dL_law__1783 (by decide) ?_
        exact kR _ (Option.some.inj hf).symm _ H locs ls _ _ (by omega) (by omega) dL_law__1784 hS
  · have hf := ifn hf q14
    refine lv_iconst (v := 0) hx hb dL_law__1767 (by decide) ?_
    exact kR _ (Option.some.inj hf).symm _ H locs ls _ _ (by omega) (by omega) dL_law__1768 hS
set_option maxHeartbeats 4000000 in
set_option maxRecDepth 100000 in
theorem wLc_24 {p : Program} {l : Launch} {e : Env} {R : Room} {s : State} {m : MethodId} {args : Array Value} {below : List Frame} {meth : Method} {c : Code} {Q : State → Prop} {E : Ev} {b L : Nat} {xs : Nat → Int32} (hl0 : l.stackTraces = false) (X : Cx p s m args c cL_law_ RL E) (hX : Scr E s b L xs) (hml : c.maxLocals = 8) (hR : 400 ≤ R.frames ∧ 20000 ≤ R.locals) {x1 x2 x3 : Nat} {x4 : Int32} {mm : Mem} {y : Mem ⊕ Int32} {kc ks : Nat} (hkc : kc + 1 ≤ R.cells) (hks : ks + 6 ≤ R.slots) (hf : fLc_24 (eS E) L xs x1 x2 x3 x4 mm = some y) (kN : ∀ mm1, y = .inl mm1 → ∀ (H : Heap) (locs : List Loc) (ls : Array Slot) (cells slots : Nat), cells ≤ kc + 1 → slots ≤ ks + 6 → wS E s mm1 H locs → lv_has ls 8 [(0, .ref b), (1, .ref x1), (2, .ref x2), (3, .ref x3), (4, .int x4)] → W p l e R s m args below meth c H locs cells slots Q (F0 m 2743 ls [])) (kR : ∀ v, y = .inr v → ∀ (pc : Nat) (H : Heap) (locs : List Loc) (ls : Array Slot) (cells slots : Nat), cells ≤ kc + 1 → slots ≤ ks + 6 → decode cL_law_ pc = .ok (.ireturn, 1) → ∀ {mm1 : Mem}, wS E s mm1 H locs → W p l e R s m args below meth c H locs cells slots Q (F0 m pc ls [.int v])) : ∀ (H : Heap) (locs : List Loc) (ls : Array Slot) (cells slots : Nat), cells ≤ kc → slots ≤ ks → wS E s mm H locs → lv_has ls 8 [(0, .ref b), (1, .ref x1), (2, .ref x2), (3, .ref x3), (4, .int x4)] → W p l e R s m args below meth c H locs cells slots Q (F0 m 1788 ls []) := by
  intro H locs ls cells slots hcc hcs hS hl
  have hx := X.1
  have hb := X.2.1
  unfold fLc_24 at hf
  refine lv_aload_n hx hb dL_law__1788 rfl (lv_at hl 1 rfl) ?_
  refine lv_aload_n hx hb dL_law__1789 rfl (lv_at hl 0 rfl) ?_
  refine lv_iload hx hb dL_law__1790 (lv_at hl 4 rfl) ?_
  refine lv_iconst (v := 1) hx hb dL_law__1792 (by decide) ?_
  refine lv_iadd hx hb dL_law__1793 ?_
  obtain ⟨v1, h1, hf⟩ := bs hf
  refine am_scr X hX hS h1 dL_law__1794 ?_
  refine lv_aload_n hx hb dL_law__1795 rfl (lv_at hl 0 rfl) ?_
  refine lv_iload hx hb dL_law__1796 (lv_at hl 4 rfl) ?_
  refine lv_iconst (v := 2) hx hb dL_law__1798 (by decide) ?_
  refine lv_iadd hx hb dL_law__1799 ?_
  obtain ⟨v2, h1, hf⟩ := bs hf
  refine am_scr X hX hS h1 dL_law__1800 ?_
  refine lv_aload_n hx hb dL_law__1801 rfl (lv_at hl 0 rfl) ?_
  refine lv_iload hx hb dL_law__1802 (lv_at hl 4 rfl) ?_
  refine lv_iconst (v := 3) hx hb dL_law__1804 (by decide) ?_
  refine lv_iadd hx hb dL_law__1805 ?_
  obtain ⟨v3, h1, hf⟩ := bs hf
  refine am_scr X hX hS h1 dL_law__1806 ?_
  refine lv_aload_n hx hb dL_law__1807 rfl (lv_at hl 3 rfl) ?_
  obtain ⟨v4, m5, h1, hf⟩ := bs2 hf
  refine am_cH (As := [.ref x1, .int v1, .int v2, .int v3, .ref x3]) X (hml.trans hl.1.symm) hS (cL_lookers_ok (l := l) (E := E) hl0 h1) mh_210 ⟨Nat.le_trans (by decide) hR.1, Nat.le_trans (by decide) hR.2⟩ ⟨by omega, by omega⟩ rfl rfl (Nat.le_of_ble_eq_true rfl) dL_law__1808 (fun H locs hS => ?_)
  refine lv_topi (fun x5_6 e1 => ?_)
  have hf := lt1_n e1 hf
  refine lv_istore (lv' := [(5, .int x5_6), (0, .ref b), (1, .ref x1), (2, .ref x2), (3, .ref x3), (4, .int x4)]) hx hb dL_law__1811 hl (by decide) rfl (fun ls hl => ?_)
  refine lv_aload_n hx hb dL_law__1813 rfl (lv_at hl 3 rfl) ?_
  refine lv_aload_n hx hb dL_law__1814 rfl (lv_at hl 1 rfl) ?_
  refine lv_iload hx hb dL_law__1815 (lv_at hl 5 rfl) ?_
  refine lv_iconst (v := 1) hx hb dL_law__1817 (by decide) ?_
  refine lv_iadd hx hb dL_law__1818 ?_
  obtain ⟨v7, h1, hf⟩ := bs hf
  refine am_scr X hX hS h1 dL_law__1819 ?_
  refine lv_aload_n hx hb dL_law__1820 rfl (lv_at hl 1 rfl) ?_
  refine lv_iload hx hb dL_law__1821 (lv_at hl 5 rfl) ?_
  refine lv_iconst (v := 2) hx hb dL_law__1823 (by decide) ?_
  refine lv_iadd hx hb dL_law__1824 ?_
  obtain ⟨v8, h1, hf⟩ := bs hf
  refine am_scr X hX hS h1 dL_law__1825 ?_
  refine lv_aload_n hx hb dL_law__1826 rfl (lv_at hl 1 rfl) ?_
  refine lv_iload hx hb dL_law__1827 (lv_at hl 5 rfl) ?_
  refine lv_iconst (v := 3) hx hb dL_law__1829 (by decide) ?_
  refine lv_iadd hx hb dL_law__1830 ?_
  obtain ⟨v9, h1, hf⟩ := bs hf
  refine am_scr X hX hS h1 dL_law__1831 ?_
  obtain ⟨u0, h0, hf⟩ := bs hf
  obtain ⟨_, hrc⟩ := isO_n h0
  obtain ⟨v10, m11, h1, hf⟩ := bs2 hf
  refine am_endi hS (am_runV (As := [.int v7, .int v8, .int v9]) X (hml.trans hl.1.symm) hS (cX12_lookers_ok (l := l) (E := E) h1) mv_L_212 hrc rfl ⟨Nat.le_trans (by decide) hR.1, Nat.le_trans (by decide) hR.2⟩ ⟨by omega, by omega⟩ rfl rfl (Nat.le_of_ble_eq_true rfl) dL_law__1832) (fun H locs hS => ?_)
  refine lv_topi (fun x6_12 e1 => ?_)
  have hf := lt1_n e1 hf
  refine lv_istore (lv' := [(6, .int x6_12), (5, .int x5_6), (0, .ref b), (1, .ref x1), (2, .ref x2), (3, .ref x3), (4, .int x4)]) hx hb dL_law__1835 hl (by decide) rfl (fun ls hl => ?_)
  refine lv_aload_n hx hb dL_law__1837 rfl (lv_at hl 4 rfl) ?_
  obtain ⟨u0, h0, hf⟩ := bs hf
  obtain ⟨_, hrc⟩ := isO_n h0
  obtain ⟨v13, h1, hf⟩ := bs hf
  refine am_endi hS (am_runV (As := []) X (hml.trans hl.1.symm) hS (cX12_thrown_ok (l := l) (E := E) h1) mv_L_134 hrc rfl ⟨Nat.le_trans (by decide) hR.1, Nat.le_trans (by decide) hR.2⟩ ⟨by omega, by omega⟩ rfl rfl (Nat.le_of_ble_eq_true rfl) dL_law__1838) (fun H locs hS => ?_)
  refine lv_iload hx hb dL_law__1841 (lv_at hl 1 rfl) ?_
  refine lv_icmp_eq (tgt := 1848) hx hb dL_law__1843 (by decide) (fun q14 => ?_) (fun q14 => ?_)
  · have hf := ifp hf q14
    refine lv_iload hx hb dL_law__1848 (lv_at hl 1 rfl) ?_
    refine lv_if_ne (tgt := 1865) hx hb dL_law__1850 (by decide) (fun q15 => ?_) (fun q15 => ?_)
    · have hf := ifn hf q15
      refine lv_goto (tgt := 2743) hx hb dL_law__1865 (by decide) ?_
      exact kN _ (Option.some.inj hf).symm H locs ls _ _ (by omega) (by omega) hS (lv_sub hl [2, 3, 4, 5, 6] rfl)
    · have hf := ifp hf q15
      refine lv_aload_n hx hb dL_law__1853 rfl (lv_at hl 5 rfl) ?_
      refine lv_iconst (v := 0) hx hb dL_law__1854 (by decide) ?_
      obtain ⟨v16, h1, hf⟩ := bs hf
      refine am_lld X hS h1 dL_law__1855 ?_
      refine lv_iload hx hb dL_law__1856 (lv_at hl 0 rfl) ?_
      refine lv_i2l (v := ((x6_12).toInt64)) hx hb dL_law__1858 rfl ?_
      refine W.lcmp hx hb dL_law__1859 ?_
      refine lv_if_eq (tgt := 1865) hx hb dL_law__1860 (by decide) (fun q17 => ?_) (fun q17 => ?_)
      · have hf := ifp hf q17
        refine lv_goto (tgt := 2743) hx hb dL_law__1865 (by decide) ?_
        exact kN _ (Option.some.inj hf).symm H locs ls _ _ (by omega) (by omega) hS (lv_sub hl [2, 3, 4, 5, 6] rfl)
      · have hf := ifn hf q17
        refine lv_iconst (v := 0) hx hb dL_law__1863 (by decide) ?_
        exact kR _ (Option.some.inj hf).symm _ H locs ls _ _ (by omega) (by omega) dL_law__1864 hS
  · have hf := ifn hf q14
    refine lv_iconst (v := 0) hx hb dL_law__1846 (by decide) ?_
    exact kR _ (Option.some.inj hf).symm _ H locs ls _ _ (by omega) (by omega) dL_law__1847 hS
set_option maxHeartbeats 4000000 in
set_option maxRecDepth 100000 in
theorem wLc_25 {p : Program} {l : Launch} {e : Env} {R : Room} {s : State} {m : MethodId} {args : Array Value} {below : List Frame} {meth : Method} {c : Code} {Q : State → Prop} {E : Ev} {b L : Nat} {xs : Nat → Int32} (hl0 : l.stackTraces = false) (X : Cx p s m args c cL_law_ RL E) (hX : Scr E s b L xs) (hml : c.maxLocals = 8) (hR : 400 ≤ R.frames ∧ 20000 ≤ R.locals) {x1 x2 x3 : Nat} {x4 : Int32} {mm : Mem} {y : Mem ⊕ Int32} {kc ks : Nat} (hkc : kc + 1 ≤ R.cells) (hks : ks + 6 ≤ R.slots) (hf : fLc_25 (eS E) L xs x1 x2 x3 x4 mm = some y) (kN : ∀ mm1, y = .inl mm1 → ∀ (H : Heap) (locs : List Loc) (ls : Array Slot) (cells slots : Nat), cells ≤ kc + 1 → slots ≤ ks + 6 → wS E s mm1 H locs → lv_has ls 8 [(0, .ref b), (1, .ref x1), (2, .ref x2), (3, .ref x3), (4, .int x4)] → W p l e R s m args below meth c H locs cells slots Q (F0 m 2743 ls [])) (kR : ∀ v, y = .inr v → ∀ (pc : Nat) (H : Heap) (locs : List Loc) (ls : Array Slot) (cells slots : Nat), cells ≤ kc + 1 → slots ≤ ks + 6 → decode cL_law_ pc = .ok (.ireturn, 1) → ∀ {mm1 : Mem}, wS E s mm1 H locs → W p l e R s m args below meth c H locs cells slots Q (F0 m pc ls [.int v])) : ∀ (H : Heap) (locs : List Loc) (ls : Array Slot) (cells slots : Nat), cells ≤ kc → slots ≤ ks → wS E s mm H locs → lv_has ls 8 [(0, .ref b), (1, .ref x1), (2, .ref x2), (3, .ref x3), (4, .int x4)] → W p l e R s m args below meth c H locs cells slots Q (F0 m 1868 ls []) := by
  intro H locs ls cells slots hcc hcs hS hl
  have hx := X.1
  have hb := X.2.1
  unfold fLc_25 at hf
  refine lv_aload_n hx hb dL_law__1868 rfl (lv_at hl 1 rfl) ?_
  refine lv_aload_n hx hb dL_law__1869 rfl (lv_at hl 0 rfl) ?_
  refine lv_iload hx hb dL_law__1870 (lv_at hl 4 rfl) ?_
  refine lv_iconst (v := 1) hx hb dL_law__1872 (by decide) ?_
  refine lv_iadd hx hb dL_law__1873 ?_
  obtain ⟨v1, h1, hf⟩ := bs hf
  refine am_scr X hX hS h1 dL_law__1874 ?_
  refine lv_aload_n hx hb dL_law__1875 rfl (lv_at hl 0 rfl) ?_
  refine lv_iload hx hb dL_law__1876 (lv_at hl 4 rfl) ?_
  refine lv_iconst (v := 2) hx hb dL_law__1878 (by decide) ?_
  refine lv_iadd hx hb dL_law__1879 ?_
  obtain ⟨v2, h1, hf⟩ := bs hf
  refine am_scr X hX hS h1 dL_law__1880 ?_
  refine lv_aload_n hx hb dL_law__1881 rfl (lv_at hl 0 rfl) ?_
  refine lv_iload hx hb dL_law__1882 (lv_at hl 4 rfl) ?_
  refine lv_iconst (v := 3) hx hb dL_law__1884 (by decide) ?_
  refine lv_iadd hx hb dL_law__1885 ?_
  obtain ⟨v3, h1, hf⟩ := bs hf
  refine am_scr X hX hS h1 dL_law__1886 ?_
  refine lv_aload_n hx hb dL_law__1887 rfl (lv_at hl 3 rfl) ?_
  obtain ⟨v4, m5, h1, hf⟩ := bs2 hf
  refine am_cH (As := [.ref x1, .int v1, .int v2, .int v3, .ref x3]) X (hml.trans hl.1.symm) hS (cL_light_ok (l := l) (E := E) hl0 h1) mh_213 ⟨Nat.le_trans (by decide) hR.1, Nat.le_trans (by decide) hR.2⟩ ⟨by omega, by omega⟩ rfl rfl (Nat.le_of_ble_eq_true rfl) dL_law__1888 (fun H locs hS => ?_)
  refine lv_topi (fun x5_6 e1 => ?_)
  have hf := lt1_n e1 hf
  refine lv_istore (lv' := [(5, .int x5_6), (0, .ref b), (1, .ref x1), (2, .ref x2), (3, .ref x3), (4, .int x4)]) hx hb dL_law__1891 hl (by decide) rfl (fun ls hl => ?_)
  refine lv_aload_n hx hb dL_law__1893 rfl (lv_at hl 3 rfl) ?_
  refine lv_aload_n hx hb dL_law__1894 rfl (lv_at hl 1 rfl) ?_
  refine lv_iload hx hb dL_law__1895 (lv_at hl 5 rfl) ?_
  refine lv_iconst (v := 1) hx hb dL_law__1897 (by decide) ?_
  refine lv_iadd hx hb dL_law__1898 ?_
  obtain ⟨v7, h1, hf⟩ := bs hf
  refine am_scr X hX hS h1 dL_law__1899 ?_
  refine lv_aload_n hx hb dL_law__1900 rfl (lv_at hl 1 rfl) ?_
  refine lv_iload hx hb dL_law__1901 (lv_at hl 5 rfl) ?_
  refine lv_iconst (v := 2) hx hb dL_law__1903 (by decide) ?_
  refine lv_iadd hx hb dL_law__1904 ?_
  obtain ⟨v8, h1, hf⟩ := bs hf
  refine am_scr X hX hS h1 dL_law__1905 ?_
  refine lv_aload_n hx hb dL_law__1906 rfl (lv_at hl 1 rfl) ?_
  refine lv_iload hx hb dL_law__1907 (lv_at hl 5 rfl) ?_
  refine lv_iconst (v := 3) hx hb dL_law__1909 (by decide) ?_
  refine lv_iadd hx hb dL_law__1910 ?_
  obtain ⟨v9, h1, hf⟩ := bs hf
  refine am_scr X hX hS h1 dL_law__1911 ?_
  obtain ⟨u0, h0, hf⟩ := bs hf
  obtain ⟨_, hrc⟩ := isO_n h0
  obtain ⟨v10, m11, h1, hf⟩ := bs2 hf
  refine am_endi hS (am_runV (As := [.int v7, .int v8, .int v9]) X (hml.trans hl.1.symm) hS (cX12_light_ok (l := l) (E := E) h1) mv_L_215 hrc rfl ⟨Nat.le_trans (by decide) hR.1, Nat.le_trans (by decide) hR.2⟩ ⟨by omega, by omega⟩ rfl rfl (Nat.le_of_ble_eq_true rfl) dL_law__1912) (fun H locs hS => ?_)
  refine lv_topi (fun x6_12 e1 => ?_)
  have hf := lt1_n e1 hf
  refine lv_istore (lv' := [(6, .int x6_12), (5, .int x5_6), (0, .ref b), (1, .ref x1), (2, .ref x2), (3, .ref x3), (4, .int x4)]) hx hb dL_law__1915 hl (by decide) rfl (fun ls hl => ?_)
  refine lv_aload_n hx hb dL_law__1917 rfl (lv_at hl 4 rfl) ?_
  obtain ⟨u0, h0, hf⟩ := bs hf
  obtain ⟨_, hrc⟩ := isO_n h0
  obtain ⟨v13, h1, hf⟩ := bs hf
  refine am_endi hS (am_runV (As := []) X (hml.trans hl.1.symm) hS (cX12_thrown_ok (l := l) (E := E) h1) mv_L_134 hrc rfl ⟨Nat.le_trans (by decide) hR.1, Nat.le_trans (by decide) hR.2⟩ ⟨by omega, by omega⟩ rfl rfl (Nat.le_of_ble_eq_true rfl) dL_law__1918) (fun H locs hS => ?_)
  refine lv_iload hx hb dL_law__1921 (lv_at hl 1 rfl) ?_
  refine lv_icmp_eq (tgt := 1928) hx hb dL_law__1923 (by decide) (fun q14 => ?_) (fun q14 => ?_)
  · have hf := ifp hf q14
    refine lv_iload hx hb dL_law__1928 (lv_at hl 1 rfl) ?_
    refine lv_if_ne (tgt := 1945) hx hb dL_law__1930 (by decide) (fun q15 => ?_) (fun q15 => ?_)
    · have hf := ifn hf q15
      refine lv_goto (tgt := 2743) hx hb dL_law__1945 (by decide) ?_
      exact kN _ (Option.some.inj hf).symm H locs ls _ _ (by omega) (by omega) hS (lv_sub hl [2, 3, 4, 5, 6] rfl)
    · have hf := ifp hf q15
      refine lv_aload_n hx hb dL_law__1933 rfl (lv_at hl 5 rfl) ?_
      refine lv_iconst (v := 0) hx hb dL_law__1934 (by decide) ?_
      obtain ⟨v16, h1, hf⟩ := bs hf
      refine am_lld X hS h1 dL_law__1935 ?_
      refine lv_iload hx hb dL_law__1936 (lv_at hl 0 rfl) ?_
      refine lv_i2l (v := ((x6_12).toInt64)) hx hb dL_law__1938 rfl ?_
      refine W.lcmp hx hb dL_law__1939 ?_
      refine lv_if_eq (tgt := 1945) hx hb dL_law__1940 (by decide) (fun q17 => ?_) (fun q17 => ?_)
      · have hf := ifp hf q17
        refine lv_goto (tgt := 2743) hx hb dL_law__1945 (by decide) ?_
        exact kN _ (Option.some.inj hf).symm H locs ls _ _ (by omega) (by omega) hS (lv_sub hl [2, 3, 4, 5, 6] rfl)
      · have hf := ifn hf q17
        refine lv_iconst (v := 0) hx hb dL_law__1943 (by decide) ?_
        exact kR _ (Option.some.inj hf).symm _ H locs ls _ _ (by omega) (by omega) dL_law__1944 hS
  · have hf := ifn hf q14
    refine lv_iconst (v := 0) hx hb dL_law__1926 (by decide) ?_
    exact kR _ (Option.some.inj hf).symm _ H locs ls _ _ (by omega) (by omega) dL_law__1927 hS
set_option maxHeartbeats 4000000 in
set_option maxRecDepth 100000 in
theorem wLc_26 {p : Program} {l : Launch} {e : Env} {R : Room} {s : State} {m : MethodId} {args : Array Value} {below : List Frame} {meth : Method} {c : Code} {Q : State → Prop} {E : Ev} {b L : Nat} {xs : Nat → Int32} (hl0 : l.stackTraces = false) (X : Cx p s m args c cL_law_ RL E) (hX : Scr E s b L xs) (hml : c.maxLocals = 8) (hR : 400 ≤ R.frames ∧ 20000 ≤ R.locals) {x1 x2 x3 : Nat} {x4 : Int32} {mm : Mem} {y : Mem ⊕ Int32} {kc ks : Nat} (hkc : kc + 1 ≤ R.cells) (hks : ks + 6 ≤ R.slots) (hf : fLc_26 (eS E) L xs x1 x2 x3 x4 mm = some y) (kN : ∀ mm1, y = .inl mm1 → ∀ (H : Heap) (locs : List Loc) (ls : Array Slot) (cells slots : Nat), cells ≤ kc + 1 → slots ≤ ks + 6 → wS E s mm1 H locs → lv_has ls 8 [(0, .ref b), (1, .ref x1), (2, .ref x2), (3, .ref x3), (4, .int x4)] → W p l e R s m args below meth c H locs cells slots Q (F0 m 2743 ls [])) (kR : ∀ v, y = .inr v → ∀ (pc : Nat) (H : Heap) (locs : List Loc) (ls : Array Slot) (cells slots : Nat), cells ≤ kc + 1 → slots ≤ ks + 6 → decode cL_law_ pc = .ok (.ireturn, 1) → ∀ {mm1 : Mem}, wS E s mm1 H locs → W p l e R s m args below meth c H locs cells slots Q (F0 m pc ls [.int v])) : ∀ (H : Heap) (locs : List Loc) (ls : Array Slot) (cells slots : Nat), cells ≤ kc → slots ≤ ks → wS E s mm H locs → lv_has ls 8 [(0, .ref b), (1, .ref x1), (2, .ref x2), (3, .ref x3), (4, .int x4)] → W p l e R s m args below meth c H locs cells slots Q (F0 m 1948 ls []) := by
  intro H locs ls cells slots hcc hcs hS hl
  have hx := X.1
  have hb := X.2.1
  unfold fLc_26 at hf
  refine lv_aload_n hx hb dL_law__1948 rfl (lv_at hl 1 rfl) ?_
  refine lv_aload_n hx hb dL_law__1949 rfl (lv_at hl 0 rfl) ?_
  refine lv_iload hx hb dL_law__1950 (lv_at hl 4 rfl) ?_
  refine lv_iconst (v := 1) hx hb dL_law__1952 (by decide) ?_
  refine lv_iadd hx hb dL_law__1953 ?_
  obtain ⟨v1, h1, hf⟩ := bs hf
  refine am_scr X hX hS h1 dL_law__1954 ?_
  refine lv_aload_n hx hb dL_law__1955 rfl (lv_at hl 3 rfl) ?_
  obtain ⟨v2, m3, h1, hf⟩ := bs2 hf
  refine am_cH (As := [.ref x1, .int v1, .ref x3]) X (hml.trans hl.1.symm) hS (cL_broadest_ok (l := l) (E := E) hl0 h1) mh_216 ⟨Nat.le_trans (by decide) hR.1, Nat.le_trans (by decide) hR.2⟩ ⟨by omega, by omega⟩ rfl rfl (Nat.le_of_ble_eq_true rfl) dL_law__1956 (fun H locs hS => ?_)
  refine lv_topi (fun x5_4 e1 => ?_)
  have hf := lt1_n e1 hf
  refine lv_istore (lv' := [(5, .int x5_4), (0, .ref b), (1, .ref x1), (2, .ref x2), (3, .ref x3), (4, .int x4)]) hx hb dL_law__1959 hl (by decide) rfl (fun ls hl => ?_)
  refine lv_aload_n hx hb dL_law__1961 rfl (lv_at hl 3 rfl) ?_
  refine lv_aload_n hx hb dL_law__1962 rfl (lv_at hl 1 rfl) ?_
  refine lv_iload hx hb dL_law__1963 (lv_at hl 5 rfl) ?_
  refine lv_iconst (v := 1) hx hb dL_law__1965 (by decide) ?_
  refine lv_iadd hx hb dL_law__1966 ?_
  obtain ⟨v5, h1, hf⟩ := bs hf
  refine am_scr X hX hS h1 dL_law__1967 ?_
  obtain ⟨u0, h0, hf⟩ := bs hf
  obtain ⟨_, hrc⟩ := isO_n h0
  obtain ⟨v6, m7, h1, hf⟩ := bs2 hf
  refine am_endi hS (am_runV (As := [.int v5]) X (hml.trans hl.1.symm) hS (cX12_broadest_ok (l := l) (E := E) h1) mv_L_218 hrc rfl ⟨Nat.le_trans (by decide) hR.1, Nat.le_trans (by decide) hR.2⟩ ⟨by omega, by omega⟩ rfl rfl (Nat.le_of_ble_eq_true rfl) dL_law__1968) (fun H locs hS => ?_)
  refine lv_topi (fun x6_8 e1 => ?_)
  have hf := lt1_n e1 hf
  refine lv_istore (lv' := [(6, .int x6_8), (5, .int x5_4), (0, .ref b), (1, .ref x1), (2, .ref x2), (3, .ref x3), (4, .int x4)]) hx hb dL_law__1971 hl (by decide) rfl (fun ls hl => ?_)
  refine lv_aload_n hx hb dL_law__1973 rfl (lv_at hl 4 rfl) ?_
  obtain ⟨u0, h0, hf⟩ := bs hf
  obtain ⟨_, hrc⟩ := isO_n h0
  obtain ⟨v9, h1, hf⟩ := bs hf
  refine am_endi hS (am_runV (As := []) X (hml.trans hl.1.symm) hS (cX12_thrown_ok (l := l) (E := E) h1) mv_L_134 hrc rfl ⟨Nat.le_trans (by decide) hR.1, Nat.le_trans (by decide) hR.2⟩ ⟨by omega, by omega⟩ rfl rfl (Nat.le_of_ble_eq_true rfl) dL_law__1974) (fun H locs hS => ?_)
  refine lv_iload hx hb dL_law__1977 (lv_at hl 1 rfl) ?_
  refine lv_icmp_eq (tgt := 1984) hx hb dL_law__1979 (by decide) (fun q10 => ?_) (fun q10 => ?_)
  · have hf := ifp hf q10
    refine lv_iload hx hb dL_law__1984 (lv_at hl 1 rfl) ?_
    refine lv_if_ne (tgt := 2001) hx hb dL_law__1986 (by decide) (fun q11 => ?_) (fun q11 => ?_)
    · have hf := ifn hf q11
      refine lv_goto (tgt := 2743) hx hb dL_law__2001 (by decide) ?_
      exact kN _ (Option.some.inj hf).symm H locs ls _ _ (by omega) (by omega) hS (lv_sub hl [2, 3, 4, 5, 6] rfl)
    · have hf := ifp hf q11
      refine lv_aload_n hx hb dL_law__1989 rfl (lv_at hl 5 rfl) ?_
      refine lv_iconst (v := 0) hx hb dL_law__1990 (by decide) ?_
      obtain ⟨v12, h1, hf⟩ := bs hf
      refine am_lld X hS h1 dL_law__1991 ?_
      refine lv_iload hx hb dL_law__1992 (lv_at hl 0 rfl) ?_
      refine lv_i2l (v := ((x6_8).toInt64)) hx hb dL_law__1994 rfl ?_
      refine W.lcmp hx hb dL_law__1995 ?_
      refine lv_if_eq (tgt := 2001) hx hb dL_law__1996 (by decide) (fun q13 => ?_) (fun q13 => ?_)
      · have hf := ifp hf q13
        refine lv_goto (tgt := 2743) hx hb dL_law__2001 (by decide) ?_
        exact kN _ (Option.some.inj hf).symm H locs ls _ _ (by omega) (by omega) hS (lv_sub hl [2, 3, 4, 5, 6] rfl)
      · have hf := ifn hf q13
        refine lv_iconst (v := 0) hx hb dL_law__1999 (by decide) ?_
        exact kR _ (Option.some.inj hf).symm _ H locs ls _ _ (by omega) (by omega) dL_law__2000 hS
  · have hf := ifn hf q10
    refine lv_iconst (v := 0) hx hb dL_law__1982 (by decide) ?_
    exact kR _ (Option.some.inj hf).symm _ H locs ls _ _ (by omega) (by omega) dL_law__1983 hS
set_option maxHeartbeats 4000000 in
set_option maxRecDepth 100000 in
theorem wLc_27 {p : Program} {l : Launch} {e : Env} {R : Room} {s : State} {m : MethodId} {args : Array Value} {below : List Frame} {meth : Method} {c : Code} {Q : State → Prop} {E : Ev} {b L : Nat} {xs : Nat → Int32} (hl0 : l.stackTraces = false) (X : Cx p s m args c cL_law_ RL E) (hX : Scr E s b L xs) (hml : c.maxLocals = 8) (hR : 400 ≤ R.frames ∧ 20000 ≤ R.locals) {x1 x2 x3 : Nat} {x4 : Int32} {mm : Mem} {y : Mem ⊕ Int32} {kc ks : Nat} (hkc : kc + 1 ≤ R.cells) (hks : ks + 6 ≤ R.slots) (hf : fLc_27 (eS E) L xs x1 x2 x3 x4 mm = some y) (kN : ∀ mm1, y = .inl mm1 → ∀ (H : Heap) (locs : List Loc) (ls : Array Slot) (cells slots : Nat), cells ≤ kc + 1 → slots ≤ ks + 6 → wS E s mm1 H locs → lv_has ls 8 [(0, .ref b), (1, .ref x1), (2, .ref x2), (3, .ref x3), (4, .int x4)] → W p l e R s m args below meth c H locs cells slots Q (F0 m 2743 ls [])) (kR : ∀ v, y = .inr v → ∀ (pc : Nat) (H : Heap) (locs : List Loc) (ls : Array Slot) (cells slots : Nat), cells ≤ kc + 1 → slots ≤ ks + 6 → decode cL_law_ pc = .ok (.ireturn, 1) → ∀ {mm1 : Mem}, wS E s mm1 H locs → W p l e R s m args below meth c H locs cells slots Q (F0 m pc ls [.int v])) : ∀ (H : Heap) (locs : List Loc) (ls : Array Slot) (cells slots : Nat), cells ≤ kc → slots ≤ ks → wS E s mm H locs → lv_has ls 8 [(0, .ref b), (1, .ref x1), (2, .ref x2), (3, .ref x3), (4, .int x4)] → W p l e R s m args below meth c H locs cells slots Q (F0 m 2004 ls []) := by
  intro H locs ls cells slots hcc hcs hS hl
  have hx := X.1
  have hb := X.2.1
  unfold fLc_27 at hf
  refine lv_aload_n hx hb dL_law__2004 rfl (lv_at hl 1 rfl) ?_
  refine lv_aload_n hx hb dL_law__2005 rfl (lv_at hl 0 rfl) ?_
  refine lv_iload hx hb dL_law__2006 (lv_at hl 4 rfl) ?_
  refine lv_iconst (v := 1) hx hb dL_law__2008 (by decide) ?_
  refine lv_iadd hx hb dL_law__2009 ?_
  obtain ⟨v1, h1, hf⟩ := bs hf
  refine am_scr X hX hS h1 dL_law__2010 ?_
  refine lv_aload_n hx hb dL_law__2011 rfl (lv_at hl 0 rfl) ?_
  refine lv_iload hx hb dL_law__2012 (lv_at hl 4 rfl) ?_
  refine lv_iconst (v := 2) hx hb dL_law__2014 (by decide) ?_
  refine lv_iadd hx hb dL_law__2015 ?_
  obtain ⟨v2, h1, hf⟩ := bs hf
  refine am_scr X hX hS h1 dL_law__2016 ?_
  refine lv_aload_n hx hb dL_law__2017 rfl (lv_at hl 3 rfl) ?_
  obtain ⟨v3, m4, h1, hf⟩ := bs2 hf
  refine am_cH (As := [.ref x1, .int v1, .int v2, .ref x3]) X (hml.trans hl.1.symm) hS (cL_strongest_ok (l := l) (E := E) hl0 h1) mh_219 ⟨Nat.le_trans (by decide) hR.1, Nat.le_trans (by decide) hR.2⟩ ⟨by omega, by omega⟩ rfl rfl (Nat.le_of_ble_eq_true rfl) dL_law__2018 (fun H locs hS => ?_)
  refine lv_topi (fun x5_5 e1 => ?_)
  have hf := lt1_n e1 hf
  refine lv_istore (lv' := [(5, .int x5_5), (0, .ref b), (1, .ref x1), (2, .ref x2), (3, .ref x3), (4, .int x4)]) hx hb dL_law__2021 hl (by decide) rfl (fun ls hl => ?_)
  refine lv_aload_n hx hb dL_law__2023 rfl (lv_at hl 3 rfl) ?_
  refine lv_aload_n hx hb dL_law__2024 rfl (lv_at hl 1 rfl) ?_
  refine lv_iload hx hb dL_law__2025 (lv_at hl 5 rfl) ?_
  refine lv_iconst (v := 1) hx hb dL_law__2027 (by decide) ?_
  refine lv_iadd hx hb dL_law__2028 ?_
  obtain ⟨v6, h1, hf⟩ := bs hf
  refine am_scr X hX hS h1 dL_law__2029 ?_
  refine lv_aload_n hx hb dL_law__2030 rfl (lv_at hl 1 rfl) ?_
  refine lv_iload hx hb dL_law__2031 (lv_at hl 5 rfl) ?_
  refine lv_iconst (v := 2) hx hb dL_law__2033 (by decide) ?_
  refine lv_iadd hx hb dL_law__2034 ?_
  obtain ⟨v7, h1, hf⟩ := bs hf
  refine am_scr X hX hS h1 dL_law__2035 ?_
  obtain ⟨u0, h0, hf⟩ := bs hf
  obtain ⟨_, hrc⟩ := isO_n h0
  obtain ⟨v8, m9, h1, hf⟩ := bs2 hf
  refine am_endi hS (am_runV (As := [.int v6, .int v7]) X (hml.trans hl.1.symm) hS (cX12_strongest_ok (l := l) (E := E) h1) mv_L_221 hrc rfl ⟨Nat.le_trans (by decide) hR.1, Nat.le_trans (by decide) hR.2⟩ ⟨by omega, by omega⟩ rfl rfl (Nat.le_of_ble_eq_true rfl) dL_law__2036) (fun H locs hS => ?_)
  refine lv_topi (fun x6_10 e1 => ?_)
  have hf := lt1_n e1 hf
  refine lv_istore (lv' := [(6, .int x6_10), (5, .int x5_5), (0, .ref b), (1, .ref x1), (2, .ref x2), (3, .ref x3), (4, .int x4)]) hx hb dL_law__2039 hl (by decide) rfl (fun ls hl => ?_)
  refine lv_aload_n hx hb dL_law__2041 rfl (lv_at hl 4 rfl) ?_
  obtain ⟨u0, h0, hf⟩ := bs hf
  obtain ⟨_, hrc⟩ := isO_n h0
  obtain ⟨v11, h1, hf⟩ := bs hf
  refine am_endi hS (am_runV (As := []) X (hml.trans hl.1.symm) hS (cX12_thrown_ok (l := l) (E := E) h1) mv_L_134 hrc rfl ⟨Nat.le_trans (by decide) hR.1, Nat.le_trans (by decide) hR.2⟩ ⟨by omega, by omega⟩ rfl rfl (Nat.le_of_ble_eq_true rfl) dL_law__2042) (fun H locs hS => ?_)
  refine lv_iload hx hb dL_law__2045 (lv_at hl 1 rfl) ?_
  refine lv_icmp_eq (tgt := 2052) hx hb dL_law__2047 (by decide) (fun q12 => ?_) (fun q12 => ?_)
  · have hf := ifp hf q12
    refine lv_iload hx hb dL_law__2052 (lv_at hl 1 rfl) ?_
    refine lv_if_ne (tgt := 2069) hx hb dL_law__2054 (by decide) (fun q13 => ?_) (fun q13 => ?_)
    · have hf := ifn hf q13
      refine lv_goto (tgt := 2743) hx hb dL_law__2069 (by decide) ?_
      exact kN _ (Option.some.inj hf).symm H locs ls _ _ (by omega) (by omega) hS (lv_sub hl [2, 3, 4, 5, 6] rfl)
    · have hf := ifp hf q13
      refine lv_aload_n hx hb dL_law__2057 rfl (lv_at hl 5 rfl) ?_
      refine lv_iconst (v := 0) hx hb dL_law__2058 (by decide) ?_
      obtain ⟨v14, h1, hf⟩ := bs hf
      refine am_lld X hS h1 dL_law__2059 ?_
      refine lv_iload hx hb dL_law__2060 (lv_at hl 0 rfl) ?_
      refine lv_i2l (v := ((x6_10).toInt64)) hx hb dL_law__2062 rfl ?_
      refine W.lcmp hx hb dL_law__2063 ?_
      refine lv_if_eq (tgt := 2069) hx hb dL_law__2064 (by decide) (fun q15 => ?_) (fun q15 => ?_)
      · have hf := ifp hf q15
        refine lv_goto (tgt := 2743) hx hb dL_law__2069 (by decide) ?_
        exact kN _ (Option.some.inj hf).symm H locs ls _ _ (by omega) (by omega) hS (lv_sub hl [2, 3, 4, 5, 6] rfl)
      · have hf := ifn hf q15
        refine lv_iconst (v := 0) hx hb dL_law__2067 (by decide) ?_
        exact kR _ (Option.some.inj hf).symm _ H locs ls _ _ (by omega) (by omega) dL_law__2068 hS
  · have hf := ifn hf q12
    refine lv_iconst (v := 0) hx hb dL_law__2050 (by decide) ?_
    exact kR _ (Option.some.inj hf).symm _ H locs ls _ _ (by omega) (by omega) dL_law__2051 hS
set_option maxHeartbeats 4000000 in
set_option maxRecDepth 100000 in
theorem wLc_28 {p : Program} {l : Launch} {e : Env} {R : Room} {s : State} {m : MethodId} {args : Array Value} {below : List Frame} {meth : Method} {c : Code} {Q : State → Prop} {E : Ev} {b L : Nat} {xs : Nat → Int32} (hl0 : l.stackTraces = false) (X : Cx p s m args c cL_law_ RL E) (hX : Scr E s b L xs) (hml : c.maxLocals = 8) (hR : 400 ≤ R.frames ∧ 20000 ≤ R.locals) {x1 x2 x3 : Nat} {x4 : Int32} {mm : Mem} {y : Mem ⊕ Int32} {kc ks : Nat} (hkc : kc + 1 ≤ R.cells) (hks : ks + 6 ≤ R.slots) (hf : fLc_28 (eS E) L xs x1 x2 x3 x4 mm = some y) (kN : ∀ mm1, y = .inl mm1 → ∀ (H : Heap) (locs : List Loc) (ls : Array Slot) (cells slots : Nat), cells ≤ kc + 1 → slots ≤ ks + 6 → wS E s mm1 H locs → lv_has ls 8 [(0, .ref b), (1, .ref x1), (2, .ref x2), (3, .ref x3), (4, .int x4)] → W p l e R s m args below meth c H locs cells slots Q (F0 m 2743 ls [])) (kR : ∀ v, y = .inr v → ∀ (pc : Nat) (H : Heap) (locs : List Loc) (ls : Array Slot) (cells slots : Nat), cells ≤ kc + 1 → slots ≤ ks + 6 → decode cL_law_ pc = .ok (.ireturn, 1) → ∀ {mm1 : Mem}, wS E s mm1 H locs → W p l e R s m args below meth c H locs cells slots Q (F0 m pc ls [.int v])) : ∀ (H : Heap) (locs : List Loc) (ls : Array Slot) (cells slots : Nat), cells ≤ kc → slots ≤ ks → wS E s mm H locs → lv_has ls 8 [(0, .ref b), (1, .ref x1), (2, .ref x2), (3, .ref x3), (4, .int x4)] → W p l e R s m args below meth c H locs cells slots Q (F0 m 2072 ls []) := by
  intro H locs ls cells slots hcc hcs hS hl
  have hx := X.1
  have hb := X.2.1
  unfold fLc_28 at hf
  refine lv_aload_n hx hb dL_law__2072 rfl (lv_at hl 1 rfl) ?_
  refine lv_aload_n hx hb dL_law__2073 rfl (lv_at hl 0 rfl) ?_
  refine lv_iload hx hb dL_law__2074 (lv_at hl 4 rfl) ?_
  refine lv_iconst (v := 1) hx hb dL_law__2076 (by decide) ?_
  refine lv_iadd hx hb dL_law__2077 ?_
  obtain ⟨v1, h1, hf⟩ := bs hf
  refine am_scr X hX hS h1 dL_law__2078 ?_
  refine lv_aload_n hx hb dL_law__2079 rfl (lv_at hl 0 rfl) ?_
  refine lv_iload hx hb dL_law__2080 (lv_at hl 4 rfl) ?_
  refine lv_iconst (v := 2) hx hb dL_law__2082 (by decide) ?_
  refine lv_iadd hx hb dL_law__2083 ?_
  obtain ⟨v2, h1, hf⟩ := bs hf
  refine am_scr X hX hS h1 dL_law__2084 ?_
  refine lv_aload_n hx hb dL_law__2085 rfl (lv_at hl 3 rfl) ?_
  obtain ⟨v3, m4, h1, hf⟩ := bs2 hf
  refine am_cH (As := [.ref x1, .int v1, .int v2, .ref x3]) X (hml.trans hl.1.symm) hS (cL_joins_ok (l := l) (E := E) hl0 h1) mh_222 ⟨Nat.le_trans (by decide) hR.1, Nat.le_trans (by decide) hR.2⟩ ⟨by omega, by omega⟩ rfl rfl (Nat.le_of_ble_eq_true rfl) dL_law__2086 (fun H locs hS => ?_)
  refine lv_topi (fun x5_5 e1 => ?_)
  have hf := lt1_n e1 hf
  refine lv_istore (lv' := [(5, .int x5_5), (0, .ref b), (1, .ref x1), (2, .ref x2), (3, .ref x3), (4, .int x4)]) hx hb dL_law__2089 hl (by decide) rfl (fun ls hl => ?_)
  refine lv_aload_n hx hb dL_law__2091 rfl (lv_at hl 3 rfl) ?_
  refine lv_aload_n hx hb dL_law__2092 rfl (lv_at hl 1 rfl) ?_
  refine lv_iload hx hb dL_law__2093 (lv_at hl 5 rfl) ?_
  refine lv_iconst (v := 1) hx hb dL_law__2095 (by decide) ?_
  refine lv_iadd hx hb dL_law__2096 ?_
  obtain ⟨v6, h1, hf⟩ := bs hf
  refine am_scr X hX hS h1 dL_law__2097 ?_
  refine lv_aload_n hx hb dL_law__2098 rfl (lv_at hl 1 rfl) ?_
  refine lv_iload hx hb dL_law__2099 (lv_at hl 5 rfl) ?_
  refine lv_iconst (v := 2) hx hb dL_law__2101 (by decide) ?_
  refine lv_iadd hx hb dL_law__2102 ?_
  obtain ⟨v7, h1, hf⟩ := bs hf
  refine am_scr X hX hS h1 dL_law__2103 ?_
  obtain ⟨u0, h0, hf⟩ := bs hf
  obtain ⟨_, hrc⟩ := isO_n h0
  obtain ⟨v8, m9, h1, hf⟩ := bs2 hf
  refine am_endi hS (am_runV (As := [.int v6, .int v7]) X (hml.trans hl.1.symm) hS (cX12_joins_ok (l := l) (E := E) h1) mv_L_224 hrc rfl ⟨Nat.le_trans (by decide) hR.1, Nat.le_trans (by decide) hR.2⟩ ⟨by omega, by omega⟩ rfl rfl (Nat.le_of_ble_eq_true rfl) dL_law__2104) (fun H locs hS => ?_)
  refine lv_topi (fun x6_10 e1 => ?_)
  have hf := lt1_n e1 hf
  refine lv_istore (lv' := [(6, .int x6_10), (5, .int x5_5), (0, .ref b), (1, .ref x1), (2, .ref x2), (3, .ref x3), (4, .int x4)]) hx hb dL_law__2107 hl (by decide) rfl (fun ls hl => ?_)
  refine lv_aload_n hx hb dL_law__2109 rfl (lv_at hl 4 rfl) ?_
  obtain ⟨u0, h0, hf⟩ := bs hf
  obtain ⟨_, hrc⟩ := isO_n h0
  obtain ⟨v11, h1, hf⟩ := bs hf
  refine am_endi hS (am_runV (As := []) X (hml.trans hl.1.symm) hS (cX12_thrown_ok (l := l) (E := E) h1) mv_L_134 hrc rfl ⟨Nat.le_trans (by decide) hR.1, Nat.le_trans (by decide) hR.2⟩ ⟨by omega, by omega⟩ rfl rfl (Nat.le_of_ble_eq_true rfl) dL_law__2110) (fun H locs hS => ?_)
  refine lv_iload hx hb dL_law__2113 (lv_at hl 1 rfl) ?_
  refine lv_icmp_eq (tgt := 2120) hx hb dL_law__2115 (by decide) (fun q12 => ?_) (fun q12 => ?_)
  · have hf := ifp hf q12
    refine lv_iload hx hb dL_law__2120 (lv_at hl 1 rfl) ?_
    refine lv_if_ne (tgt := 2137) hx hb dL_law__2122 (by decide) (fun q13 => ?_) (fun q13 => ?_)
    · have hf := ifn hf q13
      refine lv_goto (tgt := 2743) hx hb dL_law__2137 (by decide) ?_
      exact kN _ (Option.some.inj hf).symm H locs ls _ _ (by omega) (by omega) hS (lv_sub hl [2, 3, 4, 5, 6] rfl)
    · have hf := ifp hf q13
      refine lv_aload_n hx hb dL_law__2125 rfl (lv_at hl 5 rfl) ?_
      refine lv_iconst (v := 0) hx hb dL_law__2126 (by decide) ?_
      obtain ⟨v14, h1, hf⟩ := bs hf
      refine am_lld X hS h1 dL_law__2127 ?_
      refine lv_iload hx hb dL_law__2128 (lv_at hl 0 rfl) ?_
      refine lv_i2l (v := ((x6_10).toInt64)) hx hb dL_law__2130 rfl ?_
      refine W.lcmp hx hb dL_law__2131 ?_
      refine lv_if_eq (tgt := 2137) hx hb dL_law__2132 (by decide) (fun q15 => ?_) (fun q15 => ?_)
      · have hf := ifp hf q15
        refine lv_goto (tgt := 2743) hx hb dL_law__2137 (by decide) ?_
        exact kN _ (Option.some.inj hf).symm H locs ls _ _ (by omega) (by omega) hS (lv_sub hl [2, 3, 4, 5, 6] rfl)
      · have hf := ifn hf q15
        refine lv_iconst (v := 0) hx hb dL_law__2135 (by decide) ?_
        exact kR _ (Option.some.inj hf).symm _ H locs ls _ _ (by omega) (by omega) dL_law__2136 hS
  · have hf := ifn hf q12
    refine lv_iconst (v := 0) hx hb dL_law__2118 (by decide) ?_
    exact kR _ (Option.some.inj hf).symm _ H locs ls _ _ (by omega) (by omega) dL_law__2119 hS
set_option maxHeartbeats 4000000 in
set_option maxRecDepth 100000 in
theorem wLc_29 {p : Program} {l : Launch} {e : Env} {R : Room} {s : State} {m : MethodId} {args : Array Value} {below : List Frame} {meth : Method} {c : Code} {Q : State → Prop} {E : Ev} {b L : Nat} {xs : Nat → Int32} (hl0 : l.stackTraces = false) (X : Cx p s m args c cL_law_ RL E) (hX : Scr E s b L xs) (hml : c.maxLocals = 8) (hR : 400 ≤ R.frames ∧ 20000 ≤ R.locals) {x1 x2 x3 : Nat} {x4 : Int32} {mm : Mem} {y : Mem ⊕ Int32} {kc ks : Nat} (hkc : kc + 1 ≤ R.cells) (hks : ks + 6 ≤ R.slots) (hf : fLc_29 (eS E) L xs x1 x2 x3 x4 mm = some y) (kN : ∀ mm1, y = .inl mm1 → ∀ (H : Heap) (locs : List Loc) (ls : Array Slot) (cells slots : Nat), cells ≤ kc + 1 → slots ≤ ks + 6 → wS E s mm1 H locs → lv_has ls 8 [(0, .ref b), (1, .ref x1), (2, .ref x2), (3, .ref x3), (4, .int x4)] → W p l e R s m args below meth c H locs cells slots Q (F0 m 2743 ls [])) (kR : ∀ v, y = .inr v → ∀ (pc : Nat) (H : Heap) (locs : List Loc) (ls : Array Slot) (cells slots : Nat), cells ≤ kc + 1 → slots ≤ ks + 6 → decode cL_law_ pc = .ok (.ireturn, 1) → ∀ {mm1 : Mem}, wS E s mm1 H locs → W p l e R s m args below meth c H locs cells slots Q (F0 m pc ls [.int v])) : ∀ (H : Heap) (locs : List Loc) (ls : Array Slot) (cells slots : Nat), cells ≤ kc → slots ≤ ks → wS E s mm H locs → lv_has ls 8 [(0, .ref b), (1, .ref x1), (2, .ref x2), (3, .ref x3), (4, .int x4)] → W p l e R s m args below meth c H locs cells slots Q (F0 m 2140 ls []) := by
  intro H locs ls cells slots hcc hcs hS hl
  have hx := X.1
  have hb := X.2.1
  unfold fLc_29 at hf
  refine lv_aload_n hx hb dL_law__2140 rfl (lv_at hl 1 rfl) ?_
  refine lv_aload_n hx hb dL_law__2141 rfl (lv_at hl 0 rfl) ?_
  refine lv_iload hx hb dL_law__2142 (lv_at hl 4 rfl) ?_
  refine lv_iconst (v := 1) hx hb dL_law__2144 (by decide) ?_
  refine lv_iadd hx hb dL_law__2145 ?_
  obtain ⟨v1, h1, hf⟩ := bs hf
  refine am_scr X hX hS h1 dL_law__2146 ?_
  refine lv_aload_n hx hb dL_law__2147 rfl (lv_at hl 3 rfl) ?_
  obtain ⟨v2, m3, h1, hf⟩ := bs2 hf
  refine am_cH (As := [.ref x1, .int v1, .ref x3]) X (hml.trans hl.1.symm) hS (cL_blurs_ok (l := l) (E := E) hl0 h1) mh_225 ⟨Nat.le_trans (by decide) hR.1, Nat.le_trans (by decide) hR.2⟩ ⟨by omega, by omega⟩ rfl rfl (Nat.le_of_ble_eq_true rfl) dL_law__2148 (fun H locs hS => ?_)
  refine lv_topi (fun x5_4 e1 => ?_)
  have hf := lt1_n e1 hf
  refine lv_istore (lv' := [(5, .int x5_4), (0, .ref b), (1, .ref x1), (2, .ref x2), (3, .ref x3), (4, .int x4)]) hx hb dL_law__2151 hl (by decide) rfl (fun ls hl => ?_)
  refine lv_aload_n hx hb dL_law__2153 rfl (lv_at hl 3 rfl) ?_
  refine lv_aload_n hx hb dL_law__2154 rfl (lv_at hl 1 rfl) ?_
  refine lv_iload hx hb dL_law__2155 (lv_at hl 5 rfl) ?_
  refine lv_iconst (v := 1) hx hb dL_law__2157 (by decide) ?_
  refine lv_iadd hx hb dL_law__2158 ?_
  obtain ⟨v5, h1, hf⟩ := bs hf
  refine am_scr X hX hS h1 dL_law__2159 ?_
  obtain ⟨u0, h0, hf⟩ := bs hf
  obtain ⟨_, hrc⟩ := isO_n h0
  obtain ⟨v6, m7, h1, hf⟩ := bs2 hf
  refine am_endi hS (am_runV (As := [.int v5]) X (hml.trans hl.1.symm) hS (cX12_blurs_ok (l := l) (E := E) h1) mv_L_227 hrc rfl ⟨Nat.le_trans (by decide) hR.1, Nat.le_trans (by decide) hR.2⟩ ⟨by omega, by omega⟩ rfl rfl (Nat.le_of_ble_eq_true rfl) dL_law__2160) (fun H locs hS => ?_)
  refine lv_topi (fun x6_8 e1 => ?_)
  have hf := lt1_n e1 hf
  refine lv_istore (lv' := [(6, .int x6_8), (5, .int x5_4), (0, .ref b), (1, .ref x1), (2, .ref x2), (3, .ref x3), (4, .int x4)]) hx hb dL_law__2163 hl (by decide) rfl (fun ls hl => ?_)
  refine lv_aload_n hx hb dL_law__2165 rfl (lv_at hl 4 rfl) ?_
  obtain ⟨u0, h0, hf⟩ := bs hf
  obtain ⟨_, hrc⟩ := isO_n h0
  obtain ⟨v9, h1, hf⟩ := bs hf
  refine am_endi hS (am_runV (As := []) X (hml.trans hl.1.symm) hS (cX12_thrown_ok (l := l) (E := E) h1) mv_L_134 hrc rfl ⟨Nat.le_trans (by decide) hR.1, Nat.le_trans (by decide) hR.2⟩ ⟨by omega, by omega⟩ rfl rfl (Nat.le_of_ble_eq_true rfl) dL_law__2166) (fun H locs hS => ?_)
  refine lv_iload hx hb dL_law__2169 (lv_at hl 1 rfl) ?_
  refine lv_icmp_eq (tgt := 2176) hx hb dL_law__2171 (by decide) (fun q10 => ?_) (fun q10 => ?_)
  · have hf := ifp hf q10
    refine lv_iload hx hb dL_law__2176 (lv_at hl 1 rfl) ?_
    refine lv_if_ne (tgt := 2193) hx hb dL_law__2178 (by decide) (fun q11 => ?_) (fun q11 => ?_)
    · have hf := ifn hf q11
      refine lv_goto (tgt := 2743) hx hb dL_law__2193 (by decide) ?_
      exact kN _ (Option.some.inj hf).symm H locs ls _ _ (by omega) (by omega) hS (lv_sub hl [2, 3, 4, 5, 6] rfl)
    · have hf := ifp hf q11
      refine lv_aload_n hx hb dL_law__2181 rfl (lv_at hl 5 rfl) ?_
      refine lv_iconst (v := 0) hx hb dL_law__2182 (by decide) ?_
      obtain ⟨v12, h1, hf⟩ := bs hf
      refine am_lld X hS h1 dL_law__2183 ?_
      refine lv_iload hx hb dL_law__2184 (lv_at hl 0 rfl) ?_
      refine lv_i2l (v := ((x6_8).toInt64)) hx hb dL_law__2186 rfl ?_
      refine W.lcmp hx hb dL_law__2187 ?_
      refine lv_if_eq (tgt := 2193) hx hb dL_law__2188 (by decide) (fun q13 => ?_) (fun q13 => ?_)
      · have hf := ifp hf q13
        refine lv_goto (tgt := 2743) hx hb dL_law__2193 (by decide) ?_
        exact kN _ (Option.some.inj hf).symm H locs ls _ _ (by omega) (by omega) hS (lv_sub hl [2, 3, 4, 5, 6] rfl)
      · have hf := ifn hf q13
        refine lv_iconst (v := 0) hx hb dL_law__2191 (by decide) ?_
        exact kR _ (Option.some.inj hf).symm _ H locs ls _ _ (by omega) (by omega) dL_law__2192 hS
  · have hf := ifn hf q10
    refine lv_iconst (v := 0) hx hb dL_law__2174 (by decide) ?_
    exact kR _ (Option.some.inj hf).symm _ H locs ls _ _ (by omega) (by omega) dL_law__2175 hS
set_option maxHeartbeats 4000000 in
set_option maxRecDepth 100000 in
theorem wLc_30 {p : Program} {l : Launch} {e : Env} {R : Room} {s : State} {m : MethodId} {args : Array Value} {below : List Frame} {meth : Method} {c : Code} {Q : State → Prop} {E : Ev} {b L : Nat} {xs : Nat → Int32} (hl0 : l.stackTraces = false) (X : Cx p s m args c cL_law_ RL E) (hX : Scr E s b L xs) (hml : c.maxLocals = 8) (hR : 400 ≤ R.frames ∧ 20000 ≤ R.locals) {x1 x2 x3 : Nat} {x4 : Int32} {mm : Mem} {y : Mem ⊕ Int32} {kc ks : Nat} (hkc : kc + 1 ≤ R.cells) (hks : ks + 6 ≤ R.slots) (hf : fLc_30 (eS E) L xs x1 x2 x3 x4 mm = some y) (kN : ∀ mm1, y = .inl mm1 → ∀ (H : Heap) (locs : List Loc) (ls : Array Slot) (cells slots : Nat), cells ≤ kc + 1 → slots ≤ ks + 6 → wS E s mm1 H locs → lv_has ls 8 [(0, .ref b), (1, .ref x1), (2, .ref x2), (3, .ref x3), (4, .int x4)] → W p l e R s m args below meth c H locs cells slots Q (F0 m 2743 ls [])) (kR : ∀ v, y = .inr v → ∀ (pc : Nat) (H : Heap) (locs : List Loc) (ls : Array Slot) (cells slots : Nat), cells ≤ kc + 1 → slots ≤ ks + 6 → decode cL_law_ pc = .ok (.ireturn, 1) → ∀ {mm1 : Mem}, wS E s mm1 H locs → W p l e R s m args below meth c H locs cells slots Q (F0 m pc ls [.int v])) : ∀ (H : Heap) (locs : List Loc) (ls : Array Slot) (cells slots : Nat), cells ≤ kc → slots ≤ ks → wS E s mm H locs → lv_has ls 8 [(0, .ref b), (1, .ref x1), (2, .ref x2), (3, .ref x3), (4, .int x4)] → W p l e R s m args below meth c H locs cells slots Q (F0 m 2196 ls []) := by
  intro H locs ls cells slots hcc hcs hS hl
  have hx := X.1
  have hb := X.2.1
  unfold fLc_30 at hf
  refine lv_aload_n hx hb dL_law__2196 rfl (lv_at hl 1 rfl) ?_
  obtain ⟨u0, h0, hf⟩ := bs hf
  obtain ⟨_, hrc⟩ := isO_n h0
  obtain ⟨v1, h1, hf⟩ := bs hf
  refine am_endi hS (am_runV (As := []) X (hml.trans hl.1.symm) hS (cX11_lit_ok (l := l) (E := E) h1) mv_L_228 hrc rfl ⟨Nat.le_trans (by decide) hR.1, Nat.le_trans (by decide) hR.2⟩ ⟨by omega, by omega⟩ rfl rfl (Nat.le_of_ble_eq_true rfl) dL_law__2197) (fun H locs hS => ?_)
  refine lv_aload_n hx hb dL_law__2200 rfl (lv_at hl 2 rfl) ?_
  obtain ⟨u0, h0, hf⟩ := bs hf
  obtain ⟨_, hrc⟩ := isO_n h0
  obtain ⟨v2, m3, h1, hf⟩ := bs2 hf
  refine am_endi hS (am_runV (As := []) X (hml.trans hl.1.symm) hS (cX12_lit_ok (l := l) (E := E) h1) mv_L_231 hrc rfl ⟨Nat.le_trans (by decide) hR.1, Nat.le_trans (by decide) hR.2⟩ ⟨by omega, by omega⟩ rfl rfl (Nat.le_of_ble_eq_true rfl) dL_law__2201) (fun H locs hS => ?_)
  refine lv_icmp_eq (tgt := 2743) hx hb dL_law__2204 (by decide) (fun q4 => ?_) (fun q4 => ?_)
  · have hf := ifp hf q4
    exact kN _ (Option.some.inj hf).symm H locs ls _ _ (by omega) (by omega) hS (lv_sub hl [0, 1, 2, 3, 4] rfl)
  · have hf := ifn hf q4
    refine lv_iconst (v := 0) hx hb dL_law__2207 (by decide) ?_
    exact kR _ (Option.some.inj hf).symm _ H locs ls _ _ (by omega) (by omega) dL_law__2208 hS
set_option maxHeartbeats 4000000 in
set_option maxRecDepth 100000 in
theorem wLc_31 {p : Program} {l : Launch} {e : Env} {R : Room} {s : State} {m : MethodId} {args : Array Value} {below : List Frame} {meth : Method} {c : Code} {Q : State → Prop} {E : Ev} {b L : Nat} {xs : Nat → Int32} (hl0 : l.stackTraces = false) (X : Cx p s m args c cL_law_ RL E) (hX : Scr E s b L xs) (hml : c.maxLocals = 8) (hR : 400 ≤ R.frames ∧ 20000 ≤ R.locals) {x1 x2 x3 : Nat} {x4 : Int32} {mm : Mem} {y : Mem ⊕ Int32} {kc ks : Nat} (hkc : kc + 1 ≤ R.cells) (hks : ks + 6 ≤ R.slots) (hf : fLc_31 (eS E) L xs x1 x2 x3 x4 mm = some y) (kN : ∀ mm1, y = .inl mm1 → ∀ (H : Heap) (locs : List Loc) (ls : Array Slot) (cells slots : Nat), cells ≤ kc + 1 → slots ≤ ks + 6 → wS E s mm1 H locs → lv_has ls 8 [(0, .ref b), (1, .ref x1), (2, .ref x2), (3, .ref x3), (4, .int x4)] → W p l e R s m args below meth c H locs cells slots Q (F0 m 2743 ls [])) (kR : ∀ v, y = .inr v → ∀ (pc : Nat) (H : Heap) (locs : List Loc) (ls : Array Slot) (cells slots : Nat), cells ≤ kc + 1 → slots ≤ ks + 6 → decode cL_law_ pc = .ok (.ireturn, 1) → ∀ {mm1 : Mem}, wS E s mm1 H locs → W p l e R s m args below meth c H locs cells slots Q (F0 m pc ls [.int v])) : ∀ (H : Heap) (locs : List Loc) (ls : Array Slot) (cells slots : Nat), cells ≤ kc → slots ≤ ks → wS E s mm H locs → lv_has ls 8 [(0, .ref b), (1, .ref x1), (2, .ref x2), (3, .ref x3), (4, .int x4)] → W p l e R s m args below meth c H locs cells slots Q (F0 m 2209 ls []) := by
  intro H locs ls cells slots hcc hcs hS hl
  have hx := X.1
  have hb := X.2.1
  unfold fLc_31 at hf
  refine lv_aload_n hx hb dL_law__2209 rfl (lv_at hl 1 rfl) ?_
  refine lv_aload_n hx hb dL_law__2210 rfl (lv_at hl 0 rfl) ?_
  refine lv_iload hx hb dL_law__2211 (lv_at hl 4 rfl) ?_
  refine lv_iconst (v := 1) hx hb dL_law__2213 (by decide) ?_
  refine lv_iadd hx hb dL_law__2214 ?_
  obtain ⟨v1, h1, hf⟩ := bs hf
  refine am_scr X hX hS h1 dL_law__2215 ?_
  refine lv_aload_n hx hb dL_law__2216 rfl (lv_at hl 0 rfl) ?_
  refine lv_iload hx hb dL_law__2217 (lv_at hl 4 rfl) ?_
  refine lv_iconst (v := 2) hx hb dL_law__2219 (by decide) ?_
  refine lv_iadd hx hb dL_law__2220 ?_
  obtain ⟨v2, h1, hf⟩ := bs hf
  refine am_scr X hX hS h1 dL_law__2221 ?_
  refine lv_aload_n hx hb dL_law__2222 rfl (lv_at hl 3 rfl) ?_
  obtain ⟨v3, m4, h1, hf⟩ := bs2 hf
  refine am_cH (As := [.ref x1, .int v1, .int v2, .ref x3]) X (hml.trans hl.1.symm) hS (cL_lacks_ok (l := l) (E := E) hl0 h1) mh_232 ⟨Nat.le_trans (by decide) hR.1, Nat.le_trans (by decide) hR.2⟩ ⟨by omega, by omega⟩ rfl rfl (Nat.le_of_ble_eq_true rfl) dL_law__2223 (fun H locs hS => ?_)
  refine lv_topi (fun x5_5 e1 => ?_)
  have hf := lt1_n e1 hf
  refine lv_istore (lv' := [(5, .int x5_5), (0, .ref b), (1, .ref x1), (2, .ref x2), (3, .ref x3), (4, .int x4)]) hx hb dL_law__2226 hl (by decide) rfl (fun ls hl => ?_)
  refine lv_aload_n hx hb dL_law__2228 rfl (lv_at hl 3 rfl) ?_
  refine lv_aload_n hx hb dL_law__2229 rfl (lv_at hl 1 rfl) ?_
  refine lv_iload hx hb dL_law__2230 (lv_at hl 5 rfl) ?_
  refine lv_iconst (v := 1) hx hb dL_law__2232 (by decide) ?_
  refine lv_iadd hx hb dL_law__2233 ?_
  obtain ⟨v6, h1, hf⟩ := bs hf
  refine am_scr X hX hS h1 dL_law__2234 ?_
  refine lv_aload_n hx hb dL_law__2235 rfl (lv_at hl 1 rfl) ?_
  refine lv_iload hx hb dL_law__2236 (lv_at hl 5 rfl) ?_
  refine lv_iconst (v := 2) hx hb dL_law__2238 (by decide) ?_
  refine lv_iadd hx hb dL_law__2239 ?_
  obtain ⟨v7, h1, hf⟩ := bs hf
  refine am_scr X hX hS h1 dL_law__2240 ?_
  obtain ⟨u0, h0, hf⟩ := bs hf
  obtain ⟨_, hrc⟩ := isO_n h0
  obtain ⟨v8, m9, h1, hf⟩ := bs2 hf
  refine am_endi hS (am_runV (As := [.int v6, .int v7]) X (hml.trans hl.1.symm) hS (cX12_lacks_ok (l := l) (E := E) h1) mv_L_234 hrc rfl ⟨Nat.le_trans (by decide) hR.1, Nat.le_trans (by decide) hR.2⟩ ⟨by omega, by omega⟩ rfl rfl (Nat.le_of_ble_eq_true rfl) dL_law__2241) (fun H locs hS => ?_)
  refine lv_topi (fun x6_10 e1 => ?_)
  have hf := lt1_n e1 hf
  refine lv_istore (lv' := [(6, .int x6_10), (5, .int x5_5), (0, .ref b), (1, .ref x1), (2, .ref x2), (3, .ref x3), (4, .int x4)]) hx hb dL_law__2244 hl (by decide) rfl (fun ls hl => ?_)
  refine lv_aload_n hx hb dL_law__2246 rfl (lv_at hl 4 rfl) ?_
  obtain ⟨u0, h0, hf⟩ := bs hf
  obtain ⟨_, hrc⟩ := isO_n h0
  obtain ⟨v11, h1, hf⟩ := bs hf
  refine am_endi hS (am_runV (As := []) X (hml.trans hl.1.symm) hS (cX12_thrown_ok (l := l) (E := E) h1) mv_L_134 hrc rfl ⟨Nat.le_trans (by decide) hR.1, Nat.le_trans (by decide) hR.2⟩ ⟨by omega, by omega⟩ rfl rfl (Nat.le_of_ble_eq_true rfl) dL_law__2247) (fun H locs hS => ?_)
  refine lv_iload hx hb dL_law__2250 (lv_at hl 1 rfl) ?_
  refine lv_icmp_eq (tgt := 2257) hx hb dL_law__2252 (by decide) (fun q12 => ?_) (fun q12 => ?_)
  · have hf := ifp hf q12
    refine lv_iload hx hb dL_law__2257 (lv_at hl 1 rfl) ?_
    refine lv_if_ne (tgt := 2274) hx hb dL_law__2259 (by decide) (fun q13 => ?_) (fun q13 => ?_)
    · have hf := ifn hf q13
      refine lv_goto (tgt := 2743) hx hb dL_law__2274 (by decide) ?_
      exact kN _ (Option.some.inj hf).symm H locs ls _ _ (by omega) (by omega) hS (lv_sub hl [2, 3, 4, 5, 6] rfl)
    · have hf := ifp hf q13
      refine lv_aload_n hx hb dL_law__2262 rfl (lv_at hl 5 rfl) ?_
      refine lv_iconst (v := 0) hx hb dL_law__2263 (by decide) ?_
      obtain ⟨v14, h1, hf⟩ := bs hf
      refine am_lld X hS h1 dL_law__2264 ?_
      refine lv_iload hx hb dL_law__2265 (lv_at hl 0 rfl) ?_
      refine lv_i2l (v := ((x6_10).toInt64)) hx hb dL_law__2267 rfl ?_
      refine W.lcmp hx hb dL_law__2268 ?_
      refine lv_if_eq (tgt := 2274) hx hb dL_law__2269 (by decide) (fun q15 => ?_) (fun q15 => ?_)
      · have hf := ifp hf q15
        refine lv_goto (tgt := 2743) hx hb dL_law__2274 (by decide) ?_
        exact kN _ (Option.some.inj hf).symm H locs ls _ _ (by omega) (by omega) hS (lv_sub hl [2, 3, 4, 5, 6] rfl)
      · have hf := ifn hf q15
        refine lv_iconst (v := 0) hx hb dL_law__2272 (by decide) ?_
        exact kR _ (Option.some.inj hf).symm _ H locs ls _ _ (by omega) (by omega) dL_law__2273 hS
  · have hf := ifn hf q12
    refine lv_iconst (v := 0) hx hb dL_law__2255 (by decide) ?_
    exact kR _ (Option.some.inj hf).symm _ H locs ls _ _ (by omega) (by omega) dL_law__2256 hS
set_option maxHeartbeats 4000000 in
set_option maxRecDepth 100000 in
theorem wLc_32 {p : Program} {l : Launch} {e : Env} {R : Room} {s : State} {m : MethodId} {args : Array Value} {below : List Frame} {meth : Method} {c : Code} {Q : State → Prop} {E : Ev} {b L : Nat} {xs : Nat → Int32} (hl0 : l.stackTraces = false) (X : Cx p s m args c cL_law_ RL E) (hX : Scr E s b L xs) (hml : c.maxLocals = 8) (hR : 400 ≤ R.frames ∧ 20000 ≤ R.locals) {x1 x2 x3 : Nat} {x4 : Int32} {mm : Mem} {y : Mem ⊕ Int32} {kc ks : Nat} (hkc : kc + 1 ≤ R.cells) (hks : ks + 6 ≤ R.slots) (hf : fLc_32 (eS E) L xs x1 x2 x3 x4 mm = some y) (kN : ∀ mm1, y = .inl mm1 → ∀ (H : Heap) (locs : List Loc) (ls : Array Slot) (cells slots : Nat), cells ≤ kc + 1 → slots ≤ ks + 6 → wS E s mm1 H locs → lv_has ls 8 [(0, .ref b), (1, .ref x1), (2, .ref x2), (3, .ref x3), (4, .int x4)] → W p l e R s m args below meth c H locs cells slots Q (F0 m 2743 ls [])) (kR : ∀ v, y = .inr v → ∀ (pc : Nat) (H : Heap) (locs : List Loc) (ls : Array Slot) (cells slots : Nat), cells ≤ kc + 1 → slots ≤ ks + 6 → decode cL_law_ pc = .ok (.ireturn, 1) → ∀ {mm1 : Mem}, wS E s mm1 H locs → W p l e R s m args below meth c H locs cells slots Q (F0 m pc ls [.int v])) : ∀ (H : Heap) (locs : List Loc) (ls : Array Slot) (cells slots : Nat), cells ≤ kc → slots ≤ ks → wS E s mm H locs → lv_has ls 8 [(0, .ref b), (1, .ref x1), (2, .ref x2), (3, .ref x3), (4, .int x4)] → W p l e R s m args below meth c H locs cells slots Q (F0 m 2277 ls []) := by
  intro H locs ls cells slots hcc hcs hS hl
  have hx := X.1
  have hb := X.2.1
  unfold fLc_32 at hf
  refine lv_aload_n hx hb dL_law__2277 rfl (lv_at hl 1 rfl) ?_
  refine lv_aload_n hx hb dL_law__2278 rfl (lv_at hl 0 rfl) ?_
  refine lv_iload hx hb dL_law__2279 (lv_at hl 4 rfl) ?_
  refine lv_iconst (v := 1) hx hb dL_law__2281 (by decide) ?_
  refine lv_iadd hx hb dL_law__2282 ?_
  obtain ⟨v1, h1, hf⟩ := bs hf
  refine am_scr X hX hS h1 dL_law__2283 ?_
  refine lv_aload_n hx hb dL_law__2284 rfl (lv_at hl 3 rfl) ?_
  obtain ⟨v2, m3, h1, hf⟩ := bs2 hf
  refine am_cH (As := [.ref x1, .int v1, .ref x3]) X (hml.trans hl.1.symm) hS (cL_mates_ok (l := l) (E := E) hl0 h1) mh_235 ⟨Nat.le_trans (by decide) hR.1, Nat.le_trans (by decide) hR.2⟩ ⟨by omega, by omega⟩ rfl rfl (Nat.le_of_ble_eq_true rfl) dL_law__2285 (fun H locs hS => ?_)
  refine lv_topi (fun x5_4 e1 => ?_)
  have hf := lt1_n e1 hf
  refine lv_istore (lv' := [(5, .int x5_4), (0, .ref b), (1, .ref x1), (2, .ref x2), (3, .ref x3), (4, .int x4)]) hx hb dL_law__2288 hl (by decide) rfl (fun ls hl => ?_)
  refine lv_aload_n hx hb dL_law__2290 rfl (lv_at hl 3 rfl) ?_
  refine lv_aload_n hx hb dL_law__2291 rfl (lv_at hl 1 rfl) ?_
  refine lv_iload hx hb dL_law__2292 (lv_at hl 5 rfl) ?_
  refine lv_iconst (v := 1) hx hb dL_law__2294 (by decide) ?_
  refine lv_iadd hx hb dL_law__2295 ?_
  obtain ⟨v5, h1, hf⟩ := bs hf
  refine am_scr X hX hS h1 dL_law__2296 ?_
  obtain ⟨u0, h0, hf⟩ := bs hf
  obtain ⟨_, hrc⟩ := isO_n h0
  obtain ⟨v6, m7, h1, hf⟩ := bs2 hf
  refine am_endi hS (am_runV (As := [.int v5]) X (hml.trans hl.1.symm) hS (cX12_mates_ok (l := l) (E := E) h1) mv_L_237 hrc rfl ⟨Nat.le_trans (by decide) hR.1, Nat.le_trans (by decide) hR.2⟩ ⟨by omega, by omega⟩ rfl rfl (Nat.le_of_ble_eq_true rfl) dL_law__2297) (fun H locs hS => ?_)
  refine lv_topi (fun x6_8 e1 => ?_)
  have hf := lt1_n e1 hf
  refine lv_istore (lv' := [(6, .int x6_8), (5, .int x5_4), (0, .ref b), (1, .ref x1), (2, .ref x2), (3, .ref x3), (4, .int x4)]) hx hb dL_law__2300 hl (by decide) rfl (fun ls hl => ?_)
  refine lv_aload_n hx hb dL_law__2302 rfl (lv_at hl 4 rfl) ?_
  obtain ⟨u0, h0, hf⟩ := bs hf
  obtain ⟨_, hrc⟩ := isO_n h0
  obtain ⟨v9, h1, hf⟩ := bs hf
  refine am_endi hS (am_runV (As := []) X (hml.trans hl.1.symm) hS (cX12_thrown_ok (l := l) (E := E) h1) mv_L_134 hrc rfl ⟨Nat.le_trans (by decide) hR.1, Nat.le_trans (by decide) hR.2⟩ ⟨by omega, by omega⟩ rfl rfl (Nat.le_of_ble_eq_true rfl) dL_law__2303) (fun H locs hS => ?_)
  refine lv_iload hx hb dL_law__2306 (lv_at hl 1 rfl) ?_
  refine lv_icmp_eq (tgt := 2313) hx hb dL_law__2308 (by decide) (fun q10 => ?_) (fun q10 => ?_)
  · have hf := ifp hf q10
    refine lv_iload hx hb dL_law__2313 (lv_at hl 1 rfl) ?_
    refine lv_if_ne (tgt := 2330) hx hb dL_law__2315 (by decide) (fun q11 => ?_) (fun q11 => ?_)
    · have hf := ifn hf q11
      refine lv_goto (tgt := 2743) hx hb dL_law__2330 (by decide) ?_
      exact kN _ (Option.some.inj hf).symm H locs ls _ _ (by omega) (by omega) hS (lv_sub hl [2, 3, 4, 5, 6] rfl)
    · have hf := ifp hf q11
      refine lv_aload_n hx hb dL_law__2318 rfl (lv_at hl 5 rfl) ?_
      refine lv_iconst (v := 0) hx hb dL_law__2319 (by decide) ?_
      obtain ⟨v12, h1, hf⟩ := bs hf
      refine am_lld X hS h1 dL_law__2320 ?_
      refine lv_iload hx hb dL_law__2321 (lv_at hl 0 rfl) ?_
      refine lv_i2l (v := ((x6_8).toInt64)) hx hb dL_law__2323 rfl ?_
      refine W.lcmp hx hb dL_law__2324 ?_
      refine lv_if_eq (tgt := 2330) hx hb dL_law__2325 (by decide) (fun q13 => ?_) (fun q13 => ?_)
      · have hf := ifp hf q13
        refine lv_goto (tgt := 2743) hx hb dL_law__2330 (by decide) ?_
        exact kN _ (Option.some.inj hf).symm H locs ls _ _ (by omega) (by omega) hS (lv_sub hl [2, 3, 4, 5, 6] rfl)
      · have hf := ifn hf q13
        refine lv_iconst (v := 0) hx hb dL_law__2328 (by decide) ?_
        exact kR _ (Option.some.inj hf).symm _ H locs ls _ _ (by omega) (by omega) dL_law__2329 hS
  · have hf := ifn hf q10
    refine lv_iconst (v := 0) hx hb dL_law__2311 (by decide) ?_
    exact kR _ (Option.some.inj hf).symm _ H locs ls _ _ (by omega) (by omega) dL_law__2312 hS
set_option maxHeartbeats 4000000 in
set_option maxRecDepth 100000 in
theorem wLc_33 {p : Program} {l : Launch} {e : Env} {R : Room} {s : State} {m : MethodId} {args : Array Value} {below : List Frame} {meth : Method} {c : Code} {Q : State → Prop} {E : Ev} {b L : Nat} {xs : Nat → Int32} (hl0 : l.stackTraces = false) (X : Cx p s m args c cL_law_ RL E) (hX : Scr E s b L xs) (hml : c.maxLocals = 8) (hR : 400 ≤ R.frames ∧ 20000 ≤ R.locals) {x1 x2 x3 : Nat} {x4 : Int32} {mm : Mem} {y : Mem ⊕ Int32} {kc ks : Nat} (hkc : kc + 1 ≤ R.cells) (hks : ks + 6 ≤ R.slots) (hf : fLc_33 (eS E) L xs x1 x2 x3 x4 mm = some y) (kN : ∀ mm1, y = .inl mm1 → ∀ (H : Heap) (locs : List Loc) (ls : Array Slot) (cells slots : Nat), cells ≤ kc + 1 → slots ≤ ks + 6 → wS E s mm1 H locs → lv_has ls 8 [(0, .ref b), (1, .ref x1), (2, .ref x2), (3, .ref x3), (4, .int x4)] → W p l e R s m args below meth c H locs cells slots Q (F0 m 2743 ls [])) (kR : ∀ v, y = .inr v → ∀ (pc : Nat) (H : Heap) (locs : List Loc) (ls : Array Slot) (cells slots : Nat), cells ≤ kc + 1 → slots ≤ ks + 6 → decode cL_law_ pc = .ok (.ireturn, 1) → ∀ {mm1 : Mem}, wS E s mm1 H locs → W p l e R s m args below meth c H locs cells slots Q (F0 m pc ls [.int v])) : ∀ (H : Heap) (locs : List Loc) (ls : Array Slot) (cells slots : Nat), cells ≤ kc → slots ≤ ks → wS E s mm H locs → lv_has ls 8 [(0, .ref b), (1, .ref x1), (2, .ref x2), (3, .ref x3), (4, .int x4)] → W p l e R s m args below meth c H locs cells slots Q (F0 m 2333 ls []) := by
  intro H locs ls cells slots hcc hcs hS hl
  have hx := X.1
  have hb := X.2.1
  unfold fLc_33 at hf
  refine lv_aload_n hx hb dL_law__2333 rfl (lv_at hl 1 rfl) ?_
  refine lv_aload_n hx hb dL_law__2334 rfl (lv_at hl 0 rfl) ?_
  refine lv_iload hx hb dL_law__2335 (lv_at hl 4 rfl) ?_
  refine lv_iconst (v := 1) hx hb dL_law__2337 (by decide) ?_
  refine lv_iadd hx hb dL_law__2338 ?_
  obtain ⟨v1, h1, hf⟩ := bs hf
  refine am_scr X hX hS h1 dL_law__2339 ?_
  refine lv_aload_n hx hb dL_law__2340 rfl (lv_at hl 3 rfl) ?_
  obtain ⟨v2, m3, h1, hf⟩ := bs2 hf
  refine am_cH (As := [.ref x1, .int v1, .ref x3]) X (hml.trans hl.1.symm) hS (cL_first_ok (l := l) (E := E) hl0 h1) mh_238 ⟨Nat.le_trans (by decide) hR.1, Nat.le_trans (by decide) hR.2⟩ ⟨by omega, by omega⟩ rfl rfl (Nat.le_of_ble_eq_true rfl) dL_law__2341 (fun H locs hS => ?_)
  refine lv_topi (fun x5_4 e1 => ?_)
  have hf := lt1_n e1 hf
  refine lv_istore (lv' := [(5, .int x5_4), (0, .ref b), (1, .ref x1), (2, .ref x2), (3, .ref x3), (4, .int x4)]) hx hb dL_law__2344 hl (by decide) rfl (fun ls hl => ?_)
  refine lv_aload_n hx hb dL_law__2346 rfl (lv_at hl 3 rfl) ?_
  refine lv_aload_n hx hb dL_law__2347 rfl (lv_at hl 1 rfl) ?_
  refine lv_iload hx hb dL_law__2348 (lv_at hl 5 rfl) ?_
  refine lv_iconst (v := 1) hx hb dL_law__2350 (by decide) ?_
  refine lv_iadd hx hb dL_law__2351 ?_
  obtain ⟨v5, h1, hf⟩ := bs hf
  refine am_scr X hX hS h1 dL_law__2352 ?_
  obtain ⟨u0, h0, hf⟩ := bs hf
  obtain ⟨_, hrc⟩ := isO_n h0
  obtain ⟨v6, m7, h1, hf⟩ := bs2 hf
  refine am_endi hS (am_runV (As := [.int v5]) X (hml.trans hl.1.symm) hS (cX12_first_ok (l := l) (E := E) h1) mv_L_240 hrc rfl ⟨Nat.le_trans (by decide) hR.1, Nat.le_trans (by decide) hR.2⟩ ⟨by omega, by omega⟩ rfl rfl (Nat.le_of_ble_eq_true rfl) dL_law__2353) (fun H locs hS => ?_)
  refine lv_topi (fun x6_8 e1 => ?_)
  have hf := lt1_n e1 hf
  refine lv_istore (lv' := [(6, .int x6_8), (5, .int x5_4), (0, .ref b), (1, .ref x1), (2, .ref x2), (3, .ref x3), (4, .int x4)]) hx hb dL_law__2356 hl (by decide) rfl (fun ls hl => ?_)
  refine lv_aload_n hx hb dL_law__2358 rfl (lv_at hl 4 rfl) ?_
  obtain ⟨u0, h0, hf⟩ := bs hf
  obtain ⟨_, hrc⟩ := isO_n h0
  obtain ⟨v9, h1, hf⟩ := bs hf
  refine am_endi hS (am_runV (As := []) X (hml.trans hl.1.symm) hS (cX12_thrown_ok (l := l) (E := E) h1) mv_L_134 hrc rfl ⟨Nat.le_trans (by decide) hR.1, Nat.le_trans (by decide) hR.2⟩ ⟨by omega, by omega⟩ rfl rfl (Nat.le_of_ble_eq_true rfl) dL_law__2359) (fun H locs hS => ?_)
  refine lv_iload hx hb dL_law__2362 (lv_at hl 1 rfl) ?_
  refine lv_icmp_eq (tgt := 2369) hx hb dL_law__2364 (by decide) (fun q10 => ?_) (fun q10 => ?_)
  · have hf := ifp hf q10
    refine lv_iload hx hb dL_law__2369 (lv_at hl 1 rfl) ?_
    refine lv_if_ne (tgt := 2386) hx hb dL_law__2371 (by decide) (fun q11 => ?_) (fun q11 => ?_)
    · have hf := ifn hf q11
      refine lv_goto (tgt := 2743) hx hb dL_law__2386 (by decide) ?_
      exact kN _ (Option.some.inj hf).symm H locs ls _ _ (by omega) (by omega) hS (lv_sub hl [2, 3, 4, 5, 6] rfl)
    · have hf := ifp hf q11
      refine lv_aload_n hx hb dL_law__2374 rfl (lv_at hl 5 rfl) ?_
      refine lv_iconst (v := 0) hx hb dL_law__2375 (by decide) ?_
      obtain ⟨v12, h1, hf⟩ := bs hf
      refine am_lld X hS h1 dL_law__2376 ?_
      refine lv_iload hx hb dL_law__2377 (lv_at hl 0 rfl) ?_
      refine lv_i2l (v := ((x6_8).toInt64)) hx hb dL_law__2379 rfl ?_
      refine W.lcmp hx hb dL_law__2380 ?_
      refine lv_if_eq (tgt := 2386) hx hb dL_law__2381 (by decide) (fun q13 => ?_) (fun q13 => ?_)
      · have hf := ifp hf q13
        refine lv_goto (tgt := 2743) hx hb dL_law__2386 (by decide) ?_
        exact kN _ (Option.some.inj hf).symm H locs ls _ _ (by omega) (by omega) hS (lv_sub hl [2, 3, 4, 5, 6] rfl)
      · have hf := ifn hf q13
        refine lv_iconst (v := 0) hx hb dL_law__2384 (by decide) ?_
        exact kR _ (Option.some.inj hf).symm _ H locs ls _ _ (by omega) (by omega) dL_law__2385 hS
  · have hf := ifn hf q10
    refine lv_iconst (v := 0) hx hb dL_law__2367 (by decide) ?_
    exact kR _ (Option.some.inj hf).symm _ H locs ls _ _ (by omega) (by omega) dL_law__2368 hS
set_option maxHeartbeats 4000000 in
set_option maxRecDepth 100000 in
theorem wLc_34 {p : Program} {l : Launch} {e : Env} {R : Room} {s : State} {m : MethodId} {args : Array Value} {below : List Frame} {meth : Method} {c : Code} {Q : State → Prop} {E : Ev} {b L : Nat} {xs : Nat → Int32} (hl0 : l.stackTraces = false) (X : Cx p s m args c cL_law_ RL E) (hX : Scr E s b L xs) (hml : c.maxLocals = 8) (hR : 400 ≤ R.frames ∧ 20000 ≤ R.locals) {x1 x2 x3 : Nat} {x4 : Int32} {mm : Mem} {y : Mem ⊕ Int32} {kc ks : Nat} (hkc : kc + 1 ≤ R.cells) (hks : ks + 6 ≤ R.slots) (hf : fLc_34 (eS E) L xs x1 x2 x3 x4 mm = some y) (kN : ∀ mm1, y = .inl mm1 → ∀ (H : Heap) (locs : List Loc) (ls : Array Slot) (cells slots : Nat), cells ≤ kc + 1 → slots ≤ ks + 6 → wS E s mm1 H locs → lv_has ls 8 [(0, .ref b), (1, .ref x1), (2, .ref x2), (3, .ref x3), (4, .int x4)] → W p l e R s m args below meth c H locs cells slots Q (F0 m 2743 ls [])) (kR : ∀ v, y = .inr v → ∀ (pc : Nat) (H : Heap) (locs : List Loc) (ls : Array Slot) (cells slots : Nat), cells ≤ kc + 1 → slots ≤ ks + 6 → decode cL_law_ pc = .ok (.ireturn, 1) → ∀ {mm1 : Mem}, wS E s mm1 H locs → W p l e R s m args below meth c H locs cells slots Q (F0 m pc ls [.int v])) : ∀ (H : Heap) (locs : List Loc) (ls : Array Slot) (cells slots : Nat), cells ≤ kc → slots ≤ ks → wS E s mm H locs → lv_has ls 8 [(0, .ref b), (1, .ref x1), (2, .ref x2), (3, .ref x3), (4, .int x4)] → W p l e R s m args below meth c H locs cells slots Q (F0 m 2389 ls []) := by
  intro H locs ls cells slots hcc hcs hS hl
  have hx := X.1
  have hb := X.2.1
  unfold fLc_34 at hf
  refine lv_aload_n hx hb dL_law__2389 rfl (lv_at hl 1 rfl) ?_
  refine lv_aload_n hx hb dL_law__2390 rfl (lv_at hl 0 rfl) ?_
  refine lv_iload hx hb dL_law__2391 (lv_at hl 4 rfl) ?_
  refine lv_iconst (v := 1) hx hb dL_law__2393 (by decide) ?_
  refine lv_iadd hx hb dL_law__2394 ?_
  obtain ⟨v1, h1, hf⟩ := bs hf
  refine am_scr X hX hS h1 dL_law__2395 ?_
  refine lv_aload_n hx hb dL_law__2396 rfl (lv_at hl 0 rfl) ?_
  refine lv_iload hx hb dL_law__2397 (lv_at hl 4 rfl) ?_
  refine lv_iconst (v := 2) hx hb dL_law__2399 (by decide) ?_
  refine lv_iadd hx hb dL_law__2400 ?_
  obtain ⟨v2, h1, hf⟩ := bs hf
  refine am_scr X hX hS h1 dL_law__2401 ?_
  refine lv_aload_n hx hb dL_law__2402 rfl (lv_at hl 3 rfl) ?_
  obtain ⟨v3, m4, h1, hf⟩ := bs2 hf
  refine am_cH (As := [.ref x1, .int v1, .int v2, .ref x3]) X (hml.trans hl.1.symm) hS (cL_halo_ok (l := l) (E := E) hl0 h1) mh_241 ⟨Nat.le_trans (by decide) hR.1, Nat.le_trans (by decide) hR.2⟩ ⟨by omega, by omega⟩ rfl rfl (Nat.le_of_ble_eq_true rfl) dL_law__2403 (fun H locs hS => ?_)
  refine lv_topi (fun x5_5 e1 => ?_)
  have hf := lt1_n e1 hf
  refine lv_istore (lv' := [(5, .int x5_5), (0, .ref b), (1, .ref x1), (2, .ref x2), (3, .ref x3), (4, .int x4)]) hx hb dL_law__2406 hl (by decide) rfl (fun ls hl => ?_)
  refine lv_aload_n hx hb dL_law__2408 rfl (lv_at hl 3 rfl) ?_
  refine lv_aload_n hx hb dL_law__2409 rfl (lv_at hl 1 rfl) ?_
  refine lv_iload hx hb dL_law__2410 (lv_at hl 5 rfl) ?_
  refine lv_iconst (v := 1) hx hb dL_law__2412 (by decide) ?_
  refine lv_iadd hx hb dL_law__2413 ?_
  obtain ⟨v6, h1, hf⟩ := bs hf
  refine am_scr X hX hS h1 dL_law__2414 ?_
  refine lv_aload_n hx hb dL_law__2415 rfl (lv_at hl 1 rfl) ?_
  refine lv_iload hx hb dL_law__2416 (lv_at hl 5 rfl) ?_
  refine lv_iconst (v := 2) hx hb dL_law__2418 (by decide) ?_
  refine lv_iadd hx hb dL_law__2419 ?_
  obtain ⟨v7, h1, hf⟩ := bs hf
  refine am_scr X hX hS h1 dL_law__2420 ?_
  obtain ⟨u0, h0, hf⟩ := bs hf
  obtain ⟨_, hrc⟩ := isO_n h0
  obtain ⟨v8, m9, h1, hf⟩ := bs2 hf
  refine am_endi hS (am_runV (As := [.int v6, .int v7]) X (hml.trans hl.1.symm) hS (cX12_halo_ok (l := l) (E := E) h1) mv_L_243 hrc rfl ⟨Nat.le_trans (by decide) hR.1, Nat.le_trans (by decide) hR.2⟩ ⟨by omega, by omega⟩ rfl rfl (Nat.le_of_ble_eq_true rfl) dL_law__2421) (fun H locs hS => ?_)
  refine lv_topi (fun x6_10 e1 => ?_)
  have hf := lt1_n e1 hf
  refine lv_istore (lv' := [(6, .int x6_10), (5, .int x5_5), (0, .ref b), (1, .ref x1), (2, .ref x2), (3, .ref x3), (4, .int x4)]) hx hb dL_law__2424 hl (by decide) rfl (fun ls hl => ?_)
  refine lv_aload_n hx hb dL_law__2426 rfl (lv_at hl 4 rfl) ?_
  obtain ⟨u0, h0, hf⟩ := bs hf
  obtain ⟨_, hrc⟩ := isO_n h0
  obtain ⟨v11, h1, hf⟩ := bs hf
  refine am_endi hS (am_runV (As := []) X (hml.trans hl.1.symm) hS (cX12_thrown_ok (l := l) (E := E) h1) mv_L_134 hrc rfl ⟨Nat.le_trans (by decide) hR.1, Nat.le_trans (by decide) hR.2⟩ ⟨by omega, by omega⟩ rfl rfl (Nat.le_of_ble_eq_true rfl) dL_law__2427) (fun H locs hS => ?_)
  refine lv_iload hx hb dL_law__2430 (lv_at hl 1 rfl) ?_
  refine lv_icmp_eq (tgt := 2437) hx hb dL_law__2432 (by decide) (fun q12 => ?_) (fun q12 => ?_)
  · have hf := ifp hf q12
    refine lv_iload hx hb dL_law__2437 (lv_at hl 1 rfl) ?_
    refine lv_if_ne (tgt := 2454) hx hb dL_law__2439 (by decide) (fun q13 => ?_) (fun q13 => ?_)
    · have hf := ifn hf q13
      refine lv_goto (tgt := 2743) hx hb dL_law__2454 (by decide) ?_
      exact kN _ (Option.some.inj hf).symm H locs ls _ _ (by omega) (by omega) hS (lv_sub hl [2, 3, 4, 5, 6] rfl)
    · have hf := ifp hf q13
      refine lv_aload_n hx hb dL_law__2442 rfl (lv_at hl 5 rfl) ?_
      refine lv_iconst (v := 0) hx hb dL_law__2443 (by decide) ?_
      obtain ⟨v14, h1, hf⟩ := bs hf
      refine am_lld X hS h1 dL_law__2444 ?_
      refine lv_iload hx hb dL_law__2445 (lv_at hl 0 rfl) ?_
      refine lv_i2l (v := ((x6_10).toInt64)) hx hb dL_law__2447 rfl ?_
      refine W.lcmp hx hb dL_law__2448 ?_
      refine lv_if_eq (tgt := 2454) hx hb dL_law__2449 (by decide) (fun q15 => ?_) (fun q15 => ?_)
      · have hf := ifp hf q15
        refine lv_goto (tgt := 2743) hx hb dL_law__2454 (by decide) ?_
        exact kN _ (Option.some.inj hf).symm H locs ls _ _ (by omega) (by omega) hS (lv_sub hl [2, 3, 4, 5, 6] rfl)
      · have hf := ifn hf q15
        refine lv_iconst (v := 0) hx hb dL_law__2452 (by decide) ?_
        exact kR _ (Option.some.inj hf).symm _ H locs ls _ _ (by omega) (by omega) dL_law__2453 hS
  · have hf := ifn hf q12
    refine lv_iconst (v := 0) hx hb dL_law__2435 (by decide) ?_
    exact kR _ (Option.some.inj hf).symm _ H locs ls _ _ (by omega) (by omega) dL_law__2436 hS
set_option maxHeartbeats 4000000 in
set_option maxRecDepth 100000 in
theorem wLc_35 {p : Program} {l : Launch} {e : Env} {R : Room} {s : State} {m : MethodId} {args : Array Value} {below : List Frame} {meth : Method} {c : Code} {Q : State → Prop} {E : Ev} {b L : Nat} {xs : Nat → Int32} (hl0 : l.stackTraces = false) (X : Cx p s m args c cL_law_ RL E) (hX : Scr E s b L xs) (hml : c.maxLocals = 8) (hR : 400 ≤ R.frames ∧ 20000 ≤ R.locals) {x1 x2 x3 : Nat} {x4 : Int32} {mm : Mem} {y : Mem ⊕ Int32} {kc ks : Nat} (hkc : kc + 1 ≤ R.cells) (hks : ks + 6 ≤ R.slots) (hf : fLc_35 (eS E) L xs x1 x2 x3 x4 mm = some y) (kN : ∀ mm1, y = .inl mm1 → ∀ (H : Heap) (locs : List Loc) (ls : Array Slot) (cells slots : Nat), cells ≤ kc + 1 → slots ≤ ks + 6 → wS E s mm1 H locs → lv_has ls 8 [(0, .ref b), (1, .ref x1), (2, .ref x2), (3, .ref x3), (4, .int x4)] → W p l e R s m args below meth c H locs cells slots Q (F0 m 2743 ls [])) (kR : ∀ v, y = .inr v → ∀ (pc : Nat) (H : Heap) (locs : List Loc) (ls : Array Slot) (cells slots : Nat), cells ≤ kc + 1 → slots ≤ ks + 6 → decode cL_law_ pc = .ok (.ireturn, 1) → ∀ {mm1 : Mem}, wS E s mm1 H locs → W p l e R s m args below meth c H locs cells slots Q (F0 m pc ls [.int v])) : ∀ (H : Heap) (locs : List Loc) (ls : Array Slot) (cells slots : Nat), cells ≤ kc → slots ≤ ks → wS E s mm H locs → lv_has ls 8 [(0, .ref b), (1, .ref x1), (2, .ref x2), (3, .ref x3), (4, .int x4)] → W p l e R s m args below meth c H locs cells slots Q (F0 m 2457 ls []) := by
  intro H locs ls cells slots hcc hcs hS hl
  have hx := X.1
  have hb := X.2.1
  unfold fLc_35 at hf
  refine lv_aload_n hx hb dL_law__2457 rfl (lv_at hl 1 rfl) ?_
  refine lv_aload_n hx hb dL_law__2458 rfl (lv_at hl 0 rfl) ?_
  refine lv_iload hx hb dL_law__2459 (lv_at hl 4 rfl) ?_
  refine lv_iconst (v := 1) hx hb dL_law__2461 (by decide) ?_
  refine lv_iadd hx hb dL_law__2462 ?_
  obtain ⟨v1, h1, hf⟩ := bs hf
  refine am_scr X hX hS h1 dL_law__2463 ?_
  refine lv_aload_n hx hb dL_law__2464 rfl (lv_at hl 0 rfl) ?_
  refine lv_iload hx hb dL_law__2465 (lv_at hl 4 rfl) ?_
  refine lv_iconst (v := 2) hx hb dL_law__2467 (by decide) ?_
  refine lv_iadd hx hb dL_law__2468 ?_
  obtain ⟨v2, h1, hf⟩ := bs hf
  refine am_scr X hX hS h1 dL_law__2469 ?_
  refine lv_aload_n hx hb dL_law__2470 rfl (lv_at hl 0 rfl) ?_
  refine lv_iload hx hb dL_law__2471 (lv_at hl 4 rfl) ?_
  refine lv_iconst (v := 3) hx hb dL_law__2473 (by decide) ?_
  refine lv_iadd hx hb dL_law__2474 ?_
  obtain ⟨v3, h1, hf⟩ := bs hf
  refine am_scr X hX hS h1 dL_law__2475 ?_
  refine lv_aload_n hx hb dL_law__2476 rfl (lv_at hl 0 rfl) ?_
  refine lv_iload hx hb dL_law__2477 (lv_at hl 4 rfl) ?_
  refine lv_iconst (v := 4) hx hb dL_law__2479 (by decide) ?_
  refine lv_iadd hx hb dL_law__2480 ?_
  obtain ⟨v4, h1, hf⟩ := bs hf
  refine am_scr X hX hS h1 dL_law__2481 ?_
  refine lv_aload_n hx hb dL_law__2482 rfl (lv_at hl 3 rfl) ?_
  obtain ⟨v5, m6, h1, hf⟩ := bs2 hf
  refine am_cH (As := [.ref x1, .int v1, .int v2, .int v3, .int v4, .ref x3]) X (hml.trans hl.1.symm) hS (cL_term_ok (l := l) (E := E) hl0 h1) mh_244 ⟨Nat.le_trans (by decide) hR.1, Nat.le_trans (by decide) hR.2⟩ ⟨by omega, by omega⟩ rfl rfl (Nat.le_of_ble_eq_true rfl) dL_law__2483 (fun H locs hS => ?_)
  refine lv_topi (fun x5_7 e1 => ?_)
  have hf := lt1_n e1 hf
  refine lv_istore (lv' := [(5, .int x5_7), (0, .ref b), (1, .ref x1), (2, .ref x2), (3, .ref x3), (4, .int x4)]) hx hb dL_law__2486 hl (by decide) rfl (fun ls hl => ?_)
  refine lv_aload_n hx hb dL_law__2488 rfl (lv_at hl 3 rfl) ?_
  refine lv_aload_n hx hb dL_law__2489 rfl (lv_at hl 1 rfl) ?_
  refine lv_iload hx hb dL_law__2490 (lv_at hl 5 rfl) ?_
  refine lv_iconst (v := 1) hx hb dL_law__2492 (by decide) ?_
  refine lv_iadd hx hb dL_law__2493 ?_
  obtain ⟨v8, h1, hf⟩ := bs hf
  refine am_scr X hX hS h1 dL_law__2494 ?_
  refine lv_aload_n hx hb dL_law__2495 rfl (lv_at hl 1 rfl) ?_
  refine lv_iload hx hb dL_law__2496 (lv_at hl 5 rfl) ?_
  refine lv_iconst (v := 2) hx hb dL_law__2498 (by decide) ?_
  refine lv_iadd hx hb dL_law__2499 ?_
  obtain ⟨v9, h1, hf⟩ := bs hf
  refine am_scr X hX hS h1 dL_law__2500 ?_
  refine lv_aload_n hx hb dL_law__2501 rfl (lv_at hl 1 rfl) ?_
  refine lv_iload hx hb dL_law__2502 (lv_at hl 5 rfl) ?_
  refine lv_iconst (v := 3) hx hb dL_law__2504 (by decide) ?_
  refine lv_iadd hx hb dL_law__2505 ?_
  obtain ⟨v10, h1, hf⟩ := bs hf
  refine am_scr X hX hS h1 dL_law__2506 ?_
  refine lv_aload_n hx hb dL_law__2507 rfl (lv_at hl 1 rfl) ?_
  refine lv_iload hx hb dL_law__2508 (lv_at hl 5 rfl) ?_
  refine lv_iconst (v := 4) hx hb dL_law__2510 (by decide) ?_
  refine lv_iadd hx hb dL_law__2511 ?_
  obtain ⟨v11, h1, hf⟩ := bs hf
  refine am_scr X hX hS h1 dL_law__2512 ?_
  obtain ⟨u0, h0, hf⟩ := bs hf
  obtain ⟨_, hrc⟩ := isO_n h0
  obtain ⟨v12, m13, h1, hf⟩ := bs2 hf
  refine am_endi hS (am_runV (As := [.int v8, .int v9, .int v10, .int v11]) X (hml.trans hl.1.symm) hS (cX12_term_ok (l := l) (E := E) h1) mv_L_246 hrc rfl ⟨Nat.le_trans (by decide) hR.1, Nat.le_trans (by decide) hR.2⟩ ⟨by omega, by omega⟩ rfl rfl (Nat.le_of_ble_eq_true rfl) dL_law__2513) (fun H locs hS => ?_)
  refine lv_topi (fun x6_14 e1 => ?_)
  have hf := lt1_n e1 hf
  refine lv_istore (lv' := [(6, .int x6_14), (5, .int x5_7), (0, .ref b), (1, .ref x1), (2, .ref x2), (3, .ref x3), (4, .int x4)]) hx hb dL_law__2516 hl (by decide) rfl (fun ls hl => ?_)
  refine lv_aload_n hx hb dL_law__2518 rfl (lv_at hl 4 rfl) ?_
  obtain ⟨u0, h0, hf⟩ := bs hf
  obtain ⟨_, hrc⟩ := isO_n h0
  obtain ⟨v15, h1, hf⟩ := bs hf
  refine am_endi hS (am_runV (As := []) X (hml.trans hl.1.symm) hS (cX12_thrown_ok (l := l) (E := E) h1) mv_L_134 hrc rfl ⟨Nat.le_trans (by decide) hR.1, Nat.le_trans (by decide) hR.2⟩ ⟨by omega, by omega⟩ rfl rfl (Nat.le_of_ble_eq_true rfl) dL_law__2519) (fun H locs hS => ?_)
  refine lv_iload hx hb dL_law__2522 (lv_at hl 1 rfl) ?_
  refine lv_icmp_eq (tgt := 2529) hx hb dL_law__2524 (by decide) (fun q16 => ?_) (fun q16 => ?_)
  · have hf := ifp hf q16
    refine lv_iload hx hb dL_law__2529 (lv_at hl 1 rfl) ?_
    refine lv_if_ne (tgt := 2546) hx hb dL_law__2531 (by decide) (fun q17 => ?_) (fun q17 => ?_)
    · have hf := ifn hf q17
      refine lv_goto (tgt := 2743) hx hb dL_law__2546 (by decide) ?_
      exact kN _ (Option.some.inj hf).symm H locs ls _ _ (by omega) (by omega) hS (lv_sub hl [2, 3, 4, 5, 6] rfl)
    · have hf := ifp hf q17
      refine lv_aload_n hx hb dL_law__2534 rfl (lv_at hl 5 rfl) ?_
      refine lv_iconst (v := 0) hx hb dL_law__2535 (by decide) ?_
      obtain ⟨v18, h1, hf⟩ := bs hf
      refine am_lld X hS h1 dL_law__2536 ?_
      refine lv_iload hx hb dL_law__2537 (lv_at hl 0 rfl) ?_
      refine lv_i2l (v := ((x6_14).toInt64)) hx hb dL_law__2539 rfl ?_
      refine W.lcmp hx hb dL_law__2540 ?_
      refine lv_if_eq (tgt := 2546) hx hb dL_law__2541 (by decide) (fun q19 => ?_) (fun q19 => ?_)
      · have hf := ifp hf q19
        refine lv_goto (tgt := 2743) hx hb dL_law__2546 (by decide) ?_
        exact kN _ (Option.some.inj hf).symm H locs ls _ _ (by omega) (by omega) hS (lv_sub hl [2, 3, 4, 5, 6] rfl)
      · have hf := ifn hf q19
        refine lv_iconst (v := 0) hx hb dL_law__2544 (by decide) ?_
        exact kR _ (Option.some.inj hf).symm _ H locs ls _ _ (by omega) (by omega) dL_law__2545 hS
  · have hf := ifn hf q16
    refine lv_iconst (v := 0) hx hb dL_law__2527 (by decide) ?_
    exact kR _ (Option.some.inj hf).symm _ H locs ls _ _ (by omega) (by omega) dL_law__2528 hS
set_option maxHeartbeats 4000000 in
set_option maxRecDepth 100000 in
theorem wLc_36 {p : Program} {l : Launch} {e : Env} {R : Room} {s : State} {m : MethodId} {args : Array Value} {below : List Frame} {meth : Method} {c : Code} {Q : State → Prop} {E : Ev} {b L : Nat} {xs : Nat → Int32} (hl0 : l.stackTraces = false) (X : Cx p s m args c cL_law_ RL E) (hX : Scr E s b L xs) (hml : c.maxLocals = 8) (hR : 400 ≤ R.frames ∧ 20000 ≤ R.locals) {x1 x2 x3 : Nat} {x4 : Int32} {mm : Mem} {y : Mem ⊕ Int32} {kc ks : Nat} (hkc : kc + 1 ≤ R.cells) (hks : ks + 6 ≤ R.slots) (hf : fLc_36 (eS E) L xs x1 x2 x3 x4 mm = some y) (kN : ∀ mm1, y = .inl mm1 → ∀ (H : Heap) (locs : List Loc) (ls : Array Slot) (cells slots : Nat), cells ≤ kc + 1 → slots ≤ ks + 6 → wS E s mm1 H locs → lv_has ls 8 [(0, .ref b), (1, .ref x1), (2, .ref x2), (3, .ref x3), (4, .int x4)] → W p l e R s m args below meth c H locs cells slots Q (F0 m 2743 ls [])) (kR : ∀ v, y = .inr v → ∀ (pc : Nat) (H : Heap) (locs : List Loc) (ls : Array Slot) (cells slots : Nat), cells ≤ kc + 1 → slots ≤ ks + 6 → decode cL_law_ pc = .ok (.ireturn, 1) → ∀ {mm1 : Mem}, wS E s mm1 H locs → W p l e R s m args below meth c H locs cells slots Q (F0 m pc ls [.int v])) : ∀ (H : Heap) (locs : List Loc) (ls : Array Slot) (cells slots : Nat), cells ≤ kc → slots ≤ ks → wS E s mm H locs → lv_has ls 8 [(0, .ref b), (1, .ref x1), (2, .ref x2), (3, .ref x3), (4, .int x4)] → W p l e R s m args below meth c H locs cells slots Q (F0 m 2549 ls []) := by
  intro H locs ls cells slots hcc hcs hS hl
  have hx := X.1
  have hb := X.2.1
  unfold fLc_36 at hf
  refine lv_aload_n hx hb dL_law__2549 rfl (lv_at hl 1 rfl) ?_
  refine lv_aload_n hx hb dL_law__2550 rfl (lv_at hl 0 rfl) ?_
  refine lv_iload hx hb dL_law__2551 (lv_at hl 4 rfl) ?_
  refine lv_iconst (v := 1) hx hb dL_law__2553 (by decide) ?_
  refine lv_iadd hx hb dL_law__2554 ?_
  obtain ⟨v1, h1, hf⟩ := bs hf
  refine am_scr X hX hS h1 dL_law__2555 ?_
  refine lv_aload_n hx hb dL_law__2556 rfl (lv_at hl 0 rfl) ?_
  refine lv_iload hx hb dL_law__2557 (lv_at hl 4 rfl) ?_
  refine lv_iconst (v := 2) hx hb dL_law__2559 (by decide) ?_
  refine lv_iadd hx hb dL_law__2560 ?_
  obtain ⟨v2, h1, hf⟩ := bs hf
  refine am_scr X hX hS h1 dL_law__2561 ?_
  refine lv_aload_n hx hb dL_law__2562 rfl (lv_at hl 0 rfl) ?_
  refine lv_iload hx hb dL_law__2563 (lv_at hl 4 rfl) ?_
  refine lv_iconst (v := 3) hx hb dL_law__2565 (by decide) ?_
  refine lv_iadd hx hb dL_law__2566 ?_
  obtain ⟨v3, h1, hf⟩ := bs hf
  refine am_scr X hX hS h1 dL_law__2567 ?_
  refine lv_aload_n hx hb dL_law__2568 rfl (lv_at hl 0 rfl) ?_
  refine lv_iload hx hb dL_law__2569 (lv_at hl 4 rfl) ?_
  refine lv_iconst (v := 4) hx hb dL_law__2571 (by decide) ?_
  refine lv_iadd hx hb dL_law__2572 ?_
  obtain ⟨v4, h1, hf⟩ := bs hf
  refine am_scr X hX hS h1 dL_law__2573 ?_
  refine lv_aload_n hx hb dL_law__2574 rfl (lv_at hl 0 rfl) ?_
  refine lv_iload hx hb dL_law__2575 (lv_at hl 4 rfl) ?_
  refine lv_iconst (v := 5) hx hb dL_law__2577 (by decide) ?_
  refine lv_iadd hx hb dL_law__2578 ?_
  obtain ⟨v5, h1, hf⟩ := bs hf
  refine am_scr X hX hS h1 dL_law__2579 ?_
  refine lv_aload_n hx hb dL_law__2580 rfl (lv_at hl 0 rfl) ?_
  refine lv_iload hx hb dL_law__2581 (lv_at hl 4 rfl) ?_
  refine lv_bipush (v := 6) hx hb dL_law__2583 (by decide) ?_
  refine lv_iadd hx hb dL_law__2585 ?_
  obtain ⟨v6, h1, hf⟩ := bs hf
  refine am_scr X hX hS h1 dL_law__2586 ?_
  refine lv_aload_n hx hb dL_law__2587 rfl (lv_at hl 3 rfl) ?_
  obtain ⟨v7, m8, h1, hf⟩ := bs2 hf
  refine am_cH (As := [.ref x1, .int v1, .int v2, .int v3, .int v4, .int v5, .int v6, .ref x3]) X (hml.trans hl.1.symm) hS (cL_span_ok (l := l) (E := E) hl0 h1) mh_247 ⟨Nat.le_trans (by decide) hR.1, Nat.le_trans (by decide) hR.2⟩ ⟨by omega, by omega⟩ rfl rfl (Nat.le_of_ble_eq_true rfl) dL_law__2588 (fun H locs hS => ?_)
  refine lv_topi (fun x5_9 e1 => ?_)
  have hf := lt1_n e1 hf
  refine lv_istore (lv' := [(5, .int x5_9), (0, .ref b), (1, .ref x1), (2, .ref x2), (3, .ref x3), (4, .int x4)]) hx hb dL_law__2591 hl (by decide) rfl (fun ls hl => ?_)
  refine lv_aload_n hx hb dL_law__2593 rfl (lv_at hl 3 rfl) ?_
  refine lv_aload_n hx hb dL_law__2594 rfl (lv_at hl 1 rfl) ?_
  refine lv_iload hx hb dL_law__2595 (lv_at hl 5 rfl) ?_
  refine lv_iconst (v := 1) hx hb dL_law__2597 (by decide) ?_
  refine lv_iadd hx hb dL_law__2598 ?_
  obtain ⟨v10, h1, hf⟩ := bs hf
  refine am_scr X hX hS h1 dL_law__2599 ?_
  refine lv_aload_n hx hb dL_law__2600 rfl (lv_at hl 1 rfl) ?_
  refine lv_iload hx hb dL_law__2601 (lv_at hl 5 rfl) ?_
  refine lv_iconst (v := 2) hx hb dL_law__2603 (by decide) ?_
  refine lv_iadd hx hb dL_law__2604 ?_
  obtain ⟨v11, h1, hf⟩ := bs hf
  refine am_scr X hX hS h1 dL_law__2605 ?_
  refine lv_aload_n hx hb dL_law__2606 rfl (lv_at hl 1 rfl) ?_
  refine lv_iload hx hb dL_law__2607 (lv_at hl 5 rfl) ?_
  refine lv_iconst (v := 3) hx hb dL_law__2609 (by decide) ?_
  refine lv_iadd hx hb dL_law__2610 ?_
  obtain ⟨v12, h1, hf⟩ := bs hf
  refine am_scr X hX hS h1 dL_law__2611 ?_
  refine lv_aload_n hx hb dL_law__2612 rfl (lv_at hl 1 rfl) ?_
  refine lv_iload hx hb dL_law__2613 (lv_at hl 5 rfl) ?_
  refine lv_iconst (v := 4) hx hb dL_law__2615 (by decide) ?_
  refine lv_iadd hx hb dL_law__2616 ?_
  obtain ⟨v13, h1, hf⟩ := bs hf
  refine am_scr X hX hS h1 dL_law__2617 ?_
  refine lv_aload_n hx hb dL_law__2618 rfl (lv_at hl 1 rfl) ?_
  refine lv_iload hx hb dL_law__2619 (lv_at hl 5 rfl) ?_
  refine lv_iconst (v := 5) hx hb dL_law__2621 (by decide) ?_
  refine lv_iadd hx hb dL_law__2622 ?_
  obtain ⟨v14, h1, hf⟩ := bs hf
  refine am_scr X hX hS h1 dL_law__2623 ?_
  refine lv_aload_n hx hb dL_law__2624 rfl (lv_at hl 1 rfl) ?_
  refine lv_iload hx hb dL_law__2625 (lv_at hl 5 rfl) ?_
  refine lv_bipush (v := 6) hx hb dL_law__2627 (by decide) ?_
  refine lv_iadd hx hb dL_law__2629 ?_
  obtain ⟨v15, h1, hf⟩ := bs hf
  refine am_scr X hX hS h1 dL_law__2630 ?_
  obtain ⟨u0, h0, hf⟩ := bs hf
  obtain ⟨_, hrc⟩ := isO_n h0
  obtain ⟨v16, m17, h1, hf⟩ := bs2 hf
  refine am_endi hS (am_runV (As := [.int v10, .int v11, .int v12, .int v13, .int v14, .int v15]) X (hml.trans hl.1.symm) hS (cX12_span_ok (l := l) (E := E) h1) mv_L_250 hrc rfl ⟨Nat.le_trans (by decide) hR.1, Nat.le_trans (by decide) hR.2⟩ ⟨by omega, by omega⟩ rfl rfl (Nat.le_of_ble_eq_true rfl) dL_law__2631) (fun H locs hS => ?_)
  refine lv_topi (fun x6_18 e1 => ?_)
  have hf := lt1_n e1 hf
  refine lv_istore (lv' := [(6, .int x6_18), (5, .int x5_9), (0, .ref b), (1, .ref x1), (2, .ref x2), (3, .ref x3), (4, .int x4)]) hx hb dL_law__2634 hl (by decide) rfl (fun ls hl => ?_)
  refine lv_aload_n hx hb dL_law__2636 rfl (lv_at hl 4 rfl) ?_
  obtain ⟨u0, h0, hf⟩ := bs hf
  obtain ⟨_, hrc⟩ := isO_n h0
  obtain ⟨v19, h1, hf⟩ := bs hf
  refine am_endi hS (am_runV (As := []) X (hml.trans hl.1.symm) hS (cX12_thrown_ok (l := l) (E := E) h1) mv_L_134 hrc rfl ⟨Nat.le_trans (by decide) hR.1, Nat.le_trans (by decide) hR.2⟩ ⟨by omega, by omega⟩ rfl rfl (Nat.le_of_ble_eq_true rfl) dL_law__2637) (fun H locs hS => ?_)
  refine lv_iload hx hb dL_law__2640 (lv_at hl 1 rfl) ?_
  refine lv_icmp_eq (tgt := 2647) hx hb dL_law__2642 (by decide) (fun q20 => ?_) (fun q20 => ?_)
  · have hf := ifp hf q20
    refine lv_iload hx hb dL_law__2647 (lv_at hl 1 rfl) ?_
    refine lv_if_ne (tgt := 2664) hx hb dL_law__2649 (by decide) (fun q21 => ?_) (fun q21 => ?_)
    · have hf := ifn hf q21
      refine lv_goto (tgt := 2743) hx hb dL_law__2664 (by decide) ?_
      exact kN _ (Option.some.inj hf).symm H locs ls _ _ (by omega) (by omega) hS (lv_sub hl [2, 3, 4, 5, 6] rfl)
    · have hf := ifp hf q21
      refine lv_aload_n hx hb dL_law__2652 rfl (lv_at hl 5 rfl) ?_
      refine lv_iconst (v := 0) hx hb dL_law__2653 (by decide) ?_
      obtain ⟨v22, h1, hf⟩ := bs hf
      refine am_lld X hS h1 dL_law__2654 ?_
      refine lv_iload hx hb dL_law__2655 (lv_at hl 0 rfl) ?_
      refine lv_i2l (v := ((x6_18).toInt64)) hx hb dL_law__2657 rfl ?_
      refine W.lcmp hx hb dL_law__2658 ?_
      refine lv_if_eq (tgt := 2664) hx hb dL_law__2659 (by decide) (fun q23 => ?_) (fun q23 => ?_)
      · have hf := ifp hf q23
        refine lv_goto (tgt := 2743) hx hb dL_law__2664 (by decide) ?_
        exact kN _ (Option.some.inj hf).symm H locs ls _ _ (by omega) (by omega) hS (lv_sub hl [2, 3, 4, 5, 6] rfl)
      · have hf := ifn hf q23
        refine lv_iconst (v := 0) hx hb dL_law__2662 (by decide) ?_
        exact kR _ (Option.some.inj hf).symm _ H locs ls _ _ (by omega) (by omega) dL_law__2663 hS
  · have hf := ifn hf q20
    refine lv_iconst (v := 0) hx hb dL_law__2645 (by decide) ?_
    exact kR _ (Option.some.inj hf).symm _ H locs ls _ _ (by omega) (by omega) dL_law__2646 hS
set_option maxHeartbeats 4000000 in
set_option maxRecDepth 100000 in
theorem wLc_37 {p : Program} {l : Launch} {e : Env} {R : Room} {s : State} {m : MethodId} {args : Array Value} {below : List Frame} {meth : Method} {c : Code} {Q : State → Prop} {E : Ev} {b L : Nat} {xs : Nat → Int32} (hl0 : l.stackTraces = false) (X : Cx p s m args c cL_law_ RL E) (hX : Scr E s b L xs) (hml : c.maxLocals = 8) (hR : 400 ≤ R.frames ∧ 20000 ≤ R.locals) {x1 x2 x3 : Nat} {x4 : Int32} {mm : Mem} {y : Mem ⊕ Int32} {kc ks : Nat} (hkc : kc + 1 ≤ R.cells) (hks : ks + 6 ≤ R.slots) (hf : fLc_37 (eS E) L xs x1 x2 x3 x4 mm = some y) (kN : ∀ mm1, y = .inl mm1 → ∀ (H : Heap) (locs : List Loc) (ls : Array Slot) (cells slots : Nat), cells ≤ kc + 1 → slots ≤ ks + 6 → wS E s mm1 H locs → lv_has ls 8 [(0, .ref b), (1, .ref x1), (2, .ref x2), (3, .ref x3), (4, .int x4)] → W p l e R s m args below meth c H locs cells slots Q (F0 m 2743 ls [])) (kR : ∀ v, y = .inr v → ∀ (pc : Nat) (H : Heap) (locs : List Loc) (ls : Array Slot) (cells slots : Nat), cells ≤ kc + 1 → slots ≤ ks + 6 → decode cL_law_ pc = .ok (.ireturn, 1) → ∀ {mm1 : Mem}, wS E s mm1 H locs → W p l e R s m args below meth c H locs cells slots Q (F0 m pc ls [.int v])) : ∀ (H : Heap) (locs : List Loc) (ls : Array Slot) (cells slots : Nat), cells ≤ kc → slots ≤ ks → wS E s mm H locs → lv_has ls 8 [(0, .ref b), (1, .ref x1), (2, .ref x2), (3, .ref x3), (4, .int x4)] → W p l e R s m args below meth c H locs cells slots Q (F0 m 2667 ls []) := by
  intro H locs ls cells slots hcc hcs hS hl
  have hx := X.1
  have hb := X.2.1
  unfold fLc_37 at hf
  refine lv_aload_n hx hb dL_law__2667 rfl (lv_at hl 1 rfl) ?_
  obtain ⟨u0, h0, hf⟩ := bs hf
  obtain ⟨_, hrc⟩ := isO_n h0
  obtain ⟨v1, m2, h1, hf⟩ := bs2 hf
  refine am_endi hS (am_runV (As := []) X (hml.trans hl.1.symm) hS (cX11_image_ok (l := l) (E := E) h1) mv_L_251 hrc rfl ⟨Nat.le_trans (by decide) hR.1, Nat.le_trans (by decide) hR.2⟩ ⟨by omega, by omega⟩ rfl rfl (Nat.le_of_ble_eq_true rfl) dL_law__2668) (fun H locs hS => ?_)
  refine lv_aload_n hx hb dL_law__2671 rfl (lv_at hl 2 rfl) ?_
  obtain ⟨u0, h0, hf⟩ := bs hf
  obtain ⟨_, hrc⟩ := isO_n h0
  obtain ⟨v3, m4, h1, hf⟩ := bs2 hf
  refine am_endi hS (am_runV (As := []) X (hml.trans hl.1.symm) hS (cX12_image_ok (l := l) (E := E) h1) mv_L_254 hrc rfl ⟨Nat.le_trans (by decide) hR.1, Nat.le_trans (by decide) hR.2⟩ ⟨by omega, by omega⟩ rfl rfl (Nat.le_of_ble_eq_true rfl) dL_law__2672) (fun H locs hS => ?_)
  refine lv_icmp_eq (tgt := 2743) hx hb dL_law__2675 (by decide) (fun q5 => ?_) (fun q5 => ?_)
  · have hf := ifp hf q5
    exact kN _ (Option.some.inj hf).symm H locs ls _ _ (by omega) (by omega) hS (lv_sub hl [0, 1, 2, 3, 4] rfl)
  · have hf := ifn hf q5
    refine lv_iconst (v := 0) hx hb dL_law__2678 (by decide) ?_
    exact kR _ (Option.some.inj hf).symm _ H locs ls _ _ (by omega) (by omega) dL_law__2679 hS
set_option maxHeartbeats 4000000 in
set_option maxRecDepth 100000 in
theorem wLc_38 {p : Program} {l : Launch} {e : Env} {R : Room} {s : State} {m : MethodId} {args : Array Value} {below : List Frame} {meth : Method} {c : Code} {Q : State → Prop} {E : Ev} {b L : Nat} {xs : Nat → Int32} (hl0 : l.stackTraces = false) (X : Cx p s m args c cL_law_ RL E) (hX : Scr E s b L xs) (hml : c.maxLocals = 8) (hR : 400 ≤ R.frames ∧ 20000 ≤ R.locals) {x1 x2 x3 : Nat} {x4 : Int32} {mm : Mem} {y : Mem ⊕ Int32} {kc ks : Nat} (hkc : kc + 1 ≤ R.cells) (hks : ks + 6 ≤ R.slots) (hf : fLc_38 (eS E) L xs x1 x2 x3 x4 mm = some y) (kN : ∀ mm1, y = .inl mm1 → ∀ (H : Heap) (locs : List Loc) (ls : Array Slot) (cells slots : Nat), cells ≤ kc + 1 → slots ≤ ks + 6 → wS E s mm1 H locs → lv_has ls 8 [(0, .ref b), (1, .ref x1), (2, .ref x2), (3, .ref x3), (4, .int x4)] → W p l e R s m args below meth c H locs cells slots Q (F0 m 2743 ls [])) (kR : ∀ v, y = .inr v → ∀ (pc : Nat) (H : Heap) (locs : List Loc) (ls : Array Slot) (cells slots : Nat), cells ≤ kc + 1 → slots ≤ ks + 6 → decode cL_law_ pc = .ok (.ireturn, 1) → ∀ {mm1 : Mem}, wS E s mm1 H locs → W p l e R s m args below meth c H locs cells slots Q (F0 m pc ls [.int v])) : ∀ (H : Heap) (locs : List Loc) (ls : Array Slot) (cells slots : Nat), cells ≤ kc → slots ≤ ks → wS E s mm H locs → lv_has ls 8 [(0, .ref b), (1, .ref x1), (2, .ref x2), (3, .ref x3), (4, .int x4)] → W p l e R s m args below meth c H locs cells slots Q (F0 m 2680 ls []) := by
  intro H locs ls cells slots hcc hcs hS hl
  have hx := X.1
  have hb := X.2.1
  unfold fLc_38 at hf
  refine lv_aload_n hx hb dL_law__2680 rfl (lv_at hl 1 rfl) ?_
  obtain ⟨u0, h0, hf⟩ := bs hf
  obtain ⟨_, hrc⟩ := isO_n h0
  obtain ⟨v1, m2, h1, hf⟩ := bs2 hf
  refine am_endi hS (am_runV (As := []) X (hml.trans hl.1.symm) hS (cX11_restore_ok (l := l) (E := E) h1) mv_L_255 hrc rfl ⟨Nat.le_trans (by decide) hR.1, Nat.le_trans (by decide) hR.2⟩ ⟨by omega, by omega⟩ rfl rfl (Nat.le_of_ble_eq_true rfl) dL_law__2681) (fun H locs hS => ?_)
  refine lv_aload_n hx hb dL_law__2684 rfl (lv_at hl 2 rfl) ?_
  obtain ⟨u0, h0, hf⟩ := bs hf
  obtain ⟨_, hrc⟩ := isO_n h0
  obtain ⟨v3, m4, h1, hf⟩ := bs2 hf
  refine am_endi hS (am_runV (As := []) X (hml.trans hl.1.symm) hS (cX12_restore_ok (l := l) (E := E) h1) mv_L_258 hrc rfl ⟨Nat.le_trans (by decide) hR.1, Nat.le_trans (by decide) hR.2⟩ ⟨by omega, by omega⟩ rfl rfl (Nat.le_of_ble_eq_true rfl) dL_law__2685) (fun H locs hS => ?_)
  refine lv_icmp_eq (tgt := 2743) hx hb dL_law__2688 (by decide) (fun q5 => ?_) (fun q5 => ?_)
  · have hf := ifp hf q5
    exact kN _ (Option.some.inj hf).symm H locs ls _ _ (by omega) (by omega) hS (lv_sub hl [0, 1, 2, 3, 4] rfl)
  · have hf := ifn hf q5
    refine lv_iconst (v := 0) hx hb dL_law__2691 (by decide) ?_
    exact kR _ (Option.some.inj hf).symm _ H locs ls _ _ (by omega) (by omega) dL_law__2692 hS
set_option maxHeartbeats 4000000 in
set_option maxRecDepth 100000 in
theorem wLc_39 {p : Program} {l : Launch} {e : Env} {R : Room} {s : State} {m : MethodId} {args : Array Value} {below : List Frame} {meth : Method} {c : Code} {Q : State → Prop} {E : Ev} {b L : Nat} {xs : Nat → Int32} (hl0 : l.stackTraces = false) (X : Cx p s m args c cL_law_ RL E) (hX : Scr E s b L xs) (hml : c.maxLocals = 8) (hR : 400 ≤ R.frames ∧ 20000 ≤ R.locals) {x1 x2 x3 : Nat} {x4 : Int32} {mm : Mem} {y : Mem ⊕ Int32} {kc ks : Nat} (hkc : kc + 1 ≤ R.cells) (hks : ks + 6 ≤ R.slots) (hf : fLc_39 (eS E) L xs x1 x2 x3 x4 mm = some y) (kN : ∀ mm1, y = .inl mm1 → ∀ (H : Heap) (locs : List Loc) (ls : Array Slot) (cells slots : Nat), cells ≤ kc + 1 → slots ≤ ks + 6 → wS E s mm1 H locs → lv_has ls 8 [(0, .ref b), (1, .ref x1), (2, .ref x2), (3, .ref x3), (4, .int x4)] → W p l e R s m args below meth c H locs cells slots Q (F0 m 2743 ls [])) (kR : ∀ v, y = .inr v → ∀ (pc : Nat) (H : Heap) (locs : List Loc) (ls : Array Slot) (cells slots : Nat), cells ≤ kc + 1 → slots ≤ ks + 6 → decode cL_law_ pc = .ok (.ireturn, 1) → ∀ {mm1 : Mem}, wS E s mm1 H locs → W p l e R s m args below meth c H locs cells slots Q (F0 m pc ls [.int v])) : ∀ (H : Heap) (locs : List Loc) (ls : Array Slot) (cells slots : Nat), cells ≤ kc → slots ≤ ks → wS E s mm H locs → lv_has ls 8 [(0, .ref b), (1, .ref x1), (2, .ref x2), (3, .ref x3), (4, .int x4)] → W p l e R s m args below meth c H locs cells slots Q (F0 m 2693 ls []) := by
  intro H locs ls cells slots hcc hcs hS hl
  have hx := X.1
  have hb := X.2.1
  unfold fLc_39 at hf
  refine lv_aload_n hx hb dL_law__2693 rfl (lv_at hl 1 rfl) ?_
  refine lv_aload_n hx hb dL_law__2694 rfl (lv_at hl 0 rfl) ?_
  refine lv_iload hx hb dL_law__2695 (lv_at hl 4 rfl) ?_
  refine lv_iconst (v := 1) hx hb dL_law__2697 (by decide) ?_
  refine lv_iadd hx hb dL_law__2698 ?_
  obtain ⟨v1, h1, hf⟩ := bs hf
  refine am_scr X hX hS h1 dL_law__2699 ?_
  obtain ⟨u0, h0, hf⟩ := bs hf
  obtain ⟨_, hrc⟩ := isO_n h0
  obtain ⟨v2, h1, hf⟩ := bs hf
  refine am_endi hS (am_runV (As := [.int v1]) X (hml.trans hl.1.symm) hS (cX11_status_ok (l := l) (E := E) h1) mv_L_259 hrc rfl ⟨Nat.le_trans (by decide) hR.1, Nat.le_trans (by decide) hR.2⟩ ⟨by omega, by omega⟩ rfl rfl (Nat.le_of_ble_eq_true rfl) dL_law__2700) (fun H locs hS => ?_)
  refine lv_aload_n hx hb dL_law__2703 rfl (lv_at hl 2 rfl) ?_
  refine lv_aload_n hx hb dL_law__2704 rfl (lv_at hl 0 rfl) ?_
  refine lv_iload hx hb dL_law__2705 (lv_at hl 4 rfl) ?_
  refine lv_iconst (v := 1) hx hb dL_law__2707 (by decide) ?_
  refine lv_iadd hx hb dL_law__2708 ?_
  obtain ⟨v3, h1, hf⟩ := bs hf
  refine am_scr X hX hS h1 dL_law__2709 ?_
  obtain ⟨u0, h0, hf⟩ := bs hf
  obtain ⟨_, hrc⟩ := isO_n h0
  obtain ⟨v4, m5, h1, hf⟩ := bs2 hf
  refine am_endi hS (am_runV (As := [.int v3]) X (hml.trans hl.1.symm) hS (cX12_status_ok (l := l) (E := E) h1) mv_L_262 hrc rfl ⟨Nat.le_trans (by decide) hR.1, Nat.le_trans (by decide) hR.2⟩ ⟨by omega, by omega⟩ rfl rfl (Nat.le_of_ble_eq_true rfl) dL_law__2710) (fun H locs hS => ?_)
  refine lv_icmp_eq (tgt := 2743) hx hb dL_law__2713 (by decide) (fun q6 => ?_) (fun q6 => ?_)
  · have hf := ifp hf q6
    exact kN _ (Option.some.inj hf).symm H locs ls _ _ (by omega) (by omega) hS (lv_sub hl [0, 1, 2, 3, 4] rfl)
  · have hf := ifn hf q6
    refine lv_iconst (v := 0) hx hb dL_law__2716 (by decide) ?_
    exact kR _ (Option.some.inj hf).symm _ H locs ls _ _ (by omega) (by omega) dL_law__2717 hS
set_option maxHeartbeats 4000000 in
set_option maxRecDepth 100000 in
theorem wLc_40 {p : Program} {l : Launch} {e : Env} {R : Room} {s : State} {m : MethodId} {args : Array Value} {below : List Frame} {meth : Method} {c : Code} {Q : State → Prop} {E : Ev} {b L : Nat} {xs : Nat → Int32} (hl0 : l.stackTraces = false) (X : Cx p s m args c cL_law_ RL E) (hX : Scr E s b L xs) (hml : c.maxLocals = 8) (hR : 400 ≤ R.frames ∧ 20000 ≤ R.locals) {x1 x2 x3 : Nat} {x4 : Int32} {mm : Mem} {y : Mem ⊕ Int32} {kc ks : Nat} (hkc : kc + 1 ≤ R.cells) (hks : ks + 6 ≤ R.slots) (hf : fLc_40 (eS E) L xs x1 x2 x3 x4 mm = some y) (kN : ∀ mm1, y = .inl mm1 → ∀ (H : Heap) (locs : List Loc) (ls : Array Slot) (cells slots : Nat), cells ≤ kc + 1 → slots ≤ ks + 6 → wS E s mm1 H locs → lv_has ls 8 [(0, .ref b), (1, .ref x1), (2, .ref x2), (3, .ref x3), (4, .int x4)] → W p l e R s m args below meth c H locs cells slots Q (F0 m 2743 ls [])) (kR : ∀ v, y = .inr v → ∀ (pc : Nat) (H : Heap) (locs : List Loc) (ls : Array Slot) (cells slots : Nat), cells ≤ kc + 1 → slots ≤ ks + 6 → decode cL_law_ pc = .ok (.ireturn, 1) → ∀ {mm1 : Mem}, wS E s mm1 H locs → W p l e R s m args below meth c H locs cells slots Q (F0 m pc ls [.int v])) : ∀ (H : Heap) (locs : List Loc) (ls : Array Slot) (cells slots : Nat), cells ≤ kc → slots ≤ ks → wS E s mm H locs → lv_has ls 8 [(0, .ref b), (1, .ref x1), (2, .ref x2), (3, .ref x3), (4, .int x4)] → W p l e R s m args below meth c H locs cells slots Q (F0 m 2718 ls []) := by
  intro H locs ls cells slots hcc hcs hS hl
  have hx := X.1
  have hb := X.2.1
  unfold fLc_40 at hf
  refine lv_aload_n hx hb dL_law__2718 rfl (lv_at hl 1 rfl) ?_
  refine lv_aload_n hx hb dL_law__2719 rfl (lv_at hl 0 rfl) ?_
  refine lv_iload hx hb dL_law__2720 (lv_at hl 4 rfl) ?_
  refine lv_iconst (v := 1) hx hb dL_law__2722 (by decide) ?_
  refine lv_iadd hx hb dL_law__2723 ?_
  obtain ⟨v1, h1, hf⟩ := bs hf
  refine am_scr X hX hS h1 dL_law__2724 ?_
  obtain ⟨u0, h0, hf⟩ := bs hf
  obtain ⟨_, hrc⟩ := isO_n h0
  obtain ⟨v2, h1, hf⟩ := bs hf
  refine am_endi hS (am_runV (As := [.int v1]) X (hml.trans hl.1.symm) hS (cX11_count_ok (l := l) (E := E) h1) mv_L_263 hrc rfl ⟨Nat.le_trans (by decide) hR.1, Nat.le_trans (by decide) hR.2⟩ ⟨by omega, by omega⟩ rfl rfl (Nat.le_of_ble_eq_true rfl) dL_law__2725) (fun H locs hS => ?_)
  refine lv_aload_n hx hb dL_law__2728 rfl (lv_at hl 2 rfl) ?_
  refine lv_aload_n hx hb dL_law__2729 rfl (lv_at hl 0 rfl) ?_
  refine lv_iload hx hb dL_law__2730 (lv_at hl 4 rfl) ?_
  refine lv_iconst (v := 1) hx hb dL_law__2732 (by decide) ?_
  refine lv_iadd hx hb dL_law__2733 ?_
  obtain ⟨v3, h1, hf⟩ := bs hf
  refine am_scr X hX hS h1 dL_law__2734 ?_
  obtain ⟨u0, h0, hf⟩ := bs hf
  obtain ⟨_, hrc⟩ := isO_n h0
  obtain ⟨v4, m5, h1, hf⟩ := bs2 hf
  refine am_endi hS (am_runV (As := [.int v3]) X (hml.trans hl.1.symm) hS (cX12_count_ok (l := l) (E := E) h1) mv_L_266 hrc rfl ⟨Nat.le_trans (by decide) hR.1, Nat.le_trans (by decide) hR.2⟩ ⟨by omega, by omega⟩ rfl rfl (Nat.le_of_ble_eq_true rfl) dL_law__2735) (fun H locs hS => ?_)
  refine lv_icmp_eq (tgt := 2743) hx hb dL_law__2738 (by decide) (fun q6 => ?_) (fun q6 => ?_)
  · have hf := ifp hf q6
    exact kN _ (Option.some.inj hf).symm H locs ls _ _ (by omega) (by omega) hS (lv_sub hl [0, 1, 2, 3, 4] rfl)
  · have hf := ifn hf q6
    refine lv_iconst (v := 0) hx hb dL_law__2741 (by decide) ?_
    exact kR _ (Option.some.inj hf).symm _ H locs ls _ _ (by omega) (by omega) dL_law__2742 hS

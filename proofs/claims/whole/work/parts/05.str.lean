section AMS
variable {p : Program} {l : Launch} {e : Env} {R : Room} {s : State} {m : MethodId} {args : Array Value} {below : List Frame} {meth : Method} {c : Code} {H : Heap} {locs : List Loc} {cells slots : Nat} {Q : State → Prop}
variable {cc : ByteArray} {pc : Nat} {ls : Array Slot} {rest st0 As : List Value} {E : Ev} {own : String} {mm mm' : Mem}
theorem am_old (X : Cx p s m args c cc own E) : ∀ a : Nat, a < (e0 E).heap.size → ¬ eA E a → s.heap[a]? = (e0 E).heap[a]? := fun a ha _ => X.2.2.2.2.2.2 a ha
theorem am_gcs {idx : Nat} (X : Cx p s m args c cc own E) (hS : wS E s mm H locs) (hl : Cond.fieldLink own idx "java/lang/String" "COMPACT_STRINGS" "Z" ∈ BIG) (hdg : decode cc pc = .ok (.getstatic idx, 3)) (kk : W p l e R s m args below meth c H locs cells slots Q (F0 m (pc + 3) ls (.int 1 :: rest))) : W p l e R s m args below meth c H locs cells slots Q (F0 m pc ls rest) :=
  va_gets X.1 X.2.1 (X.2.2.2.2.1.2.2.2.2.2.2.2.1.kept (am_old X)) hS.2 X.2.2.2.1 (X.2.2.1 _ hl) (fun _ h => h) hdg kk
theorem am_gsi {idx : Nat} (X : Cx p s m args c cc own E) (hS : wS E s mm H locs) (hl : Cond.fieldLink own idx "jdk/internal/util/Preconditions" "SIOOBE_FORMATTER" "Ljava/util/function/BiFunction;" ∈ BIG) (hdg : decode cc pc = .ok (.getstatic idx, 3)) (kk : ∀ v : Value, (v = .null ∨ ∃ t : Nat, v = .ref t) → W p l e R s m args below meth c H locs cells slots Q (F0 m (pc + 3) ls (v :: rest))) : W p l e R s m args below meth c H locs cells slots Q (F0 m pc ls rest) := by
  rcases (X.2.2.2.2.1.2.2.2.2.2.2.2.2.1.kept (am_old X)) with h | ⟨t, h⟩
  · exact va_gets X.1 X.2.1 h hS.2 X.2.2.2.1 (X.2.2.1 _ hl) (fun _ h => h) hdg (kk _ (Or.inl rfl))
  · exact va_gets X.1 X.2.1 h hS.2 X.2.2.2.1 (X.2.2.1 _ hl) (fun _ h => h) hdg (kk _ (Or.inr ⟨t, rfl⟩))
theorem am_sco {idx i : Nat} (X : Cx p s m args c cc own E) (hS : wS E s mm H locs) (hi : i < sN) (hl : Cond.fieldLink own idx "java/lang/String" "coder" "B" ∈ BIG) (hdg : decode cc pc = .ok (.getfield idx, 3)) (kk : W p l e R s m args below meth c H locs cells slots Q (F0 m (pc + 3) ls (.int 0 :: rest))) : W p l e R s m args below meth c H locs cells slots Q (F0 m pc ls (.ref (eK E i) :: rest)) :=
  vk_getf X.1 X.2.1 ((X.2.2.2.2.1.2.2.2.1.1 i hi).2.1.kept (am_old X)) hS.2 X.2.2.2.1 (X.2.2.1 _ hl) (fun _ h => h) hdg kk
theorem am_sva {idx i : Nat} (X : Cx p s m args c cc own E) (hS : wS E s mm H locs) (hi : i < sN) (hl : Cond.fieldLink own idx "java/lang/String" "value" "[B" ∈ BIG) (hdg : decode cc pc = .ok (.getfield idx, 3)) (kk : W p l e R s m args below meth c H locs cells slots Q (F0 m (pc + 3) ls (.ref (eV E i) :: rest))) : W p l e R s m args below meth c H locs cells slots Q (F0 m pc ls (.ref (eK E i) :: rest)) :=
  vk_getf X.1 X.2.1 ((X.2.2.2.2.1.2.2.2.1.1 i hi).2.2.1.kept (am_old X)) hS.2 X.2.2.2.1 (X.2.2.1 _ hl) (fun _ h => h) hdg kk
theorem am_sal {i : Nat} (X : Cx p s m args c cc own E) (hS : wS E s mm H locs) (hi : i < sN) (hdg : decode cc pc = .ok (.arraylength, 1)) (kk : W p l e R s m args below meth c H locs cells slots Q (F0 m (pc + 1) ls (.int (Int32.ofNat (sLens.getD i 0)) :: rest))) : W p l e R s m args below meth c H locs cells slots Q (F0 m pc ls (.ref (eV E i) :: rest)) :=
  va_tlen X.1 X.2.1 ((X.2.2.2.2.1.2.2.2.1.1 i hi).2.2.2.kept (am_old X)) hS.2 rfl hdg kk
theorem am_sab {i : Nat} {k : Int32} (X : Cx p s m args c cc own E) (hS : wS E s mm H locs) (hi : i < sN) (hk : vp_in k (sLens.getD i 0)) (hdg : decode cc pc = .ok (.baload, 1)) (kk : W p l e R s m args below meth c H locs cells slots Q (F0 m (pc + 1) ls (.int ((sBytes.getD i []).getD k.toNatClampNeg 0) :: rest))) : W p l e R s m args below meth c H locs cells slots Q (F0 m pc ls (.int k :: .ref (eV E i) :: rest)) :=
  va_tb X.1 X.2.1 ((X.2.2.2.2.1.2.2.2.1.1 i hi).2.2.2.kept (am_old X)) hS.2 hk rfl hdg kk
/-- a call of a String constant's method -/
theorem am_runVS {Qc : Array Value → State → Outcome → State → Prop} {y : MethodName} {bytes : ByteArray} {nLc fr lo n idx i : Nat} {rt : Option FieldType} (X : Cx p s m args c cc own E) (hml : c.maxLocals = ls.size) (hS : wS E s mm H locs) (hi : i < sN) (hy : y.cls = "java/lang/String") (hM : Met l y (Cond.code y bytes nLc rt :: BIG) { frames := fr, cells := 0, slots := 0, locals := lo } (va_Pc (.ref (eK E i) :: As) (WB E mm)) Qc 0 0 (eA E)) (hL : MV own idx y bytes nLc rt n) (hR : fr + 1 ≤ R.frames ∧ 8 + (nLc + 11) + lo ≤ R.locals) (hcs : cells ≤ R.cells ∧ slots ≤ R.slots) (hn : As.length = n) (hst : st0 = As.reverse ++ .ref (eK E i) :: rest) (hW : (rest.map fun v => v.category).sum ≤ 8) (hdg : decode cc pc = .ok (.invokevirtual idx, 3)) : va_Run p l e R s m args below meth c H locs cells slots 0 0 (F0 m pc ls st0) rest (Qc (Value.ref (eK E i) :: As).toArray) (eA E) := by
  have hpre := am_pre X hS (.ref (eK E i) :: As)
  have hrec := vk_recv (A := eA E) (X.2.2.2.2.1.2.2.2.1.kept (am_old X)) hi hS.2
  obtain ⟨hx, hbb, hts, hown, hV, hO⟩ := X
  obtain ⟨h1, h2, h3, h4, h5, h6, h7, h8⟩ := hL
  exact va_runV (Ts := BIG) (C := y.cls) ⟨hx, hbb, hml, hown, hts⟩ hM ⟨callB_of n hts (goodC h5) rfl rfl rfl (hts _ h4) (hts _ h1) ⟨h6, h7, h8⟩ hR, hts _ h2, hts _ h3⟩ ⟨blindB E mm _, by rw [hy]; exact hrec, hpre⟩ rfl hn rfl hst (lv_room hW) hdg hcs
end AMS
theorem sLn_n {i : Nat} {r : Int32} (h : sLn i = some r) : i < sN ∧ Int32.ofNat (sLens.getD i 0) = r := by
  unfold sLn at h
  split at h
  · rename_i hi
    exact ⟨hi, Option.some.inj h⟩
  · cases h
theorem gD_in {α : Type} {l : List α} {d : α} {i : Nat} (h : i < l.length) : l.getD i d ∈ l := by
  rw [show l.getD i d = l[i] by simp [List.getD, List.getElem?_eq_getElem h]]
  exact List.getElem_mem h
theorem gD_out {α : Type} {l : List α} {d : α} {i : Nat} (h : l.length ≤ i) : l.getD i d = d := by simp [List.getD, List.getElem?_eq_none h]
theorem sBytes_ok : sBytes.all (fun l => l.all (fun x => decide (((x &&& 255).toUInt32 % 65536).toInt32 = x) && decide (narrow .char (.int x) = .int x))) = true := by decide +kernel
theorem sByte_in (i k : Nat) : ((((sBytes.getD i []).getD k 0) &&& 255).toUInt32 % 65536).toInt32 = (sBytes.getD i []).getD k 0 ∧ narrow .char (.int ((sBytes.getD i []).getD k 0)) = .int ((sBytes.getD i []).getD k 0) := by
  have h := sBytes_ok
  rw [List.all_eq_true] at h
  by_cases hi : i < sBytes.length
  · have h1 := h (sBytes.getD i []) (gD_in hi)
    rw [List.all_eq_true] at h1
    by_cases hk : k < (sBytes.getD i []).length
    · have h2 := h1 ((sBytes.getD i []).getD k 0) (gD_in hk)
      simp only [Bool.and_eq_true, decide_eq_true_eq] at h2
      exact h2
    · rw [gD_out (Nat.not_lt.mp hk)]
      decide
  · rw [gD_out (Nat.not_lt.mp hi)]
    show ((((([] : List Int32).getD k 0) &&& 255).toUInt32 % 65536).toInt32 = ([] : List Int32).getD k 0) ∧ _
    rw [gD_out (Nat.zero_le _)]
    decide
theorem sCh_n {i : Nat} {k r : Int32} (h : sCh i k = some r) : i < sN ∧ ¬ k < 0 ∧ k.toNatClampNeg < sLens.getD i 0 ∧ (((r &&& 255).toUInt32 % 65536).toInt32 = r ∧ narrow .char (.int r) = .int r) ∧ (sBytes.getD i []).getD k.toNatClampNeg 0 = r := by
  unfold sCh at h
  split at h
  · rename_i hi
    have e := Option.some.inj h
    refine ⟨hi.1, hi.2.1, hi.2.2, ?_, e⟩
    rw [← e]
    exact sByte_in i k.toNatClampNeg
  · cases h
theorem sCh_lt {i : Nat} {k : Int32} (hi : i < sN) (h0 : ¬ k < 0) (h1 : k.toNatClampNeg < sLens.getD i 0) : k < Int32.ofNat (sLens.getD i 0) := by
  obtain ⟨j, hj, rfl⟩ := nI_of h0
  rw [nI_clamp hj] at h1
  have hs : ∀ q, q < sN → sLens.getD q 0 < 2 ^ 31 := by decide +kernel
  exact nI_lt h1 (hs i hi)
theorem dJ0_length_8abf5_0 : decode cJ0_length_8abf5 0 = .ok (.aload_n 0, 1) := by decide +kernel
theorem dJ0_length_8abf5_1 : decode cJ0_length_8abf5 1 = .ok (.getfield 9, 3) := by decide +kernel
theorem dJ0_length_8abf5_4 : decode cJ0_length_8abf5 4 = .ok (.arraylength, 1) := by decide +kernel
theorem dJ0_length_8abf5_5 : decode cJ0_length_8abf5 5 = .ok (.aload_n 0, 1) := by decide +kernel
theorem dJ0_length_8abf5_6 : decode cJ0_length_8abf5 6 = .ok (.invokevirtual 335, 3) := by decide +kernel
theorem dJ0_length_8abf5_9 : decode cJ0_length_8abf5 9 = .ok (.ishr, 1) := by decide +kernel
theorem dJ0_length_8abf5_10 : decode cJ0_length_8abf5 10 = .ok (.ireturn, 1) := by decide +kernel
theorem dJ0_charAt_5068e_0 : decode cJ0_charAt_5068e 0 = .ok (.aload_n 0, 1) := by decide +kernel
theorem dJ0_charAt_5068e_1 : decode cJ0_charAt_5068e 1 = .ok (.invokevirtual 492, 3) := by decide +kernel
theorem dJ0_charAt_5068e_4 : decode cJ0_charAt_5068e 4 = .ok (.ifCond .eq 12, 3) := by decide +kernel
theorem dJ0_charAt_5068e_7 : decode cJ0_charAt_5068e 7 = .ok (.aload_n 0, 1) := by decide +kernel
theorem dJ0_charAt_5068e_8 : decode cJ0_charAt_5068e 8 = .ok (.getfield 9, 3) := by decide +kernel
theorem dJ0_charAt_5068e_11 : decode cJ0_charAt_5068e 11 = .ok (.iload_n 1, 1) := by decide +kernel
theorem dJ0_charAt_5068e_12 : decode cJ0_charAt_5068e 12 = .ok (.invokestatic 495, 3) := by decide +kernel
theorem dJ0_charAt_5068e_15 : decode cJ0_charAt_5068e 15 = .ok (.ireturn, 1) := by decide +kernel
theorem dJ0_charAt_5068e_16 : decode cJ0_charAt_5068e 16 = .ok (.aload_n 0, 1) := by decide +kernel
theorem dJ0_charAt_5068e_17 : decode cJ0_charAt_5068e 17 = .ok (.getfield 9, 3) := by decide +kernel
theorem dJ0_charAt_5068e_20 : decode cJ0_charAt_5068e 20 = .ok (.iload_n 1, 1) := by decide +kernel
theorem dJ0_charAt_5068e_21 : decode cJ0_charAt_5068e 21 = .ok (.invokestatic 498, 3) := by decide +kernel
theorem dJ0_charAt_5068e_24 : decode cJ0_charAt_5068e 24 = .ok (.ireturn, 1) := by decide +kernel
theorem dJ0_coder_7d493_0 : decode cJ0_coder_7d493 0 = .ok (.getstatic 38, 3) := by decide +kernel
theorem dJ0_coder_7d493_3 : decode cJ0_coder_7d493 3 = .ok (.ifCond .eq 10, 3) := by decide +kernel
theorem dJ0_coder_7d493_6 : decode cJ0_coder_7d493 6 = .ok (.aload_n 0, 1) := by decide +kernel
theorem dJ0_coder_7d493_7 : decode cJ0_coder_7d493 7 = .ok (.getfield 15, 3) := by decide +kernel
theorem dJ0_coder_7d493_10 : decode cJ0_coder_7d493 10 = .ok (.goto 4, 3) := by decide +kernel
theorem dJ0_coder_7d493_13 : decode cJ0_coder_7d493 13 = .ok (.iconst 1, 1) := by decide +kernel
theorem dJ0_coder_7d493_14 : decode cJ0_coder_7d493 14 = .ok (.ireturn, 1) := by decide +kernel
theorem dJ0_isLatin1_aae02_0 : decode cJ0_isLatin1_aae02 0 = .ok (.getstatic 38, 3) := by decide +kernel
theorem dJ0_isLatin1_aae02_3 : decode cJ0_isLatin1_aae02 3 = .ok (.ifCond .eq 14, 3) := by decide +kernel
theorem dJ0_isLatin1_aae02_6 : decode cJ0_isLatin1_aae02 6 = .ok (.aload_n 0, 1) := by decide +kernel
theorem dJ0_isLatin1_aae02_7 : decode cJ0_isLatin1_aae02 7 = .ok (.getfield 15, 3) := by decide +kernel
theorem dJ0_isLatin1_aae02_10 : decode cJ0_isLatin1_aae02 10 = .ok (.ifCond .ne 7, 3) := by decide +kernel
theorem dJ0_isLatin1_aae02_13 : decode cJ0_isLatin1_aae02 13 = .ok (.iconst 1, 1) := by decide +kernel
theorem dJ0_isLatin1_aae02_14 : decode cJ0_isLatin1_aae02 14 = .ok (.goto 4, 3) := by decide +kernel
theorem dJ0_isLatin1_aae02_17 : decode cJ0_isLatin1_aae02 17 = .ok (.iconst 0, 1) := by decide +kernel
theorem dJ0_isLatin1_aae02_18 : decode cJ0_isLatin1_aae02 18 = .ok (.ireturn, 1) := by decide +kernel
theorem dJ0_checkIndex_df160_0 : decode cJ0_checkIndex_df160 0 = .ok (.iload_n 0, 1) := by decide +kernel
theorem dJ0_checkIndex_df160_1 : decode cJ0_checkIndex_df160 1 = .ok (.iload_n 1, 1) := by decide +kernel
theorem dJ0_checkIndex_df160_2 : decode cJ0_checkIndex_df160 2 = .ok (.getstatic 1053, 3) := by decide +kernel
theorem dJ0_checkIndex_df160_5 : decode cJ0_checkIndex_df160 5 = .ok (.invokestatic 1059, 3) := by decide +kernel
theorem dJ0_checkIndex_df160_8 : decode cJ0_checkIndex_df160 8 = .ok (.pop, 1) := by decide +kernel
theorem dJ0_checkIndex_df160_9 : decode cJ0_checkIndex_df160 9 = .ok (.return_, 1) := by decide +kernel
theorem dJ1_charAt_3b067_0 : decode cJ1_charAt_3b067 0 = .ok (.iload_n 1, 1) := by decide +kernel
theorem dJ1_charAt_3b067_1 : decode cJ1_charAt_3b067 1 = .ok (.aload_n 0, 1) := by decide +kernel
theorem dJ1_charAt_3b067_2 : decode cJ1_charAt_3b067 2 = .ok (.arraylength, 1) := by decide +kernel
theorem dJ1_charAt_3b067_3 : decode cJ1_charAt_3b067 3 = .ok (.invokestatic 9, 3) := by decide +kernel
theorem dJ1_charAt_3b067_6 : decode cJ1_charAt_3b067 6 = .ok (.aload_n 0, 1) := by decide +kernel
theorem dJ1_charAt_3b067_7 : decode cJ1_charAt_3b067 7 = .ok (.iload_n 1, 1) := by decide +kernel
theorem dJ1_charAt_3b067_8 : decode cJ1_charAt_3b067 8 = .ok (.baload, 1) := by decide +kernel
theorem dJ1_charAt_3b067_9 : decode cJ1_charAt_3b067 9 = .ok (.sipush 255, 3) := by decide +kernel
theorem dJ1_charAt_3b067_12 : decode cJ1_charAt_3b067 12 = .ok (.iand, 1) := by decide +kernel
theorem dJ1_charAt_3b067_13 : decode cJ1_charAt_3b067 13 = .ok (.i2c, 1) := by decide +kernel
theorem dJ1_charAt_3b067_14 : decode cJ1_charAt_3b067 14 = .ok (.ireturn, 1) := by decide +kernel
theorem dJ3_checkIndex_8e157_0 : decode cJ3_checkIndex_8e157 0 = .ok (.iload_n 0, 1) := by decide +kernel
theorem dJ3_checkIndex_8e157_1 : decode cJ3_checkIndex_8e157 1 = .ok (.ifCond .lt 8, 3) := by decide +kernel
theorem dJ3_checkIndex_8e157_4 : decode cJ3_checkIndex_8e157 4 = .ok (.iload_n 0, 1) := by decide +kernel
theorem dJ3_checkIndex_8e157_5 : decode cJ3_checkIndex_8e157 5 = .ok (.iload_n 1, 1) := by decide +kernel
theorem dJ3_checkIndex_8e157_6 : decode cJ3_checkIndex_8e157 6 = .ok (.if_icmp .lt 10, 3) := by decide +kernel
theorem dJ3_checkIndex_8e157_9 : decode cJ3_checkIndex_8e157 9 = .ok (.aload_n 2, 1) := by decide +kernel
theorem dJ3_checkIndex_8e157_10 : decode cJ3_checkIndex_8e157 10 = .ok (.iload_n 0, 1) := by decide +kernel
theorem dJ3_checkIndex_8e157_11 : decode cJ3_checkIndex_8e157 11 = .ok (.iload_n 1, 1) := by decide +kernel
theorem dJ3_checkIndex_8e157_12 : decode cJ3_checkIndex_8e157 12 = .ok (.invokestatic 95, 3) := by decide +kernel
theorem dJ3_checkIndex_8e157_15 : decode cJ3_checkIndex_8e157 15 = .ok (.athrow, 1) := by decide +kernel
theorem dJ3_checkIndex_8e157_16 : decode cJ3_checkIndex_8e157 16 = .ok (.iload_n 0, 1) := by decide +kernel
theorem dJ3_checkIndex_8e157_17 : decode cJ3_checkIndex_8e157 17 = .ok (.ireturn, 1) := by decide +kernel
set_option maxRecDepth 20000 in
theorem cw_J0_length_8abf5 : Cond.code yJ0_length_8abf5 cJ0_length_8abf5 1 (some .int) ∈ BIG := inB (List.mem_of_getElem? (i := 669) rfl) rfl
set_option maxRecDepth 20000 in
theorem cw_J0_charAt_5068e : Cond.code yJ0_charAt_5068e cJ0_charAt_5068e 2 (some .char) ∈ BIG := inB (List.mem_of_getElem? (i := 679) rfl) rfl
set_option maxRecDepth 20000 in
theorem cw_J0_coder_7d493 : Cond.code yJ0_coder_7d493 cJ0_coder_7d493 1 (some .byte) ∈ BIG := inB (List.mem_of_getElem? (i := 673) rfl) rfl
set_option maxRecDepth 20000 in
theorem cw_J0_isLatin1_aae02 : Cond.code yJ0_isLatin1_aae02 cJ0_isLatin1_aae02 1 (some .boolean) ∈ BIG := inB (List.mem_of_getElem? (i := 683) rfl) rfl
set_option maxRecDepth 20000 in
theorem cw_J0_checkIndex_df160 : Cond.code yJ0_checkIndex_df160 cJ0_checkIndex_df160 2 none ∈ BIG := inB (List.mem_of_getElem? (i := 689) rfl) rfl
set_option maxRecDepth 20000 in
theorem cw_J1_charAt_3b067 : Cond.code yJ1_charAt_3b067 cJ1_charAt_3b067 2 (some .char) ∈ BIG := inB (List.mem_of_getElem? (i := 686) rfl) rfl
set_option maxRecDepth 20000 in
theorem cw_J3_checkIndex_8e157 : Cond.code yJ3_checkIndex_8e157 cJ3_checkIndex_8e157 3 (some .int) ∈ BIG := inB (List.mem_of_getElem? (i := 694) rfl) rfl
theorem mv_J0_335 : MV RJ0 335 yJ0_coder_7d493 cJ0_coder_7d493 1 (some .byte) 0 := ⟨inBi 670 (by decide +kernel), inBi 671 (by decide +kernel), inBi 672 (by decide +kernel), inBi 113 (by decide +kernel), cw_J0_coder_7d493, by decide +kernel, by decide +kernel, by decide +kernel⟩
theorem mv_J0_492 : MV RJ0 492 yJ0_isLatin1_aae02 cJ0_isLatin1_aae02 1 (some .boolean) 0 := ⟨inBi 680 (by decide +kernel), inBi 681 (by decide +kernel), inBi 682 (by decide +kernel), inBi 113 (by decide +kernel), cw_J0_isLatin1_aae02, by decide +kernel, by decide +kernel, by decide +kernel⟩
theorem ms_J0_495 : MS RJ0 495 yJ1_charAt_3b067 cJ1_charAt_3b067 2 (some .char) 2 := ⟨Or.inl (inBi 684 (by decide +kernel)), inBi 685 (by decide +kernel), inBi 114 (by decide +kernel), cw_J1_charAt_3b067, by decide +kernel, by decide +kernel, by decide +kernel⟩
theorem ms_J1_9 : MS RJ1 9 yJ0_checkIndex_df160 cJ0_checkIndex_df160 2 none 2 := ⟨Or.inl (inBi 687 (by decide +kernel)), inBi 688 (by decide +kernel), inBi 113 (by decide +kernel), cw_J0_checkIndex_df160, by decide +kernel, by decide +kernel, by decide +kernel⟩
theorem ms_J0_1059 : MS RJ0 1059 yJ3_checkIndex_8e157 cJ3_checkIndex_8e157 3 (some .int) 3 := ⟨Or.inl (inBi 692 (by decide +kernel)), inBi 693 (by decide +kernel), inBi 115 (by decide +kernel), cw_J3_checkIndex_8e157, by decide +kernel, by decide +kernel, by decide +kernel⟩
set_option maxRecDepth 100000 in
theorem cJ0_coder_7d493_ok {l : Launch} {E : Ev} {i : Nat} {mm : Mem} (hi : i < sN) : CtI l yJ0_coder_7d493 cJ0_coder_7d493 1 (some .byte) 0 0 E [.ref (eK E i)] mm 0 mm := by
  refine Met.ofW (cc := cJ0_coder_7d493) (maxL := 1) (ret := (some .byte)) (by decide) rfl ?_
  intro p e s m args below meth c s₁ B hml hv
  obtain ⟨rfl, X, hS, hr, hlocks⟩ := am_in B hv
  refine am_entry (Nat.le_of_ble_eq_true rfl) (fun ls hl => ?_)
  have hx := X.1
  have hb := X.2.1
  have hl : lv_has ls 1 [(0, .ref (eK E i))] := hl
  refine am_gcs X hS (inBi 674 (by decide +kernel)) dJ0_coder_7d493_0 ?_
  refine lv_if_eq (tgt := 13) hx hb dJ0_coder_7d493_3 (by decide) (fun q => absurd q (by decide)) (fun q => ?_)
  refine lv_aload_n hx hb dJ0_coder_7d493_6 rfl (lv_at hl 0 rfl) ?_
  refine am_sco X hS hi (inBi 2018 (by decide +kernel)) dJ0_coder_7d493_7 ?_
  refine lv_goto (tgt := 14) hx hb dJ0_coder_7d493_10 (by decide) ?_
  exact am_ri X hS hr rfl dJ0_coder_7d493_14 hlocks
set_option maxRecDepth 100000 in
theorem cJ0_isLatin1_aae02_ok {l : Launch} {E : Ev} {i : Nat} {mm : Mem} (hi : i < sN) : CtI l yJ0_isLatin1_aae02 cJ0_isLatin1_aae02 1 (some .boolean) 0 0 E [.ref (eK E i)] mm 1 mm := by
  refine Met.ofW (cc := cJ0_isLatin1_aae02) (maxL := 1) (ret := (some .boolean)) (by decide) rfl ?_
  intro p e s m args below meth c s₁ B hml hv
  obtain ⟨rfl, X, hS, hr, hlocks⟩ := am_in B hv
  refine am_entry (Nat.le_of_ble_eq_true rfl) (fun ls hl => ?_)
  have hx := X.1
  have hb := X.2.1
  have hl : lv_has ls 1 [(0, .ref (eK E i))] := hl
  refine am_gcs X hS (inBi 674 (by decide +kernel)) dJ0_isLatin1_aae02_0 ?_
  refine lv_if_eq (tgt := 17) hx hb dJ0_isLatin1_aae02_3 (by decide) (fun q => absurd q (by decide)) (fun q => ?_)
  refine lv_aload_n hx hb dJ0_isLatin1_aae02_6 rfl (lv_at hl 0 rfl) ?_
  refine am_sco X hS hi (inBi 2018 (by decide +kernel)) dJ0_isLatin1_aae02_7 ?_
  refine lv_if_ne (tgt := 17) hx hb dJ0_isLatin1_aae02_10 (by decide) (fun q => absurd rfl q) (fun q => ?_)
  refine lv_iconst (v := 1) hx hb dJ0_isLatin1_aae02_13 (by decide) ?_
  refine lv_goto (tgt := 18) hx hb dJ0_isLatin1_aae02_14 (by decide) ?_
  exact am_ri X hS hr rfl dJ0_isLatin1_aae02_18 hlocks
set_option maxRecDepth 100000 in
theorem cJ0_length_8abf5_ok {l : Launch} {E : Ev} {i : Nat} {r : Int32} {mm : Mem} (h0 : sLn i = some r) : CtI l yJ0_length_8abf5 cJ0_length_8abf5 1 (some .int) 1 20 E [.ref (eK E i)] mm r mm := by
  refine Met.ofW (cc := cJ0_length_8abf5) (maxL := 1) (ret := (some .int)) (by decide) rfl ?_
  intro p e s m args below meth c s₁ B hml hv
  obtain ⟨rfl, X, hS, hr, hlocks⟩ := am_in B hv
  refine am_entry (Nat.le_of_ble_eq_true rfl) (fun ls hl => ?_)
  have hx := X.1
  have hb := X.2.1
  have hl : lv_has ls 1 [(0, .ref (eK E i))] := hl
  obtain ⟨hi, h1⟩ := sLn_n h0
  refine lv_aload_n hx hb dJ0_length_8abf5_0 rfl (lv_at hl 0 rfl) ?_
  refine am_sva X hS hi (inBi 2017 (by decide +kernel)) dJ0_length_8abf5_1 ?_
  refine am_sal X hS hi dJ0_length_8abf5_4 ?_
  refine lv_aload_n hx hb dJ0_length_8abf5_5 rfl (lv_at hl 0 rfl) ?_
  refine am_endi hS (am_runVS (As := []) X (hml.trans hl.1.symm) hS hi rfl (cJ0_coder_7d493_ok (l := l) (E := E) hi) mv_J0_335 ⟨Nat.le_of_ble_eq_true rfl, Nat.le_of_ble_eq_true rfl⟩ ⟨Nat.zero_le _, Nat.zero_le _⟩ rfl rfl (Nat.le_of_ble_eq_true rfl) dJ0_length_8abf5_6) (fun H locs hS => ?_)
  refine lv_ishr hx hb dJ0_length_8abf5_9 ?_
  rw [sb_shr0, h1]
  exact am_ri X hS hr rfl dJ0_length_8abf5_10 hlocks
set_option maxRecDepth 100000 in
theorem cJ3_checkIndex_8e157_ok {l : Launch} {E : Ev} {k n : Int32} {v : Value} (hv1 : v = .null ∨ ∃ t : Nat, v = .ref t) {mm : Mem} (h0 : ¬ k < 0) (h1 : k < n) : CtI l yJ3_checkIndex_8e157 cJ3_checkIndex_8e157 3 (some .int) 0 0 E [.int k, .int n, v] mm k mm := by
  refine Met.ofW (cc := cJ3_checkIndex_8e157) (maxL := 3) (ret := (some .int)) (by decide) rfl ?_
  intro p e s m args below meth c s₁ B hml hv
  obtain ⟨rfl, X, hS, hr, hlocks⟩ := am_in B hv
  refine am_entry (by rcases hv1 with rfl | ⟨t, rfl⟩ <;> exact Nat.le_of_ble_eq_true rfl) (fun ls hl => ?_)
  have hx := X.1
  have hb := X.2.1
  have hl : lv_has ls 3 [(0, .int k), (1, .int n), (2, v)] := hl
  refine lv_iload_n hx hb dJ3_checkIndex_8e157_0 rfl (lv_at hl 0 rfl) ?_
  refine lv_if_lt (tgt := 9) hx hb dJ3_checkIndex_8e157_1 (by decide) (fun q => absurd q h0) (fun q => ?_)
  refine lv_iload_n hx hb dJ3_checkIndex_8e157_4 rfl (lv_at hl 0 rfl) ?_
  refine lv_iload_n hx hb dJ3_checkIndex_8e157_5 rfl (lv_at hl 1 rfl) ?_
  refine lv_icmp_lt (tgt := 16) hx hb dJ3_checkIndex_8e157_6 (by decide) (fun q => ?_) (fun q => absurd h1 q)
  refine lv_iload_n hx hb dJ3_checkIndex_8e157_16 rfl (lv_at hl 0 rfl) ?_
  exact am_ri X hS hr rfl dJ3_checkIndex_8e157_17 hlocks
set_option maxRecDepth 100000 in
theorem cJ0_checkIndex_df160_ok {l : Launch} {E : Ev} {k n : Int32} {mm : Mem} (h0 : ¬ k < 0) (h1 : k < n) : CtV l yJ0_checkIndex_df160 cJ0_checkIndex_df160 2 none 1 22 E [.int k, .int n] mm mm := by
  refine Met.ofW (cc := cJ0_checkIndex_df160) (maxL := 2) (ret := none) (by decide) rfl ?_
  intro p e s m args below meth c s₁ B hml hv
  obtain ⟨rfl, X, hS, hr, hlocks⟩ := am_in B hv
  refine am_entry (Nat.le_of_ble_eq_true rfl) (fun ls hl => ?_)
  have hx := X.1
  have hb := X.2.1
  have hl : lv_has ls 2 [(0, .int k), (1, .int n)] := hl
  refine lv_iload_n hx hb dJ0_checkIndex_df160_0 rfl (lv_at hl 0 rfl) ?_
  refine lv_iload_n hx hb dJ0_checkIndex_df160_1 rfl (lv_at hl 1 rfl) ?_
  refine am_gsi X hS (inBi 690 (by decide +kernel)) dJ0_checkIndex_df160_2 (fun v hv1 => ?_)
  refine am_endi hS (am_runS (As := [.int k, .int n, v]) X (hml.trans hl.1.symm) hS (cJ3_checkIndex_8e157_ok (l := l) (E := E) hv1 h0 h1) ms_J0_1059 ⟨Nat.le_of_ble_eq_true rfl, Nat.le_of_ble_eq_true rfl⟩ ⟨Nat.zero_le _, Nat.zero_le _⟩ rfl rfl (Nat.le_of_ble_eq_true rfl) dJ0_checkIndex_df160_5) (fun H locs hS => ?_)
  refine lv_pop hx hb dJ0_checkIndex_df160_8 rfl ?_
  exact am_rv X hS hr dJ0_checkIndex_df160_9 hlocks
set_option maxRecDepth 100000 in
theorem cJ1_charAt_3b067_ok {l : Launch} {E : Ev} {i : Nat} {k r : Int32} {mm : Mem} (h0 : sCh i k = some r) : CtI l yJ1_charAt_3b067 cJ1_charAt_3b067 2 (some .char) 2 43 E [.ref (eV E i), .int k] mm r mm := by
  refine Met.ofW (cc := cJ1_charAt_3b067) (maxL := 2) (ret := (some .char)) (by decide) rfl ?_
  intro p e s m args below meth c s₁ B hml hv
  obtain ⟨rfl, X, hS, hr, hlocks⟩ := am_in B hv
  refine am_entry (Nat.le_of_ble_eq_true rfl) (fun ls hl => ?_)
  have hx := X.1
  have hb := X.2.1
  have hl : lv_has ls 2 [(0, .ref (eV E i)), (1, .int k)] := hl
  obtain ⟨hi, hk0, hk1, hb8, h1⟩ := sCh_n h0
  refine lv_iload_n hx hb dJ1_charAt_3b067_0 rfl (lv_at hl 1 rfl) ?_
  refine lv_aload_n hx hb dJ1_charAt_3b067_1 rfl (lv_at hl 0 rfl) ?_
  refine am_sal X hS hi dJ1_charAt_3b067_2 ?_
  refine am_endv hS (am_runS (As := [.int k, .int (Int32.ofNat (sLens.getD i 0))]) X (hml.trans hl.1.symm) hS (cJ0_checkIndex_df160_ok (l := l) (E := E) hk0 (sCh_lt hi hk0 hk1)) ms_J1_9 ⟨Nat.le_of_ble_eq_true rfl, Nat.le_of_ble_eq_true rfl⟩ ⟨Nat.zero_le _, Nat.zero_le _⟩ rfl rfl (Nat.le_of_ble_eq_true rfl) dJ1_charAt_3b067_3) (fun H locs hS => ?_)
  refine lv_aload_n hx hb dJ1_charAt_3b067_6 rfl (lv_at hl 0 rfl) ?_
  refine lv_iload_n hx hb dJ1_charAt_3b067_7 rfl (lv_at hl 1 rfl) ?_
  refine am_sab X hS hi (fun q => q.elim hk0 (fun q => absurd hk1 (Nat.not_lt.mpr q))) dJ1_charAt_3b067_8 ?_
  rw [h1]
  refine lv_sipush (v := 255) hx hb dJ1_charAt_3b067_9 (by decide) ?_
  refine lv_iand hx hb dJ1_charAt_3b067_12 ?_
  refine lv_i2c (v := r) hx hb dJ1_charAt_3b067_13 hb8.1 ?_
  exact am_ri X hS hr hb8.2 dJ1_charAt_3b067_14 hlocks
set_option maxRecDepth 100000 in
theorem cJ0_charAt_5068e_ok {l : Launch} {E : Ev} {i : Nat} {k r : Int32} {mm : Mem} (h0 : sCh i k = some r) : CtI l yJ0_charAt_5068e cJ0_charAt_5068e 2 (some .char) 3 64 E [.ref (eK E i), .int k] mm r mm := by
  refine Met.ofW (cc := cJ0_charAt_5068e) (maxL := 2) (ret := (some .char)) (by decide) rfl ?_
  intro p e s m args below meth c s₁ B hml hv
  obtain ⟨rfl, X, hS, hr, hlocks⟩ := am_in B hv
  refine am_entry (Nat.le_of_ble_eq_true rfl) (fun ls hl => ?_)
  have hx := X.1
  have hb := X.2.1
  have hl : lv_has ls 2 [(0, .ref (eK E i)), (1, .int k)] := hl
  obtain ⟨hi, hk0, hk1, hb8, h1⟩ := sCh_n h0
  refine lv_aload_n hx hb dJ0_charAt_5068e_0 rfl (lv_at hl 0 rfl) ?_
  refine am_endi hS (am_runVS (As := []) X (hml.trans hl.1.symm) hS hi rfl (cJ0_isLatin1_aae02_ok (l := l) (E := E) hi) mv_J0_492 ⟨Nat.le_of_ble_eq_true rfl, Nat.le_of_ble_eq_true rfl⟩ ⟨Nat.zero_le _, Nat.zero_le _⟩ rfl rfl (Nat.le_of_ble_eq_true rfl) dJ0_charAt_5068e_1) (fun H locs hS => ?_)
  refine lv_if_eq (tgt := 16) hx hb dJ0_charAt_5068e_4 (by decide) (fun q => absurd q (by decide)) (fun q => ?_)
  refine lv_aload_n hx hb dJ0_charAt_5068e_7 rfl (lv_at hl 0 rfl) ?_
  refine am_sva X hS hi (inBi 2017 (by decide +kernel)) dJ0_charAt_5068e_8 ?_
  refine lv_iload_n hx hb dJ0_charAt_5068e_11 rfl (lv_at hl 1 rfl) ?_
  refine am_endi hS (am_runS (As := [.ref (eV E i), .int k]) X (hml.trans hl.1.symm) hS (cJ1_charAt_3b067_ok (l := l) (E := E) h0) ms_J0_495 ⟨Nat.le_of_ble_eq_true rfl, Nat.le_of_ble_eq_true rfl⟩ ⟨Nat.zero_le _, Nat.zero_le _⟩ rfl rfl (Nat.le_of_ble_eq_true rfl) dJ0_charAt_5068e_12) (fun H locs hS => ?_)
  exact am_ri X hS hr hb8.2 dJ0_charAt_5068e_15 hlocks
